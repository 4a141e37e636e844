set_option maxHeartbeats 4000000 in
set_option maxRecDepth 100000 in
theorem lpX5_made_234N {l : Launch} {D : va_G} {a : Nat → Nat} {cI cZ : ClassId} {p : Program} {e : Env} {s : State} {m : MethodId} {below : List Frame} {meth : Method} {c : Code} {A : Nat → Prop} (σ : Zt) (hR : rgM σ) (κ : Zt) (hM : RR κ σ) (hG : kMid κ) (x : Int) (q : Int) (v : Int) (f : Int) (b : Int) (x0 : 0 ≤ x) (x1 : x < 6) (q0 : 1 ≤ q) (q1 : q ≤ 3) (v0 : 0 ≤ v) (v1 : v < 127) (f0 : 0 ≤ f) (f1 : f < κ 1 10) (f5 : κ 5 f.toNat = 0) (b0 : -1 ≤ b) (b1 : b < κ 1 10) (b5 : q = 3 → 0 ≤ b ∧ κ 5 b.toNat = 0) (hT : κ 1 10 < 400) (gd : ∀ r : Nat, r < 6 → gR κ r)  (C : zk p s m ([.ref (a 0), .int (jI x), .int (jI q), .int (jI v), .int (jI f), .int (jI b)] : List Value).toArray meth c cX5_made 9 (some .int) wsX5_made RX5) (X : zx D vwCl (tyM cI cZ) A a 28 s) :
    ∀ (n : Nat) (j : Int) (τ : Zt) (κ2 : Zt) (H : Heap) (locs : List Loc) (ls : Array Slot), ((6 - j).toNat < n) → (rgM τ) → (RR κ2 τ) → (kMid κ2) → (0 ≤ j) → (j ≤ 6) → (κ 1 10 < κ2 1 10) → (kPerform κ x.toNat q v f (if q = 3 then b else f) = kSendTo (κ 1 10) x.toNat (6 - j).toNat j κ2) → va_P D vwCl (zw 28 (layM cI cZ a) a τ) H → va_S A s.heap H locs → lv_has ls 9 [(0, .ref (a 0)), (1, .int (jI x)), (6, .int (jI (κ 1 10))), (8, .int (jI j))] →
      W p l e ({ frames := 3, cells := 0, slots := 0, locals := 70 }) s m ([.ref (a 0), .int (jI x), .int (jI q), .int (jI v), .int (jI f), .int (jI b)] : List Value).toArray below meth c H locs 0 0 (MQ below (va_Qi (fun r_ u_ => r_ = jI (κ 1 10) ∧ rgM u_ ∧ RR (kPerform κ x.toNat q v f (if (q : Int) = 3 then b else f)) u_ ∧ kMid (kPerform κ x.toNat q v f (if (q : Int) = 3 then b else f))) (fun (u : Zt) t => va_P D vwCl (zw 28 (layM cI cZ a) a u) t.heap) A) ([.ref (a 0), .int (jI x), .int (jI q), .int (jI v), .int (jI f), .int (jI b)] : List Value).toArray s 0 0 A) (F0 m 234 ls []) := by
  intro n
  induction n with
  | zero =>
    intro j τ κ2 H locs ls hn hτ hM2 hG2 j0 j1 hT2 hE hP hS hl
    exact absurd hn (by omega)
  | succ n ih =>
    intro j τ κ2 H locs ls hn hτ hM2 hG2 j0 j1 hT2 hE hP hS hl
    have bT := rgS_1_10 hG.1
    have bT2 := rgS_1_10 hG2.1
    refine zg_iload C dX5_made_234 (lv_at hl 3 rfl) ?_
    refine zg_bipush C dX5_made_236 (by decide) ?_
    refine zg_icmp_ge (tgt := 261) C (by omega) (by omega) (by omega) (by omega) dX5_made_238 (by decide) (fun c_1 => ?_) (fun c_1 => ?_)
    · refine zg_iload C dX5_made_261 (lv_at hl 2 rfl) ?_
      refine zg_iret C hP hS dX5_made_263 ?_
      have h9 : kPerform κ x.toNat q v f (if (q : Int) = 3 then b else f) = κ2 := by rw [hE, kSendTo_end (by omega)]
      exact ⟨congrArg jI (by rfl), hτ, (by rw [h9]; exact hM2), (by rw [h9]; exact hG2)⟩
    · refine zg_iload C dX5_made_241 (lv_at hl 3 rfl) ?_
      refine zg_iload_n C dX5_made_243 rfl (lv_at hl 1 rfl) ?_
      refine zg_icmp_eq (tgt := 255) C (by omega) (by omega) (by omega) (by omega) dX5_made_244 (by decide) (fun c_2 => ?_) (fun c_2 => ?_)
      · refine zg_iinc (k := 3) (lv' := [(8, .int (jI (j + 1))), (0, .ref (a 0)), (1, .int (jI x)), (6, .int (jI (κ 1 10)))]) C dX5_made_255 hl rfl (by decide) rfl (fun ls hl => ?_)
        refine zg_goto (tgt := 234) C dX5_made_258 (by decide) ?_
        exact ih (j + 1) τ κ2 _ _ _ (by omega) hτ hM2 hG2 (by omega) (by omega) (by omega) (by rw [hE]; first | exact kSendTo_skip (by omega) (by omega) | exact kSendTo_go (by omega) (by omega)) hP hS (lv_sub hl [1, 2, 3, 0] rfl)
      · refine zg_aload_n C dX5_made_247 rfl (lv_at hl 0 rfl) ?_
        refine zg_iload C dX5_made_248 (lv_at hl 2 rfl) ?_
        refine zg_iload C dX5_made_250 (lv_at hl 3 rfl) ?_
        refine zg_callVv C X hP hS (kX5_send l τ hτ (κ 1 10) j (by omega) (by omega) (by omega) (by omega)) (cwV 2 C.ts (zgV mlX5_159 imX5_send slX5_send iniX5 cdX5_send) rfl rfl rfl (by decide +kernel) ⟨Nat.le_of_ble_eq_true rfl, Nat.le_of_ble_eq_true rfl⟩) (by decide) lyM_0 rfl rfl rfl hl.1 rfl (Nat.le_of_ble_eq_true rfl) dX5_made_252 ⟨Nat.zero_le _, Nat.zero_le _⟩ (fun σ3 H locs q5 hP hS => ?_)
        have hR6 : rgM σ3 := by rw [q5]; exact mSend_rg hτ (by omega) (by omega) (by omega) (by omega)
        obtain ⟨κ7, eκ7⟩ : ∃ z_ : Zt, z_ = kSend κ2 (κ 1 10) j := ⟨_, rfl⟩
        have hM8 : RR κ7 σ3 := by rw [eκ7, q5]; exact RR_send hM2 hG2.1
        have hG9 : kMid κ7 := by rw [eκ7]; exact kMid_send hG2 (by omega) (by omega) (by omega) (by omega)
        have b_s : κ7 1 10 = κ2 1 10 := by rw [eκ7, kFr_send.lo 1 (by omega) (by omega) (by omega) (by omega) (by omega)]
        refine zg_iinc (k := 3) (lv' := [(8, .int (jI (j + 1))), (0, .ref (a 0)), (1, .int (jI x)), (6, .int (jI (κ 1 10)))]) C dX5_made_255 hl rfl (by decide) rfl (fun ls hl => ?_)
        refine zg_goto (tgt := 234) C dX5_made_258 (by decide) ?_
        exact ih (j + 1) σ3 κ7 _ _ _ (by omega) hR6 hM8 hG9 (by omega) (by omega) (by omega) (by rw [eκ7, hE]; first | exact kSendTo_skip (by omega) (by omega) | exact kSendTo_go (by omega) (by omega)) hP hS (lv_sub hl [1, 2, 3, 0] rfl)
set_option maxHeartbeats 4000000 in
set_option maxRecDepth 100000 in
theorem kX5_madeN (l : Launch) {D : va_G} {a : Nat → Nat} {cI cZ : ClassId} (σ : Zt) (hR : rgM σ) (κ : Zt) (hM : RR κ σ) (hG : kMid κ) (x : Int) (q : Int) (v : Int) (f : Int) (b : Int) (x0 : 0 ≤ x) (x1 : x < 6) (q0 : 1 ≤ q) (q1 : q ≤ 3) (v0 : 0 ≤ v) (v1 : v < 127) (f0 : 0 ≤ f) (f1 : f < κ 1 10) (f5 : κ 5 f.toNat = 0) (b0 : -1 ≤ b) (b1 : b < κ 1 10) (b5 : q = 3 → 0 ≤ b ∧ κ 5 b.toNat = 0) (hT : κ 1 10 < 400) (gd : ∀ r : Nat, r < 6 → gR κ r) : zc l D vwCl (tyM cI cZ) 28 (layM cI cZ a) a yX5_made wsX5_made ({ frames := 3, cells := 0, slots := 0, locals := 70 }) [.ref (a 0), .int (jI x), .int (jI q), .int (jI v), .int (jI f), .int (jI b)] σ (fun r_ u_ => r_ = jI (κ 1 10) ∧ rgM u_ ∧ RR (kPerform κ x.toNat q v f (if (q : Int) = 3 then b else f)) u_ ∧ kMid (kPerform κ x.toNat q v f (if (q : Int) = 3 then b else f))) := by
  refine zc_of (cc := cX5_made) (maxL := 9) (ret := some .int) (own := RX5) (by decide) rfl rfl (Nat.le_of_ble_eq_true rfl) rfl ?_
  intro p e s m below meth c A ls C X hP hS hl
  have bT := rgS_1_10 hG.1
  have bP := rgS_11_4 hG.1
  have bPT := hG.e.1
  have bx := rgS_21 hG.1 (r := x.toNat) (by omega) x.toNat
  have by_ := rgS_20_4 hG.1 (r := x.toNat) (by omega)
  have ba := hG.a.2 x.toNat (by omega)
  have bg : 0 ≤ (if q = 3 then b else f) ∧ (if q = 3 then b else f) < κ 1 10 ∧ κ 5 (if q = 3 then b else f).toNat = 0 := by split <;> (refine ⟨by omega, by omega, ?_⟩; first | exact (b5 (by assumption)).2 | exact f5)
  have hd9 : ∀ τ : Zt, τ 19 = σ 19 → τ 1 (κ 1 10).toNat = x → τ 19 (6 * x + τ 1 (κ 1 10).toNat).toNat < 400 := fun τ a c => by rw [a, c, rr_19 hM x0 x1 x0 x1]; omega
  refine zg_aload_n C dX5_made_0 rfl (lv_at hl 0 rfl) ?_
  refine zg_get (j := 1) C X hP (by decide) lyM_0 rfl (zmem uwX5) (by decide) (C.tb flX5_135) (fun _ h9 => h9) rfl dX5_made_1 ?_
  rw [rr_0_1 hM]
  have b_10 := rgS_1_10 hG.1
  have b_11 := rgM_0_1 hR
  refine zg_istore (lv' := [(6, .int (jI (κ 1 10))), (0, .ref (a 0)), (1, .int (jI x)), (2, .int (jI q)), (3, .int (jI v)), (4, .int (jI f)), (5, .int (jI b))]) C dX5_made_4 hl (by decide) rfl (fun ls hl => ?_)
  refine zg_aload_n C dX5_made_6 rfl (lv_at hl 1 rfl) ?_
  refine zg_get (j := 2) C X hP (by decide) lyM_0 rfl (zmem uwX5) (by decide) (C.tb flX5_13) (fun _ h9 => h9) rfl dX5_made_7 ?_
  refine zg_iload C dX5_made_10 (lv_at hl 0 rfl) ?_
  refine zg_iload_n C dX5_made_12 rfl (lv_at hl 2 rfl) ?_
  refine zg_iast (t0 := 0) C X hP hS (by decide) (fun x => lyM_1) rfl (by decide) (by omega) (by omega) dX5_made_13 (fun H locs hP hS => ?_)
  obtain ⟨σ12, e13⟩ : ∃ z_ : Zt, z_ = zu σ 1 (κ 1 10).toNat x := ⟨_, rfl⟩
  rw [← e13] at hP
  have w_15 : σ12 1 (κ 1 10).toNat = x := by rw [e13]; exact zu_same _ _ _ _
  have hR14 : rgM σ12 := by rw [e13]; exact rzM_1 hR (by omega) (by omega)
  refine zg_aload_n C dX5_made_14 rfl (lv_at hl 1 rfl) ?_
  refine zg_get (j := 3) C X hP (by decide) lyM_0 rfl (zmem uwX5) (by decide) (C.tb flX5_17) (fun _ h9 => h9) rfl dX5_made_15 ?_
  refine zg_iload C dX5_made_18 (lv_at hl 0 rfl) ?_
  refine zg_aload_n C dX5_made_20 rfl (lv_at hl 1 rfl) ?_
  refine zg_get (j := 21) C X hP (by decide) lyM_0 rfl (zmem uwX5) (by decide) (C.tb flX5_69) (fun _ h9 => h9) rfl dX5_made_21 ?_
  refine zg_bipush C dX5_made_24 (by decide) ?_
  refine zg_iload_n C dX5_made_26 rfl (lv_at hl 2 rfl) ?_
  refine zg_imul C dX5_made_27 ?_
  refine zg_iload_n C dX5_made_28 rfl (lv_at hl 2 rfl) ?_
  refine zg_iadd C dX5_made_29 ?_
  refine zg_iald (t0 := 0) C X hP (by decide) lyM_19 rfl (by decide) (by omega) (by omega) dX5_made_30 ?_
  have b_16 := rgM_19 hR14 (((6 * x) + x).toNat)
  rw [show σ12 19 ((6 * x) + x).toNat = κ (21 + 6 * x.toNat) x.toNat from (by rw [e13, zu_ne (by decide), rr_19 hM x0 x1 (by omega) (by omega)])]
  refine zg_iconst C dX5_made_31 ?_
  refine zg_iadd C dX5_made_32 ?_
  refine zg_iast (t0 := 0) C X hP hS (by decide) (fun x => lyM_2) rfl (by decide) (by omega) (by omega) dX5_made_33 (fun H locs hP hS => ?_)
  obtain ⟨σ17, e18⟩ : ∃ z_ : Zt, z_ = zu σ12 2 (κ 1 10).toNat ((κ (21 + 6 * x.toNat) x.toNat) + 1) := ⟨_, rfl⟩
  rw [← e18] at hP
  have w_20 : σ17 2 (κ 1 10).toNat = (κ (21 + 6 * x.toNat) x.toNat) + 1 := by rw [e18]; exact zu_same _ _ _ _
  have hR19 : rgM σ17 := by rw [e18]; exact rzM_2 hR14 (by omega) (by omega)
  refine zg_aload_n C dX5_made_34 rfl (lv_at hl 1 rfl) ?_
  refine zg_get (j := 4) C X hP (by decide) lyM_0 rfl (zmem uwX5) (by decide) (C.tb flX5_20) (fun _ h9 => h9) rfl dX5_made_35 ?_
  refine zg_iload C dX5_made_38 (lv_at hl 0 rfl) ?_
  refine zg_aload_n C dX5_made_40 rfl (lv_at hl 1 rfl) ?_
  refine zg_get (j := 22) C X hP (by decide) lyM_0 rfl (zmem uwX5) (by decide) (C.tb flX5_72) (fun _ h9 => h9) rfl dX5_made_41 ?_
  refine zg_iload_n C dX5_made_44 rfl (lv_at hl 2 rfl) ?_
  refine zg_iald (t0 := 0) C X hP (by decide) lyM_20 rfl (by decide) (by omega) (by omega) dX5_made_45 ?_
  have b_21 := rgM_20 hR19 ((x).toNat)
  rw [show σ17 20 (x).toNat = κ (20 + 6 * x.toNat) 4 from (by rw [e18, e13, zu_ne (by decide), zu_ne (by decide), rr_20 hM x0 x1])]
  refine zg_iconst C dX5_made_46 ?_
  refine zg_iadd C dX5_made_47 ?_
  refine zg_iast (t0 := 0) C X hP hS (by decide) (fun x => lyM_3) rfl (by decide) (by omega) (by omega) dX5_made_48 (fun H locs hP hS => ?_)
  obtain ⟨σ22, e23⟩ : ∃ z_ : Zt, z_ = zu σ17 3 (κ 1 10).toNat ((κ (20 + 6 * x.toNat) 4) + 1) := ⟨_, rfl⟩
  rw [← e23] at hP
  have w_25 : σ22 3 (κ 1 10).toNat = (κ (20 + 6 * x.toNat) 4) + 1 := by rw [e23]; exact zu_same _ _ _ _
  have hR24 : rgM σ22 := by rw [e23]; exact rzM_3 hR19 (by omega) (by omega)
  refine zg_aload_n C dX5_made_49 rfl (lv_at hl 1 rfl) ?_
  refine zg_get (j := 5) C X hP (by decide) lyM_0 rfl (zmem uwX5) (by decide) (C.tb flX5_23) (fun _ h9 => h9) rfl dX5_made_50 ?_
  refine zg_iload C dX5_made_53 (lv_at hl 0 rfl) ?_
  refine zg_iload_n C dX5_made_55 rfl (lv_at hl 3 rfl) ?_
  refine zg_iast (t0 := 0) C X hP hS (by decide) (fun x => lyM_4) rfl (by decide) (by omega) (by omega) dX5_made_56 (fun H locs hP hS => ?_)
  obtain ⟨σ26, e27⟩ : ∃ z_ : Zt, z_ = zu σ22 4 (κ 1 10).toNat q := ⟨_, rfl⟩
  rw [← e27] at hP
  have w_29 : σ26 4 (κ 1 10).toNat = q := by rw [e27]; exact zu_same _ _ _ _
  have hR28 : rgM σ26 := by rw [e27]; exact rzM_4 hR24 (by omega) (by omega)
  refine zg_aload_n C dX5_made_57 rfl (lv_at hl 1 rfl) ?_
  refine zg_get (j := 6) C X hP (by decide) lyM_0 rfl (zmem uwX5) (by decide) (C.tb flX5_26) (fun _ h9 => h9) rfl dX5_made_58 ?_
  refine zg_iload C dX5_made_61 (lv_at hl 0 rfl) ?_
  refine zg_iload_n C dX5_made_63 rfl (lv_at hl 4 rfl) ?_
  refine zg_iast (t0 := 0) C X hP hS (by decide) (fun x => lyM_5) rfl (by decide) (by omega) (by omega) dX5_made_64 (fun H locs hP hS => ?_)
  obtain ⟨σ30, e31⟩ : ∃ z_ : Zt, z_ = zu σ26 5 (κ 1 10).toNat v := ⟨_, rfl⟩
  rw [← e31] at hP
  have w_33 : σ30 5 (κ 1 10).toNat = v := by rw [e31]; exact zu_same _ _ _ _
  have hR32 : rgM σ30 := by rw [e31]; exact rzM_5 hR28 (by omega) (by omega)
  refine zg_aload_n C dX5_made_65 rfl (lv_at hl 1 rfl) ?_
  refine zg_get (j := 7) C X hP (by decide) lyM_0 rfl (zmem uwX5) (by decide) (C.tb flX5_29) (fun _ h9 => h9) rfl dX5_made_66 ?_
  refine zg_iload C dX5_made_69 (lv_at hl 0 rfl) ?_
  refine zg_iload_n C dX5_made_71 rfl (lv_at hl 3 rfl) ?_
  refine zg_if_ne (tgt := 80) C (by omega) (by omega) dX5_made_72 (by decide) (fun c_34 => ?_) (fun c_34 => ?_)
  · refine zg_iload C dX5_made_80 (lv_at hl 5 rfl) ?_
    refine zg_iast (t0 := 0) C X hP hS (by decide) (fun x => lyM_6) rfl (by decide) (by omega) (by omega) dX5_made_82 (fun H locs hP hS => ?_)
    obtain ⟨σ35, e36⟩ : ∃ z_ : Zt, z_ = zu σ30 6 (κ 1 10).toNat f := ⟨_, rfl⟩
    rw [← e36] at hP
    have w_38 : σ35 6 (κ 1 10).toNat = f := by rw [e36]; exact zu_same _ _ _ _
    have hR37 : rgM σ35 := by rw [e36]; exact rzM_6 hR32 (by omega) (by omega)
    refine zg_aload_n C dX5_made_83 rfl (lv_at hl 1 rfl) ?_
    refine zg_get (j := 8) C X hP (by decide) lyM_0 rfl (zmem uwX5) (by decide) (C.tb flX5_32) (fun _ h9 => h9) rfl dX5_made_84 ?_
    refine zg_iload C dX5_made_87 (lv_at hl 0 rfl) ?_
    refine zg_iload C dX5_made_89 (lv_at hl 6 rfl) ?_
    refine zg_iast (t0 := 0) C X hP hS (by decide) (fun x => lyM_7) rfl (by decide) (by omega) (by omega) dX5_made_91 (fun H locs hP hS => ?_)
    obtain ⟨σ39, e40⟩ : ∃ z_ : Zt, z_ = zu σ35 7 (κ 1 10).toNat b := ⟨_, rfl⟩
    rw [← e40] at hP
    have w_42 : σ39 7 (κ 1 10).toNat = b := by rw [e40]; exact zu_same _ _ _ _
    have hR41 : rgM σ39 := by rw [e40]; exact rzM_7 hR37 (by omega) (by omega)
    refine zg_aload_n C dX5_made_92 rfl (lv_at hl 1 rfl) ?_
    refine zg_get (j := 9) C X hP (by decide) lyM_0 rfl (zmem uwX5) (by decide) (C.tb flX5_35) (fun _ h9 => h9) rfl dX5_made_93 ?_
    refine zg_iload C dX5_made_96 (lv_at hl 0 rfl) ?_
    refine zg_iconst C dX5_made_98 ?_
    refine zg_zast (t0 := 1) (b := false) C X hP hS (by decide) (fun x => lyM_8) rfl (by decide) (by omega) (by omega) dX5_made_99 (fun H locs hP hS => ?_)
    have b_43 := bI_01 false
    obtain ⟨σ44, e45⟩ : ∃ z_ : Zt, z_ = zu σ39 8 (κ 1 10).toNat (bI false) := ⟨_, rfl⟩
    rw [← e45] at hP
    have w_47 : σ44 8 (κ 1 10).toNat = bI false := by rw [e45]; exact zu_same _ _ _ _
    have hR46 : rgM σ44 := by rw [e45]; exact rzM_8 hR41 (by omega) (by omega)
    refine zg_aload_n C dX5_made_100 rfl (lv_at hl 1 rfl) ?_
    refine zg_get (j := 10) C X hP (by decide) lyM_0 rfl (zmem uwX5) (by decide) (C.tb flX5_39) (fun _ h9 => h9) rfl dX5_made_101 ?_
    refine zg_iload C dX5_made_104 (lv_at hl 0 rfl) ?_
    refine zg_iconst C dX5_made_106 ?_
    refine zg_zast (t0 := 1) (b := false) C X hP hS (by decide) (fun x => lyM_9) rfl (by decide) (by omega) (by omega) dX5_made_107 (fun H locs hP hS => ?_)
    have b_48 := bI_01 false
    obtain ⟨σ49, e50⟩ : ∃ z_ : Zt, z_ = zu σ44 9 (κ 1 10).toNat (bI false) := ⟨_, rfl⟩
    rw [← e50] at hP
    have w_52 : σ49 9 (κ 1 10).toNat = bI false := by rw [e50]; exact zu_same _ _ _ _
    have hR51 : rgM σ49 := by rw [e50]; exact rzM_9 hR46 (by omega) (by omega)
    refine zg_iload_n C dX5_made_108 rfl (lv_at hl 3 rfl) ?_
    refine zg_if_ne (tgt := 207) C (by omega) (by omega) dX5_made_109 (by decide) (fun c_53 => ?_) (fun c_53 => ?_)
    · refine zg_aload_n C dX5_made_207 rfl (lv_at hl 1 rfl) ?_
      refine zg_dup C dX5_made_208 rfl ?_
      refine zg_get (j := 1) C X hP (by decide) lyM_0 rfl (zmem uwX5) (by decide) (C.tb flX5_135) (fun _ h9 => h9) rfl dX5_made_209 ?_
      have b_54 := rgM_0_1 hR51
      rw [show σ49 0 1 = κ 1 10 from (by rw [e50, e45, e40, e36, e31, e27, e23, e18, e13]; simp (disch := decide) only [zu_ne]; exact rr_0_1 hM)]
      refine zg_iconst C dX5_made_212 ?_
      refine zg_iadd C dX5_made_213 ?_
      refine zg_put (j := 1) (v := (κ 1 10) + 1) C X hP hS (by decide) lyM_0 rfl (zmem uwX5) tyX5 tyX5_ok nmX5 (by decide) (C.tb flX5_135) (fun _ h9 => h9) rfl (by decide +kernel) (Nat.le_of_ble_eq_true rfl) (by rw [lyM_0]; rfl) dX5_made_214 (fun H locs hP hS => ?_)
      obtain ⟨σ55, e56⟩ : ∃ z_ : Zt, z_ = zu σ49 0 1 ((κ 1 10) + 1) := ⟨_, rfl⟩
      rw [← e56] at hP
      have w_58 : σ55 0 1 = (κ 1 10) + 1 := by rw [e56]; exact zu_same _ _ _ _
      have hR57 : rgM σ55 := by rw [e56]; exact rzM_0_1 hR51 (by omega) (by omega)
      have hdn := hd9 σ55 (by rw [e56, e50, e45, e40, e36, e31, e27, e23, e18, e13]; simp (disch := decide) only [zu_ne]) (by rw [e56, e50, e45, e40, e36, e31, e27, e23, e18, e13]; simp (disch := decide) only [zu_ne, zu_same])
      refine zg_aload_n C dX5_made_217 rfl (lv_at hl 1 rfl) ?_
      refine zg_iload_n C dX5_made_218 rfl (lv_at hl 2 rfl) ?_
      refine zg_iload C dX5_made_219 (lv_at hl 0 rfl) ?_
      refine zg_callVv C X hP hS (kX5_isDone l σ55 hR57 x (κ 1 10) (by omega) (by omega) (by omega) (by omega) hdn) (cwV 2 C.ts (zgV mlX5_141 imX5_isDone slX5_isDone iniX5 cdX5_isDone) rfl rfl rfl (by decide +kernel) ⟨Nat.le_of_ble_eq_true rfl, Nat.le_of_ble_eq_true rfl⟩) (by decide) lyM_0 rfl rfl rfl hl.1 rfl (Nat.le_of_ble_eq_true rfl) dX5_made_221 ⟨Nat.zero_le _, Nat.zero_le _⟩ (fun σ59 H locs q61 hP hS => ?_)
      have hR62 : rgM σ59 := by rw [q61]; exact mDone_rg hR57 (by omega) (by omega) (by omega) (by omega) hdn
      obtain ⟨κ63, eκ63⟩ : ∃ z_ : Zt, z_ = kCarry (kAdd κ x.toNat (κ (21 + 6 * x.toNat) x.toNat + 1) (κ (20 + 6 * x.toNat) 4 + 1) q v f (if q = 3 then b else f)) x.toNat (κ 1 10) := ⟨_, rfl⟩
      have hM64 : RR κ63 σ59 := by rw [eκ63, q61, e56, e50, e45, e40, e36, e31, e27, e23, e18, e13]; exact RR_madeN hM hG (by omega) (by omega) (by omega) (by omega) (by omega) (by omega) (by omega) (by omega) (by omega) (by omega) (by omega) (fun e => by rw [if_pos e])
      have hG65 : kMid κ63 := by rw [eκ63]; exact (kGood_carryN hG (by omega) (by omega) (by omega) (by omega) (by omega) (by omega) (by omega) (by omega) f5 (by omega) (by omega) bg.2.2 (fun e => by rw [if_neg e])).1
      have hgr : gR κ63 x.toNat := by rw [eκ63]; exact (kGood_carryN hG (by omega) (by omega) (by omega) (by omega) (by omega) (by omega) (by omega) (by omega) f5 (by omega) (by omega) bg.2.2 (fun e => by rw [if_neg e])).2 x.toNat (by omega) (gd _ (by omega))
      have hT5 : κ63 1 10 = κ 1 10 + 1 := by rw [eκ63, kCarry_fr (by omega), kAdd_1]
      refine zg_aload_n C dX5_made_224 rfl (lv_at hl 1 rfl) ?_
      refine zg_iload_n C dX5_made_225 rfl (lv_at hl 2 rfl) ?_
      refine zg_callV C X hP hS (kX5_goOn l σ59 hR62 κ63 hM64 hG65 x (by omega) (by omega)) (cwV 1 C.ts (zgV mlX5_155 imX5_goOn slX5_goOn iniX5 cdX5_goOn) rfl rfl rfl (by decide +kernel) ⟨Nat.le_of_ble_eq_true rfl, Nat.le_of_ble_eq_true rfl⟩) (by decide) lyM_0 rfl rfl rfl hl.1 rfl (Nat.le_of_ble_eq_true rfl) dX5_made_226 ⟨Nat.zero_le _, Nat.zero_le _⟩ (fun r_67 σ66 H locs q68 hP hS => ?_)
      obtain ⟨rfl, q68⟩ := q68
      have b_69 := kAll_rg (kMid_waited hG65 (r := x.toNat) (by omega)).1 (r := x.toNat) (by omega)
      have b_70 := kAll_rg hG65.1 (r := x.toNat) (by omega)
      obtain ⟨κ74, eκ74⟩ : ∃ z_ : Zt, z_ = kWaited x.toNat 400 κ63 := ⟨_, rfl⟩
      rw [← eκ74] at q68
      obtain ⟨hR71, hM72, hG73⟩ := q68
      have b_75 : κ74 1 10 = κ63 1 10 := by rw [eκ74, kWaited_fr (by omega)]
      have b_76 : kAll κ74 x.toNat = kAll (kWaited x.toNat 400 κ63) x.toNat := by rw [eκ74]
      refine zg_istore (lv' := [(7, .int (jI (kAll (kWaited x.toNat 400 κ63) x.toNat - kAll κ63 x.toNat))), (6, .int (jI (κ 1 10))), (0, .ref (a 0)), (1, .int (jI x)), (2, .int (jI q)), (3, .int (jI v)), (4, .int (jI f)), (5, .int (jI b))]) C dX5_made_229 hl (by decide) rfl (fun ls hl => ?_)
      refine zg_iconst C dX5_made_231 ?_
      refine zg_istore (lv' := [(8, .int (jI 0)), (7, .int (jI (kAll (kWaited x.toNat 400 κ63) x.toNat - kAll κ63 x.toNat))), (6, .int (jI (κ 1 10))), (0, .ref (a 0)), (1, .int (jI x)), (2, .int (jI q)), (3, .int (jI v)), (4, .int (jI f)), (5, .int (jI b))]) C dX5_made_232 hl (by decide) rfl (fun ls hl => ?_)
      exact lpX5_made_234N σ hR κ hM hG x q v f b x0 x1 q0 q1 v0 v1 f0 f1 f5 b0 b1 b5 hT gd C X 7 0 σ66 κ74 _ _ _ (by omega) hR71 hM72 hG73 (by omega) (by omega) (by omega) (by rw [eκ74, eκ63, kWaited_no _ (gR_no (by rw [← eκ63]; exact hgr))]; rfl) hP hS (lv_sub hl [3, 4, 2, 0] rfl)
    · exact absurd c_53 (by omega)
  · exact absurd c_34 (by omega)
