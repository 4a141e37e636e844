set_option maxHeartbeats 4000000 in
set_option maxRecDepth 100000 in
theorem lpX5_made_234T {l : Launch} {D : va_G} {a : Nat → Nat} {cI cZ : ClassId} {p : Program} {e : Env} {s : State} {m : MethodId} {below : List Frame} {meth : Method} {c : Code} {A : Nat → Prop} (σ : Zt) (hR : rgM σ) (κ : Zt) (hM : RR κ σ) (hG : kMid κ) (x : Int) (v : Int) (x0 : 0 ≤ x) (x1 : x < 6) (v0 : 0 ≤ v) (v1 : v < 127) (hT : κ 1 10 < 400) (κ0 F : Zt) (be K : Int) (hκ : κ = kCoinS κ0 x.toNat) (hG0 : kMid κ0) (hF : rgS F) (hK : kFound κ0 F x.toNat (κ 1 10).toNat be K) (hbe : kSg κ0 be) (hdp : σ 0 32 = K) (hmh : mHas σ F (κ 1 10) (K + 1)) (gd : ∀ r : Nat, r < 6 → gR κ0 r)  (C : zk p s m ([.ref (a 0), .int (jI x), .int (jI 0), .int (jI v), .int (jI (-1)), .int (jI (-1))] : List Value).toArray meth c cX5_made 9 (some .int) wsX5_made RX5) (X : zx D vwCl (tyM cI cZ) A a 28 s) :
    ∀ (n : Nat) (j : Int) (τ : Zt) (κ2 : Zt) (H : Heap) (locs : List Loc) (ls : Array Slot), ((6 - j).toNat < n) → (rgM τ) → (RR κ2 τ) → (kMid κ2) → (0 ≤ j) → (j ≤ 6) → (κ 1 10 < κ2 1 10) → (kSendTo (κ 1 10) x.toNat 6 0 (kCarry (kAdd (kInsert F (κ 1 10) be) x.toNat (κ (21 + 6 * x.toNat) x.toNat + 1) (κ (20 + 6 * x.toNat) 4 + 1) 0 v (κ 1 10) (κ 1 10)) x.toNat (κ 1 10)) = kSendTo (κ 1 10) x.toNat (6 - j).toNat j κ2) → va_P D vwCl (zw 28 (layM cI cZ a) a τ) H → va_S A s.heap H locs → lv_has ls 9 [(0, .ref (a 0)), (1, .int (jI x)), (6, .int (jI (κ 1 10))), (8, .int (jI j))] →
      W p l e ({ frames := 3, cells := 0, slots := 0, locals := 70 }) s m ([.ref (a 0), .int (jI x), .int (jI 0), .int (jI v), .int (jI (-1)), .int (jI (-1))] : List Value).toArray below meth c H locs 0 0 (MQ below (va_Qi (fun r_ u_ => r_ = jI (κ 1 10) ∧ rgM u_ ∧ RR (kSendTo (κ 1 10) x.toNat 6 0 (kCarry (kAdd (kInsert F (κ 1 10) be) x.toNat (κ (21 + 6 * x.toNat) x.toNat + 1) (κ (20 + 6 * x.toNat) 4 + 1) 0 v (κ 1 10) (κ 1 10)) x.toNat (κ 1 10))) u_ ∧ kMid (kSendTo (κ 1 10) x.toNat 6 0 (kCarry (kAdd (kInsert F (κ 1 10) be) x.toNat (κ (21 + 6 * x.toNat) x.toNat + 1) (κ (20 + 6 * x.toNat) 4 + 1) 0 v (κ 1 10) (κ 1 10)) x.toNat (κ 1 10)))) (fun (u : Zt) t => va_P D vwCl (zw 28 (layM cI cZ a) a u) t.heap) A) ([.ref (a 0), .int (jI x), .int (jI 0), .int (jI v), .int (jI (-1)), .int (jI (-1))] : List Value).toArray s 0 0 A) (F0 m 234 ls []) := by
  intro n
  induction n with
  | zero =>
    intro j τ κ2 H locs ls hn hτ hM2 hG2 j0 j1 hT2 hE hP hS hl
    exact absurd hn (by omega)
  | succ n ih =>
    intro j τ κ2 H locs ls hn hτ hM2 hG2 j0 j1 hT2 hE hP hS hl
    have bT := rgS_1_10 hG.1
    have bT2 := rgS_1_10 hG2.1
    refine zg_iload C dX5_made_234 (lv_at hl 3 rfl) ?_
    refine zg_bipush C dX5_made_236 (by decide) ?_
    refine zg_icmp_ge (tgt := 261) C (by omega) (by omega) (by omega) (by omega) dX5_made_238 (by decide) (fun c_1 => ?_) (fun c_1 => ?_)
    · refine zg_iload C dX5_made_261 (lv_at hl 2 rfl) ?_
      refine zg_iret C hP hS dX5_made_263 ?_
      have h9 : kSendTo (κ 1 10) x.toNat 6 0 (kCarry (kAdd (kInsert F (κ 1 10) be) x.toNat (κ (21 + 6 * x.toNat) x.toNat + 1) (κ (20 + 6 * x.toNat) 4 + 1) 0 v (κ 1 10) (κ 1 10)) x.toNat (κ 1 10)) = κ2 := by rw [hE, kSendTo_end (by omega)]
      exact ⟨congrArg jI (by rfl), hτ, (by rw [h9]; exact hM2), (by rw [h9]; exact hG2)⟩
    · refine zg_iload C dX5_made_241 (lv_at hl 3 rfl) ?_
      refine zg_iload_n C dX5_made_243 rfl (lv_at hl 1 rfl) ?_
      refine zg_icmp_eq (tgt := 255) C (by omega) (by omega) (by omega) (by omega) dX5_made_244 (by decide) (fun c_2 => ?_) (fun c_2 => ?_)
      · refine zg_iinc (k := 3) (lv' := [(8, .int (jI (j + 1))), (0, .ref (a 0)), (1, .int (jI x)), (6, .int (jI (κ 1 10)))]) C dX5_made_255 hl rfl (by decide) rfl (fun ls hl => ?_)
        refine zg_goto (tgt := 234) C dX5_made_258 (by decide) ?_
        exact ih (j + 1) τ κ2 _ _ _ (by omega) hτ hM2 hG2 (by omega) (by omega) (by omega) (by rw [hE]; first | exact kSendTo_skip (by omega) (by omega) | exact kSendTo_go (by omega) (by omega)) hP hS (lv_sub hl [1, 2, 3, 0] rfl)
      · refine zg_aload_n C dX5_made_247 rfl (lv_at hl 0 rfl) ?_
        refine zg_iload C dX5_made_248 (lv_at hl 2 rfl) ?_
        refine zg_iload C dX5_made_250 (lv_at hl 3 rfl) ?_
        refine zg_callVv C X hP hS (kX5_send l τ hτ (κ 1 10) j (by omega) (by omega) (by omega) (by omega)) (cwV 2 C.ts (zgV mlX5_159 imX5_send slX5_send iniX5 cdX5_send) rfl rfl rfl (by decide +kernel) ⟨Nat.le_of_ble_eq_true rfl, Nat.le_of_ble_eq_true rfl⟩) (by decide) lyM_0 rfl rfl rfl hl.1 rfl (Nat.le_of_ble_eq_true rfl) dX5_made_252 ⟨Nat.zero_le _, Nat.zero_le _⟩ (fun σ3 H locs q5 hP hS => ?_)
        have hR6 : rgM σ3 := by rw [q5]; exact mSend_rg hτ (by omega) (by omega) (by omega) (by omega)
        obtain ⟨κ7, eκ7⟩ : ∃ z_ : Zt, z_ = kSend κ2 (κ 1 10) j := ⟨_, rfl⟩
        have hM8 : RR κ7 σ3 := by rw [eκ7, q5]; exact RR_send hM2 hG2.1
        have hG9 : kMid κ7 := by rw [eκ7]; exact kMid_send hG2 (by omega) (by omega) (by omega) (by omega)
        have b_s : κ7 1 10 = κ2 1 10 := by rw [eκ7, kFr_send.lo 1 (by omega) (by omega) (by omega) (by omega) (by omega)]
        refine zg_iinc (k := 3) (lv' := [(8, .int (jI (j + 1))), (0, .ref (a 0)), (1, .int (jI x)), (6, .int (jI (κ 1 10)))]) C dX5_made_255 hl rfl (by decide) rfl (fun ls hl => ?_)
        refine zg_goto (tgt := 234) C dX5_made_258 (by decide) ?_
        exact ih (j + 1) σ3 κ7 _ _ _ (by omega) hR6 hM8 hG9 (by omega) (by omega) (by omega) (by rw [eκ7, hE]; first | exact kSendTo_skip (by omega) (by omega) | exact kSendTo_go (by omega) (by omega)) hP hS (lv_sub hl [1, 2, 3, 0] rfl)
set_option maxHeartbeats 4000000 in
set_option maxRecDepth 100000 in
theorem lpX5_made_126T {l : Launch} {D : va_G} {a : Nat → Nat} {cI cZ : ClassId} {p : Program} {e : Env} {s : State} {m : MethodId} {below : List Frame} {meth : Method} {c : Code} {A : Nat → Prop} (σ : Zt) (hR : rgM σ) (κ : Zt) (hM : RR κ σ) (hG : kMid κ) (x : Int) (v : Int) (x0 : 0 ≤ x) (x1 : x < 6) (v0 : 0 ≤ v) (v1 : v < 127) (hT : κ 1 10 < 400) (κ0 F : Zt) (be K : Int) (hκ : κ = kCoinS κ0 x.toNat) (hG0 : kMid κ0) (hF : rgS F) (hK : kFound κ0 F x.toNat (κ 1 10).toNat be K) (hbe : kSg κ0 be) (hdp : σ 0 32 = K) (hmh : mHas σ F (κ 1 10) (K + 1)) (gd : ∀ r : Nat, r < 6 → gR κ0 r)  (C : zk p s m ([.ref (a 0), .int (jI x), .int (jI 0), .int (jI v), .int (jI (-1)), .int (jI (-1))] : List Value).toArray meth c cX5_made 9 (some .int) wsX5_made RX5) (X : zx D vwCl (tyM cI cZ) A a 28 s) :
    ∀ (n : Nat) (k : Int) (τ : Zt) (H : Heap) (locs : List Loc) (ls : Array Slot), ((13 - k).toNat < n) → (rgM τ) → (0 ≤ k) → (k ≤ K) → (τ 0 32 = K) → (τ 0 1 = κ 1 10) → (τ 0 15 = κ 11 4) → (τ 19 = σ 19) → (τ 1 (κ 1 10).toNat = x) → (mCpy (κ 1 10) (K - 0).toNat 0 (zu (mMade0 σ (κ 1 10).toNat x (κ (21 + 6 * x.toNat) x.toNat + 1) (κ (20 + 6 * x.toNat) 4 + 1) 0 v (κ 1 10) (-1)) 10 (κ 1 10).toNat K) = mCpy (κ 1 10) (K - k).toNat k τ) → va_P D vwCl (zw 28 (layM cI cZ a) a τ) H → va_S A s.heap H locs → lv_has ls 9 [(0, .ref (a 0)), (1, .int (jI x)), (2, .int (jI 0)), (3, .int (jI v)), (6, .int (jI (κ 1 10))), (7, .int (jI k))] →
      W p l e ({ frames := 3, cells := 0, slots := 0, locals := 70 }) s m ([.ref (a 0), .int (jI x), .int (jI 0), .int (jI v), .int (jI (-1)), .int (jI (-1))] : List Value).toArray below meth c H locs 0 0 (MQ below (va_Qi (fun r_ u_ => r_ = jI (κ 1 10) ∧ rgM u_ ∧ RR (kSendTo (κ 1 10) x.toNat 6 0 (kCarry (kAdd (kInsert F (κ 1 10) be) x.toNat (κ (21 + 6 * x.toNat) x.toNat + 1) (κ (20 + 6 * x.toNat) 4 + 1) 0 v (κ 1 10) (κ 1 10)) x.toNat (κ 1 10))) u_ ∧ kMid (kSendTo (κ 1 10) x.toNat 6 0 (kCarry (kAdd (kInsert F (κ 1 10) be) x.toNat (κ (21 + 6 * x.toNat) x.toNat + 1) (κ (20 + 6 * x.toNat) 4 + 1) 0 v (κ 1 10) (κ 1 10)) x.toNat (κ 1 10)))) (fun (u : Zt) t => va_P D vwCl (zw 28 (layM cI cZ a) a u) t.heap) A) ([.ref (a 0), .int (jI x), .int (jI 0), .int (jI v), .int (jI (-1)), .int (jI (-1))] : List Value).toArray s 0 0 A) (F0 m 126 ls []) := by
  intro n
  induction n with
  | zero =>
    intro k τ H locs ls hn hτ k0 k1 hd2 ht1 ht15 h19 h1x hC hP hS hl
    exact absurd hn (by omega)
  | succ n ih =>
    intro k τ H locs ls hn hτ k0 k1 hd2 ht1 ht15 h19 h1x hC hP hS hl
    have bK := hK.1
    have bT := rgS_1_10 hG.1
    have bP := rgS_11_4 hG.1
    have bPT := hG.e.1
    have bx := rgS_21 hG.1 (r := x.toNat) (by omega) x.toNat
    have by_ := rgS_20_4 hG.1 (r := x.toNat) (by omega)
    have ba := hG.a.2 x.toNat (by omega)
    refine zg_iload C dX5_made_126 (lv_at hl 5 rfl) ?_
    refine zg_aload_n C dX5_made_128 rfl (lv_at hl 0 rfl) ?_
    refine zg_get (j := 32) C X hP (by decide) lyM_0 rfl (zmem uwX5) (by decide) (C.tb flX5_116) (fun _ h9 => h9) rfl dX5_made_129 ?_
    have b_10 := rgM_0_32 hτ
    refine zg_icmp_ge (tgt := 201) C (by omega) (by omega) (by omega) (by omega) dX5_made_132 (by decide) (fun c_11 => ?_) (fun c_11 => ?_)
    · have hC2 := hC.trans (mCpy_end (by omega))
      have hrg2 : rgM (mCpy (κ 1 10) (K - 0).toNat 0 (zu (mMade0 σ (κ 1 10).toNat x (κ (21 + 6 * x.toNat) x.toNat + 1) (κ (20 + 6 * x.toNat) 4 + 1) 0 v (κ 1 10) (-1)) 10 (κ 1 10).toNat K)) := by rw [hC2]; exact hτ
      refine zg_aload_n C dX5_made_201 rfl (lv_at hl 0 rfl) ?_
      refine zg_iload C dX5_made_202 (lv_at hl 4 rfl) ?_
      refine zg_callVv C X hP hS (kX5_sortIn l τ hτ (κ 1 10) (by omega) (by omega) (by omega)) (cwV 1 C.ts (zgV mlX5_151 imX5_sortIn slX5_sortIn iniX5 cdX5_sortIn) rfl rfl rfl (by decide +kernel) ⟨Nat.le_of_ble_eq_true rfl, Nat.le_of_ble_eq_true rfl⟩) (by decide) lyM_0 rfl rfl rfl hl.1 rfl (Nat.le_of_ble_eq_true rfl) dX5_made_204 ⟨Nat.zero_le _, Nat.zero_le _⟩ (fun σ12 H locs q14 hP hS => ?_)
      have hR15 : rgM σ12 := by rw [q14]; exact mSort_rg hτ (by omega) (by omega) (by omega)
      refine zg_aload_n C dX5_made_207 rfl (lv_at hl 0 rfl) ?_
      refine zg_dup C dX5_made_208 rfl ?_
      refine zg_get (j := 1) C X hP (by decide) lyM_0 rfl (zmem uwX5) (by decide) (C.tb flX5_135) (fun _ h9 => h9) rfl dX5_made_209 ?_
      have b_16 := rgM_0_1 hR15
      rw [show σ12 0 1 = κ 1 10 from (by rw [q14, mSort_0 (by decide)]; exact ht1)]
      refine zg_iconst C dX5_made_212 ?_
      refine zg_iadd C dX5_made_213 ?_
      refine zg_put (j := 1) (v := (κ 1 10) + 1) C X hP hS (by decide) lyM_0 rfl (zmem uwX5) tyX5 tyX5_ok nmX5 (by decide) (C.tb flX5_135) (fun _ h9 => h9) rfl (by decide +kernel) (Nat.le_of_ble_eq_true rfl) (by rw [lyM_0]; rfl) dX5_made_214 (fun H locs hP hS => ?_)
      obtain ⟨σ17, e18⟩ : ∃ z_ : Zt, z_ = zu σ12 0 1 ((κ 1 10) + 1) := ⟨_, rfl⟩
      rw [← e18] at hP
      have w_20 : σ17 0 1 = (κ 1 10) + 1 := by rw [e18]; exact zu_same _ _ _ _
      have hR19 : rgM σ17 := by rw [e18]; exact rzM_0_1 hR15 (by omega) (by omega)
      have hdn : σ17 19 (6 * x + σ17 1 (κ 1 10).toNat).toNat < 400 := by rw [e18, q14]; simp (disch := decide) only [zu_ne]; rw [mSort_fr (by decide) (by decide) (by decide), mSort_fr (by decide) (by decide) (by decide), h19, h1x, rr_19 hM x0 x1 x0 x1]; omega
      refine zg_aload_n C dX5_made_217 rfl (lv_at hl 0 rfl) ?_
      refine zg_iload_n C dX5_made_218 rfl (lv_at hl 1 rfl) ?_
      refine zg_iload C dX5_made_219 (lv_at hl 4 rfl) ?_
      refine zg_callVv C X hP hS (kX5_isDone l σ17 hR19 x (κ 1 10) (by omega) (by omega) (by omega) (by omega) hdn) (cwV 2 C.ts (zgV mlX5_141 imX5_isDone slX5_isDone iniX5 cdX5_isDone) rfl rfl rfl (by decide +kernel) ⟨Nat.le_of_ble_eq_true rfl, Nat.le_of_ble_eq_true rfl⟩) (by decide) lyM_0 rfl rfl rfl hl.1 rfl (Nat.le_of_ble_eq_true rfl) dX5_made_221 ⟨Nat.zero_le _, Nat.zero_le _⟩ (fun σ21 H locs q23 hP hS => ?_)
      have hR24 : rgM σ21 := by rw [q23]; exact mDone_rg hR19 (by omega) (by omega) (by omega) (by omega) hdn
      obtain ⟨κ25, eκ25⟩ : ∃ z_ : Zt, z_ = kCarry (kAdd (kInsert F (κ 1 10) be) x.toNat (κ (21 + 6 * x.toNat) x.toNat + 1) (κ (20 + 6 * x.toNat) 4 + 1) 0 v (κ 1 10) (κ 1 10)) x.toNat (κ 1 10) := ⟨_, rfl⟩
      have hM26 : RR κ25 σ21 := by rw [eκ25, q23, e18, q14]; rw [← hC2]; exact RR_madeTI hκ hM hG0 hF hK x0 x1 hT hbe hmh hrg2 v0 v1
      have hG27 : kMid κ25 := by rw [eκ25]; exact (kMid_madeTI hκ hG0 hF hK x0 x1 hT hbe v0 v1).1
      have hgr : gR κ25 x.toNat := by rw [eκ25]; exact (kMid_madeTI hκ hG0 hF hK x0 x1 hT hbe v0 v1).2 x.toNat (by omega) (gd _ (by omega))
      have hT5 : κ25 1 10 = κ 1 10 + 1 := by rw [eκ25, kTyped_T1 hK (Int.toNat_of_nonneg (by omega)).symm, hκ, coin_ne (by omega)]
      refine zg_aload_n C dX5_made_224 rfl (lv_at hl 0 rfl) ?_
      refine zg_iload_n C dX5_made_225 rfl (lv_at hl 1 rfl) ?_
      refine zg_callV C X hP hS (kX5_goOn l σ21 hR24 κ25 hM26 hG27 x (by omega) (by omega)) (cwV 1 C.ts (zgV mlX5_155 imX5_goOn slX5_goOn iniX5 cdX5_goOn) rfl rfl rfl (by decide +kernel) ⟨Nat.le_of_ble_eq_true rfl, Nat.le_of_ble_eq_true rfl⟩) (by decide) lyM_0 rfl rfl rfl hl.1 rfl (Nat.le_of_ble_eq_true rfl) dX5_made_226 ⟨Nat.zero_le _, Nat.zero_le _⟩ (fun r_29 σ28 H locs q30 hP hS => ?_)
      obtain ⟨rfl, q30⟩ := q30
      have b_31 := kAll_rg (kMid_waited hG27 (r := x.toNat) (by omega)).1 (r := x.toNat) (by omega)
      have b_32 := kAll_rg hG27.1 (r := x.toNat) (by omega)
      obtain ⟨κ36, eκ36⟩ : ∃ z_ : Zt, z_ = kWaited x.toNat 400 κ25 := ⟨_, rfl⟩
      rw [← eκ36] at q30
      obtain ⟨hR33, hM34, hG35⟩ := q30
      have b_37 : κ36 1 10 = κ25 1 10 := by rw [eκ36, kWaited_fr (by omega)]
      have b_38 : kAll κ36 x.toNat = kAll (kWaited x.toNat 400 κ25) x.toNat := by rw [eκ36]
      refine zg_istore (lv' := [(7, .int (jI (kAll (kWaited x.toNat 400 κ25) x.toNat - kAll κ25 x.toNat))), (0, .ref (a 0)), (1, .int (jI x)), (2, .int (jI 0)), (3, .int (jI v)), (6, .int (jI (κ 1 10)))]) C dX5_made_229 hl (by decide) rfl (fun ls hl => ?_)
      refine zg_iconst C dX5_made_231 ?_
      refine zg_istore (lv' := [(8, .int (jI 0)), (7, .int (jI (kAll (kWaited x.toNat 400 κ25) x.toNat - kAll κ25 x.toNat))), (0, .ref (a 0)), (1, .int (jI x)), (2, .int (jI 0)), (3, .int (jI v)), (6, .int (jI (κ 1 10)))]) C dX5_made_232 hl (by decide) rfl (fun ls hl => ?_)
      exact lpX5_made_234T σ hR κ hM hG x v x0 x1 v0 v1 hT κ0 F be K hκ hG0 hF hK hbe hdp hmh gd C X 7 0 σ28 κ36 _ _ _ (by omega) hR33 hM34 hG35 (by omega) (by omega) (by omega) (by rw [eκ36, eκ25, kWaited_no _ (gR_no (by rw [← eκ25]; exact hgr))]; rfl) hP hS (lv_sub hl [2, 3, 6, 0] rfl)
    · refine zg_aload_n C dX5_made_135 rfl (lv_at hl 0 rfl) ?_
      refine zg_get (j := 12) C X hP (by decide) lyM_0 rfl (zmem uwX5) (by decide) (C.tb flX5_45) (fun _ h9 => h9) rfl dX5_made_136 ?_
      refine zg_bipush C dX5_made_139 (by decide) ?_
      refine zg_iload C dX5_made_141 (lv_at hl 4 rfl) ?_
      refine zg_imul C dX5_made_143 ?_
      refine zg_iload C dX5_made_144 (lv_at hl 5 rfl) ?_
      refine zg_iadd C dX5_made_146 ?_
      refine zg_aload_n C dX5_made_147 rfl (lv_at hl 0 rfl) ?_
      refine zg_get (j := 29) C X hP (by decide) lyM_0 rfl (zmem uwX5) (by decide) (C.tb flX5_87) (fun _ h9 => h9) rfl dX5_made_148 ?_
      refine zg_iload C dX5_made_151 (lv_at hl 5 rfl) ?_
      refine zg_iald (t0 := 0) C X hP (by decide) lyM_25 rfl (by decide) (by omega) (by omega) dX5_made_153 ?_
      have b_39 := rgM_25 hτ ((k).toNat)
      refine zg_iast (t0 := 0) C X hP hS (by decide) (fun x => lyM_11) rfl (by decide) (by omega) (by omega) dX5_made_154 (fun H locs hP hS => ?_)
      obtain ⟨σ40, e41⟩ : ∃ z_ : Zt, z_ = zu τ 11 ((12 * (κ 1 10)) + k).toNat (τ 25 (k).toNat) := ⟨_, rfl⟩
      rw [← e41] at hP
      have w_43 : σ40 11 ((12 * (κ 1 10)) + k).toNat = τ 25 (k).toNat := by rw [e41]; exact zu_same _ _ _ _
      have hR42 : rgM σ40 := by rw [e41]; exact rzM_11 hτ (by omega) (by omega)
      refine zg_aload_n C dX5_made_155 rfl (lv_at hl 0 rfl) ?_
      refine zg_get (j := 13) C X hP (by decide) lyM_0 rfl (zmem uwX5) (by decide) (C.tb flX5_48) (fun _ h9 => h9) rfl dX5_made_156 ?_
      refine zg_bipush C dX5_made_159 (by decide) ?_
      refine zg_iload C dX5_made_161 (lv_at hl 4 rfl) ?_
      refine zg_imul C dX5_made_163 ?_
      refine zg_iload C dX5_made_164 (lv_at hl 5 rfl) ?_
      refine zg_iadd C dX5_made_166 ?_
      refine zg_aload_n C dX5_made_167 rfl (lv_at hl 0 rfl) ?_
      refine zg_get (j := 30) C X hP (by decide) lyM_0 rfl (zmem uwX5) (by decide) (C.tb flX5_90) (fun _ h9 => h9) rfl dX5_made_168 ?_
      refine zg_iload C dX5_made_171 (lv_at hl 5 rfl) ?_
      refine zg_iald (t0 := 0) C X hP (by decide) lyM_26 rfl (by decide) (by omega) (by omega) dX5_made_173 ?_
      have b_44 := rgM_26 hR42 ((k).toNat)
      refine zg_iast (t0 := 0) C X hP hS (by decide) (fun x => lyM_12) rfl (by decide) (by omega) (by omega) dX5_made_174 (fun H locs hP hS => ?_)
      obtain ⟨σ45, e46⟩ : ∃ z_ : Zt, z_ = zu σ40 12 ((12 * (κ 1 10)) + k).toNat (σ40 26 (k).toNat) := ⟨_, rfl⟩
      rw [← e46] at hP
      have w_48 : σ45 12 ((12 * (κ 1 10)) + k).toNat = σ40 26 (k).toNat := by rw [e46]; exact zu_same _ _ _ _
      have hR47 : rgM σ45 := by rw [e46]; exact rzM_12 hR42 (by omega) (by omega)
      refine zg_aload_n C dX5_made_175 rfl (lv_at hl 0 rfl) ?_
      refine zg_get (j := 14) C X hP (by decide) lyM_0 rfl (zmem uwX5) (by decide) (C.tb flX5_51) (fun _ h9 => h9) rfl dX5_made_176 ?_
      refine zg_bipush C dX5_made_179 (by decide) ?_
      refine zg_iload C dX5_made_181 (lv_at hl 4 rfl) ?_
      refine zg_imul C dX5_made_183 ?_
      refine zg_iload C dX5_made_184 (lv_at hl 5 rfl) ?_
      refine zg_iadd C dX5_made_186 ?_
      refine zg_aload_n C dX5_made_187 rfl (lv_at hl 0 rfl) ?_
      refine zg_get (j := 31) C X hP (by decide) lyM_0 rfl (zmem uwX5) (by decide) (C.tb flX5_93) (fun _ h9 => h9) rfl dX5_made_188 ?_
      refine zg_iload C dX5_made_191 (lv_at hl 5 rfl) ?_
      refine zg_iald (t0 := 0) C X hP (by decide) lyM_27 rfl (by decide) (by omega) (by omega) dX5_made_193 ?_
      have b_49 := rgM_27 hR47 ((k).toNat)
      refine zg_iast (t0 := 0) C X hP hS (by decide) (fun x => lyM_13) rfl (by decide) (by omega) (by omega) dX5_made_194 (fun H locs hP hS => ?_)
      obtain ⟨σ50, e51⟩ : ∃ z_ : Zt, z_ = zu σ45 13 ((12 * (κ 1 10)) + k).toNat (σ45 27 (k).toNat) := ⟨_, rfl⟩
      rw [← e51] at hP
      have w_53 : σ50 13 ((12 * (κ 1 10)) + k).toNat = σ45 27 (k).toNat := by rw [e51]; exact zu_same _ _ _ _
      have hR52 : rgM σ50 := by rw [e51]; exact rzM_13 hR47 (by omega) (by omega)
      refine zg_iinc (k := 5) (lv' := [(7, .int (jI (k + 1))), (0, .ref (a 0)), (1, .int (jI x)), (2, .int (jI 0)), (3, .int (jI v)), (6, .int (jI (κ 1 10)))]) C dX5_made_195 hl rfl (by decide) rfl (fun ls hl => ?_)
      refine zg_goto (tgt := 126) C dX5_made_198 (by decide) ?_
      exact ih (k + 1) σ50 _ _ _ (by omega) hR52 (by omega) (by omega) (by rw [e51, e46, e41]; simp (disch := decide) only [zu_ne]; exact hd2) (by rw [e51, e46, e41]; simp (disch := decide) only [zu_ne]; exact ht1) (by rw [e51, e46, e41]; simp (disch := decide) only [zu_ne]; exact ht15) (by rw [e51, e46, e41]; simp (disch := decide) only [zu_ne]; exact h19) (by rw [e51, e46, e41]; simp (disch := decide) only [zu_ne]; exact h1x) (by subst e41 e46 e51; exact hC.trans (mCpy_step (by omega))) hP hS (lv_sub hl [1, 2, 3, 4, 5, 0] rfl)
set_option maxHeartbeats 4000000 in
set_option maxRecDepth 100000 in
theorem kX5_madeT (l : Launch) {D : va_G} {a : Nat → Nat} {cI cZ : ClassId} (σ : Zt) (hR : rgM σ) (κ : Zt) (hM : RR κ σ) (hG : kMid κ) (x : Int) (v : Int) (x0 : 0 ≤ x) (x1 : x < 6) (v0 : 0 ≤ v) (v1 : v < 127) (hT : κ 1 10 < 400) (κ0 F : Zt) (be K : Int) (hκ : κ = kCoinS κ0 x.toNat) (hG0 : kMid κ0) (hF : rgS F) (hK : kFound κ0 F x.toNat (κ 1 10).toNat be K) (hbe : kSg κ0 be) (hdp : σ 0 32 = K) (hmh : mHas σ F (κ 1 10) (K + 1)) (gd : ∀ r : Nat, r < 6 → gR κ0 r) : zc l D vwCl (tyM cI cZ) 28 (layM cI cZ a) a yX5_made wsX5_made ({ frames := 3, cells := 0, slots := 0, locals := 70 }) [.ref (a 0), .int (jI x), .int (jI 0), .int (jI v), .int (jI (-1)), .int (jI (-1))] σ (fun r_ u_ => r_ = jI (κ 1 10) ∧ rgM u_ ∧ RR (kSendTo (κ 1 10) x.toNat 6 0 (kCarry (kAdd (kInsert F (κ 1 10) be) x.toNat (κ (21 + 6 * x.toNat) x.toNat + 1) (κ (20 + 6 * x.toNat) 4 + 1) 0 v (κ 1 10) (κ 1 10)) x.toNat (κ 1 10))) u_ ∧ kMid (kSendTo (κ 1 10) x.toNat 6 0 (kCarry (kAdd (kInsert F (κ 1 10) be) x.toNat (κ (21 + 6 * x.toNat) x.toNat + 1) (κ (20 + 6 * x.toNat) 4 + 1) 0 v (κ 1 10) (κ 1 10)) x.toNat (κ 1 10)))) := by
  refine zc_of (cc := cX5_made) (maxL := 9) (ret := some .int) (own := RX5) (by decide) rfl rfl (Nat.le_of_ble_eq_true rfl) rfl ?_
  intro p e s m below meth c A ls C X hP hS hl
  have bT := rgS_1_10 hG.1
  have bP := rgS_11_4 hG.1
  have bPT := hG.e.1
  have bx := rgS_21 hG.1 (r := x.toNat) (by omega) x.toNat
  have by_ := rgS_20_4 hG.1 (r := x.toNat) (by omega)
  have ba := hG.a.2 x.toNat (by omega)
  have bK := hK.1
  refine zg_aload_n C dX5_made_0 rfl (lv_at hl 0 rfl) ?_
  refine zg_get (j := 1) C X hP (by decide) lyM_0 rfl (zmem uwX5) (by decide) (C.tb flX5_135) (fun _ h9 => h9) rfl dX5_made_1 ?_
  rw [rr_0_1 hM]
  have b_54 := rgS_1_10 hG.1
  have b_55 := rgM_0_1 hR
  refine zg_istore (lv' := [(6, .int (jI (κ 1 10))), (0, .ref (a 0)), (1, .int (jI x)), (2, .int (jI 0)), (3, .int (jI v)), (4, .int (jI (-1))), (5, .int (jI (-1)))]) C dX5_made_4 hl (by decide) rfl (fun ls hl => ?_)
  refine zg_aload_n C dX5_made_6 rfl (lv_at hl 1 rfl) ?_
  refine zg_get (j := 2) C X hP (by decide) lyM_0 rfl (zmem uwX5) (by decide) (C.tb flX5_13) (fun _ h9 => h9) rfl dX5_made_7 ?_
  refine zg_iload C dX5_made_10 (lv_at hl 0 rfl) ?_
  refine zg_iload_n C dX5_made_12 rfl (lv_at hl 2 rfl) ?_
  refine zg_iast (t0 := 0) C X hP hS (by decide) (fun x => lyM_1) rfl (by decide) (by omega) (by omega) dX5_made_13 (fun H locs hP hS => ?_)
  obtain ⟨σ56, e57⟩ : ∃ z_ : Zt, z_ = zu σ 1 (κ 1 10).toNat x := ⟨_, rfl⟩
  rw [← e57] at hP
  have w_59 : σ56 1 (κ 1 10).toNat = x := by rw [e57]; exact zu_same _ _ _ _
  have hR58 : rgM σ56 := by rw [e57]; exact rzM_1 hR (by omega) (by omega)
  refine zg_aload_n C dX5_made_14 rfl (lv_at hl 1 rfl) ?_
  refine zg_get (j := 3) C X hP (by decide) lyM_0 rfl (zmem uwX5) (by decide) (C.tb flX5_17) (fun _ h9 => h9) rfl dX5_made_15 ?_
  refine zg_iload C dX5_made_18 (lv_at hl 0 rfl) ?_
  refine zg_aload_n C dX5_made_20 rfl (lv_at hl 1 rfl) ?_
  refine zg_get (j := 21) C X hP (by decide) lyM_0 rfl (zmem uwX5) (by decide) (C.tb flX5_69) (fun _ h9 => h9) rfl dX5_made_21 ?_
  refine zg_bipush C dX5_made_24 (by decide) ?_
  refine zg_iload_n C dX5_made_26 rfl (lv_at hl 2 rfl) ?_
  refine zg_imul C dX5_made_27 ?_
  refine zg_iload_n C dX5_made_28 rfl (lv_at hl 2 rfl) ?_
  refine zg_iadd C dX5_made_29 ?_
  refine zg_iald (t0 := 0) C X hP (by decide) lyM_19 rfl (by decide) (by omega) (by omega) dX5_made_30 ?_
  have b_60 := rgM_19 hR58 (((6 * x) + x).toNat)
  rw [show σ56 19 ((6 * x) + x).toNat = κ (21 + 6 * x.toNat) x.toNat from (by rw [e57, zu_ne (by decide), rr_19 hM x0 x1 (by omega) (by omega)])]
  refine zg_iconst C dX5_made_31 ?_
  refine zg_iadd C dX5_made_32 ?_
  refine zg_iast (t0 := 0) C X hP hS (by decide) (fun x => lyM_2) rfl (by decide) (by omega) (by omega) dX5_made_33 (fun H locs hP hS => ?_)
  obtain ⟨σ61, e62⟩ : ∃ z_ : Zt, z_ = zu σ56 2 (κ 1 10).toNat ((κ (21 + 6 * x.toNat) x.toNat) + 1) := ⟨_, rfl⟩
  rw [← e62] at hP
  have w_64 : σ61 2 (κ 1 10).toNat = (κ (21 + 6 * x.toNat) x.toNat) + 1 := by rw [e62]; exact zu_same _ _ _ _
  have hR63 : rgM σ61 := by rw [e62]; exact rzM_2 hR58 (by omega) (by omega)
  refine zg_aload_n C dX5_made_34 rfl (lv_at hl 1 rfl) ?_
  refine zg_get (j := 4) C X hP (by decide) lyM_0 rfl (zmem uwX5) (by decide) (C.tb flX5_20) (fun _ h9 => h9) rfl dX5_made_35 ?_
  refine zg_iload C dX5_made_38 (lv_at hl 0 rfl) ?_
  refine zg_aload_n C dX5_made_40 rfl (lv_at hl 1 rfl) ?_
  refine zg_get (j := 22) C X hP (by decide) lyM_0 rfl (zmem uwX5) (by decide) (C.tb flX5_72) (fun _ h9 => h9) rfl dX5_made_41 ?_
  refine zg_iload_n C dX5_made_44 rfl (lv_at hl 2 rfl) ?_
  refine zg_iald (t0 := 0) C X hP (by decide) lyM_20 rfl (by decide) (by omega) (by omega) dX5_made_45 ?_
  have b_65 := rgM_20 hR63 ((x).toNat)
  rw [show σ61 20 (x).toNat = κ (20 + 6 * x.toNat) 4 from (by rw [e62, e57, zu_ne (by decide), zu_ne (by decide), rr_20 hM x0 x1])]
  refine zg_iconst C dX5_made_46 ?_
  refine zg_iadd C dX5_made_47 ?_
  refine zg_iast (t0 := 0) C X hP hS (by decide) (fun x => lyM_3) rfl (by decide) (by omega) (by omega) dX5_made_48 (fun H locs hP hS => ?_)
  obtain ⟨σ66, e67⟩ : ∃ z_ : Zt, z_ = zu σ61 3 (κ 1 10).toNat ((κ (20 + 6 * x.toNat) 4) + 1) := ⟨_, rfl⟩
  rw [← e67] at hP
  have w_69 : σ66 3 (κ 1 10).toNat = (κ (20 + 6 * x.toNat) 4) + 1 := by rw [e67]; exact zu_same _ _ _ _
  have hR68 : rgM σ66 := by rw [e67]; exact rzM_3 hR63 (by omega) (by omega)
  refine zg_aload_n C dX5_made_49 rfl (lv_at hl 1 rfl) ?_
  refine zg_get (j := 5) C X hP (by decide) lyM_0 rfl (zmem uwX5) (by decide) (C.tb flX5_23) (fun _ h9 => h9) rfl dX5_made_50 ?_
  refine zg_iload C dX5_made_53 (lv_at hl 0 rfl) ?_
  refine zg_iload_n C dX5_made_55 rfl (lv_at hl 3 rfl) ?_
  refine zg_iast (t0 := 0) C X hP hS (by decide) (fun x => lyM_4) rfl (by decide) (by omega) (by omega) dX5_made_56 (fun H locs hP hS => ?_)
  obtain ⟨σ70, e71⟩ : ∃ z_ : Zt, z_ = zu σ66 4 (κ 1 10).toNat 0 := ⟨_, rfl⟩
  rw [← e71] at hP
  have w_73 : σ70 4 (κ 1 10).toNat = 0 := by rw [e71]; exact zu_same _ _ _ _
  have hR72 : rgM σ70 := by rw [e71]; exact rzM_4 hR68 (by omega) (by omega)
  refine zg_aload_n C dX5_made_57 rfl (lv_at hl 1 rfl) ?_
  refine zg_get (j := 6) C X hP (by decide) lyM_0 rfl (zmem uwX5) (by decide) (C.tb flX5_26) (fun _ h9 => h9) rfl dX5_made_58 ?_
  refine zg_iload C dX5_made_61 (lv_at hl 0 rfl) ?_
  refine zg_iload_n C dX5_made_63 rfl (lv_at hl 4 rfl) ?_
  refine zg_iast (t0 := 0) C X hP hS (by decide) (fun x => lyM_5) rfl (by decide) (by omega) (by omega) dX5_made_64 (fun H locs hP hS => ?_)
  obtain ⟨σ74, e75⟩ : ∃ z_ : Zt, z_ = zu σ70 5 (κ 1 10).toNat v := ⟨_, rfl⟩
  rw [← e75] at hP
  have w_77 : σ74 5 (κ 1 10).toNat = v := by rw [e75]; exact zu_same _ _ _ _
  have hR76 : rgM σ74 := by rw [e75]; exact rzM_5 hR72 (by omega) (by omega)
  refine zg_aload_n C dX5_made_65 rfl (lv_at hl 1 rfl) ?_
  refine zg_get (j := 7) C X hP (by decide) lyM_0 rfl (zmem uwX5) (by decide) (C.tb flX5_29) (fun _ h9 => h9) rfl dX5_made_66 ?_
  refine zg_iload C dX5_made_69 (lv_at hl 0 rfl) ?_
  refine zg_iload_n C dX5_made_71 rfl (lv_at hl 3 rfl) ?_
  refine zg_if_ne (tgt := 80) C (by omega) (by omega) dX5_made_72 (by decide) (fun c_78 => ?_) (fun c_78 => ?_)
  · exact absurd c_78 (by decide)
  · refine zg_iload C dX5_made_75 (lv_at hl 0 rfl) ?_
    refine zg_goto (tgt := 82) C dX5_made_77 (by decide) ?_
    refine zg_iast (t0 := 0) C X hP hS (by decide) (fun x => lyM_6) rfl (by decide) (by omega) (by omega) dX5_made_82 (fun H locs hP hS => ?_)
    obtain ⟨σ79, e80⟩ : ∃ z_ : Zt, z_ = zu σ74 6 (κ 1 10).toNat (κ 1 10) := ⟨_, rfl⟩
    rw [← e80] at hP
    have w_82 : σ79 6 (κ 1 10).toNat = κ 1 10 := by rw [e80]; exact zu_same _ _ _ _
    have hR81 : rgM σ79 := by rw [e80]; exact rzM_6 hR76 (by omega) (by omega)
    refine zg_aload_n C dX5_made_83 rfl (lv_at hl 1 rfl) ?_
    refine zg_get (j := 8) C X hP (by decide) lyM_0 rfl (zmem uwX5) (by decide) (C.tb flX5_32) (fun _ h9 => h9) rfl dX5_made_84 ?_
    refine zg_iload C dX5_made_87 (lv_at hl 0 rfl) ?_
    refine zg_iload C dX5_made_89 (lv_at hl 6 rfl) ?_
    refine zg_iast (t0 := 0) C X hP hS (by decide) (fun x => lyM_7) rfl (by decide) (by omega) (by omega) dX5_made_91 (fun H locs hP hS => ?_)
    obtain ⟨σ83, e84⟩ : ∃ z_ : Zt, z_ = zu σ79 7 (κ 1 10).toNat (-1) := ⟨_, rfl⟩
    rw [← e84] at hP
    have w_86 : σ83 7 (κ 1 10).toNat = (-1) := by rw [e84]; exact zu_same _ _ _ _
    have hR85 : rgM σ83 := by rw [e84]; exact rzM_7 hR81 (by omega) (by omega)
    refine zg_aload_n C dX5_made_92 rfl (lv_at hl 1 rfl) ?_
    refine zg_get (j := 9) C X hP (by decide) lyM_0 rfl (zmem uwX5) (by decide) (C.tb flX5_35) (fun _ h9 => h9) rfl dX5_made_93 ?_
    refine zg_iload C dX5_made_96 (lv_at hl 0 rfl) ?_
    refine zg_iconst C dX5_made_98 ?_
    refine zg_zast (t0 := 1) (b := false) C X hP hS (by decide) (fun x => lyM_8) rfl (by decide) (by omega) (by omega) dX5_made_99 (fun H locs hP hS => ?_)
    have b_87 := bI_01 false
    obtain ⟨σ88, e89⟩ : ∃ z_ : Zt, z_ = zu σ83 8 (κ 1 10).toNat (bI false) := ⟨_, rfl⟩
    rw [← e89] at hP
    have w_91 : σ88 8 (κ 1 10).toNat = bI false := by rw [e89]; exact zu_same _ _ _ _
    have hR90 : rgM σ88 := by rw [e89]; exact rzM_8 hR85 (by omega) (by omega)
    refine zg_aload_n C dX5_made_100 rfl (lv_at hl 1 rfl) ?_
    refine zg_get (j := 10) C X hP (by decide) lyM_0 rfl (zmem uwX5) (by decide) (C.tb flX5_39) (fun _ h9 => h9) rfl dX5_made_101 ?_
    refine zg_iload C dX5_made_104 (lv_at hl 0 rfl) ?_
    refine zg_iconst C dX5_made_106 ?_
    refine zg_zast (t0 := 1) (b := false) C X hP hS (by decide) (fun x => lyM_9) rfl (by decide) (by omega) (by omega) dX5_made_107 (fun H locs hP hS => ?_)
    have b_92 := bI_01 false
    obtain ⟨σ93, e94⟩ : ∃ z_ : Zt, z_ = zu σ88 9 (κ 1 10).toNat (bI false) := ⟨_, rfl⟩
    rw [← e94] at hP
    have w_96 : σ93 9 (κ 1 10).toNat = bI false := by rw [e94]; exact zu_same _ _ _ _
    have hR95 : rgM σ93 := by rw [e94]; exact rzM_9 hR90 (by omega) (by omega)
    refine zg_iload_n C dX5_made_108 rfl (lv_at hl 3 rfl) ?_
    refine zg_if_ne (tgt := 207) C (by omega) (by omega) dX5_made_109 (by decide) (fun c_97 => ?_) (fun c_97 => ?_)
    · exact absurd c_97 (by decide)
    · refine zg_aload_n C dX5_made_112 rfl (lv_at hl 1 rfl) ?_
      refine zg_get (j := 11) C X hP (by decide) lyM_0 rfl (zmem uwX5) (by decide) (C.tb flX5_42) (fun _ h9 => h9) rfl dX5_made_113 ?_
      refine zg_iload C dX5_made_116 (lv_at hl 0 rfl) ?_
      refine zg_aload_n C dX5_made_118 rfl (lv_at hl 1 rfl) ?_
      refine zg_get (j := 32) C X hP (by decide) lyM_0 rfl (zmem uwX5) (by decide) (C.tb flX5_116) (fun _ h9 => h9) rfl dX5_made_119 ?_
      have b_98 := rgM_0_32 hR95
      rw [show σ93 0 32 = K from (by rw [e94, e89, e84, e80, e75, e71, e67, e62, e57]; simp (disch := decide) only [zu_ne]; exact hdp)]
      refine zg_iast (t0 := 0) C X hP hS (by decide) (fun x => lyM_10) rfl (by decide) (by omega) (by omega) dX5_made_122 (fun H locs hP hS => ?_)
      obtain ⟨σ99, e100⟩ : ∃ z_ : Zt, z_ = zu σ93 10 (κ 1 10).toNat K := ⟨_, rfl⟩
      rw [← e100] at hP
      have w_102 : σ99 10 (κ 1 10).toNat = K := by rw [e100]; exact zu_same _ _ _ _
      have hR101 : rgM σ99 := by rw [e100]; exact rzM_10 hR95 (by omega) (by omega)
      refine zg_iconst C dX5_made_123 ?_
      refine zg_istore (lv' := [(7, .int (jI 0)), (6, .int (jI (κ 1 10))), (0, .ref (a 0)), (1, .int (jI x)), (2, .int (jI 0)), (3, .int (jI v)), (4, .int (jI (-1))), (5, .int (jI (-1)))]) C dX5_made_124 hl (by decide) rfl (fun ls hl => ?_)
      exact lpX5_made_126T σ hR κ hM hG x v x0 x1 v0 v1 hT κ0 F be K hκ hG0 hF hK hbe hdp hmh gd C X 14 0 σ99 _ _ _ (by omega) hR101 (by omega) (by omega) (by rw [e100, e94, e89, e84, e80, e75, e71, e67, e62, e57]; simp (disch := decide) only [zu_ne]; exact hdp) (by rw [e100, e94, e89, e84, e80, e75, e71, e67, e62, e57]; simp (disch := decide) only [zu_ne]; exact rr_0_1 hM) (by rw [e100, e94, e89, e84, e80, e75, e71, e67, e62, e57]; simp (disch := decide) only [zu_ne]; exact rr_0_15 hM) (by rw [e100, e94, e89, e84, e80, e75, e71, e67, e62, e57]; simp (disch := decide) only [zu_ne]) (by rw [e100, e94, e89, e84, e80, e75, e71, e67, e62, e57]; simp (disch := decide) only [zu_ne, zu_same]) (by subst e57 e62 e67 e71 e75 e80 e84 e89 e94 e100; rfl) hP hS (lv_sub hl [2, 3, 4, 5, 1, 0] rfl)
set_option maxHeartbeats 4000000 in
set_option maxRecDepth 100000 in
theorem kX5_typeOne (l : Launch) {D : va_G} {a : Nat → Nat} {cI cZ : ClassId} (σ : Zt) (hR : rgM σ) (κ : Zt) (hM : RR κ σ) (hG : kMid κ) (x : Int) (q : Int) (v : Int) (x0 : 0 ≤ x) (x1 : x < 6) (q0 : 0 ≤ q) (q1 : q ≤ 20000) (v0 : 0 ≤ v) (v1 : v < 127) (gd : ∀ r : Nat, r < 6 → gR κ r) : zc l D vwCl (tyM cI cZ) 28 (layM cI cZ a) a yX5_typeOne wsX5_typeOne ({ frames := 4, cells := 0, slots := 0, locals := 98 }) [.ref (a 0), .int (jI x), .int (jI q), .int (jI v)] σ (fun r_ u_ => r_ = jI (kPutR κ x.toNat q) ∧ rgM u_ ∧ RR (kPutS κ x.toNat q v) u_ ∧ kMid (kPutS κ x.toNat q v)) := by
  refine zc_of (cc := cX5_typeOne) (maxL := 5) (ret := some .int) (own := RX5) (by decide) rfl rfl (Nat.le_of_ble_eq_true rfl) rfl ?_
  intro p e s m below meth c A ls C X hP hS hl
  have bT := rgS_1_10 hG.1
  have bP := rgS_11_4 hG.1
  have bPT := hG.e.1
  refine zg_aload_n C dX5_typeOne_0 rfl (lv_at hl 0 rfl) ?_
  refine zg_get (j := 1) C X hP (by decide) lyM_0 rfl (zmem uwX5) (by decide) (C.tb flX5_135) (fun _ h9 => h9) rfl dX5_typeOne_1 ?_
  rw [rr_0_1 hM]
  have b_1 := rgS_1_10 hG.1
  have b_2 := rgM_0_1 hR
  refine zg_sipush C dX5_typeOne_4 (by decide) ?_
  refine zg_icmp_ne (tgt := 13) C (by omega) (by omega) (by omega) (by omega) dX5_typeOne_7 (by decide) (fun c_3 => ?_) (fun c_3 => ?_)
  · refine zg_iload_n C dX5_typeOne_13 rfl (lv_at hl 2 rfl) ?_
    refine zg_if_ne (tgt := 21) C (by omega) (by omega) dX5_typeOne_14 (by decide) (fun c_4 => ?_) (fun c_4 => ?_)
    · refine zg_aload_n C dX5_typeOne_21 rfl (lv_at hl 0 rfl) ?_
      refine zg_iload_n C dX5_typeOne_22 rfl (lv_at hl 1 rfl) ?_
      refine zg_iload_n C dX5_typeOne_23 rfl (lv_at hl 2 rfl) ?_
      refine zg_iconst C dX5_typeOne_24 ?_
      refine zg_isub C dX5_typeOne_25 ?_
      refine zg_callV C X hP hS (kX5_signAt l σ hR κ hM hG x (q - 1) (by omega) (by omega) (by omega) (by omega)) (cwV 2 C.ts (zgV mlX5_162 imX5_signAt slX5_signAt iniX5 cdX5_signAt) rfl rfl rfl (by decide +kernel) ⟨Nat.le_of_ble_eq_true rfl, Nat.le_of_ble_eq_true rfl⟩) (by decide) lyM_0 rfl rfl rfl hl.1 rfl (Nat.le_of_ble_eq_true rfl) dX5_typeOne_26 ⟨Nat.zero_le _, Nat.zero_le _⟩ (fun r_6 σ5 H locs q7 hP hS => ?_)
      obtain ⟨rfl, q7⟩ := q7
      have b_8 := kSignAt_rg hG.1 x.toNat (q - 1)
      rw [q7] at hP
      refine zg_istore (lv' := [(4, .int (jI (kSignAt κ x.toNat (q - 1)))), (0, .ref (a 0)), (1, .int (jI x)), (2, .int (jI q)), (3, .int (jI v))]) C dX5_typeOne_29 hl (by decide) rfl (fun ls hl => ?_)
      have hp : kBefore κ x.toNat q = (kSignAt κ x.toNat (q - 1)) := by unfold kBefore; first | (rw [if_pos (by omega)]; done) | (rw [if_neg (by omega)]; done)
      have hsg : kSg κ (kSignAt κ x.toNat (q - 1)) := by rw [← hp]; exact kBefore_sg hG _ _
      have hbh := kBehind_rgT hG (r := x.toNat) hsg
      have hpr : -1 ≤ (kSignAt κ x.toNat (q - 1)) ∧ (kSignAt κ x.toNat (q - 1)) < 400 := by rcases hsg with h8 | h8 <;> omega
      refine zg_aload_n C dX5_typeOne_31 rfl (lv_at hl 1 rfl) ?_
      refine zg_iload_n C dX5_typeOne_32 rfl (lv_at hl 2 rfl) ?_
      refine zg_aload_n C dX5_typeOne_33 rfl (lv_at hl 1 rfl) ?_
      refine zg_get (j := 21) C X hP (by decide) lyM_0 rfl (zmem uwX5) (by decide) (C.tb flX5_69) (fun _ h9 => h9) rfl dX5_typeOne_34 ?_
      refine zg_bipush C dX5_typeOne_37 (by decide) ?_
      refine zg_iload_n C dX5_typeOne_39 rfl (lv_at hl 2 rfl) ?_
      refine zg_imul C dX5_typeOne_40 ?_
      refine zg_iload_n C dX5_typeOne_41 rfl (lv_at hl 2 rfl) ?_
      refine zg_iadd C dX5_typeOne_42 ?_
      refine zg_iald (t0 := 0) C X hP (by decide) lyM_19 rfl (by decide) (by omega) (by omega) dX5_typeOne_43 ?_
      rw [rr_19 hM (x := x) (d := x) (by omega) (by omega) (by omega) (by omega)]
      have b_9 := rgS_21 hG.1 (r := x.toNat) (by omega) x.toNat
      have b_10 := rgM_19 hR (((6 * x) + x).toNat)
      refine zg_iconst C dX5_typeOne_44 ?_
      refine zg_iadd C dX5_typeOne_45 ?_
      refine zg_iload C dX5_typeOne_46 (lv_at hl 0 rfl) ?_
      refine zg_aload_n C dX5_typeOne_48 rfl (lv_at hl 1 rfl) ?_
      refine zg_iload_n C dX5_typeOne_49 rfl (lv_at hl 2 rfl) ?_
      refine zg_iload C dX5_typeOne_50 (lv_at hl 0 rfl) ?_
      refine zg_callV C X hP hS (kX5_nextOf l σ hR κ hM hG x (kSignAt κ x.toNat (q - 1)) (by omega) (by omega) (by omega) (by omega)) (cwV 2 C.ts (zgV mlX5_166 imX5_nextOf slX5_nextOf iniX5 cdX5_nextOf) rfl rfl rfl (by decide +kernel) ⟨Nat.le_of_ble_eq_true rfl, Nat.le_of_ble_eq_true rfl⟩) (by decide) lyM_0 rfl rfl rfl hl.1 rfl (Nat.le_of_ble_eq_true rfl) dX5_typeOne_52 ⟨Nat.zero_le _, Nat.zero_le _⟩ (fun r_12 σ11 H locs q13 hP hS => ?_)
      obtain ⟨rfl, q13⟩ := q13
      have b_14 := kBehind_rg hG.1 x.toNat (kSignAt κ x.toNat (q - 1))
      rw [q13] at hP
      refine zg_callV C X hP hS (kX5_findsPath l σ hR κ hM hG x ((κ (21 + 6 * x.toNat) x.toNat) + 1) (kSignAt κ x.toNat (q - 1)) (kBehind κ x.toNat (kSignAt κ x.toNat (q - 1))) (by omega) (by omega) rfl (by assumption) (by omega) (by omega) (by omega)) (cwV 4 C.ts (zgV mlX5_169 imX5_findsPath slX5_findsPath iniX5 cdX5_findsPath) rfl rfl rfl (by decide +kernel) ⟨Nat.le_of_ble_eq_true rfl, Nat.le_of_ble_eq_true rfl⟩) (by decide) lyM_0 rfl rfl rfl hl.1 rfl (Nat.le_of_ble_eq_true rfl) dX5_typeOne_55 ⟨Nat.zero_le _, Nat.zero_le _⟩ (fun r_16 σ15 H locs q17 hP hS => ?_)
      obtain ⟨rfl, q17⟩ := q17
      obtain ⟨hR18, hFd⟩ := q17
      refine zg_ifneB (tgt := 64) C dX5_typeOne_58 (by decide) (fun c_19 => ?_) (fun c_19 => ?_)
      · have hc2 : (kPutF κ x.toNat q).1 = true := by unfold kPutF; rw [hp]; assumption
        have hFd2 := mFnd_t (B := kPutF κ x.toNat q) (by unfold kPutF; rw [hp]; exact hFd) hc2
        obtain ⟨K, hK⟩ := kPut_found hG (r := x.toNat) (T := (κ 1 10).toNat) (by omega) (by omega) (by omega) hc2
        have hKd : σ15 0 32 = K := by rw [hFd2.2.1, hK.2.1]; exact if_pos rfl
        obtain ⟨κ20, eκ20⟩ : ∃ z_ : Zt, z_ = kCoinS κ x.toNat := ⟨_, rfl⟩
        have hM21 : RR κ20 σ15 := by rw [eκ20]; exact hFd2.1
        have hG22 : kMid κ20 := by rw [eκ20]; exact kMid_str hG (by omega)
        have h1t : κ20 1 10 = κ 1 10 := by rw [eκ20, coin_ne (by omega)]
        have hK9 : kFound κ (kPutF κ x.toNat q).2 x.toNat (κ20 1 10).toNat (kBefore κ x.toNat q) K := by rw [h1t]; exact hK
        have hmh9 : mHas σ15 (kPutF κ x.toNat q).2 (κ20 1 10) (K + 1) := by rw [h1t, ← hKd]; exact hFd2.2.2.2
        refine zg_aload_n C dX5_typeOne_64 rfl (lv_at hl 1 rfl) ?_
        refine zg_iload_n C dX5_typeOne_65 rfl (lv_at hl 2 rfl) ?_
        refine zg_iconst C dX5_typeOne_66 ?_
        refine zg_iload_n C dX5_typeOne_67 rfl (lv_at hl 4 rfl) ?_
        refine zg_iconst C dX5_typeOne_68 ?_
        refine zg_iconst C dX5_typeOne_69 ?_
        refine zg_callV C X hP hS (kX5_madeT l σ15 hR18 κ20 hM21 hG22 x v (by omega) (by omega) (by omega) (by omega) (by omega) κ (kPutF κ x.toNat q).2 (kBefore κ x.toNat q) K eκ20 hG (kPut_rgF hG (by omega) (by omega)) hK9 (kBefore_sg hG _ _) hKd hmh9 gd) (cwV 5 C.ts (zgV mlX5_173 imX5_made slX5_made iniX5 cdX5_made) rfl rfl rfl (by decide +kernel) ⟨Nat.le_of_ble_eq_true rfl, Nat.le_of_ble_eq_true rfl⟩) (by decide) lyM_0 rfl rfl rfl hl.1 rfl (Nat.le_of_ble_eq_true rfl) dX5_typeOne_70 ⟨Nat.zero_le _, Nat.zero_le _⟩ (fun r_24 σ23 H locs q25 hP hS => ?_)
        obtain ⟨rfl, q25⟩ := q25
        obtain ⟨κ29, eκ29⟩ : ∃ z_ : Zt, z_ = kSendTo (κ20 1 10) x.toNat 6 0 (kCarry (kAdd (kInsert ((kPutF κ x.toNat q).2) (κ20 1 10) (kBefore κ x.toNat q)) x.toNat (κ20 (21 + 6 * x.toNat) x.toNat + 1) (κ20 (20 + 6 * x.toNat) 4 + 1) 0 v (κ20 1 10) (κ20 1 10)) x.toNat (κ20 1 10)) := ⟨_, rfl⟩
        rw [← eκ29] at q25
        obtain ⟨hR26, hM27, hG28⟩ := q25
        refine zg_iret C hP hS dX5_typeOne_73 ?_
        have h9 : kPutS κ x.toNat q v = κ29 := by rw [kPutS_typed hG (by omega) (by omega) hc2]; subst eκ20 eκ29; unfold kTyped; rw [coin_ne (show 1 ≠ 20 + 6 * x.toNat by omega), coin_ne (show 21 + 6 * x.toNat ≠ 20 + 6 * x.toNat by omega), coin_nj (by omega)]
        exact ⟨congrArg jI (by unfold kPutR; rw [if_neg (show ¬ kFull κ = true by unfold kFull; grind), if_pos hc2, eκ20]; exact congrFun (coin_ne (by omega)) 10), hR26, (by rw [h9]; exact hM27), (by rw [h9]; exact hG28)⟩
      · have hc2 : (kPutF κ x.toNat q).1 = false := by unfold kPutF; rw [hp]; assumption
        have hFd2 : mFnd κ x.toNat (kPutF κ x.toNat q) σ15 := by unfold kPutF; rw [hp]; exact hFd
        obtain ⟨κ30, eκ30⟩ : ∃ z_ : Zt, z_ = (kPutF κ x.toNat q).2 := ⟨_, rfl⟩
        have hM31 : RR κ30 σ15 := by rw [eκ30]; exact (kPut_fail hG (by omega) (by omega) hc2 (mFnd_f hFd2 hc2)).1
        have hG32 : kMid κ30 := by rw [eκ30]; exact (kPut_fail hG (by omega) (by omega) hc2 (mFnd_f hFd2 hc2)).2
        refine zg_bipush C dX5_typeOne_61 (by decide) ?_
        refine zg_iret C hP hS dX5_typeOne_63 ?_
        have h9 : kPutS κ x.toNat q v = κ30 := by rw [eκ30]; unfold kPutS; rw [if_neg (show ¬ kFull κ = true by unfold kFull; grind), if_neg (by rw [hc2]; decide)]
        exact ⟨congrArg jI (by unfold kPutR; rw [if_neg (show ¬ kFull κ = true by unfold kFull; grind), if_neg (by rw [hc2]; decide)]), hR18, (by rw [h9]; exact hM31), (by rw [h9]; exact hG32)⟩
    · refine zg_iconst C dX5_typeOne_17 ?_
      refine zg_goto (tgt := 29) C dX5_typeOne_18 (by decide) ?_
      refine zg_istore (lv' := [(4, .int (jI (-1))), (0, .ref (a 0)), (1, .int (jI x)), (2, .int (jI q)), (3, .int (jI v))]) C dX5_typeOne_29 hl (by decide) rfl (fun ls hl => ?_)
      have hp : kBefore κ x.toNat q = (-1) := by unfold kBefore; first | (rw [if_pos (by omega)]; done) | (rw [if_neg (by omega)]; done)
      have hsg : kSg κ (-1) := by rw [← hp]; exact kBefore_sg hG _ _
      have hbh := kBehind_rgT hG (r := x.toNat) hsg
      have hpr : -1 ≤ (-1) ∧ (-1) < 400 := by rcases hsg with h8 | h8 <;> omega
      refine zg_aload_n C dX5_typeOne_31 rfl (lv_at hl 1 rfl) ?_
      refine zg_iload_n C dX5_typeOne_32 rfl (lv_at hl 2 rfl) ?_
      refine zg_aload_n C dX5_typeOne_33 rfl (lv_at hl 1 rfl) ?_
      refine zg_get (j := 21) C X hP (by decide) lyM_0 rfl (zmem uwX5) (by decide) (C.tb flX5_69) (fun _ h9 => h9) rfl dX5_typeOne_34 ?_
      refine zg_bipush C dX5_typeOne_37 (by decide) ?_
      refine zg_iload_n C dX5_typeOne_39 rfl (lv_at hl 2 rfl) ?_
      refine zg_imul C dX5_typeOne_40 ?_
      refine zg_iload_n C dX5_typeOne_41 rfl (lv_at hl 2 rfl) ?_
      refine zg_iadd C dX5_typeOne_42 ?_
      refine zg_iald (t0 := 0) C X hP (by decide) lyM_19 rfl (by decide) (by omega) (by omega) dX5_typeOne_43 ?_
      rw [rr_19 hM (x := x) (d := x) (by omega) (by omega) (by omega) (by omega)]
      have b_33 := rgS_21 hG.1 (r := x.toNat) (by omega) x.toNat
      have b_34 := rgM_19 hR (((6 * x) + x).toNat)
      refine zg_iconst C dX5_typeOne_44 ?_
      refine zg_iadd C dX5_typeOne_45 ?_
      refine zg_iload C dX5_typeOne_46 (lv_at hl 0 rfl) ?_
      refine zg_aload_n C dX5_typeOne_48 rfl (lv_at hl 1 rfl) ?_
      refine zg_iload_n C dX5_typeOne_49 rfl (lv_at hl 2 rfl) ?_
      refine zg_iload C dX5_typeOne_50 (lv_at hl 0 rfl) ?_
      refine zg_callV C X hP hS (kX5_nextOf l σ hR κ hM hG x (-1) (by omega) (by omega) (by omega) (by omega)) (cwV 2 C.ts (zgV mlX5_166 imX5_nextOf slX5_nextOf iniX5 cdX5_nextOf) rfl rfl rfl (by decide +kernel) ⟨Nat.le_of_ble_eq_true rfl, Nat.le_of_ble_eq_true rfl⟩) (by decide) lyM_0 rfl rfl rfl hl.1 rfl (Nat.le_of_ble_eq_true rfl) dX5_typeOne_52 ⟨Nat.zero_le _, Nat.zero_le _⟩ (fun r_36 σ35 H locs q37 hP hS => ?_)
      obtain ⟨rfl, q37⟩ := q37
      have b_38 := kBehind_rg hG.1 x.toNat (-1)
      rw [q37] at hP
      refine zg_callV C X hP hS (kX5_findsPath l σ hR κ hM hG x ((κ (21 + 6 * x.toNat) x.toNat) + 1) (-1) (kBehind κ x.toNat (-1)) (by omega) (by omega) rfl (by assumption) (by omega) (by omega) (by omega)) (cwV 4 C.ts (zgV mlX5_169 imX5_findsPath slX5_findsPath iniX5 cdX5_findsPath) rfl rfl rfl (by decide +kernel) ⟨Nat.le_of_ble_eq_true rfl, Nat.le_of_ble_eq_true rfl⟩) (by decide) lyM_0 rfl rfl rfl hl.1 rfl (Nat.le_of_ble_eq_true rfl) dX5_typeOne_55 ⟨Nat.zero_le _, Nat.zero_le _⟩ (fun r_40 σ39 H locs q41 hP hS => ?_)
      obtain ⟨rfl, q41⟩ := q41
      obtain ⟨hR42, hFd⟩ := q41
      refine zg_ifneB (tgt := 64) C dX5_typeOne_58 (by decide) (fun c_43 => ?_) (fun c_43 => ?_)
      · have hc2 : (kPutF κ x.toNat q).1 = true := by unfold kPutF; rw [hp]; assumption
        have hFd2 := mFnd_t (B := kPutF κ x.toNat q) (by unfold kPutF; rw [hp]; exact hFd) hc2
        obtain ⟨K, hK⟩ := kPut_found hG (r := x.toNat) (T := (κ 1 10).toNat) (by omega) (by omega) (by omega) hc2
        have hKd : σ39 0 32 = K := by rw [hFd2.2.1, hK.2.1]; exact if_pos rfl
        obtain ⟨κ44, eκ44⟩ : ∃ z_ : Zt, z_ = kCoinS κ x.toNat := ⟨_, rfl⟩
        have hM45 : RR κ44 σ39 := by rw [eκ44]; exact hFd2.1
        have hG46 : kMid κ44 := by rw [eκ44]; exact kMid_str hG (by omega)
        have h1t : κ44 1 10 = κ 1 10 := by rw [eκ44, coin_ne (by omega)]
        have hK9 : kFound κ (kPutF κ x.toNat q).2 x.toNat (κ44 1 10).toNat (kBefore κ x.toNat q) K := by rw [h1t]; exact hK
        have hmh9 : mHas σ39 (kPutF κ x.toNat q).2 (κ44 1 10) (K + 1) := by rw [h1t, ← hKd]; exact hFd2.2.2.2
        refine zg_aload_n C dX5_typeOne_64 rfl (lv_at hl 1 rfl) ?_
        refine zg_iload_n C dX5_typeOne_65 rfl (lv_at hl 2 rfl) ?_
        refine zg_iconst C dX5_typeOne_66 ?_
        refine zg_iload_n C dX5_typeOne_67 rfl (lv_at hl 4 rfl) ?_
        refine zg_iconst C dX5_typeOne_68 ?_
        refine zg_iconst C dX5_typeOne_69 ?_
        refine zg_callV C X hP hS (kX5_madeT l σ39 hR42 κ44 hM45 hG46 x v (by omega) (by omega) (by omega) (by omega) (by omega) κ (kPutF κ x.toNat q).2 (kBefore κ x.toNat q) K eκ44 hG (kPut_rgF hG (by omega) (by omega)) hK9 (kBefore_sg hG _ _) hKd hmh9 gd) (cwV 5 C.ts (zgV mlX5_173 imX5_made slX5_made iniX5 cdX5_made) rfl rfl rfl (by decide +kernel) ⟨Nat.le_of_ble_eq_true rfl, Nat.le_of_ble_eq_true rfl⟩) (by decide) lyM_0 rfl rfl rfl hl.1 rfl (Nat.le_of_ble_eq_true rfl) dX5_typeOne_70 ⟨Nat.zero_le _, Nat.zero_le _⟩ (fun r_48 σ47 H locs q49 hP hS => ?_)
        obtain ⟨rfl, q49⟩ := q49
        obtain ⟨κ53, eκ53⟩ : ∃ z_ : Zt, z_ = kSendTo (κ44 1 10) x.toNat 6 0 (kCarry (kAdd (kInsert ((kPutF κ x.toNat q).2) (κ44 1 10) (kBefore κ x.toNat q)) x.toNat (κ44 (21 + 6 * x.toNat) x.toNat + 1) (κ44 (20 + 6 * x.toNat) 4 + 1) 0 v (κ44 1 10) (κ44 1 10)) x.toNat (κ44 1 10)) := ⟨_, rfl⟩
        rw [← eκ53] at q49
        obtain ⟨hR50, hM51, hG52⟩ := q49
        refine zg_iret C hP hS dX5_typeOne_73 ?_
        have h9 : kPutS κ x.toNat q v = κ53 := by rw [kPutS_typed hG (by omega) (by omega) hc2]; subst eκ44 eκ53; unfold kTyped; rw [coin_ne (show 1 ≠ 20 + 6 * x.toNat by omega), coin_ne (show 21 + 6 * x.toNat ≠ 20 + 6 * x.toNat by omega), coin_nj (by omega)]
        exact ⟨congrArg jI (by unfold kPutR; rw [if_neg (show ¬ kFull κ = true by unfold kFull; grind), if_pos hc2, eκ44]; exact congrFun (coin_ne (by omega)) 10), hR50, (by rw [h9]; exact hM51), (by rw [h9]; exact hG52)⟩
      · have hc2 : (kPutF κ x.toNat q).1 = false := by unfold kPutF; rw [hp]; assumption
        have hFd2 : mFnd κ x.toNat (kPutF κ x.toNat q) σ39 := by unfold kPutF; rw [hp]; exact hFd
        obtain ⟨κ54, eκ54⟩ : ∃ z_ : Zt, z_ = (kPutF κ x.toNat q).2 := ⟨_, rfl⟩
        have hM55 : RR κ54 σ39 := by rw [eκ54]; exact (kPut_fail hG (by omega) (by omega) hc2 (mFnd_f hFd2 hc2)).1
        have hG56 : kMid κ54 := by rw [eκ54]; exact (kPut_fail hG (by omega) (by omega) hc2 (mFnd_f hFd2 hc2)).2
        refine zg_bipush C dX5_typeOne_61 (by decide) ?_
        refine zg_iret C hP hS dX5_typeOne_63 ?_
        have h9 : kPutS κ x.toNat q v = κ54 := by rw [eκ54]; unfold kPutS; rw [if_neg (show ¬ kFull κ = true by unfold kFull; grind), if_neg (by rw [hc2]; decide)]
        exact ⟨congrArg jI (by unfold kPutR; rw [if_neg (show ¬ kFull κ = true by unfold kFull; grind), if_neg (by rw [hc2]; decide)]), hR42, (by rw [h9]; exact hM55), (by rw [h9]; exact hG56)⟩
  · refine zg_bipush C dX5_typeOne_10 (by decide) ?_
    refine zg_iret C hP hS dX5_typeOne_12 ?_
    have h9 : kPutS κ x.toNat q v = κ := by unfold kPutS; rw [if_pos (show kFull κ = true by unfold kFull; grind)]
    exact ⟨congrArg jI (by unfold kPutR; rw [if_pos (show kFull κ = true by unfold kFull; grind)]), hR, (by rw [h9]; exact hM), (by rw [h9]; exact hG)⟩
