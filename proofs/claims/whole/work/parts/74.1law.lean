set_option maxHeartbeats 4000000 in
set_option maxRecDepth 100000 in
theorem lwc_3 {p : Program} {l : Launch} {e : Env} {s : State} {m : MethodId} {args : Array Value} {below : List Frame} {meth : Method} {c : Code} {Q : State → Prop} {D : va_G} {cI cZ cR cJ : ClassId} {b L d : Nat} {xs : Nat → Int32} (F : lwE p l s m args below meth c D cI cZ cR cJ b L d xs) {κ μ : Zt} {i : Int} (i0 : 0 ≤ i) (i1 : i + 6 ≤ L) {H : Heap} {locs : List Loc} {ls : Array Slot} {cells slots : Nat} (hI : lwI D cI cZ cR cJ d s κ μ H locs) (hl : lv_has ls 7 [(0, .ref b), (1, .ref (aS d 0)), (2, .ref (aM d 0)), (3, .ref (d + 84)), (4, .int (jI i))]) (hcs : cells + 1 ≤ lwR.cells ∧ slots + 6 ≤ lwR.slots)
    (kk : lwK p l e s m args below meth c D cI cZ cR cJ b d i cells slots Q) : W p l e lwR s m args below meth c H locs cells slots Q (F0 m 287 ls []) := by
  obtain ⟨C, X1, X2, KJ, hz, hX, hb, hL, hds, hcw_sign, hcw_path, hcw_kinds, hl0⟩ := F
  have hbA : ¬ d ≤ b := by omega
  have hAold : ∀ q, q < s.heap.size → ¬ d ≤ q := fun q h => by omega
  obtain ⟨hG, hM, hRm, hP1, hP2, ⟨v0, hO⟩, hS⟩ := hI
  obtain ⟨w1, e1⟩ : ∃ w : Int, w = (xs (i + 1).toNat).toInt := ⟨_, rfl⟩
  have l1 : -2147483648 ≤ w1 := by rw [e1]; exact jI_lo _
  have u1 : w1 < 2147483648 := by rw [e1]; exact jI_hi _
  obtain ⟨w2, e2⟩ : ∃ w : Int, w = (xs (i + 2).toNat).toInt := ⟨_, rfl⟩
  have l2 : -2147483648 ≤ w2 := by rw [e2]; exact jI_lo _
  have u2 : w2 < 2147483648 := by rw [e2]; exact jI_hi _
  obtain ⟨w3, e3⟩ : ∃ w : Int, w = (xs (i + 3).toNat).toInt := ⟨_, rfl⟩
  have l3 : -2147483648 ≤ w3 := by rw [e3]; exact jI_lo _
  have u3 : w3 < 2147483648 := by rw [e3]; exact jI_hi _
  obtain ⟨w4, e4⟩ : ∃ w : Int, w = (xs (i + 4).toNat).toInt := ⟨_, rfl⟩
  have l4 : -2147483648 ≤ w4 := by rw [e4]; exact jI_lo _
  have u4 : w4 < 2147483648 := by rw [e4]; exact jI_hi _
  obtain ⟨w5, e5⟩ : ∃ w : Int, w = (xs (i + 5).toNat).toInt := ⟨_, rfl⟩
  have l5 : -2147483648 ≤ w5 := by rw [e5]; exact jI_lo _
  have u5 : w5 < 2147483648 := by rw [e5]; exact jI_hi _
  refine zg_aload_n C dL_law_287 rfl (lv_at hl 1 rfl) ?_
  refine zg_aload_n C dL_law_288 rfl (lv_at hl 0 rfl) ?_
  refine zg_iload C dL_law_289 (lv_at hl 4 rfl) ?_
  refine zg_iconst C dL_law_291 ?_
  refine zg_iadd C dL_law_292 ?_
  refine zj_sld C hX hb hbA hS hL (by omega) (by omega) dL_law_293 ?_
  rw [← e1]
  refine zg_aload_n C dL_law_294 rfl (lv_at hl 0 rfl) ?_
  refine zg_iload C dL_law_295 (lv_at hl 4 rfl) ?_
  refine zg_iconst C dL_law_297 ?_
  refine zg_iadd C dL_law_298 ?_
  refine zj_sld C hX hb hbA hS hL (by omega) (by omega) dL_law_299 ?_
  rw [← e2]
  refine zj_callV (k := 0) C X1 hP1 hP2 hO hS hdSM hdSO (kX4_erase l κ hG.1.1 w1 w2 (by omega) (by omega) (by omega) (by omega) (kGood_pre hG.1)) (cwV 2 C.ts (zgV mlL_39 imX4_erase slX4_erase iniX4 cdX4_erase) rfl rfl rfl (by decide +kernel) ⟨Nat.le_of_ble_eq_true rfl, Nat.le_of_ble_eq_true rfl⟩) (by decide) lyS_0 rfl rfl rfl hl.1 rfl (Nat.le_of_ble_eq_true rfl) dL_law_300 ⟨Nat.le_of_succ_le hcs.1, Nat.le_trans (Nat.le_add_right _ _) hcs.2⟩ (fun r u H locs q hP1 hP2 hO hS => ?_)
  obtain ⟨rfl, hu⟩ := q
  rw [hu] at hP1
  refine zg_aload_n C dL_law_303 rfl (lv_at hl 2 rfl) ?_
  refine zg_aload_n C dL_law_304 rfl (lv_at hl 0 rfl) ?_
  refine zg_iload C dL_law_305 (lv_at hl 4 rfl) ?_
  refine zg_iconst C dL_law_307 ?_
  refine zg_iadd C dL_law_308 ?_
  refine zj_sld C hX hb hbA hS hL (by omega) (by omega) dL_law_309 ?_
  rw [← e1]
  refine zg_aload_n C dL_law_310 rfl (lv_at hl 0 rfl) ?_
  refine zg_iload C dL_law_311 (lv_at hl 4 rfl) ?_
  refine zg_iconst C dL_law_313 ?_
  refine zg_iadd C dL_law_314 ?_
  refine zj_sld C hX hb hbA hS hL (by omega) (by omega) dL_law_315 ?_
  rw [← e2]
  refine zj_callV (k := 0) C X2 hP2 hP1 hO hS hdMS hdMO (kX5_erase l μ hRm κ hM hG.1 w1 w2 (by omega) (by omega) (by omega) (by omega) hG.2) (cwV 2 C.ts (zgV mlL_42 imX5_erase slX5_erase iniX5 cdX5_erase) rfl rfl rfl (by decide +kernel) ⟨Nat.le_of_ble_eq_true rfl, Nat.le_of_ble_eq_true rfl⟩) (by decide) lyM_0 rfl rfl rfl hl.1 rfl (Nat.le_of_ble_eq_true rfl) dL_law_316 ⟨Nat.le_of_succ_le hcs.1, Nat.le_trans (Nat.le_add_right _ _) hcs.2⟩ (fun r u2 H locs q hP2 hP1 hO hS => ?_)
  obtain ⟨rfl, hR2, hM2, -⟩ := q
  refine zj_same (tgt := 1074) C dL_law_319 (by decide) ?_
  exact kk (kEraS κ w1 w2) u2 _ _ _ _ _ (by omega) (by omega) ⟨(kGood_eraS hG w1 w2), hM2, hR2, hP1, hP2, ⟨_, hO⟩, hS⟩ (lv_sub hl [0, 1, 2, 3, 4] rfl)

set_option maxHeartbeats 4000000 in
set_option maxRecDepth 100000 in
theorem lwc_4 {p : Program} {l : Launch} {e : Env} {s : State} {m : MethodId} {args : Array Value} {below : List Frame} {meth : Method} {c : Code} {Q : State → Prop} {D : va_G} {cI cZ cR cJ : ClassId} {b L d : Nat} {xs : Nat → Int32} (F : lwE p l s m args below meth c D cI cZ cR cJ b L d xs) {κ μ : Zt} {i : Int} (i0 : 0 ≤ i) (i1 : i + 6 ≤ L) {H : Heap} {locs : List Loc} {ls : Array Slot} {cells slots : Nat} (hI : lwI D cI cZ cR cJ d s κ μ H locs) (hl : lv_has ls 7 [(0, .ref b), (1, .ref (aS d 0)), (2, .ref (aM d 0)), (3, .ref (d + 84)), (4, .int (jI i))]) (hcs : cells + 1 ≤ lwR.cells ∧ slots + 6 ≤ lwR.slots)
    (kk : lwK p l e s m args below meth c D cI cZ cR cJ b d i cells slots Q) : W p l e lwR s m args below meth c H locs cells slots Q (F0 m 324 ls []) := by
  obtain ⟨C, X1, X2, KJ, hz, hX, hb, hL, hds, hcw_sign, hcw_path, hcw_kinds, hl0⟩ := F
  have hbA : ¬ d ≤ b := by omega
  have hAold : ∀ q, q < s.heap.size → ¬ d ≤ q := fun q h => by omega
  obtain ⟨hG, hM, hRm, hP1, hP2, ⟨v0, hO⟩, hS⟩ := hI
  obtain ⟨w1, e1⟩ : ∃ w : Int, w = (xs (i + 1).toNat).toInt := ⟨_, rfl⟩
  have l1 : -2147483648 ≤ w1 := by rw [e1]; exact jI_lo _
  have u1 : w1 < 2147483648 := by rw [e1]; exact jI_hi _
  obtain ⟨w2, e2⟩ : ∃ w : Int, w = (xs (i + 2).toNat).toInt := ⟨_, rfl⟩
  have l2 : -2147483648 ≤ w2 := by rw [e2]; exact jI_lo _
  have u2 : w2 < 2147483648 := by rw [e2]; exact jI_hi _
  obtain ⟨w3, e3⟩ : ∃ w : Int, w = (xs (i + 3).toNat).toInt := ⟨_, rfl⟩
  have l3 : -2147483648 ≤ w3 := by rw [e3]; exact jI_lo _
  have u3 : w3 < 2147483648 := by rw [e3]; exact jI_hi _
  obtain ⟨w4, e4⟩ : ∃ w : Int, w = (xs (i + 4).toNat).toInt := ⟨_, rfl⟩
  have l4 : -2147483648 ≤ w4 := by rw [e4]; exact jI_lo _
  have u4 : w4 < 2147483648 := by rw [e4]; exact jI_hi _
  obtain ⟨w5, e5⟩ : ∃ w : Int, w = (xs (i + 5).toNat).toInt := ⟨_, rfl⟩
  have l5 : -2147483648 ≤ w5 := by rw [e5]; exact jI_lo _
  have u5 : w5 < 2147483648 := by rw [e5]; exact jI_hi _
  refine zg_aload_n C dL_law_324 rfl (lv_at hl 1 rfl) ?_
  refine zg_aload_n C dL_law_325 rfl (lv_at hl 0 rfl) ?_
  refine zg_iload C dL_law_326 (lv_at hl 4 rfl) ?_
  refine zg_iconst C dL_law_328 ?_
  refine zg_iadd C dL_law_329 ?_
  refine zj_sld C hX hb hbA hS hL (by omega) (by omega) dL_law_330 ?_
  rw [← e1]
  refine zj_callV (k := 0) C X1 hP1 hP2 hO hS hdSM hdSO (kX4_undo l κ hG.1.1 w1 (by omega) (by omega) (kGood_pre hG.1)) (cwV 1 C.ts (zgV mlL_43 imX4_undo slX4_undo iniX4 cdX4_undo) rfl rfl rfl (by decide +kernel) ⟨Nat.le_of_ble_eq_true rfl, Nat.le_of_ble_eq_true rfl⟩) (by decide) lyS_0 rfl rfl rfl hl.1 rfl (Nat.le_of_ble_eq_true rfl) dL_law_331 ⟨Nat.le_of_succ_le hcs.1, Nat.le_trans (Nat.le_add_right _ _) hcs.2⟩ (fun r u H locs q hP1 hP2 hO hS => ?_)
  obtain ⟨rfl, hu⟩ := q
  rw [hu] at hP1
  refine zg_aload_n C dL_law_334 rfl (lv_at hl 2 rfl) ?_
  refine zg_aload_n C dL_law_335 rfl (lv_at hl 0 rfl) ?_
  refine zg_iload C dL_law_336 (lv_at hl 4 rfl) ?_
  refine zg_iconst C dL_law_338 ?_
  refine zg_iadd C dL_law_339 ?_
  refine zj_sld C hX hb hbA hS hL (by omega) (by omega) dL_law_340 ?_
  rw [← e1]
  refine zj_callV (k := 0) C X2 hP2 hP1 hO hS hdMS hdMO (kX5_undo l μ hRm κ hM hG.1 w1 (by omega) (by omega) hG.2) (cwV 1 C.ts (zgV mlL_47 imX5_undo slX5_undo iniX5 cdX5_undo) rfl rfl rfl (by decide +kernel) ⟨Nat.le_of_ble_eq_true rfl, Nat.le_of_ble_eq_true rfl⟩) (by decide) lyM_0 rfl rfl rfl hl.1 rfl (Nat.le_of_ble_eq_true rfl) dL_law_341 ⟨Nat.le_of_succ_le hcs.1, Nat.le_trans (Nat.le_add_right _ _) hcs.2⟩ (fun r u2 H locs q hP2 hP1 hO hS => ?_)
  obtain ⟨rfl, hR2, hM2, -⟩ := q
  refine zj_same (tgt := 1074) C dL_law_344 (by decide) ?_
  exact kk (kUndS κ w1) u2 _ _ _ _ _ (by omega) (by omega) ⟨(kGood_undS hG w1), hM2, hR2, hP1, hP2, ⟨_, hO⟩, hS⟩ (lv_sub hl [0, 1, 2, 3, 4] rfl)

set_option maxHeartbeats 4000000 in
set_option maxRecDepth 100000 in
theorem lwc_5 {p : Program} {l : Launch} {e : Env} {s : State} {m : MethodId} {args : Array Value} {below : List Frame} {meth : Method} {c : Code} {Q : State → Prop} {D : va_G} {cI cZ cR cJ : ClassId} {b L d : Nat} {xs : Nat → Int32} (F : lwE p l s m args below meth c D cI cZ cR cJ b L d xs) {κ μ : Zt} {i : Int} (i0 : 0 ≤ i) (i1 : i + 6 ≤ L) {H : Heap} {locs : List Loc} {ls : Array Slot} {cells slots : Nat} (hI : lwI D cI cZ cR cJ d s κ μ H locs) (hl : lv_has ls 7 [(0, .ref b), (1, .ref (aS d 0)), (2, .ref (aM d 0)), (3, .ref (d + 84)), (4, .int (jI i))]) (hcs : cells + 1 ≤ lwR.cells ∧ slots + 6 ≤ lwR.slots)
    (kk : lwK p l e s m args below meth c D cI cZ cR cJ b d i cells slots Q) : W p l e lwR s m args below meth c H locs cells slots Q (F0 m 349 ls []) := by
  obtain ⟨C, X1, X2, KJ, hz, hX, hb, hL, hds, hcw_sign, hcw_path, hcw_kinds, hl0⟩ := F
  have hbA : ¬ d ≤ b := by omega
  have hAold : ∀ q, q < s.heap.size → ¬ d ≤ q := fun q h => by omega
  obtain ⟨hG, hM, hRm, hP1, hP2, ⟨v0, hO⟩, hS⟩ := hI
  obtain ⟨w1, e1⟩ : ∃ w : Int, w = (xs (i + 1).toNat).toInt := ⟨_, rfl⟩
  have l1 : -2147483648 ≤ w1 := by rw [e1]; exact jI_lo _
  have u1 : w1 < 2147483648 := by rw [e1]; exact jI_hi _
  obtain ⟨w2, e2⟩ : ∃ w : Int, w = (xs (i + 2).toNat).toInt := ⟨_, rfl⟩
  have l2 : -2147483648 ≤ w2 := by rw [e2]; exact jI_lo _
  have u2 : w2 < 2147483648 := by rw [e2]; exact jI_hi _
  obtain ⟨w3, e3⟩ : ∃ w : Int, w = (xs (i + 3).toNat).toInt := ⟨_, rfl⟩
  have l3 : -2147483648 ≤ w3 := by rw [e3]; exact jI_lo _
  have u3 : w3 < 2147483648 := by rw [e3]; exact jI_hi _
  obtain ⟨w4, e4⟩ : ∃ w : Int, w = (xs (i + 4).toNat).toInt := ⟨_, rfl⟩
  have l4 : -2147483648 ≤ w4 := by rw [e4]; exact jI_lo _
  have u4 : w4 < 2147483648 := by rw [e4]; exact jI_hi _
  obtain ⟨w5, e5⟩ : ∃ w : Int, w = (xs (i + 5).toNat).toInt := ⟨_, rfl⟩
  have l5 : -2147483648 ≤ w5 := by rw [e5]; exact jI_lo _
  have u5 : w5 < 2147483648 := by rw [e5]; exact jI_hi _
  refine zg_aload_n C dL_law_349 rfl (lv_at hl 1 rfl) ?_
  refine zg_aload_n C dL_law_350 rfl (lv_at hl 0 rfl) ?_
  refine zg_iload C dL_law_351 (lv_at hl 4 rfl) ?_
  refine zg_iconst C dL_law_353 ?_
  refine zg_iadd C dL_law_354 ?_
  refine zj_sld C hX hb hbA hS hL (by omega) (by omega) dL_law_355 ?_
  rw [← e1]
  refine zg_aload_n C dL_law_356 rfl (lv_at hl 0 rfl) ?_
  refine zg_iload C dL_law_357 (lv_at hl 4 rfl) ?_
  refine zg_iconst C dL_law_359 ?_
  refine zg_iadd C dL_law_360 ?_
  refine zj_sld C hX hb hbA hS hL (by omega) (by omega) dL_law_361 ?_
  rw [← e2]
  refine zg_aload_n C dL_law_362 rfl (lv_at hl 0 rfl) ?_
  refine zg_iload C dL_law_363 (lv_at hl 4 rfl) ?_
  refine zg_iconst C dL_law_365 ?_
  refine zg_iadd C dL_law_366 ?_
  refine zj_sld C hX hb hbA hS hL (by omega) (by omega) dL_law_367 ?_
  rw [← e3]
  refine zg_aload_n C dL_law_368 rfl (lv_at hl 0 rfl) ?_
  refine zg_iload C dL_law_369 (lv_at hl 4 rfl) ?_
  refine zg_iconst C dL_law_371 ?_
  refine zg_iadd C dL_law_372 ?_
  refine zj_sld C hX hb hbA hS hL (by omega) (by omega) dL_law_373 ?_
  rw [← e4]
  refine zg_aload_n C dL_law_374 rfl (lv_at hl 0 rfl) ?_
  refine zg_iload C dL_law_375 (lv_at hl 4 rfl) ?_
  refine zg_iconst C dL_law_377 ?_
  refine zg_iadd C dL_law_378 ?_
  refine zj_sld C hX hb hbA hS hL (by omega) (by omega) dL_law_379 ?_
  rw [← e5]
  refine zg_if_eq (tgt := 387) C (by omega) (by omega) dL_law_380 (by decide) (fun c_1 => ?_) (fun c_1 => ?_)
  · refine zg_iconst C dL_law_387 ?_
    refine zj_callV (k := 0) C X1 hP1 hP2 hO hS hdSM hdSO (kX4_mark l κ hG.1.1 w1 w2 w3 w4 false (by omega) (by omega) (by omega) (by omega) (by omega) (by omega) (by omega) (by omega) (kGood_pre hG.1)) (cwV 5 C.ts (zgV mlL_48 imX4_mark slX4_mark iniX4 cdX4_mark) rfl rfl rfl (by decide +kernel) ⟨Nat.le_of_ble_eq_true rfl, Nat.le_of_ble_eq_true rfl⟩) (by decide) lyS_0 rfl rfl rfl hl.1 rfl (Nat.le_of_ble_eq_true rfl) dL_law_388 ⟨Nat.le_of_succ_le hcs.1, Nat.le_trans (Nat.le_add_right _ _) hcs.2⟩ (fun r u H locs q hP1 hP2 hO hS => ?_)
    obtain ⟨rfl, hu⟩ := q
    rw [hu] at hP1
    refine zg_aload_n C dL_law_391 rfl (lv_at hl 2 rfl) ?_
    refine zg_aload_n C dL_law_392 rfl (lv_at hl 0 rfl) ?_
    refine zg_iload C dL_law_393 (lv_at hl 4 rfl) ?_
    refine zg_iconst C dL_law_395 ?_
    refine zg_iadd C dL_law_396 ?_
    refine zj_sld C hX hb hbA hS hL (by omega) (by omega) dL_law_397 ?_
    rw [← e1]
    refine zg_aload_n C dL_law_398 rfl (lv_at hl 0 rfl) ?_
    refine zg_iload C dL_law_399 (lv_at hl 4 rfl) ?_
    refine zg_iconst C dL_law_401 ?_
    refine zg_iadd C dL_law_402 ?_
    refine zj_sld C hX hb hbA hS hL (by omega) (by omega) dL_law_403 ?_
    rw [← e2]
    refine zg_aload_n C dL_law_404 rfl (lv_at hl 0 rfl) ?_
    refine zg_iload C dL_law_405 (lv_at hl 4 rfl) ?_
    refine zg_iconst C dL_law_407 ?_
    refine zg_iadd C dL_law_408 ?_
    refine zj_sld C hX hb hbA hS hL (by omega) (by omega) dL_law_409 ?_
    rw [← e3]
    refine zg_aload_n C dL_law_410 rfl (lv_at hl 0 rfl) ?_
    refine zg_iload C dL_law_411 (lv_at hl 4 rfl) ?_
    refine zg_iconst C dL_law_413 ?_
    refine zg_iadd C dL_law_414 ?_
    refine zj_sld C hX hb hbA hS hL (by omega) (by omega) dL_law_415 ?_
    rw [← e4]
    refine zg_aload_n C dL_law_416 rfl (lv_at hl 0 rfl) ?_
    refine zg_iload C dL_law_417 (lv_at hl 4 rfl) ?_
    refine zg_iconst C dL_law_419 ?_
    refine zg_iadd C dL_law_420 ?_
    refine zj_sld C hX hb hbA hS hL (by omega) (by omega) dL_law_421 ?_
    rw [← e5]
    refine zg_if_eq (tgt := 429) C (by omega) (by omega) dL_law_422 (by decide) (fun c_2 => ?_) (fun c_2 => ?_)
    · refine zg_iconst C dL_law_429 ?_
      refine zj_callV (k := 0) C X2 hP2 hP1 hO hS hdMS hdMO (kX5_mark l μ hRm κ hM hG.1 w1 w2 w3 w4 false (by omega) (by omega) (by omega) (by omega) (by omega) (by omega) (by omega) (by omega) hG.2) (cwV 5 C.ts (zgV mlL_52 imX5_mark slX5_mark iniX5 cdX5_mark) rfl rfl rfl (by decide +kernel) ⟨Nat.le_of_ble_eq_true rfl, Nat.le_of_ble_eq_true rfl⟩) (by decide) lyM_0 rfl rfl rfl hl.1 rfl (Nat.le_of_ble_eq_true rfl) dL_law_430 ⟨Nat.le_of_succ_le hcs.1, Nat.le_trans (Nat.le_add_right _ _) hcs.2⟩ (fun r u2 H locs q hP2 hP1 hO hS => ?_)
      obtain ⟨rfl, hR2, hM2, -⟩ := q
      refine zj_same (tgt := 1074) C dL_law_433 (by decide) ?_
      exact kk (kMarS κ w1 w2 w3 w4 false) u2 _ _ _ _ _ (by omega) (by omega) ⟨(kGood_marS hG w1 w2 w3 w4 false), hM2, hR2, hP1, hP2, ⟨_, hO⟩, hS⟩ (lv_sub hl [0, 1, 2, 3, 4] rfl)
    · exact absurd c_1 c_2
  · refine zg_iconst C dL_law_383 ?_
    refine zg_goto (tgt := 388) C dL_law_384 (by decide) ?_
    refine zj_callV (k := 0) C X1 hP1 hP2 hO hS hdSM hdSO (kX4_mark l κ hG.1.1 w1 w2 w3 w4 true (by omega) (by omega) (by omega) (by omega) (by omega) (by omega) (by omega) (by omega) (kGood_pre hG.1)) (cwV 5 C.ts (zgV mlL_48 imX4_mark slX4_mark iniX4 cdX4_mark) rfl rfl rfl (by decide +kernel) ⟨Nat.le_of_ble_eq_true rfl, Nat.le_of_ble_eq_true rfl⟩) (by decide) lyS_0 rfl rfl rfl hl.1 rfl (Nat.le_of_ble_eq_true rfl) dL_law_388 ⟨Nat.le_of_succ_le hcs.1, Nat.le_trans (Nat.le_add_right _ _) hcs.2⟩ (fun r u H locs q hP1 hP2 hO hS => ?_)
    obtain ⟨rfl, hu⟩ := q
    rw [hu] at hP1
    refine zg_aload_n C dL_law_391 rfl (lv_at hl 2 rfl) ?_
    refine zg_aload_n C dL_law_392 rfl (lv_at hl 0 rfl) ?_
    refine zg_iload C dL_law_393 (lv_at hl 4 rfl) ?_
    refine zg_iconst C dL_law_395 ?_
    refine zg_iadd C dL_law_396 ?_
    refine zj_sld C hX hb hbA hS hL (by omega) (by omega) dL_law_397 ?_
    rw [← e1]
    refine zg_aload_n C dL_law_398 rfl (lv_at hl 0 rfl) ?_
    refine zg_iload C dL_law_399 (lv_at hl 4 rfl) ?_
    refine zg_iconst C dL_law_401 ?_
    refine zg_iadd C dL_law_402 ?_
    refine zj_sld C hX hb hbA hS hL (by omega) (by omega) dL_law_403 ?_
    rw [← e2]
    refine zg_aload_n C dL_law_404 rfl (lv_at hl 0 rfl) ?_
    refine zg_iload C dL_law_405 (lv_at hl 4 rfl) ?_
    refine zg_iconst C dL_law_407 ?_
    refine zg_iadd C dL_law_408 ?_
    refine zj_sld C hX hb hbA hS hL (by omega) (by omega) dL_law_409 ?_
    rw [← e3]
    refine zg_aload_n C dL_law_410 rfl (lv_at hl 0 rfl) ?_
    refine zg_iload C dL_law_411 (lv_at hl 4 rfl) ?_
    refine zg_iconst C dL_law_413 ?_
    refine zg_iadd C dL_law_414 ?_
    refine zj_sld C hX hb hbA hS hL (by omega) (by omega) dL_law_415 ?_
    rw [← e4]
    refine zg_aload_n C dL_law_416 rfl (lv_at hl 0 rfl) ?_
    refine zg_iload C dL_law_417 (lv_at hl 4 rfl) ?_
    refine zg_iconst C dL_law_419 ?_
    refine zg_iadd C dL_law_420 ?_
    refine zj_sld C hX hb hbA hS hL (by omega) (by omega) dL_law_421 ?_
    rw [← e5]
    refine zg_if_eq (tgt := 429) C (by omega) (by omega) dL_law_422 (by decide) (fun c_3 => ?_) (fun c_3 => ?_)
    · exact absurd c_3 c_1
    · refine zg_iconst C dL_law_425 ?_
      refine zg_goto (tgt := 430) C dL_law_426 (by decide) ?_
      refine zj_callV (k := 0) C X2 hP2 hP1 hO hS hdMS hdMO (kX5_mark l μ hRm κ hM hG.1 w1 w2 w3 w4 true (by omega) (by omega) (by omega) (by omega) (by omega) (by omega) (by omega) (by omega) hG.2) (cwV 5 C.ts (zgV mlL_52 imX5_mark slX5_mark iniX5 cdX5_mark) rfl rfl rfl (by decide +kernel) ⟨Nat.le_of_ble_eq_true rfl, Nat.le_of_ble_eq_true rfl⟩) (by decide) lyM_0 rfl rfl rfl hl.1 rfl (Nat.le_of_ble_eq_true rfl) dL_law_430 ⟨Nat.le_of_succ_le hcs.1, Nat.le_trans (Nat.le_add_right _ _) hcs.2⟩ (fun r u2 H locs q hP2 hP1 hO hS => ?_)
      obtain ⟨rfl, hR2, hM2, -⟩ := q
      refine zj_same (tgt := 1074) C dL_law_433 (by decide) ?_
      exact kk (kMarS κ w1 w2 w3 w4 true) u2 _ _ _ _ _ (by omega) (by omega) ⟨(kGood_marS hG w1 w2 w3 w4 true), hM2, hR2, hP1, hP2, ⟨_, hO⟩, hS⟩ (lv_sub hl [0, 1, 2, 3, 4] rfl)
