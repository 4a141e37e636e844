set_option maxHeartbeats 4000000 in
set_option maxRecDepth 100000 in
theorem lwc_6 {p : Program} {l : Launch} {e : Env} {s : State} {m : MethodId} {args : Array Value} {below : List Frame} {meth : Method} {c : Code} {Q : State → Prop} {D : va_G} {cI cZ cR cJ : ClassId} {b L d : Nat} {xs : Nat → Int32} (F : lwE p l s m args below meth c D cI cZ cR cJ b L d xs) {κ μ : Zt} {i : Int} (i0 : 0 ≤ i) (i1 : i + 6 ≤ L) {H : Heap} {locs : List Loc} {ls : Array Slot} {cells slots : Nat} (hI : lwI D cI cZ cR cJ d s κ μ H locs) (hl : lv_has ls 7 [(0, .ref b), (1, .ref (aS d 0)), (2, .ref (aM d 0)), (3, .ref (d + 84)), (4, .int (jI i))]) (hcs : cells + 1 ≤ lwR.cells ∧ slots + 6 ≤ lwR.slots)
    (kk : lwK p l e s m args below meth c D cI cZ cR cJ b d i cells slots Q) : W p l e lwR s m args below meth c H locs cells slots Q (F0 m 438 ls []) := by
  obtain ⟨C, X1, X2, KJ, hz, hX, hb, hL, hds, hcw_sign, hcw_path, hcw_kinds, hl0⟩ := F
  have hbA : ¬ d ≤ b := by omega
  have hAold : ∀ q, q < s.heap.size → ¬ d ≤ q := fun q h => by omega
  obtain ⟨hG, hM, hRm, hP1, hP2, ⟨v0, hO⟩, hS⟩ := hI
  obtain ⟨w1, e1⟩ : ∃ w : Int, w = (xs (i + 1).toNat).toInt := ⟨_, rfl⟩
  have l1 : -2147483648 ≤ w1 := by rw [e1]; exact jI_lo _
  have u1 : w1 < 2147483648 := by rw [e1]; exact jI_hi _
  obtain ⟨w2, e2⟩ : ∃ w : Int, w = (xs (i + 2).toNat).toInt := ⟨_, rfl⟩
  have l2 : -2147483648 ≤ w2 := by rw [e2]; exact jI_lo _
  have u2 : w2 < 2147483648 := by rw [e2]; exact jI_hi _
  obtain ⟨w3, e3⟩ : ∃ w : Int, w = (xs (i + 3).toNat).toInt := ⟨_, rfl⟩
  have l3 : -2147483648 ≤ w3 := by rw [e3]; exact jI_lo _
  have u3 : w3 < 2147483648 := by rw [e3]; exact jI_hi _
  obtain ⟨w4, e4⟩ : ∃ w : Int, w = (xs (i + 4).toNat).toInt := ⟨_, rfl⟩
  have l4 : -2147483648 ≤ w4 := by rw [e4]; exact jI_lo _
  have u4 : w4 < 2147483648 := by rw [e4]; exact jI_hi _
  obtain ⟨w5, e5⟩ : ∃ w : Int, w = (xs (i + 5).toNat).toInt := ⟨_, rfl⟩
  have l5 : -2147483648 ≤ w5 := by rw [e5]; exact jI_lo _
  have u5 : w5 < 2147483648 := by rw [e5]; exact jI_hi _
  refine zg_aload_n C dL_law_438 rfl (lv_at hl 1 rfl) ?_
  refine zg_aload_n C dL_law_439 rfl (lv_at hl 0 rfl) ?_
  refine zg_iload C dL_law_440 (lv_at hl 4 rfl) ?_
  refine zg_iconst C dL_law_442 ?_
  refine zg_iadd C dL_law_443 ?_
  refine zj_sld C hX hb hbA hS hL (by omega) (by omega) dL_law_444 ?_
  rw [← e1]
  refine zj_callV (k := 0) C X1 hP1 hP2 hO hS hdSM hdSO (kX4_deliver l κ hG.1.1 w1 (by omega) (by omega) (kGood_pre hG.1)) (cwV 1 C.ts (zgV mlL_53 imX4_deliver slX4_deliver iniX4 cdX4_deliver) rfl rfl rfl (by decide +kernel) ⟨Nat.le_of_ble_eq_true rfl, Nat.le_of_ble_eq_true rfl⟩) (by decide) lyS_0 rfl rfl rfl hl.1 rfl (Nat.le_of_ble_eq_true rfl) dL_law_445 ⟨Nat.le_of_succ_le hcs.1, Nat.le_trans (Nat.le_add_right _ _) hcs.2⟩ (fun r u H locs q hP1 hP2 hO hS => ?_)
  obtain ⟨rfl, hu⟩ := q
  rw [hu] at hP1
  refine zg_aload_n C dL_law_448 rfl (lv_at hl 2 rfl) ?_
  refine zg_aload_n C dL_law_449 rfl (lv_at hl 0 rfl) ?_
  refine zg_iload C dL_law_450 (lv_at hl 4 rfl) ?_
  refine zg_iconst C dL_law_452 ?_
  refine zg_iadd C dL_law_453 ?_
  refine zj_sld C hX hb hbA hS hL (by omega) (by omega) dL_law_454 ?_
  rw [← e1]
  refine zj_callV (k := 0) C X2 hP2 hP1 hO hS hdMS hdMO (kX5_deliver l μ hRm κ hM hG.1 w1 (by omega) (by omega)) (cwV 1 C.ts (zgV mlL_56 imX5_deliver slX5_deliver iniX5 cdX5_deliver) rfl rfl rfl (by decide +kernel) ⟨Nat.le_of_ble_eq_true rfl, Nat.le_of_ble_eq_true rfl⟩) (by decide) lyM_0 rfl rfl rfl hl.1 rfl (Nat.le_of_ble_eq_true rfl) dL_law_455 ⟨Nat.le_of_succ_le hcs.1, Nat.le_trans (Nat.le_add_right _ _) hcs.2⟩ (fun r u2 H locs q hP2 hP1 hO hS => ?_)
  obtain ⟨rfl, hR2, hM2, -⟩ := q
  refine zj_same (tgt := 1074) C dL_law_458 (by decide) ?_
  exact kk (kDelS κ w1) u2 _ _ _ _ _ (by omega) (by omega) ⟨(kGood_delS hG w1), hM2, hR2, hP1, hP2, ⟨_, hO⟩, hS⟩ (lv_sub hl [0, 1, 2, 3, 4] rfl)

set_option maxHeartbeats 4000000 in
set_option maxRecDepth 100000 in
theorem lwc_7 {p : Program} {l : Launch} {e : Env} {s : State} {m : MethodId} {args : Array Value} {below : List Frame} {meth : Method} {c : Code} {Q : State → Prop} {D : va_G} {cI cZ cR cJ : ClassId} {b L d : Nat} {xs : Nat → Int32} (F : lwE p l s m args below meth c D cI cZ cR cJ b L d xs) {κ μ : Zt} {i : Int} (i0 : 0 ≤ i) (i1 : i + 6 ≤ L) {H : Heap} {locs : List Loc} {ls : Array Slot} {cells slots : Nat} (hI : lwI D cI cZ cR cJ d s κ μ H locs) (hl : lv_has ls 7 [(0, .ref b), (1, .ref (aS d 0)), (2, .ref (aM d 0)), (3, .ref (d + 84)), (4, .int (jI i))]) (hcs : cells + 1 ≤ lwR.cells ∧ slots + 6 ≤ lwR.slots)
    (kk : lwK p l e s m args below meth c D cI cZ cR cJ b d i cells slots Q) : W p l e lwR s m args below meth c H locs cells slots Q (F0 m 463 ls []) := by
  obtain ⟨C, X1, X2, KJ, hz, hX, hb, hL, hds, hcw_sign, hcw_path, hcw_kinds, hl0⟩ := F
  have hbA : ¬ d ≤ b := by omega
  have hAold : ∀ q, q < s.heap.size → ¬ d ≤ q := fun q h => by omega
  obtain ⟨hG, hM, hRm, hP1, hP2, ⟨v0, hO⟩, hS⟩ := hI
  obtain ⟨w1, e1⟩ : ∃ w : Int, w = (xs (i + 1).toNat).toInt := ⟨_, rfl⟩
  have l1 : -2147483648 ≤ w1 := by rw [e1]; exact jI_lo _
  have u1 : w1 < 2147483648 := by rw [e1]; exact jI_hi _
  obtain ⟨w2, e2⟩ : ∃ w : Int, w = (xs (i + 2).toNat).toInt := ⟨_, rfl⟩
  have l2 : -2147483648 ≤ w2 := by rw [e2]; exact jI_lo _
  have u2 : w2 < 2147483648 := by rw [e2]; exact jI_hi _
  obtain ⟨w3, e3⟩ : ∃ w : Int, w = (xs (i + 3).toNat).toInt := ⟨_, rfl⟩
  have l3 : -2147483648 ≤ w3 := by rw [e3]; exact jI_lo _
  have u3 : w3 < 2147483648 := by rw [e3]; exact jI_hi _
  obtain ⟨w4, e4⟩ : ∃ w : Int, w = (xs (i + 4).toNat).toInt := ⟨_, rfl⟩
  have l4 : -2147483648 ≤ w4 := by rw [e4]; exact jI_lo _
  have u4 : w4 < 2147483648 := by rw [e4]; exact jI_hi _
  obtain ⟨w5, e5⟩ : ∃ w : Int, w = (xs (i + 5).toNat).toInt := ⟨_, rfl⟩
  have l5 : -2147483648 ≤ w5 := by rw [e5]; exact jI_lo _
  have u5 : w5 < 2147483648 := by rw [e5]; exact jI_hi _
  refine zg_aload_n C dL_law_463 rfl (lv_at hl 1 rfl) ?_
  refine zg_aload_n C dL_law_464 rfl (lv_at hl 0 rfl) ?_
  refine zg_iload C dL_law_465 (lv_at hl 4 rfl) ?_
  refine zg_iconst C dL_law_467 ?_
  refine zg_iadd C dL_law_468 ?_
  refine zj_sld C hX hb hbA hS hL (by omega) (by omega) dL_law_469 ?_
  rw [← e1]
  refine zj_callV (k := 0) C X1 hP1 hP2 hO hS hdSM hdSO (kX4_lose l κ hG.1.1 w1 (by omega) (by omega) (kGood_pre hG.1)) (cwV 1 C.ts (zgV mlL_57 imX4_lose slX4_lose iniX4 cdX4_lose) rfl rfl rfl (by decide +kernel) ⟨Nat.le_of_ble_eq_true rfl, Nat.le_of_ble_eq_true rfl⟩) (by decide) lyS_0 rfl rfl rfl hl.1 rfl (Nat.le_of_ble_eq_true rfl) dL_law_470 ⟨Nat.le_of_succ_le hcs.1, Nat.le_trans (Nat.le_add_right _ _) hcs.2⟩ (fun r u H locs q hP1 hP2 hO hS => ?_)
  obtain ⟨rfl, hu⟩ := q
  rw [hu] at hP1
  refine zg_aload_n C dL_law_473 rfl (lv_at hl 2 rfl) ?_
  refine zg_aload_n C dL_law_474 rfl (lv_at hl 0 rfl) ?_
  refine zg_iload C dL_law_475 (lv_at hl 4 rfl) ?_
  refine zg_iconst C dL_law_477 ?_
  refine zg_iadd C dL_law_478 ?_
  refine zj_sld C hX hb hbA hS hL (by omega) (by omega) dL_law_479 ?_
  rw [← e1]
  refine zj_callV (k := 0) C X2 hP2 hP1 hO hS hdMS hdMO (kX5_lose l μ hRm κ hM hG.1 w1 (by omega) (by omega)) (cwV 1 C.ts (zgV mlL_60 imX5_lose slX5_lose iniX5 cdX5_lose) rfl rfl rfl (by decide +kernel) ⟨Nat.le_of_ble_eq_true rfl, Nat.le_of_ble_eq_true rfl⟩) (by decide) lyM_0 rfl rfl rfl hl.1 rfl (Nat.le_of_ble_eq_true rfl) dL_law_480 ⟨Nat.le_of_succ_le hcs.1, Nat.le_trans (Nat.le_add_right _ _) hcs.2⟩ (fun r u2 H locs q hP2 hP1 hO hS => ?_)
  obtain ⟨rfl, hR2, hM2, -⟩ := q
  refine zj_same (tgt := 1074) C dL_law_483 (by decide) ?_
  exact kk (kLosS κ w1) u2 _ _ _ _ _ (by omega) (by omega) ⟨(kGood_losS hG w1), hM2, hR2, hP1, hP2, ⟨_, hO⟩, hS⟩ (lv_sub hl [0, 1, 2, 3, 4] rfl)

set_option maxHeartbeats 4000000 in
set_option maxRecDepth 100000 in
theorem lwc_8 {p : Program} {l : Launch} {e : Env} {s : State} {m : MethodId} {args : Array Value} {below : List Frame} {meth : Method} {c : Code} {Q : State → Prop} {D : va_G} {cI cZ cR cJ : ClassId} {b L d : Nat} {xs : Nat → Int32} (F : lwE p l s m args below meth c D cI cZ cR cJ b L d xs) {κ μ : Zt} {i : Int} (i0 : 0 ≤ i) (i1 : i + 6 ≤ L) {H : Heap} {locs : List Loc} {ls : Array Slot} {cells slots : Nat} (hI : lwI D cI cZ cR cJ d s κ μ H locs) (hl : lv_has ls 7 [(0, .ref b), (1, .ref (aS d 0)), (2, .ref (aM d 0)), (3, .ref (d + 84)), (4, .int (jI i))]) (hcs : cells + 1 ≤ lwR.cells ∧ slots + 6 ≤ lwR.slots)
    (kk : lwK p l e s m args below meth c D cI cZ cR cJ b d i cells slots Q) : W p l e lwR s m args below meth c H locs cells slots Q (F0 m 488 ls []) := by
  obtain ⟨C, X1, X2, KJ, hz, hX, hb, hL, hds, hcw_sign, hcw_path, hcw_kinds, hl0⟩ := F
  have hbA : ¬ d ≤ b := by omega
  have hAold : ∀ q, q < s.heap.size → ¬ d ≤ q := fun q h => by omega
  obtain ⟨hG, hM, hRm, hP1, hP2, ⟨v0, hO⟩, hS⟩ := hI
  obtain ⟨w1, e1⟩ : ∃ w : Int, w = (xs (i + 1).toNat).toInt := ⟨_, rfl⟩
  have l1 : -2147483648 ≤ w1 := by rw [e1]; exact jI_lo _
  have u1 : w1 < 2147483648 := by rw [e1]; exact jI_hi _
  obtain ⟨w2, e2⟩ : ∃ w : Int, w = (xs (i + 2).toNat).toInt := ⟨_, rfl⟩
  have l2 : -2147483648 ≤ w2 := by rw [e2]; exact jI_lo _
  have u2 : w2 < 2147483648 := by rw [e2]; exact jI_hi _
  obtain ⟨w3, e3⟩ : ∃ w : Int, w = (xs (i + 3).toNat).toInt := ⟨_, rfl⟩
  have l3 : -2147483648 ≤ w3 := by rw [e3]; exact jI_lo _
  have u3 : w3 < 2147483648 := by rw [e3]; exact jI_hi _
  obtain ⟨w4, e4⟩ : ∃ w : Int, w = (xs (i + 4).toNat).toInt := ⟨_, rfl⟩
  have l4 : -2147483648 ≤ w4 := by rw [e4]; exact jI_lo _
  have u4 : w4 < 2147483648 := by rw [e4]; exact jI_hi _
  obtain ⟨w5, e5⟩ : ∃ w : Int, w = (xs (i + 5).toNat).toInt := ⟨_, rfl⟩
  have l5 : -2147483648 ≤ w5 := by rw [e5]; exact jI_lo _
  have u5 : w5 < 2147483648 := by rw [e5]; exact jI_hi _
  refine zg_aload_n C dL_law_488 rfl (lv_at hl 1 rfl) ?_
  refine zg_aload_n C dL_law_489 rfl (lv_at hl 0 rfl) ?_
  refine zg_iload C dL_law_490 (lv_at hl 4 rfl) ?_
  refine zg_iconst C dL_law_492 ?_
  refine zg_iadd C dL_law_493 ?_
  refine zj_sld C hX hb hbA hS hL (by omega) (by omega) dL_law_494 ?_
  rw [← e1]
  refine zj_callV (k := 0) C X1 hP1 hP2 hO hS hdSM hdSO (kX4_repeat l κ hG.1.1 w1 (by omega) (by omega) (kGood_pre hG.1)) (cwV 1 C.ts (zgV mlL_61 imX4_repeat slX4_repeat iniX4 cdX4_repeat) rfl rfl rfl (by decide +kernel) ⟨Nat.le_of_ble_eq_true rfl, Nat.le_of_ble_eq_true rfl⟩) (by decide) lyS_0 rfl rfl rfl hl.1 rfl (Nat.le_of_ble_eq_true rfl) dL_law_495 ⟨Nat.le_of_succ_le hcs.1, Nat.le_trans (Nat.le_add_right _ _) hcs.2⟩ (fun r u H locs q hP1 hP2 hO hS => ?_)
  obtain ⟨rfl, hu⟩ := q
  rw [hu] at hP1
  refine zg_aload_n C dL_law_498 rfl (lv_at hl 2 rfl) ?_
  refine zg_aload_n C dL_law_499 rfl (lv_at hl 0 rfl) ?_
  refine zg_iload C dL_law_500 (lv_at hl 4 rfl) ?_
  refine zg_iconst C dL_law_502 ?_
  refine zg_iadd C dL_law_503 ?_
  refine zj_sld C hX hb hbA hS hL (by omega) (by omega) dL_law_504 ?_
  rw [← e1]
  refine zj_callV (k := 0) C X2 hP2 hP1 hO hS hdMS hdMO (kX5_repeat l μ hRm κ hM hG.1 w1 (by omega) (by omega)) (cwV 1 C.ts (zgV mlL_64 imX5_repeat slX5_repeat iniX5 cdX5_repeat) rfl rfl rfl (by decide +kernel) ⟨Nat.le_of_ble_eq_true rfl, Nat.le_of_ble_eq_true rfl⟩) (by decide) lyM_0 rfl rfl rfl hl.1 rfl (Nat.le_of_ble_eq_true rfl) dL_law_505 ⟨Nat.le_of_succ_le hcs.1, Nat.le_trans (Nat.le_add_right _ _) hcs.2⟩ (fun r u2 H locs q hP2 hP1 hO hS => ?_)
  obtain ⟨rfl, hR2, hM2, -⟩ := q
  refine zj_same (tgt := 1074) C dL_law_508 (by decide) ?_
  exact kk (kRepS κ w1) u2 _ _ _ _ _ (by omega) (by omega) ⟨(kGood_repS hG w1), hM2, hR2, hP1, hP2, ⟨_, hO⟩, hS⟩ (lv_sub hl [0, 1, 2, 3, 4] rfl)
