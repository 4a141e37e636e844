set_option maxHeartbeats 4000000 in
set_option maxRecDepth 100000 in
theorem lwc_9 {p : Program} {l : Launch} {e : Env} {s : State} {m : MethodId} {args : Array Value} {below : List Frame} {meth : Method} {c : Code} {Q : State → Prop} {D : va_G} {cI cZ cR cJ : ClassId} {b L d : Nat} {xs : Nat → Int32} (F : lwE p l s m args below meth c D cI cZ cR cJ b L d xs) {κ μ : Zt} {i : Int} (i0 : 0 ≤ i) (i1 : i + 6 ≤ L) {H : Heap} {locs : List Loc} {ls : Array Slot} {cells slots : Nat} (hI : lwI D cI cZ cR cJ d s κ μ H locs) (hl : lv_has ls 7 [(0, .ref b), (1, .ref (aS d 0)), (2, .ref (aM d 0)), (3, .ref (d + 84)), (4, .int (jI i))]) (hcs : cells + 1 ≤ lwR.cells ∧ slots + 6 ≤ lwR.slots)
    (kk : lwK p l e s m args below meth c D cI cZ cR cJ b d i cells slots Q) : W p l e lwR s m args below meth c H locs cells slots Q (F0 m 513 ls []) := by
  obtain ⟨C, X1, X2, KJ, hz, hX, hb, hL, hds, hcw_sign, hcw_path, hcw_kinds, hl0⟩ := F
  have hbA : ¬ d ≤ b := by omega
  have hAold : ∀ q, q < s.heap.size → ¬ d ≤ q := fun q h => by omega
  obtain ⟨hG, hM, hRm, hP1, hP2, ⟨v0, hO⟩, hS⟩ := hI
  obtain ⟨w1, e1⟩ : ∃ w : Int, w = (xs (i + 1).toNat).toInt := ⟨_, rfl⟩
  have l1 : -2147483648 ≤ w1 := by rw [e1]; exact jI_lo _
  have u1 : w1 < 2147483648 := by rw [e1]; exact jI_hi _
  obtain ⟨w2, e2⟩ : ∃ w : Int, w = (xs (i + 2).toNat).toInt := ⟨_, rfl⟩
  have l2 : -2147483648 ≤ w2 := by rw [e2]; exact jI_lo _
  have u2 : w2 < 2147483648 := by rw [e2]; exact jI_hi _
  obtain ⟨w3, e3⟩ : ∃ w : Int, w = (xs (i + 3).toNat).toInt := ⟨_, rfl⟩
  have l3 : -2147483648 ≤ w3 := by rw [e3]; exact jI_lo _
  have u3 : w3 < 2147483648 := by rw [e3]; exact jI_hi _
  obtain ⟨w4, e4⟩ : ∃ w : Int, w = (xs (i + 4).toNat).toInt := ⟨_, rfl⟩
  have l4 : -2147483648 ≤ w4 := by rw [e4]; exact jI_lo _
  have u4 : w4 < 2147483648 := by rw [e4]; exact jI_hi _
  obtain ⟨w5, e5⟩ : ∃ w : Int, w = (xs (i + 5).toNat).toInt := ⟨_, rfl⟩
  have l5 : -2147483648 ≤ w5 := by rw [e5]; exact jI_lo _
  have u5 : w5 < 2147483648 := by rw [e5]; exact jI_hi _
  refine zg_aload_n C dL_law_513 rfl (lv_at hl 1 rfl) ?_
  refine zg_aload_n C dL_law_514 rfl (lv_at hl 0 rfl) ?_
  refine zg_iload C dL_law_515 (lv_at hl 4 rfl) ?_
  refine zg_iconst C dL_law_517 ?_
  refine zg_iadd C dL_law_518 ?_
  refine zj_sld C hX hb hbA hS hL (by omega) (by omega) dL_law_519 ?_
  rw [← e1]
  refine zg_aload_n C dL_law_520 rfl (lv_at hl 0 rfl) ?_
  refine zg_iload C dL_law_521 (lv_at hl 4 rfl) ?_
  refine zg_iconst C dL_law_523 ?_
  refine zg_iadd C dL_law_524 ?_
  refine zj_sld C hX hb hbA hS hL (by omega) (by omega) dL_law_525 ?_
  rw [← e2]
  refine zj_callV (k := 0) C X1 hP1 hP2 hO hS hdSM hdSO (kX4_sync l κ hG.1.1 w1 w2 (by omega) (by omega) (by omega) (by omega) (kGood_pre hG.1) kGood kGoodI (fun τ r d h hr d0 d1 => kGood_rec h hr d0 d1) hG) (cwV 2 C.ts (zgV mlL_65 imX4_sync slX4_sync iniX4 cdX4_sync) rfl rfl rfl (by decide +kernel) ⟨Nat.le_of_ble_eq_true rfl, Nat.le_of_ble_eq_true rfl⟩) (by decide) lyS_0 rfl rfl rfl hl.1 rfl (Nat.le_of_ble_eq_true rfl) dL_law_526 ⟨Nat.le_of_succ_le hcs.1, Nat.le_trans (Nat.le_add_right _ _) hcs.2⟩ (fun r u H locs q hP1 hP2 hO hS => ?_)
  obtain ⟨rfl, hu⟩ := q
  rw [hu] at hP1
  refine zg_aload_n C dL_law_529 rfl (lv_at hl 2 rfl) ?_
  refine zg_aload_n C dL_law_530 rfl (lv_at hl 0 rfl) ?_
  refine zg_iload C dL_law_531 (lv_at hl 4 rfl) ?_
  refine zg_iconst C dL_law_533 ?_
  refine zg_iadd C dL_law_534 ?_
  refine zj_sld C hX hb hbA hS hL (by omega) (by omega) dL_law_535 ?_
  rw [← e1]
  refine zg_aload_n C dL_law_536 rfl (lv_at hl 0 rfl) ?_
  refine zg_iload C dL_law_537 (lv_at hl 4 rfl) ?_
  refine zg_iconst C dL_law_539 ?_
  refine zg_iadd C dL_law_540 ?_
  refine zj_sld C hX hb hbA hS hL (by omega) (by omega) dL_law_541 ?_
  rw [← e2]
  refine zj_callV (k := 0) C X2 hP2 hP1 hO hS hdMS hdMO (kX5_sync l μ hRm κ hM hG.1 w1 w2 (by omega) (by omega) (by omega) (by omega)) (cwV 2 C.ts (zgV mlL_68 imX5_sync slX5_sync iniX5 cdX5_sync) rfl rfl rfl (by decide +kernel) ⟨Nat.le_of_ble_eq_true rfl, Nat.le_of_ble_eq_true rfl⟩) (by decide) lyM_0 rfl rfl rfl hl.1 rfl (Nat.le_of_ble_eq_true rfl) dL_law_542 ⟨Nat.le_of_succ_le hcs.1, Nat.le_trans (Nat.le_add_right _ _) hcs.2⟩ (fun r u2 H locs q hP2 hP1 hO hS => ?_)
  obtain ⟨rfl, hR2, hM2, -⟩ := q
  refine zj_same (tgt := 1074) C dL_law_545 (by decide) ?_
  exact kk (kSynS κ w1 w2) u2 _ _ _ _ _ (by omega) (by omega) ⟨(kGood_synS hG w1 w2), hM2, hR2, hP1, hP2, ⟨_, hO⟩, hS⟩ (lv_sub hl [0, 1, 2, 3, 4] rfl)

set_option maxHeartbeats 4000000 in
set_option maxRecDepth 100000 in
theorem lwc_10 {p : Program} {l : Launch} {e : Env} {s : State} {m : MethodId} {args : Array Value} {below : List Frame} {meth : Method} {c : Code} {Q : State → Prop} {D : va_G} {cI cZ cR cJ : ClassId} {b L d : Nat} {xs : Nat → Int32} (F : lwE p l s m args below meth c D cI cZ cR cJ b L d xs) {κ μ : Zt} {i : Int} (i0 : 0 ≤ i) (i1 : i + 6 ≤ L) {H : Heap} {locs : List Loc} {ls : Array Slot} {cells slots : Nat} (hI : lwI D cI cZ cR cJ d s κ μ H locs) (hl : lv_has ls 7 [(0, .ref b), (1, .ref (aS d 0)), (2, .ref (aM d 0)), (3, .ref (d + 84)), (4, .int (jI i))]) (hcs : cells + 1 ≤ lwR.cells ∧ slots + 6 ≤ lwR.slots)
    (kk : lwK p l e s m args below meth c D cI cZ cR cJ b d i cells slots Q) : W p l e lwR s m args below meth c H locs cells slots Q (F0 m 550 ls []) := by
  obtain ⟨C, X1, X2, KJ, hz, hX, hb, hL, hds, hcw_sign, hcw_path, hcw_kinds, hl0⟩ := F
  have hbA : ¬ d ≤ b := by omega
  have hAold : ∀ q, q < s.heap.size → ¬ d ≤ q := fun q h => by omega
  obtain ⟨hG, hM, hRm, hP1, hP2, ⟨v0, hO⟩, hS⟩ := hI
  obtain ⟨w1, e1⟩ : ∃ w : Int, w = (xs (i + 1).toNat).toInt := ⟨_, rfl⟩
  have l1 : -2147483648 ≤ w1 := by rw [e1]; exact jI_lo _
  have u1 : w1 < 2147483648 := by rw [e1]; exact jI_hi _
  obtain ⟨w2, e2⟩ : ∃ w : Int, w = (xs (i + 2).toNat).toInt := ⟨_, rfl⟩
  have l2 : -2147483648 ≤ w2 := by rw [e2]; exact jI_lo _
  have u2 : w2 < 2147483648 := by rw [e2]; exact jI_hi _
  obtain ⟨w3, e3⟩ : ∃ w : Int, w = (xs (i + 3).toNat).toInt := ⟨_, rfl⟩
  have l3 : -2147483648 ≤ w3 := by rw [e3]; exact jI_lo _
  have u3 : w3 < 2147483648 := by rw [e3]; exact jI_hi _
  obtain ⟨w4, e4⟩ : ∃ w : Int, w = (xs (i + 4).toNat).toInt := ⟨_, rfl⟩
  have l4 : -2147483648 ≤ w4 := by rw [e4]; exact jI_lo _
  have u4 : w4 < 2147483648 := by rw [e4]; exact jI_hi _
  obtain ⟨w5, e5⟩ : ∃ w : Int, w = (xs (i + 5).toNat).toInt := ⟨_, rfl⟩
  have l5 : -2147483648 ≤ w5 := by rw [e5]; exact jI_lo _
  have u5 : w5 < 2147483648 := by rw [e5]; exact jI_hi _
  refine zg_aload_n C dL_law_550 rfl (lv_at hl 1 rfl) ?_
  refine zg_aload_n C dL_law_551 rfl (lv_at hl 0 rfl) ?_
  refine zg_iload C dL_law_552 (lv_at hl 4 rfl) ?_
  refine zg_iconst C dL_law_554 ?_
  refine zg_iadd C dL_law_555 ?_
  refine zj_sld C hX hb hbA hS hL (by omega) (by omega) dL_law_556 ?_
  rw [← e1]
  refine zj_callV (k := 0) C X1 hP1 hP2 hO hS hdSM hdSO (kX4_length l κ hG.1.1 w1 (by omega) (by omega) (kGood_pre hG.1)) (cwV 1 C.ts (zgV mlL_69 imX4_length slX4_length iniX4 cdX4_length) rfl rfl rfl (by decide +kernel) ⟨Nat.le_of_ble_eq_true rfl, Nat.le_of_ble_eq_true rfl⟩) (by decide) lyS_0 rfl rfl rfl hl.1 rfl (Nat.le_of_ble_eq_true rfl) dL_law_557 ⟨Nat.le_of_succ_le hcs.1, Nat.le_trans (Nat.le_add_right _ _) hcs.2⟩ (fun r u H locs q hP1 hP2 hO hS => ?_)
  obtain ⟨rfl, hu⟩ := q
  rw [hu] at hP1
  refine zg_aload_n C dL_law_560 rfl (lv_at hl 2 rfl) ?_
  refine zg_aload_n C dL_law_561 rfl (lv_at hl 0 rfl) ?_
  refine zg_iload C dL_law_562 (lv_at hl 4 rfl) ?_
  refine zg_iconst C dL_law_564 ?_
  refine zg_iadd C dL_law_565 ?_
  refine zj_sld C hX hb hbA hS hL (by omega) (by omega) dL_law_566 ?_
  rw [← e1]
  refine zj_callV (k := 0) C X2 hP2 hP1 hO hS hdMS hdMO (kX5_length l μ hRm κ hM hG.1 w1 (by omega) (by omega)) (cwV 1 C.ts (zgV mlL_72 imX5_length slX5_length iniX5 cdX5_length) rfl rfl rfl (by decide +kernel) ⟨Nat.le_of_ble_eq_true rfl, Nat.le_of_ble_eq_true rfl⟩) (by decide) lyM_0 rfl rfl rfl hl.1 rfl (Nat.le_of_ble_eq_true rfl) dL_law_567 ⟨Nat.le_of_succ_le hcs.1, Nat.le_trans (Nat.le_add_right _ _) hcs.2⟩ (fun r u2 H locs q hP2 hP1 hO hS => ?_)
  obtain ⟨rfl, hu2⟩ := q
  rw [hu2] at hP2
  refine zj_same (tgt := 1074) C dL_law_570 (by decide) ?_
  exact kk κ μ _ _ _ _ _ (by omega) (by omega) ⟨hG, hM, hRm, hP1, hP2, ⟨_, hO⟩, hS⟩ (lv_sub hl [0, 1, 2, 3, 4] rfl)

set_option maxHeartbeats 4000000 in
set_option maxRecDepth 100000 in
theorem lwc_11 {p : Program} {l : Launch} {e : Env} {s : State} {m : MethodId} {args : Array Value} {below : List Frame} {meth : Method} {c : Code} {Q : State → Prop} {D : va_G} {cI cZ cR cJ : ClassId} {b L d : Nat} {xs : Nat → Int32} (F : lwE p l s m args below meth c D cI cZ cR cJ b L d xs) {κ μ : Zt} {i : Int} (i0 : 0 ≤ i) (i1 : i + 6 ≤ L) {H : Heap} {locs : List Loc} {ls : Array Slot} {cells slots : Nat} (hI : lwI D cI cZ cR cJ d s κ μ H locs) (hl : lv_has ls 7 [(0, .ref b), (1, .ref (aS d 0)), (2, .ref (aM d 0)), (3, .ref (d + 84)), (4, .int (jI i))]) (hcs : cells + 1 ≤ lwR.cells ∧ slots + 6 ≤ lwR.slots)
    (kk : lwK p l e s m args below meth c D cI cZ cR cJ b d i cells slots Q) : W p l e lwR s m args below meth c H locs cells slots Q (F0 m 575 ls []) := by
  obtain ⟨C, X1, X2, KJ, hz, hX, hb, hL, hds, hcw_sign, hcw_path, hcw_kinds, hl0⟩ := F
  have hbA : ¬ d ≤ b := by omega
  have hAold : ∀ q, q < s.heap.size → ¬ d ≤ q := fun q h => by omega
  obtain ⟨hG, hM, hRm, hP1, hP2, ⟨v0, hO⟩, hS⟩ := hI
  obtain ⟨w1, e1⟩ : ∃ w : Int, w = (xs (i + 1).toNat).toInt := ⟨_, rfl⟩
  have l1 : -2147483648 ≤ w1 := by rw [e1]; exact jI_lo _
  have u1 : w1 < 2147483648 := by rw [e1]; exact jI_hi _
  obtain ⟨w2, e2⟩ : ∃ w : Int, w = (xs (i + 2).toNat).toInt := ⟨_, rfl⟩
  have l2 : -2147483648 ≤ w2 := by rw [e2]; exact jI_lo _
  have u2 : w2 < 2147483648 := by rw [e2]; exact jI_hi _
  obtain ⟨w3, e3⟩ : ∃ w : Int, w = (xs (i + 3).toNat).toInt := ⟨_, rfl⟩
  have l3 : -2147483648 ≤ w3 := by rw [e3]; exact jI_lo _
  have u3 : w3 < 2147483648 := by rw [e3]; exact jI_hi _
  obtain ⟨w4, e4⟩ : ∃ w : Int, w = (xs (i + 4).toNat).toInt := ⟨_, rfl⟩
  have l4 : -2147483648 ≤ w4 := by rw [e4]; exact jI_lo _
  have u4 : w4 < 2147483648 := by rw [e4]; exact jI_hi _
  obtain ⟨w5, e5⟩ : ∃ w : Int, w = (xs (i + 5).toNat).toInt := ⟨_, rfl⟩
  have l5 : -2147483648 ≤ w5 := by rw [e5]; exact jI_lo _
  have u5 : w5 < 2147483648 := by rw [e5]; exact jI_hi _
  refine zg_aload_n C dL_law_575 rfl (lv_at hl 1 rfl) ?_
  refine zg_aload_n C dL_law_576 rfl (lv_at hl 0 rfl) ?_
  refine zg_iload C dL_law_577 (lv_at hl 4 rfl) ?_
  refine zg_iconst C dL_law_579 ?_
  refine zg_iadd C dL_law_580 ?_
  refine zj_sld C hX hb hbA hS hL (by omega) (by omega) dL_law_581 ?_
  rw [← e1]
  refine zg_aload_n C dL_law_582 rfl (lv_at hl 0 rfl) ?_
  refine zg_iload C dL_law_583 (lv_at hl 4 rfl) ?_
  refine zg_iconst C dL_law_585 ?_
  refine zg_iadd C dL_law_586 ?_
  refine zj_sld C hX hb hbA hS hL (by omega) (by omega) dL_law_587 ?_
  rw [← e2]
  refine zg_aload_n C dL_law_588 rfl (lv_at hl 3 rfl) ?_
  refine zj_callZ (n := 4) C X1 KJ hz hP1 hP2 hO hS hAold (Nat.le_add_right _ _) hdSM hdSO hdMO (kL_sign l hl0 κ hG v0 w1 w2 (by omega) (by omega) (by omega) (by omega)) hcw_sign rfl rfl mlL_73 stL_sign iniL (by decide) (by decide +kernel) rfl rfl (Nat.le_of_ble_eq_true rfl) (Nat.le_of_ble_eq_true rfl) rfl hl.1 rfl (Nat.le_of_ble_eq_true rfl) dL_law_589 hcs (fun r u v H locs hq hP1 hP2 hO hS => ?_)
  rcases hq with ⟨hq, rfl, hu⟩ | ⟨hq, rfl, hv, hzq⟩
  · rw [hu] at hP1
    have hrg := kSigR_rg hG.1 w1 w2
    refine zg_istore (lv' := [(5, .int (jI 1)), (0, .ref b), (1, .ref (aS d 0)), (2, .ref (aM d 0)), (3, .ref (d + 84)), (4, .int (jI i))]) C dL_law_592 hl (by decide) rfl (fun ls hl => ?_)
    refine zg_aload_n C dL_law_594 rfl (lv_at hl 3 rfl) ?_
    refine zg_aload_n C dL_law_595 rfl (lv_at hl 1 rfl) ?_
    refine zg_iload C dL_law_596 (lv_at hl 5 rfl) ?_
    refine zg_iconst C dL_law_598 ?_
    refine zg_iadd C dL_law_599 ?_
    refine zj_sld C hX hb hbA hS hL (by omega) (by omega) dL_law_600 ?_
    rw [← e1]
    refine zg_aload_n C dL_law_601 rfl (lv_at hl 1 rfl) ?_
    refine zg_iload C dL_law_602 (lv_at hl 5 rfl) ?_
    refine zg_iconst C dL_law_604 ?_
    refine zg_iadd C dL_law_605 ?_
    refine zj_sld C hX hb hbA hS hL (by omega) (by omega) dL_law_606 ?_
    rw [← e2]
    refine zj_callV (k := 0) C X2 hP2 hP1 hO hS hdMS hdMO (kX5_sign l μ hRm κ hM hG.1 w1 w2 (by omega) (by omega) (by omega) (by omega)) (cwV 2 C.ts (zgV mlL_78 imX5_sign slX5_sign iniX5 cdX5_sign) rfl rfl rfl (by decide +kernel) ⟨Nat.le_of_ble_eq_true rfl, Nat.le_of_ble_eq_true rfl⟩) (by decide) lyM_0 rfl rfl rfl hl.1 rfl (Nat.le_of_ble_eq_true rfl) dL_law_607 ⟨hcs.1, hcs.2⟩ (fun r u2 H locs q hP2 hP1 hO hS => ?_)
    obtain ⟨rfl, hR2, hM2, -, ht⟩ := q
    refine zg_istore (lv' := [(6, .int (jI (kSigR κ w1 w2))), (5, .int (jI 1)), (0, .ref b), (1, .ref (aS d 0)), (2, .ref (aM d 0)), (3, .ref (d + 84)), (4, .int (jI i))]) C dL_law_610 hl (by decide) rfl (fun ls hl => ?_)
    refine zg_aload_n C dL_law_612 rfl (lv_at hl 4 rfl) ?_
    refine zj_callV (k := 0) C X2 hP2 hP1 hO hS hdMS hdMO (kX5_thrown l u2 hR2 κ hM2 hG.1) (cwV 0 C.ts (zgV mlL_79 imX5_thrown slX5_thrown iniX5 cdX5_thrown) rfl rfl rfl (by decide +kernel) ⟨Nat.le_of_ble_eq_true rfl, Nat.le_of_ble_eq_true rfl⟩) (by decide) lyM_0 rfl rfl rfl hl.1 rfl (Nat.le_of_ble_eq_true rfl) dL_law_613 ⟨hcs.1, hcs.2⟩ (fun r u9 H locs q hP2 hP1 hO hS => ?_)
    obtain ⟨rfl, hu9⟩ := q
    rw [hu9] at hP2
    rw [show u2 0 0 = 1 from by rw [ht]; rw [decide_eq_true hq]; rfl]
    refine zg_iload C dL_law_616 (lv_at hl 1 rfl) ?_
    refine zj_same (tgt := 623) C dL_law_618 (by decide) ?_
    refine zg_iload C dL_law_623 (lv_at hl 1 rfl) ?_
    refine zg_if_ne (tgt := 640) C (by omega) (by omega) dL_law_625 (by decide) (fun c_1 => ?_) (fun c_1 => ?_)
    · refine zg_goto (tgt := 1074) C dL_law_640 (by decide) ?_
      exact kk κ u2 _ _ _ _ _ (by omega) (by omega) ⟨hG, hM2, hR2, hP1, hP2, ⟨_, hO⟩, hS⟩ (lv_sub hl [2, 3, 4, 5, 6] rfl)
    · exact absurd c_1 (by decide)
  · subst hv
    have hrg := kSigR_rg hG.1 w1 w2
    refine zg_istore (lv' := [(5, .int (jI 0)), (0, .ref b), (1, .ref (aS d 0)), (2, .ref (aM d 0)), (3, .ref (d + 84)), (4, .int (jI i))]) C dL_law_592 hl (by decide) rfl (fun ls hl => ?_)
    refine zg_aload_n C dL_law_594 rfl (lv_at hl 3 rfl) ?_
    refine zg_aload_n C dL_law_595 rfl (lv_at hl 1 rfl) ?_
    refine zg_iload C dL_law_596 (lv_at hl 5 rfl) ?_
    refine zg_iconst C dL_law_598 ?_
    refine zg_iadd C dL_law_599 ?_
    refine zj_sld C hX hb hbA hS hL (by omega) (by omega) dL_law_600 ?_
    rw [← e1]
    refine zg_aload_n C dL_law_601 rfl (lv_at hl 1 rfl) ?_
    refine zg_iload C dL_law_602 (lv_at hl 5 rfl) ?_
    refine zg_iconst C dL_law_604 ?_
    refine zg_iadd C dL_law_605 ?_
    refine zj_sld C hX hb hbA hS hL (by omega) (by omega) dL_law_606 ?_
    rw [← e2]
    refine zj_callV (k := 0) C X2 hP2 hP1 hO hS hdMS hdMO (kX5_sign l μ hRm κ hM hG.1 w1 w2 (by omega) (by omega) (by omega) (by omega)) (cwV 2 C.ts (zgV mlL_78 imX5_sign slX5_sign iniX5 cdX5_sign) rfl rfl rfl (by decide +kernel) ⟨Nat.le_of_ble_eq_true rfl, Nat.le_of_ble_eq_true rfl⟩) (by decide) lyM_0 rfl rfl rfl hl.1 rfl (Nat.le_of_ble_eq_true rfl) dL_law_607 ⟨hcs.1, hcs.2⟩ (fun r u2 H locs q hP2 hP1 hO hS => ?_)
    obtain ⟨rfl, hR2, hM2, -, ht⟩ := q
    refine zg_istore (lv' := [(6, .int (jI (kSigR κ w1 w2))), (5, .int (jI 0)), (0, .ref b), (1, .ref (aS d 0)), (2, .ref (aM d 0)), (3, .ref (d + 84)), (4, .int (jI i))]) C dL_law_610 hl (by decide) rfl (fun ls hl => ?_)
    refine zg_aload_n C dL_law_612 rfl (lv_at hl 4 rfl) ?_
    refine zj_callV (k := 0) C X2 hP2 hP1 hO hS hdMS hdMO (kX5_thrown l u2 hR2 κ hM2 hG.1) (cwV 0 C.ts (zgV mlL_79 imX5_thrown slX5_thrown iniX5 cdX5_thrown) rfl rfl rfl (by decide +kernel) ⟨Nat.le_of_ble_eq_true rfl, Nat.le_of_ble_eq_true rfl⟩) (by decide) lyM_0 rfl rfl rfl hl.1 rfl (Nat.le_of_ble_eq_true rfl) dL_law_613 ⟨hcs.1, hcs.2⟩ (fun r u9 H locs q hP2 hP1 hO hS => ?_)
    obtain ⟨rfl, hu9⟩ := q
    rw [hu9] at hP2
    rw [show u2 0 0 = 0 from by rw [ht]; rw [decide_eq_false hq]; rfl]
    refine zg_iload C dL_law_616 (lv_at hl 1 rfl) ?_
    refine zj_same (tgt := 623) C dL_law_618 (by decide) ?_
    refine zg_iload C dL_law_623 (lv_at hl 1 rfl) ?_
    refine zg_if_ne (tgt := 640) C (by omega) (by omega) dL_law_625 (by decide) (fun c_2 => ?_) (fun c_2 => ?_)
    · exact absurd c_2 (by decide)
    · refine zg_aload_n C dL_law_628 rfl (lv_at hl 5 rfl) ?_
      refine zg_iconst C dL_law_629 ?_
      refine zj_lald C KJ hO dL_law_630 ?_
      refine zg_iload C dL_law_631 (lv_at hl 0 rfl) ?_
      refine zg_i2l C (by omega) (by omega) dL_law_633 ?_
      refine zg_lcmp (x := (kSigR κ w1 w2)) (y := (kSigR κ w1 w2)) C (by omega) (by omega) (by omega) (by omega) dL_law_634 ?_
      rw [cmpI_self]
      refine zg_if_eq (tgt := 640) C (by omega) (by omega) dL_law_635 (by decide) (fun c_3 => ?_) (fun c_3 => ?_)
      · refine zg_goto (tgt := 1074) C dL_law_640 (by decide) ?_
        exact kk u u2 _ _ _ _ _ (by omega) (by omega) ⟨(kGood_zq hG hzq), (RR_zq hM2 hzq), hR2, hP1, hP2, ⟨_, hO⟩, hS⟩ (lv_sub hl [2, 3, 4, 5, 6] rfl)
      · exact absurd c_3 (by decide)
