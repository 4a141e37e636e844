set_option maxHeartbeats 4000000 in
set_option maxRecDepth 100000 in
theorem lwc_12 {p : Program} {l : Launch} {e : Env} {s : State} {m : MethodId} {args : Array Value} {below : List Frame} {meth : Method} {c : Code} {Q : State → Prop} {D : va_G} {cI cZ cR cJ : ClassId} {b L d : Nat} {xs : Nat → Int32} (F : lwE p l s m args below meth c D cI cZ cR cJ b L d xs) {κ μ : Zt} {i : Int} (i0 : 0 ≤ i) (i1 : i + 6 ≤ L) {H : Heap} {locs : List Loc} {ls : Array Slot} {cells slots : Nat} (hI : lwI D cI cZ cR cJ d s κ μ H locs) (hl : lv_has ls 7 [(0, .ref b), (1, .ref (aS d 0)), (2, .ref (aM d 0)), (3, .ref (d + 84)), (4, .int (jI i))]) (hcs : cells + 1 ≤ lwR.cells ∧ slots + 6 ≤ lwR.slots)
    (kk : lwK p l e s m args below meth c D cI cZ cR cJ b d i cells slots Q) : W p l e lwR s m args below meth c H locs cells slots Q (F0 m 643 ls []) := by
  obtain ⟨C, X1, X2, KJ, hz, hX, hb, hL, hds, hcw_sign, hcw_path, hcw_kinds, hl0⟩ := F
  have hbA : ¬ d ≤ b := by omega
  have hAold : ∀ q, q < s.heap.size → ¬ d ≤ q := fun q h => by omega
  obtain ⟨hG, hM, hRm, hP1, hP2, ⟨v0, hO⟩, hS⟩ := hI
  obtain ⟨w1, e1⟩ : ∃ w : Int, w = (xs (i + 1).toNat).toInt := ⟨_, rfl⟩
  have l1 : -2147483648 ≤ w1 := by rw [e1]; exact jI_lo _
  have u1 : w1 < 2147483648 := by rw [e1]; exact jI_hi _
  obtain ⟨w2, e2⟩ : ∃ w : Int, w = (xs (i + 2).toNat).toInt := ⟨_, rfl⟩
  have l2 : -2147483648 ≤ w2 := by rw [e2]; exact jI_lo _
  have u2 : w2 < 2147483648 := by rw [e2]; exact jI_hi _
  obtain ⟨w3, e3⟩ : ∃ w : Int, w = (xs (i + 3).toNat).toInt := ⟨_, rfl⟩
  have l3 : -2147483648 ≤ w3 := by rw [e3]; exact jI_lo _
  have u3 : w3 < 2147483648 := by rw [e3]; exact jI_hi _
  obtain ⟨w4, e4⟩ : ∃ w : Int, w = (xs (i + 4).toNat).toInt := ⟨_, rfl⟩
  have l4 : -2147483648 ≤ w4 := by rw [e4]; exact jI_lo _
  have u4 : w4 < 2147483648 := by rw [e4]; exact jI_hi _
  obtain ⟨w5, e5⟩ : ∃ w : Int, w = (xs (i + 5).toNat).toInt := ⟨_, rfl⟩
  have l5 : -2147483648 ≤ w5 := by rw [e5]; exact jI_lo _
  have u5 : w5 < 2147483648 := by rw [e5]; exact jI_hi _
  refine zg_aload_n C dL_law_643 rfl (lv_at hl 1 rfl) ?_
  refine zg_aload_n C dL_law_644 rfl (lv_at hl 0 rfl) ?_
  refine zg_iload C dL_law_645 (lv_at hl 4 rfl) ?_
  refine zg_iconst C dL_law_647 ?_
  refine zg_iadd C dL_law_648 ?_
  refine zj_sld C hX hb hbA hS hL (by omega) (by omega) dL_law_649 ?_
  rw [← e1]
  refine zg_aload_n C dL_law_650 rfl (lv_at hl 0 rfl) ?_
  refine zg_iload C dL_law_651 (lv_at hl 4 rfl) ?_
  refine zg_iconst C dL_law_653 ?_
  refine zg_iadd C dL_law_654 ?_
  refine zj_sld C hX hb hbA hS hL (by omega) (by omega) dL_law_655 ?_
  rw [← e2]
  refine zg_aload_n C dL_law_656 rfl (lv_at hl 0 rfl) ?_
  refine zg_iload C dL_law_657 (lv_at hl 4 rfl) ?_
  refine zg_iconst C dL_law_659 ?_
  refine zg_iadd C dL_law_660 ?_
  refine zj_sld C hX hb hbA hS hL (by omega) (by omega) dL_law_661 ?_
  rw [← e3]
  refine zg_aload_n C dL_law_662 rfl (lv_at hl 0 rfl) ?_
  refine zg_iload C dL_law_663 (lv_at hl 4 rfl) ?_
  refine zg_iconst C dL_law_665 ?_
  refine zg_iadd C dL_law_666 ?_
  refine zj_sld C hX hb hbA hS hL (by omega) (by omega) dL_law_667 ?_
  rw [← e4]
  refine zg_aload_n C dL_law_668 rfl (lv_at hl 3 rfl) ?_
  refine zj_callZ (n := 6) C X1 KJ hz hP1 hP2 hO hS hAold (Nat.le_add_right _ _) hdSM hdSO hdMO (kL_path l hl0 κ hG v0 w1 w2 w3 w4 (by omega) (by omega) (by omega) (by omega) (by omega) (by omega) (by omega) (by omega)) hcw_path rfl rfl mlL_83 stL_path iniL (by decide) (by decide +kernel) rfl rfl (Nat.le_of_ble_eq_true rfl) (Nat.le_of_ble_eq_true rfl) rfl hl.1 rfl (Nat.le_of_ble_eq_true rfl) dL_law_669 hcs (fun r u v H locs hq hP1 hP2 hO hS => ?_)
  rcases hq with ⟨hq, rfl, hu⟩ | ⟨hq, rfl, hv, hzq⟩
  · rw [hu] at hP1
    have hrg := kPatR_rg hG.1 w1 w2 w3 w4
    refine zg_istore (lv' := [(5, .int (jI 1)), (0, .ref b), (1, .ref (aS d 0)), (2, .ref (aM d 0)), (3, .ref (d + 84)), (4, .int (jI i))]) C dL_law_672 hl (by decide) rfl (fun ls hl => ?_)
    refine zg_aload_n C dL_law_674 rfl (lv_at hl 3 rfl) ?_
    refine zg_aload_n C dL_law_675 rfl (lv_at hl 1 rfl) ?_
    refine zg_iload C dL_law_676 (lv_at hl 5 rfl) ?_
    refine zg_iconst C dL_law_678 ?_
    refine zg_iadd C dL_law_679 ?_
    refine zj_sld C hX hb hbA hS hL (by omega) (by omega) dL_law_680 ?_
    rw [← e1]
    refine zg_aload_n C dL_law_681 rfl (lv_at hl 1 rfl) ?_
    refine zg_iload C dL_law_682 (lv_at hl 5 rfl) ?_
    refine zg_iconst C dL_law_684 ?_
    refine zg_iadd C dL_law_685 ?_
    refine zj_sld C hX hb hbA hS hL (by omega) (by omega) dL_law_686 ?_
    rw [← e2]
    refine zg_aload_n C dL_law_687 rfl (lv_at hl 1 rfl) ?_
    refine zg_iload C dL_law_688 (lv_at hl 5 rfl) ?_
    refine zg_iconst C dL_law_690 ?_
    refine zg_iadd C dL_law_691 ?_
    refine zj_sld C hX hb hbA hS hL (by omega) (by omega) dL_law_692 ?_
    rw [← e3]
    refine zg_aload_n C dL_law_693 rfl (lv_at hl 1 rfl) ?_
    refine zg_iload C dL_law_694 (lv_at hl 5 rfl) ?_
    refine zg_iconst C dL_law_696 ?_
    refine zg_iadd C dL_law_697 ?_
    refine zj_sld C hX hb hbA hS hL (by omega) (by omega) dL_law_698 ?_
    rw [← e4]
    refine zj_callV (k := 0) C X2 hP2 hP1 hO hS hdMS hdMO (kX5_path l μ hRm κ hM hG.1 w1 w2 w3 w4 (by omega) (by omega) (by omega) (by omega) (by omega) (by omega) (by omega) (by omega)) (cwV 4 C.ts (zgV mlL_86 imX5_path slX5_path iniX5 cdX5_path) rfl rfl rfl (by decide +kernel) ⟨Nat.le_of_ble_eq_true rfl, Nat.le_of_ble_eq_true rfl⟩) (by decide) lyM_0 rfl rfl rfl hl.1 rfl (Nat.le_of_ble_eq_true rfl) dL_law_699 ⟨hcs.1, hcs.2⟩ (fun r u2 H locs q hP2 hP1 hO hS => ?_)
    obtain ⟨rfl, hR2, hM2, -, ht⟩ := q
    refine zg_istore (lv' := [(6, .int (jI (kPatR κ w1 w2 w3 w4))), (5, .int (jI 1)), (0, .ref b), (1, .ref (aS d 0)), (2, .ref (aM d 0)), (3, .ref (d + 84)), (4, .int (jI i))]) C dL_law_702 hl (by decide) rfl (fun ls hl => ?_)
    refine zg_aload_n C dL_law_704 rfl (lv_at hl 4 rfl) ?_
    refine zj_callV (k := 0) C X2 hP2 hP1 hO hS hdMS hdMO (kX5_thrown l u2 hR2 κ hM2 hG.1) (cwV 0 C.ts (zgV mlL_79 imX5_thrown slX5_thrown iniX5 cdX5_thrown) rfl rfl rfl (by decide +kernel) ⟨Nat.le_of_ble_eq_true rfl, Nat.le_of_ble_eq_true rfl⟩) (by decide) lyM_0 rfl rfl rfl hl.1 rfl (Nat.le_of_ble_eq_true rfl) dL_law_705 ⟨hcs.1, hcs.2⟩ (fun r u9 H locs q hP2 hP1 hO hS => ?_)
    obtain ⟨rfl, hu9⟩ := q
    rw [hu9] at hP2
    rw [show u2 0 0 = 1 from by rw [ht]; rw [hq]; rfl]
    refine zg_iload C dL_law_708 (lv_at hl 1 rfl) ?_
    refine zj_same (tgt := 715) C dL_law_710 (by decide) ?_
    refine zg_iload C dL_law_715 (lv_at hl 1 rfl) ?_
    refine zg_if_ne (tgt := 732) C (by omega) (by omega) dL_law_717 (by decide) (fun c_1 => ?_) (fun c_1 => ?_)
    · refine zg_goto (tgt := 1074) C dL_law_732 (by decide) ?_
      exact kk κ u2 _ _ _ _ _ (by omega) (by omega) ⟨hG, hM2, hR2, hP1, hP2, ⟨_, hO⟩, hS⟩ (lv_sub hl [2, 3, 4, 5, 6] rfl)
    · exact absurd c_1 (by decide)
  · subst hv
    have hrg := kPatR_rg hG.1 w1 w2 w3 w4
    refine zg_istore (lv' := [(5, .int (jI 0)), (0, .ref b), (1, .ref (aS d 0)), (2, .ref (aM d 0)), (3, .ref (d + 84)), (4, .int (jI i))]) C dL_law_672 hl (by decide) rfl (fun ls hl => ?_)
    refine zg_aload_n C dL_law_674 rfl (lv_at hl 3 rfl) ?_
    refine zg_aload_n C dL_law_675 rfl (lv_at hl 1 rfl) ?_
    refine zg_iload C dL_law_676 (lv_at hl 5 rfl) ?_
    refine zg_iconst C dL_law_678 ?_
    refine zg_iadd C dL_law_679 ?_
    refine zj_sld C hX hb hbA hS hL (by omega) (by omega) dL_law_680 ?_
    rw [← e1]
    refine zg_aload_n C dL_law_681 rfl (lv_at hl 1 rfl) ?_
    refine zg_iload C dL_law_682 (lv_at hl 5 rfl) ?_
    refine zg_iconst C dL_law_684 ?_
    refine zg_iadd C dL_law_685 ?_
    refine zj_sld C hX hb hbA hS hL (by omega) (by omega) dL_law_686 ?_
    rw [← e2]
    refine zg_aload_n C dL_law_687 rfl (lv_at hl 1 rfl) ?_
    refine zg_iload C dL_law_688 (lv_at hl 5 rfl) ?_
    refine zg_iconst C dL_law_690 ?_
    refine zg_iadd C dL_law_691 ?_
    refine zj_sld C hX hb hbA hS hL (by omega) (by omega) dL_law_692 ?_
    rw [← e3]
    refine zg_aload_n C dL_law_693 rfl (lv_at hl 1 rfl) ?_
    refine zg_iload C dL_law_694 (lv_at hl 5 rfl) ?_
    refine zg_iconst C dL_law_696 ?_
    refine zg_iadd C dL_law_697 ?_
    refine zj_sld C hX hb hbA hS hL (by omega) (by omega) dL_law_698 ?_
    rw [← e4]
    refine zj_callV (k := 0) C X2 hP2 hP1 hO hS hdMS hdMO (kX5_path l μ hRm κ hM hG.1 w1 w2 w3 w4 (by omega) (by omega) (by omega) (by omega) (by omega) (by omega) (by omega) (by omega)) (cwV 4 C.ts (zgV mlL_86 imX5_path slX5_path iniX5 cdX5_path) rfl rfl rfl (by decide +kernel) ⟨Nat.le_of_ble_eq_true rfl, Nat.le_of_ble_eq_true rfl⟩) (by decide) lyM_0 rfl rfl rfl hl.1 rfl (Nat.le_of_ble_eq_true rfl) dL_law_699 ⟨hcs.1, hcs.2⟩ (fun r u2 H locs q hP2 hP1 hO hS => ?_)
    obtain ⟨rfl, hR2, hM2, -, ht⟩ := q
    refine zg_istore (lv' := [(6, .int (jI (kPatR κ w1 w2 w3 w4))), (5, .int (jI 0)), (0, .ref b), (1, .ref (aS d 0)), (2, .ref (aM d 0)), (3, .ref (d + 84)), (4, .int (jI i))]) C dL_law_702 hl (by decide) rfl (fun ls hl => ?_)
    refine zg_aload_n C dL_law_704 rfl (lv_at hl 4 rfl) ?_
    refine zj_callV (k := 0) C X2 hP2 hP1 hO hS hdMS hdMO (kX5_thrown l u2 hR2 κ hM2 hG.1) (cwV 0 C.ts (zgV mlL_79 imX5_thrown slX5_thrown iniX5 cdX5_thrown) rfl rfl rfl (by decide +kernel) ⟨Nat.le_of_ble_eq_true rfl, Nat.le_of_ble_eq_true rfl⟩) (by decide) lyM_0 rfl rfl rfl hl.1 rfl (Nat.le_of_ble_eq_true rfl) dL_law_705 ⟨hcs.1, hcs.2⟩ (fun r u9 H locs q hP2 hP1 hO hS => ?_)
    obtain ⟨rfl, hu9⟩ := q
    rw [hu9] at hP2
    rw [show u2 0 0 = 0 from by rw [ht]; rw [hq]; rfl]
    refine zg_iload C dL_law_708 (lv_at hl 1 rfl) ?_
    refine zj_same (tgt := 715) C dL_law_710 (by decide) ?_
    refine zg_iload C dL_law_715 (lv_at hl 1 rfl) ?_
    refine zg_if_ne (tgt := 732) C (by omega) (by omega) dL_law_717 (by decide) (fun c_2 => ?_) (fun c_2 => ?_)
    · exact absurd c_2 (by decide)
    · refine zg_aload_n C dL_law_720 rfl (lv_at hl 5 rfl) ?_
      refine zg_iconst C dL_law_721 ?_
      refine zj_lald C KJ hO dL_law_722 ?_
      refine zg_iload C dL_law_723 (lv_at hl 0 rfl) ?_
      refine zg_i2l C (by omega) (by omega) dL_law_725 ?_
      refine zg_lcmp (x := (kPatR κ w1 w2 w3 w4)) (y := (kPatR κ w1 w2 w3 w4)) C (by omega) (by omega) (by omega) (by omega) dL_law_726 ?_
      rw [cmpI_self]
      refine zg_if_eq (tgt := 732) C (by omega) (by omega) dL_law_727 (by decide) (fun c_3 => ?_) (fun c_3 => ?_)
      · refine zg_goto (tgt := 1074) C dL_law_732 (by decide) ?_
        exact kk u u2 _ _ _ _ _ (by omega) (by omega) ⟨(kGood_zq hG hzq), (RR_zq hM2 hzq), hR2, hP1, hP2, ⟨_, hO⟩, hS⟩ (lv_sub hl [2, 3, 4, 5, 6] rfl)
      · exact absurd c_3 (by decide)

set_option maxHeartbeats 4000000 in
set_option maxRecDepth 100000 in
theorem lwc_13 {p : Program} {l : Launch} {e : Env} {s : State} {m : MethodId} {args : Array Value} {below : List Frame} {meth : Method} {c : Code} {Q : State → Prop} {D : va_G} {cI cZ cR cJ : ClassId} {b L d : Nat} {xs : Nat → Int32} (F : lwE p l s m args below meth c D cI cZ cR cJ b L d xs) {κ μ : Zt} {i : Int} (i0 : 0 ≤ i) (i1 : i + 6 ≤ L) {H : Heap} {locs : List Loc} {ls : Array Slot} {cells slots : Nat} (hI : lwI D cI cZ cR cJ d s κ μ H locs) (hl : lv_has ls 7 [(0, .ref b), (1, .ref (aS d 0)), (2, .ref (aM d 0)), (3, .ref (d + 84)), (4, .int (jI i))]) (hcs : cells + 1 ≤ lwR.cells ∧ slots + 6 ≤ lwR.slots)
    (kk : lwK p l e s m args below meth c D cI cZ cR cJ b d i cells slots Q) : W p l e lwR s m args below meth c H locs cells slots Q (F0 m 735 ls []) := by
  obtain ⟨C, X1, X2, KJ, hz, hX, hb, hL, hds, hcw_sign, hcw_path, hcw_kinds, hl0⟩ := F
  have hbA : ¬ d ≤ b := by omega
  have hAold : ∀ q, q < s.heap.size → ¬ d ≤ q := fun q h => by omega
  obtain ⟨hG, hM, hRm, hP1, hP2, ⟨v0, hO⟩, hS⟩ := hI
  obtain ⟨w1, e1⟩ : ∃ w : Int, w = (xs (i + 1).toNat).toInt := ⟨_, rfl⟩
  have l1 : -2147483648 ≤ w1 := by rw [e1]; exact jI_lo _
  have u1 : w1 < 2147483648 := by rw [e1]; exact jI_hi _
  obtain ⟨w2, e2⟩ : ∃ w : Int, w = (xs (i + 2).toNat).toInt := ⟨_, rfl⟩
  have l2 : -2147483648 ≤ w2 := by rw [e2]; exact jI_lo _
  have u2 : w2 < 2147483648 := by rw [e2]; exact jI_hi _
  obtain ⟨w3, e3⟩ : ∃ w : Int, w = (xs (i + 3).toNat).toInt := ⟨_, rfl⟩
  have l3 : -2147483648 ≤ w3 := by rw [e3]; exact jI_lo _
  have u3 : w3 < 2147483648 := by rw [e3]; exact jI_hi _
  obtain ⟨w4, e4⟩ : ∃ w : Int, w = (xs (i + 4).toNat).toInt := ⟨_, rfl⟩
  have l4 : -2147483648 ≤ w4 := by rw [e4]; exact jI_lo _
  have u4 : w4 < 2147483648 := by rw [e4]; exact jI_hi _
  obtain ⟨w5, e5⟩ : ∃ w : Int, w = (xs (i + 5).toNat).toInt := ⟨_, rfl⟩
  have l5 : -2147483648 ≤ w5 := by rw [e5]; exact jI_lo _
  have u5 : w5 < 2147483648 := by rw [e5]; exact jI_hi _
  refine zg_aload_n C dL_law_735 rfl (lv_at hl 1 rfl) ?_
  refine zg_aload_n C dL_law_736 rfl (lv_at hl 0 rfl) ?_
  refine zg_iload C dL_law_737 (lv_at hl 4 rfl) ?_
  refine zg_iconst C dL_law_739 ?_
  refine zg_iadd C dL_law_740 ?_
  refine zj_sld C hX hb hbA hS hL (by omega) (by omega) dL_law_741 ?_
  rw [← e1]
  refine zg_aload_n C dL_law_742 rfl (lv_at hl 0 rfl) ?_
  refine zg_iload C dL_law_743 (lv_at hl 4 rfl) ?_
  refine zg_iconst C dL_law_745 ?_
  refine zg_iadd C dL_law_746 ?_
  refine zj_sld C hX hb hbA hS hL (by omega) (by omega) dL_law_747 ?_
  rw [← e2]
  refine zg_aload_n C dL_law_748 rfl (lv_at hl 3 rfl) ?_
  refine zj_callZ (n := 4) C X1 KJ hz hP1 hP2 hO hS hAold (Nat.le_add_right _ _) hdSM hdSO hdMO (kL_kinds l hl0 κ hG v0 w1 w2 (by omega) (by omega) (by omega) (by omega)) hcw_kinds rfl rfl mlL_87 stL_kinds iniL (by decide) (by decide +kernel) rfl rfl (Nat.le_of_ble_eq_true rfl) (Nat.le_of_ble_eq_true rfl) rfl hl.1 rfl (Nat.le_of_ble_eq_true rfl) dL_law_749 hcs (fun r u v H locs hq hP1 hP2 hO hS => ?_)
  rcases hq with ⟨hq, rfl, hu⟩ | ⟨hq, rfl, hv, hzq⟩
  · rw [hu] at hP1
    have hrg := kKinR_rg hG.1 w1 w2
    refine zg_istore (lv' := [(5, .int (jI 1)), (0, .ref b), (1, .ref (aS d 0)), (2, .ref (aM d 0)), (3, .ref (d + 84)), (4, .int (jI i))]) C dL_law_752 hl (by decide) rfl (fun ls hl => ?_)
    refine zg_aload_n C dL_law_754 rfl (lv_at hl 3 rfl) ?_
    refine zg_aload_n C dL_law_755 rfl (lv_at hl 1 rfl) ?_
    refine zg_iload C dL_law_756 (lv_at hl 5 rfl) ?_
    refine zg_iconst C dL_law_758 ?_
    refine zg_iadd C dL_law_759 ?_
    refine zj_sld C hX hb hbA hS hL (by omega) (by omega) dL_law_760 ?_
    rw [← e1]
    refine zg_aload_n C dL_law_761 rfl (lv_at hl 1 rfl) ?_
    refine zg_iload C dL_law_762 (lv_at hl 5 rfl) ?_
    refine zg_iconst C dL_law_764 ?_
    refine zg_iadd C dL_law_765 ?_
    refine zj_sld C hX hb hbA hS hL (by omega) (by omega) dL_law_766 ?_
    rw [← e2]
    refine zj_callV (k := 0) C X2 hP2 hP1 hO hS hdMS hdMO (kX5_kinds l μ hRm κ hM hG.1 w1 w2 (by omega) (by omega) (by omega) (by omega)) (cwV 2 C.ts (zgV mlL_89 imX5_kinds slX5_kinds iniX5 cdX5_kinds) rfl rfl rfl (by decide +kernel) ⟨Nat.le_of_ble_eq_true rfl, Nat.le_of_ble_eq_true rfl⟩) (by decide) lyM_0 rfl rfl rfl hl.1 rfl (Nat.le_of_ble_eq_true rfl) dL_law_767 ⟨hcs.1, hcs.2⟩ (fun r u2 H locs q hP2 hP1 hO hS => ?_)
    obtain ⟨rfl, hR2, hM2, -, ht⟩ := q
    refine zg_istore (lv' := [(6, .int (jI (kKinR κ w1 w2))), (5, .int (jI 1)), (0, .ref b), (1, .ref (aS d 0)), (2, .ref (aM d 0)), (3, .ref (d + 84)), (4, .int (jI i))]) C dL_law_770 hl (by decide) rfl (fun ls hl => ?_)
    refine zg_aload_n C dL_law_772 rfl (lv_at hl 4 rfl) ?_
    refine zj_callV (k := 0) C X2 hP2 hP1 hO hS hdMS hdMO (kX5_thrown l u2 hR2 κ hM2 hG.1) (cwV 0 C.ts (zgV mlL_79 imX5_thrown slX5_thrown iniX5 cdX5_thrown) rfl rfl rfl (by decide +kernel) ⟨Nat.le_of_ble_eq_true rfl, Nat.le_of_ble_eq_true rfl⟩) (by decide) lyM_0 rfl rfl rfl hl.1 rfl (Nat.le_of_ble_eq_true rfl) dL_law_773 ⟨hcs.1, hcs.2⟩ (fun r u9 H locs q hP2 hP1 hO hS => ?_)
    obtain ⟨rfl, hu9⟩ := q
    rw [hu9] at hP2
    rw [show u2 0 0 = 1 from by rw [ht]; rw [decide_eq_true hq]; rfl]
    refine zg_iload C dL_law_776 (lv_at hl 1 rfl) ?_
    refine zj_same (tgt := 783) C dL_law_778 (by decide) ?_
    refine zg_iload C dL_law_783 (lv_at hl 1 rfl) ?_
    refine zg_if_ne (tgt := 800) C (by omega) (by omega) dL_law_785 (by decide) (fun c_1 => ?_) (fun c_1 => ?_)
    · refine zg_goto (tgt := 1074) C dL_law_800 (by decide) ?_
      exact kk κ u2 _ _ _ _ _ (by omega) (by omega) ⟨hG, hM2, hR2, hP1, hP2, ⟨_, hO⟩, hS⟩ (lv_sub hl [2, 3, 4, 5, 6] rfl)
    · exact absurd c_1 (by decide)
  · subst hv
    have hrg := kKinR_rg hG.1 w1 w2
    refine zg_istore (lv' := [(5, .int (jI 0)), (0, .ref b), (1, .ref (aS d 0)), (2, .ref (aM d 0)), (3, .ref (d + 84)), (4, .int (jI i))]) C dL_law_752 hl (by decide) rfl (fun ls hl => ?_)
    refine zg_aload_n C dL_law_754 rfl (lv_at hl 3 rfl) ?_
    refine zg_aload_n C dL_law_755 rfl (lv_at hl 1 rfl) ?_
    refine zg_iload C dL_law_756 (lv_at hl 5 rfl) ?_
    refine zg_iconst C dL_law_758 ?_
    refine zg_iadd C dL_law_759 ?_
    refine zj_sld C hX hb hbA hS hL (by omega) (by omega) dL_law_760 ?_
    rw [← e1]
    refine zg_aload_n C dL_law_761 rfl (lv_at hl 1 rfl) ?_
    refine zg_iload C dL_law_762 (lv_at hl 5 rfl) ?_
    refine zg_iconst C dL_law_764 ?_
    refine zg_iadd C dL_law_765 ?_
    refine zj_sld C hX hb hbA hS hL (by omega) (by omega) dL_law_766 ?_
    rw [← e2]
    refine zj_callV (k := 0) C X2 hP2 hP1 hO hS hdMS hdMO (kX5_kinds l μ hRm κ hM hG.1 w1 w2 (by omega) (by omega) (by omega) (by omega)) (cwV 2 C.ts (zgV mlL_89 imX5_kinds slX5_kinds iniX5 cdX5_kinds) rfl rfl rfl (by decide +kernel) ⟨Nat.le_of_ble_eq_true rfl, Nat.le_of_ble_eq_true rfl⟩) (by decide) lyM_0 rfl rfl rfl hl.1 rfl (Nat.le_of_ble_eq_true rfl) dL_law_767 ⟨hcs.1, hcs.2⟩ (fun r u2 H locs q hP2 hP1 hO hS => ?_)
    obtain ⟨rfl, hR2, hM2, -, ht⟩ := q
    refine zg_istore (lv' := [(6, .int (jI (kKinR κ w1 w2))), (5, .int (jI 0)), (0, .ref b), (1, .ref (aS d 0)), (2, .ref (aM d 0)), (3, .ref (d + 84)), (4, .int (jI i))]) C dL_law_770 hl (by decide) rfl (fun ls hl => ?_)
    refine zg_aload_n C dL_law_772 rfl (lv_at hl 4 rfl) ?_
    refine zj_callV (k := 0) C X2 hP2 hP1 hO hS hdMS hdMO (kX5_thrown l u2 hR2 κ hM2 hG.1) (cwV 0 C.ts (zgV mlL_79 imX5_thrown slX5_thrown iniX5 cdX5_thrown) rfl rfl rfl (by decide +kernel) ⟨Nat.le_of_ble_eq_true rfl, Nat.le_of_ble_eq_true rfl⟩) (by decide) lyM_0 rfl rfl rfl hl.1 rfl (Nat.le_of_ble_eq_true rfl) dL_law_773 ⟨hcs.1, hcs.2⟩ (fun r u9 H locs q hP2 hP1 hO hS => ?_)
    obtain ⟨rfl, hu9⟩ := q
    rw [hu9] at hP2
    rw [show u2 0 0 = 0 from by rw [ht]; rw [decide_eq_false hq]; rfl]
    refine zg_iload C dL_law_776 (lv_at hl 1 rfl) ?_
    refine zj_same (tgt := 783) C dL_law_778 (by decide) ?_
    refine zg_iload C dL_law_783 (lv_at hl 1 rfl) ?_
    refine zg_if_ne (tgt := 800) C (by omega) (by omega) dL_law_785 (by decide) (fun c_2 => ?_) (fun c_2 => ?_)
    · exact absurd c_2 (by decide)
    · refine zg_aload_n C dL_law_788 rfl (lv_at hl 5 rfl) ?_
      refine zg_iconst C dL_law_789 ?_
      refine zj_lald C KJ hO dL_law_790 ?_
      refine zg_iload C dL_law_791 (lv_at hl 0 rfl) ?_
      refine zg_i2l C (by omega) (by omega) dL_law_793 ?_
      refine zg_lcmp (x := (kKinR κ w1 w2)) (y := (kKinR κ w1 w2)) C (by omega) (by omega) (by omega) (by omega) dL_law_794 ?_
      rw [cmpI_self]
      refine zg_if_eq (tgt := 800) C (by omega) (by omega) dL_law_795 (by decide) (fun c_3 => ?_) (fun c_3 => ?_)
      · refine zg_goto (tgt := 1074) C dL_law_800 (by decide) ?_
        exact kk u u2 _ _ _ _ _ (by omega) (by omega) ⟨(kGood_zq hG hzq), (RR_zq hM2 hzq), hR2, hP1, hP2, ⟨_, hO⟩, hS⟩ (lv_sub hl [2, 3, 4, 5, 6] rfl)
      · exact absurd c_3 (by decide)

set_option maxHeartbeats 4000000 in
set_option maxRecDepth 100000 in
theorem lwc_14 {p : Program} {l : Launch} {e : Env} {s : State} {m : MethodId} {args : Array Value} {below : List Frame} {meth : Method} {c : Code} {Q : State → Prop} {D : va_G} {cI cZ cR cJ : ClassId} {b L d : Nat} {xs : Nat → Int32} (F : lwE p l s m args below meth c D cI cZ cR cJ b L d xs) {κ μ : Zt} {i : Int} (i0 : 0 ≤ i) (i1 : i + 6 ≤ L) {H : Heap} {locs : List Loc} {ls : Array Slot} {cells slots : Nat} (hI : lwI D cI cZ cR cJ d s κ μ H locs) (hl : lv_has ls 7 [(0, .ref b), (1, .ref (aS d 0)), (2, .ref (aM d 0)), (3, .ref (d + 84)), (4, .int (jI i))]) (hcs : cells + 1 ≤ lwR.cells ∧ slots + 6 ≤ lwR.slots)
    (kk : lwK p l e s m args below meth c D cI cZ cR cJ b d i cells slots Q) : W p l e lwR s m args below meth c H locs cells slots Q (F0 m 803 ls []) := by
  obtain ⟨C, X1, X2, KJ, hz, hX, hb, hL, hds, hcw_sign, hcw_path, hcw_kinds, hl0⟩ := F
  have hbA : ¬ d ≤ b := by omega
  have hAold : ∀ q, q < s.heap.size → ¬ d ≤ q := fun q h => by omega
  obtain ⟨hG, hM, hRm, hP1, hP2, ⟨v0, hO⟩, hS⟩ := hI
  obtain ⟨w1, e1⟩ : ∃ w : Int, w = (xs (i + 1).toNat).toInt := ⟨_, rfl⟩
  have l1 : -2147483648 ≤ w1 := by rw [e1]; exact jI_lo _
  have u1 : w1 < 2147483648 := by rw [e1]; exact jI_hi _
  obtain ⟨w2, e2⟩ : ∃ w : Int, w = (xs (i + 2).toNat).toInt := ⟨_, rfl⟩
  have l2 : -2147483648 ≤ w2 := by rw [e2]; exact jI_lo _
  have u2 : w2 < 2147483648 := by rw [e2]; exact jI_hi _
  obtain ⟨w3, e3⟩ : ∃ w : Int, w = (xs (i + 3).toNat).toInt := ⟨_, rfl⟩
  have l3 : -2147483648 ≤ w3 := by rw [e3]; exact jI_lo _
  have u3 : w3 < 2147483648 := by rw [e3]; exact jI_hi _
  obtain ⟨w4, e4⟩ : ∃ w : Int, w = (xs (i + 4).toNat).toInt := ⟨_, rfl⟩
  have l4 : -2147483648 ≤ w4 := by rw [e4]; exact jI_lo _
  have u4 : w4 < 2147483648 := by rw [e4]; exact jI_hi _
  obtain ⟨w5, e5⟩ : ∃ w : Int, w = (xs (i + 5).toNat).toInt := ⟨_, rfl⟩
  have l5 : -2147483648 ≤ w5 := by rw [e5]; exact jI_lo _
  have u5 : w5 < 2147483648 := by rw [e5]; exact jI_hi _
  refine zg_aload_n C dL_law_803 rfl (lv_at hl 1 rfl) ?_
  refine zg_aload_n C dL_law_804 rfl (lv_at hl 0 rfl) ?_
  refine zg_iload C dL_law_805 (lv_at hl 4 rfl) ?_
  refine zg_iconst C dL_law_807 ?_
  refine zg_iadd C dL_law_808 ?_
  refine zj_sld C hX hb hbA hS hL (by omega) (by omega) dL_law_809 ?_
  rw [← e1]
  refine zg_aload_n C dL_law_810 rfl (lv_at hl 0 rfl) ?_
  refine zg_iload C dL_law_811 (lv_at hl 4 rfl) ?_
  refine zg_iconst C dL_law_813 ?_
  refine zg_iadd C dL_law_814 ?_
  refine zj_sld C hX hb hbA hS hL (by omega) (by omega) dL_law_815 ?_
  rw [← e2]
  refine zg_aload_n C dL_law_816 rfl (lv_at hl 0 rfl) ?_
  refine zg_iload C dL_law_817 (lv_at hl 4 rfl) ?_
  refine zg_iconst C dL_law_819 ?_
  refine zg_iadd C dL_law_820 ?_
  refine zj_sld C hX hb hbA hS hL (by omega) (by omega) dL_law_821 ?_
  rw [← e3]
  refine zj_callV (k := 0) C X1 hP1 hP2 hO hS hdSM hdSO (kX4_cursor l κ hG.1.1 w1 w2 w3 (by omega) (by omega) (by omega) (by omega) (by omega) (by omega) (kGood_pre hG.1)) (cwV 3 C.ts (zgV mlL_90 imX4_cursor slX4_cursor iniX4 cdX4_cursor) rfl rfl rfl (by decide +kernel) ⟨Nat.le_of_ble_eq_true rfl, Nat.le_of_ble_eq_true rfl⟩) (by decide) lyS_0 rfl rfl rfl hl.1 rfl (Nat.le_of_ble_eq_true rfl) dL_law_822 ⟨Nat.le_of_succ_le hcs.1, Nat.le_trans (Nat.le_add_right _ _) hcs.2⟩ (fun r u H locs q hP1 hP2 hO hS => ?_)
  obtain ⟨rfl, hu⟩ := q
  rw [hu] at hP1
  refine zg_aload_n C dL_law_825 rfl (lv_at hl 2 rfl) ?_
  refine zg_aload_n C dL_law_826 rfl (lv_at hl 0 rfl) ?_
  refine zg_iload C dL_law_827 (lv_at hl 4 rfl) ?_
  refine zg_iconst C dL_law_829 ?_
  refine zg_iadd C dL_law_830 ?_
  refine zj_sld C hX hb hbA hS hL (by omega) (by omega) dL_law_831 ?_
  rw [← e1]
  refine zg_aload_n C dL_law_832 rfl (lv_at hl 0 rfl) ?_
  refine zg_iload C dL_law_833 (lv_at hl 4 rfl) ?_
  refine zg_iconst C dL_law_835 ?_
  refine zg_iadd C dL_law_836 ?_
  refine zj_sld C hX hb hbA hS hL (by omega) (by omega) dL_law_837 ?_
  rw [← e2]
  refine zg_aload_n C dL_law_838 rfl (lv_at hl 0 rfl) ?_
  refine zg_iload C dL_law_839 (lv_at hl 4 rfl) ?_
  refine zg_iconst C dL_law_841 ?_
  refine zg_iadd C dL_law_842 ?_
  refine zj_sld C hX hb hbA hS hL (by omega) (by omega) dL_law_843 ?_
  rw [← e3]
  refine zj_callV (k := 0) C X2 hP2 hP1 hO hS hdMS hdMO (kX5_cursor l μ hRm κ hM hG.1 w1 w2 w3 (by omega) (by omega) (by omega) (by omega) (by omega) (by omega)) (cwV 3 C.ts (zgV mlL_93 imX5_cursor slX5_cursor iniX5 cdX5_cursor) rfl rfl rfl (by decide +kernel) ⟨Nat.le_of_ble_eq_true rfl, Nat.le_of_ble_eq_true rfl⟩) (by decide) lyM_0 rfl rfl rfl hl.1 rfl (Nat.le_of_ble_eq_true rfl) dL_law_844 ⟨Nat.le_of_succ_le hcs.1, Nat.le_trans (Nat.le_add_right _ _) hcs.2⟩ (fun r u2 H locs q hP2 hP1 hO hS => ?_)
  obtain ⟨rfl, hR2, hM2, -⟩ := q
  refine zj_same (tgt := 1074) C dL_law_847 (by decide) ?_
  exact kk (kCurS κ w1 w2 w3) u2 _ _ _ _ _ (by omega) (by omega) ⟨(kGood_curS hG w1 w2 w3), hM2, hR2, hP1, hP2, ⟨_, hO⟩, hS⟩ (lv_sub hl [0, 1, 2, 3, 4] rfl)
