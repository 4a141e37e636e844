set_option maxHeartbeats 4000000 in
set_option maxRecDepth 100000 in
theorem lwc_18 {p : Program} {l : Launch} {e : Env} {s : State} {m : MethodId} {args : Array Value} {below : List Frame} {meth : Method} {c : Code} {Q : State → Prop} {D : va_G} {cI cZ cR cJ : ClassId} {b L d : Nat} {xs : Nat → Int32} (F : lwE p l s m args below meth c D cI cZ cR cJ b L d xs) {κ μ : Zt} {i : Int} (i0 : 0 ≤ i) (i1 : i + 6 ≤ L) {H : Heap} {locs : List Loc} {ls : Array Slot} {cells slots : Nat} (hI : lwI D cI cZ cR cJ d s κ μ H locs) (hl : lv_has ls 7 [(0, .ref b), (1, .ref (aS d 0)), (2, .ref (aM d 0)), (3, .ref (d + 84)), (4, .int (jI i))]) (hcs : cells + 1 ≤ lwR.cells ∧ slots + 6 ≤ lwR.slots)
    (kk : lwK p l e s m args below meth c D cI cZ cR cJ b d i cells slots Q) : W p l e lwR s m args below meth c H locs cells slots Q (F0 m 975 ls []) := by
  obtain ⟨C, X1, X2, KJ, hz, hX, hb, hL, hds, hcw_sign, hcw_path, hcw_kinds, hl0⟩ := F
  have hbA : ¬ d ≤ b := by omega
  have hAold : ∀ q, q < s.heap.size → ¬ d ≤ q := fun q h => by omega
  obtain ⟨hG, hM, hRm, hP1, hP2, ⟨v0, hO⟩, hS⟩ := hI
  obtain ⟨w1, e1⟩ : ∃ w : Int, w = (xs (i + 1).toNat).toInt := ⟨_, rfl⟩
  have l1 : -2147483648 ≤ w1 := by rw [e1]; exact jI_lo _
  have u1 : w1 < 2147483648 := by rw [e1]; exact jI_hi _
  obtain ⟨w2, e2⟩ : ∃ w : Int, w = (xs (i + 2).toNat).toInt := ⟨_, rfl⟩
  have l2 : -2147483648 ≤ w2 := by rw [e2]; exact jI_lo _
  have u2 : w2 < 2147483648 := by rw [e2]; exact jI_hi _
  obtain ⟨w3, e3⟩ : ∃ w : Int, w = (xs (i + 3).toNat).toInt := ⟨_, rfl⟩
  have l3 : -2147483648 ≤ w3 := by rw [e3]; exact jI_lo _
  have u3 : w3 < 2147483648 := by rw [e3]; exact jI_hi _
  obtain ⟨w4, e4⟩ : ∃ w : Int, w = (xs (i + 4).toNat).toInt := ⟨_, rfl⟩
  have l4 : -2147483648 ≤ w4 := by rw [e4]; exact jI_lo _
  have u4 : w4 < 2147483648 := by rw [e4]; exact jI_hi _
  obtain ⟨w5, e5⟩ : ∃ w : Int, w = (xs (i + 5).toNat).toInt := ⟨_, rfl⟩
  have l5 : -2147483648 ≤ w5 := by rw [e5]; exact jI_lo _
  have u5 : w5 < 2147483648 := by rw [e5]; exact jI_hi _
  refine zg_aload_n C dL_law_975 rfl (lv_at hl 1 rfl) ?_
  refine zg_aload_n C dL_law_976 rfl (lv_at hl 0 rfl) ?_
  refine zg_iload C dL_law_977 (lv_at hl 4 rfl) ?_
  refine zg_iconst C dL_law_979 ?_
  refine zg_iadd C dL_law_980 ?_
  refine zj_sld C hX hb hbA hS hL (by omega) (by omega) dL_law_981 ?_
  rw [← e1]
  refine zg_aload_n C dL_law_982 rfl (lv_at hl 0 rfl) ?_
  refine zg_iload C dL_law_983 (lv_at hl 4 rfl) ?_
  refine zg_iconst C dL_law_985 ?_
  refine zg_iadd C dL_law_986 ?_
  refine zj_sld C hX hb hbA hS hL (by omega) (by omega) dL_law_987 ?_
  rw [← e2]
  refine zj_callV (k := 0) C X1 hP1 hP2 hO hS hdSM hdSO (kX4_deed l κ hG.1.1 w1 w2 (by omega) (by omega) (by omega) (by omega) (kGood_pre hG.1)) (cwV 2 C.ts (zgV mlL_106 imX4_deed slX4_deed iniX4 cdX4_deed) rfl rfl rfl (by decide +kernel) ⟨Nat.le_of_ble_eq_true rfl, Nat.le_of_ble_eq_true rfl⟩) (by decide) lyS_0 rfl rfl rfl hl.1 rfl (Nat.le_of_ble_eq_true rfl) dL_law_988 ⟨Nat.le_of_succ_le hcs.1, Nat.le_trans (Nat.le_add_right _ _) hcs.2⟩ (fun r u H locs q hP1 hP2 hO hS => ?_)
  obtain ⟨rfl, hu⟩ := q
  rw [hu] at hP1
  refine zg_aload_n C dL_law_991 rfl (lv_at hl 2 rfl) ?_
  refine zg_aload_n C dL_law_992 rfl (lv_at hl 0 rfl) ?_
  refine zg_iload C dL_law_993 (lv_at hl 4 rfl) ?_
  refine zg_iconst C dL_law_995 ?_
  refine zg_iadd C dL_law_996 ?_
  refine zj_sld C hX hb hbA hS hL (by omega) (by omega) dL_law_997 ?_
  rw [← e1]
  refine zg_aload_n C dL_law_998 rfl (lv_at hl 0 rfl) ?_
  refine zg_iload C dL_law_999 (lv_at hl 4 rfl) ?_
  refine zg_iconst C dL_law_1001 ?_
  refine zg_iadd C dL_law_1002 ?_
  refine zj_sld C hX hb hbA hS hL (by omega) (by omega) dL_law_1003 ?_
  rw [← e2]
  refine zj_callV (k := 0) C X2 hP2 hP1 hO hS hdMS hdMO (kX5_deed l μ hRm κ hM hG.1 w1 w2 (by omega) (by omega) (by omega) (by omega)) (cwV 2 C.ts (zgV mlL_109 imX5_deed slX5_deed iniX5 cdX5_deed) rfl rfl rfl (by decide +kernel) ⟨Nat.le_of_ble_eq_true rfl, Nat.le_of_ble_eq_true rfl⟩) (by decide) lyM_0 rfl rfl rfl hl.1 rfl (Nat.le_of_ble_eq_true rfl) dL_law_1004 ⟨Nat.le_of_succ_le hcs.1, Nat.le_trans (Nat.le_add_right _ _) hcs.2⟩ (fun r u2 H locs q hP2 hP1 hO hS => ?_)
  obtain ⟨rfl, hu2⟩ := q
  rw [hu2] at hP2
  refine zj_same (tgt := 1074) C dL_law_1007 (by decide) ?_
  exact kk κ μ _ _ _ _ _ (by omega) (by omega) ⟨hG, hM, hRm, hP1, hP2, ⟨_, hO⟩, hS⟩ (lv_sub hl [0, 1, 2, 3, 4] rfl)

set_option maxHeartbeats 4000000 in
set_option maxRecDepth 100000 in
theorem lwc_19 {p : Program} {l : Launch} {e : Env} {s : State} {m : MethodId} {args : Array Value} {below : List Frame} {meth : Method} {c : Code} {Q : State → Prop} {D : va_G} {cI cZ cR cJ : ClassId} {b L d : Nat} {xs : Nat → Int32} (F : lwE p l s m args below meth c D cI cZ cR cJ b L d xs) {κ μ : Zt} {i : Int} (i0 : 0 ≤ i) (i1 : i + 6 ≤ L) {H : Heap} {locs : List Loc} {ls : Array Slot} {cells slots : Nat} (hI : lwI D cI cZ cR cJ d s κ μ H locs) (hl : lv_has ls 7 [(0, .ref b), (1, .ref (aS d 0)), (2, .ref (aM d 0)), (3, .ref (d + 84)), (4, .int (jI i))]) (hcs : cells + 1 ≤ lwR.cells ∧ slots + 6 ≤ lwR.slots)
    (kk : lwK p l e s m args below meth c D cI cZ cR cJ b d i cells slots Q) : W p l e lwR s m args below meth c H locs cells slots Q (F0 m 1012 ls []) := by
  obtain ⟨C, X1, X2, KJ, hz, hX, hb, hL, hds, hcw_sign, hcw_path, hcw_kinds, hl0⟩ := F
  have hbA : ¬ d ≤ b := by omega
  have hAold : ∀ q, q < s.heap.size → ¬ d ≤ q := fun q h => by omega
  obtain ⟨hG, hM, hRm, hP1, hP2, ⟨v0, hO⟩, hS⟩ := hI
  obtain ⟨w1, e1⟩ : ∃ w : Int, w = (xs (i + 1).toNat).toInt := ⟨_, rfl⟩
  have l1 : -2147483648 ≤ w1 := by rw [e1]; exact jI_lo _
  have u1 : w1 < 2147483648 := by rw [e1]; exact jI_hi _
  obtain ⟨w2, e2⟩ : ∃ w : Int, w = (xs (i + 2).toNat).toInt := ⟨_, rfl⟩
  have l2 : -2147483648 ≤ w2 := by rw [e2]; exact jI_lo _
  have u2 : w2 < 2147483648 := by rw [e2]; exact jI_hi _
  obtain ⟨w3, e3⟩ : ∃ w : Int, w = (xs (i + 3).toNat).toInt := ⟨_, rfl⟩
  have l3 : -2147483648 ≤ w3 := by rw [e3]; exact jI_lo _
  have u3 : w3 < 2147483648 := by rw [e3]; exact jI_hi _
  obtain ⟨w4, e4⟩ : ∃ w : Int, w = (xs (i + 4).toNat).toInt := ⟨_, rfl⟩
  have l4 : -2147483648 ≤ w4 := by rw [e4]; exact jI_lo _
  have u4 : w4 < 2147483648 := by rw [e4]; exact jI_hi _
  obtain ⟨w5, e5⟩ : ∃ w : Int, w = (xs (i + 5).toNat).toInt := ⟨_, rfl⟩
  have l5 : -2147483648 ≤ w5 := by rw [e5]; exact jI_lo _
  have u5 : w5 < 2147483648 := by rw [e5]; exact jI_hi _
  refine zg_aload_n C dL_law_1012 rfl (lv_at hl 1 rfl) ?_
  refine zg_aload_n C dL_law_1013 rfl (lv_at hl 0 rfl) ?_
  refine zg_iload C dL_law_1014 (lv_at hl 4 rfl) ?_
  refine zg_iconst C dL_law_1016 ?_
  refine zg_iadd C dL_law_1017 ?_
  refine zj_sld C hX hb hbA hS hL (by omega) (by omega) dL_law_1018 ?_
  rw [← e1]
  refine zg_aload_n C dL_law_1019 rfl (lv_at hl 0 rfl) ?_
  refine zg_iload C dL_law_1020 (lv_at hl 4 rfl) ?_
  refine zg_iconst C dL_law_1022 ?_
  refine zg_iadd C dL_law_1023 ?_
  refine zj_sld C hX hb hbA hS hL (by omega) (by omega) dL_law_1024 ?_
  rw [← e2]
  refine zj_callV (k := 0) C X1 hP1 hP2 hO hS hdSM hdSO (kX4_message l κ hG.1.1 w1 w2 (by omega) (by omega) (by omega) (by omega) (kGood_pre hG.1)) (cwV 2 C.ts (zgV mlL_110 imX4_message slX4_message iniX4 cdX4_message) rfl rfl rfl (by decide +kernel) ⟨Nat.le_of_ble_eq_true rfl, Nat.le_of_ble_eq_true rfl⟩) (by decide) lyS_0 rfl rfl rfl hl.1 rfl (Nat.le_of_ble_eq_true rfl) dL_law_1025 ⟨Nat.le_of_succ_le hcs.1, Nat.le_trans (Nat.le_add_right _ _) hcs.2⟩ (fun r u H locs q hP1 hP2 hO hS => ?_)
  obtain ⟨rfl, hu⟩ := q
  rw [hu] at hP1
  refine zg_aload_n C dL_law_1028 rfl (lv_at hl 2 rfl) ?_
  refine zg_aload_n C dL_law_1029 rfl (lv_at hl 0 rfl) ?_
  refine zg_iload C dL_law_1030 (lv_at hl 4 rfl) ?_
  refine zg_iconst C dL_law_1032 ?_
  refine zg_iadd C dL_law_1033 ?_
  refine zj_sld C hX hb hbA hS hL (by omega) (by omega) dL_law_1034 ?_
  rw [← e1]
  refine zg_aload_n C dL_law_1035 rfl (lv_at hl 0 rfl) ?_
  refine zg_iload C dL_law_1036 (lv_at hl 4 rfl) ?_
  refine zg_iconst C dL_law_1038 ?_
  refine zg_iadd C dL_law_1039 ?_
  refine zj_sld C hX hb hbA hS hL (by omega) (by omega) dL_law_1040 ?_
  rw [← e2]
  refine zj_callV (k := 0) C X2 hP2 hP1 hO hS hdMS hdMO (kX5_message l μ hRm κ hM hG.1 w1 w2 (by omega) (by omega) (by omega) (by omega)) (cwV 2 C.ts (zgV mlL_113 imX5_message slX5_message iniX5 cdX5_message) rfl rfl rfl (by decide +kernel) ⟨Nat.le_of_ble_eq_true rfl, Nat.le_of_ble_eq_true rfl⟩) (by decide) lyM_0 rfl rfl rfl hl.1 rfl (Nat.le_of_ble_eq_true rfl) dL_law_1041 ⟨Nat.le_of_succ_le hcs.1, Nat.le_trans (Nat.le_add_right _ _) hcs.2⟩ (fun r u2 H locs q hP2 hP1 hO hS => ?_)
  obtain ⟨rfl, hu2⟩ := q
  rw [hu2] at hP2
  refine zj_same (tgt := 1074) C dL_law_1044 (by decide) ?_
  exact kk κ μ _ _ _ _ _ (by omega) (by omega) ⟨hG, hM, hRm, hP1, hP2, ⟨_, hO⟩, hS⟩ (lv_sub hl [0, 1, 2, 3, 4] rfl)

set_option maxHeartbeats 4000000 in
set_option maxRecDepth 100000 in
theorem lwc_20 {p : Program} {l : Launch} {e : Env} {s : State} {m : MethodId} {args : Array Value} {below : List Frame} {meth : Method} {c : Code} {Q : State → Prop} {D : va_G} {cI cZ cR cJ : ClassId} {b L d : Nat} {xs : Nat → Int32} (F : lwE p l s m args below meth c D cI cZ cR cJ b L d xs) {κ μ : Zt} {i : Int} (i0 : 0 ≤ i) (i1 : i + 6 ≤ L) {H : Heap} {locs : List Loc} {ls : Array Slot} {cells slots : Nat} (hI : lwI D cI cZ cR cJ d s κ μ H locs) (hl : lv_has ls 7 [(0, .ref b), (1, .ref (aS d 0)), (2, .ref (aM d 0)), (3, .ref (d + 84)), (4, .int (jI i))]) (hcs : cells + 1 ≤ lwR.cells ∧ slots + 6 ≤ lwR.slots)
    (kk : lwK p l e s m args below meth c D cI cZ cR cJ b d i cells slots Q) : W p l e lwR s m args below meth c H locs cells slots Q (F0 m 1049 ls []) := by
  obtain ⟨C, X1, X2, KJ, hz, hX, hb, hL, hds, hcw_sign, hcw_path, hcw_kinds, hl0⟩ := F
  have hbA : ¬ d ≤ b := by omega
  have hAold : ∀ q, q < s.heap.size → ¬ d ≤ q := fun q h => by omega
  obtain ⟨hG, hM, hRm, hP1, hP2, ⟨v0, hO⟩, hS⟩ := hI
  obtain ⟨w1, e1⟩ : ∃ w : Int, w = (xs (i + 1).toNat).toInt := ⟨_, rfl⟩
  have l1 : -2147483648 ≤ w1 := by rw [e1]; exact jI_lo _
  have u1 : w1 < 2147483648 := by rw [e1]; exact jI_hi _
  obtain ⟨w2, e2⟩ : ∃ w : Int, w = (xs (i + 2).toNat).toInt := ⟨_, rfl⟩
  have l2 : -2147483648 ≤ w2 := by rw [e2]; exact jI_lo _
  have u2 : w2 < 2147483648 := by rw [e2]; exact jI_hi _
  obtain ⟨w3, e3⟩ : ∃ w : Int, w = (xs (i + 3).toNat).toInt := ⟨_, rfl⟩
  have l3 : -2147483648 ≤ w3 := by rw [e3]; exact jI_lo _
  have u3 : w3 < 2147483648 := by rw [e3]; exact jI_hi _
  obtain ⟨w4, e4⟩ : ∃ w : Int, w = (xs (i + 4).toNat).toInt := ⟨_, rfl⟩
  have l4 : -2147483648 ≤ w4 := by rw [e4]; exact jI_lo _
  have u4 : w4 < 2147483648 := by rw [e4]; exact jI_hi _
  obtain ⟨w5, e5⟩ : ∃ w : Int, w = (xs (i + 5).toNat).toInt := ⟨_, rfl⟩
  have l5 : -2147483648 ≤ w5 := by rw [e5]; exact jI_lo _
  have u5 : w5 < 2147483648 := by rw [e5]; exact jI_hi _
  refine zg_aload_n C dL_law_1049 rfl (lv_at hl 1 rfl) ?_
  refine zg_aload_n C dL_law_1050 rfl (lv_at hl 0 rfl) ?_
  refine zg_iload C dL_law_1051 (lv_at hl 4 rfl) ?_
  refine zg_iconst C dL_law_1053 ?_
  refine zg_iadd C dL_law_1054 ?_
  refine zj_sld C hX hb hbA hS hL (by omega) (by omega) dL_law_1055 ?_
  rw [← e1]
  refine zj_callV (k := 0) C X1 hP1 hP2 hO hS hdSM hdSO (kX4_count l κ hG.1.1 w1 (by omega) (by omega) (kGood_pre hG.1)) (cwV 1 C.ts (zgV mlL_114 imX4_count slX4_count iniX4 cdX4_count) rfl rfl rfl (by decide +kernel) ⟨Nat.le_of_ble_eq_true rfl, Nat.le_of_ble_eq_true rfl⟩) (by decide) lyS_0 rfl rfl rfl hl.1 rfl (Nat.le_of_ble_eq_true rfl) dL_law_1056 ⟨Nat.le_of_succ_le hcs.1, Nat.le_trans (Nat.le_add_right _ _) hcs.2⟩ (fun r u H locs q hP1 hP2 hO hS => ?_)
  obtain ⟨rfl, hu⟩ := q
  rw [hu] at hP1
  refine zg_aload_n C dL_law_1059 rfl (lv_at hl 2 rfl) ?_
  refine zg_aload_n C dL_law_1060 rfl (lv_at hl 0 rfl) ?_
  refine zg_iload C dL_law_1061 (lv_at hl 4 rfl) ?_
  refine zg_iconst C dL_law_1063 ?_
  refine zg_iadd C dL_law_1064 ?_
  refine zj_sld C hX hb hbA hS hL (by omega) (by omega) dL_law_1065 ?_
  rw [← e1]
  refine zj_callV (k := 0) C X2 hP2 hP1 hO hS hdMS hdMO (kX5_count l μ hRm κ hM hG.1 w1 (by omega) (by omega)) (cwV 1 C.ts (zgV mlL_117 imX5_count slX5_count iniX5 cdX5_count) rfl rfl rfl (by decide +kernel) ⟨Nat.le_of_ble_eq_true rfl, Nat.le_of_ble_eq_true rfl⟩) (by decide) lyM_0 rfl rfl rfl hl.1 rfl (Nat.le_of_ble_eq_true rfl) dL_law_1066 ⟨Nat.le_of_succ_le hcs.1, Nat.le_trans (Nat.le_add_right _ _) hcs.2⟩ (fun r u2 H locs q hP2 hP1 hO hS => ?_)
  obtain ⟨rfl, hu2⟩ := q
  rw [hu2] at hP2
  refine zj_same (tgt := 1074) C dL_law_1069 (by decide) ?_
  exact kk κ μ _ _ _ _ _ (by omega) (by omega) ⟨hG, hM, hRm, hP1, hP2, ⟨_, hO⟩, hS⟩ (lv_sub hl [0, 1, 2, 3, 4] rfl)
