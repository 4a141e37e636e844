set_option maxHeartbeats 4000000 in
set_option maxRecDepth 100000 in
theorem lwc_15 {p : Program} {l : Launch} {e : Env} {s : State} {m : MethodId} {args : Array Value} {below : List Frame} {meth : Method} {c : Code} {Q : State → Prop} {D : va_G} {cI cZ cR cJ : ClassId} {b L d : Nat} {xs : Nat → Int32} (F : lwE p l s m args below meth c D cI cZ cR cJ b L d xs) {κ μ : Zt} {i : Int} (i0 : 0 ≤ i) (i1 : i + 6 ≤ L) {H : Heap} {locs : List Loc} {ls : Array Slot} {cells slots : Nat} (hI : lwI D cI cZ cR cJ d s κ μ H locs) (hl : lv_has ls 7 [(0, .ref b), (1, .ref (aS d 0)), (2, .ref (aM d 0)), (3, .ref (d + 84)), (4, .int (jI i))]) (hcs : cells + 1 ≤ lwR.cells ∧ slots + 6 ≤ lwR.slots)
    (kk : lwK p l e s m args below meth c D cI cZ cR cJ b d i cells slots Q) : W p l e lwR s m args below meth c H locs cells slots Q (F0 m 852 ls []) := by
  obtain ⟨C, X1, X2, KJ, hz, hX, hb, hL, hds, hcw_sign, hcw_path, hcw_kinds, hl0⟩ := F
  have hbA : ¬ d ≤ b := by omega
  have hAold : ∀ q, q < s.heap.size → ¬ d ≤ q := fun q h => by omega
  obtain ⟨hG, hM, hRm, hP1, hP2, ⟨v0, hO⟩, hS⟩ := hI
  obtain ⟨w1, e1⟩ : ∃ w : Int, w = (xs (i + 1).toNat).toInt := ⟨_, rfl⟩
  have l1 : -2147483648 ≤ w1 := by rw [e1]; exact jI_lo _
  have u1 : w1 < 2147483648 := by rw [e1]; exact jI_hi _
  obtain ⟨w2, e2⟩ : ∃ w : Int, w = (xs (i + 2).toNat).toInt := ⟨_, rfl⟩
  have l2 : -2147483648 ≤ w2 := by rw [e2]; exact jI_lo _
  have u2 : w2 < 2147483648 := by rw [e2]; exact jI_hi _
  obtain ⟨w3, e3⟩ : ∃ w : Int, w = (xs (i + 3).toNat).toInt := ⟨_, rfl⟩
  have l3 : -2147483648 ≤ w3 := by rw [e3]; exact jI_lo _
  have u3 : w3 < 2147483648 := by rw [e3]; exact jI_hi _
  obtain ⟨w4, e4⟩ : ∃ w : Int, w = (xs (i + 4).toNat).toInt := ⟨_, rfl⟩
  have l4 : -2147483648 ≤ w4 := by rw [e4]; exact jI_lo _
  have u4 : w4 < 2147483648 := by rw [e4]; exact jI_hi _
  obtain ⟨w5, e5⟩ : ∃ w : Int, w = (xs (i + 5).toNat).toInt := ⟨_, rfl⟩
  have l5 : -2147483648 ≤ w5 := by rw [e5]; exact jI_lo _
  have u5 : w5 < 2147483648 := by rw [e5]; exact jI_hi _
  refine zg_aload_n C dL_law_852 rfl (lv_at hl 1 rfl) ?_
  refine zg_aload_n C dL_law_853 rfl (lv_at hl 0 rfl) ?_
  refine zg_iload C dL_law_854 (lv_at hl 4 rfl) ?_
  refine zg_iconst C dL_law_856 ?_
  refine zg_iadd C dL_law_857 ?_
  refine zj_sld C hX hb hbA hS hL (by omega) (by omega) dL_law_858 ?_
  rw [← e1]
  refine zg_aload_n C dL_law_859 rfl (lv_at hl 0 rfl) ?_
  refine zg_iload C dL_law_860 (lv_at hl 4 rfl) ?_
  refine zg_iconst C dL_law_862 ?_
  refine zg_iadd C dL_law_863 ?_
  refine zj_sld C hX hb hbA hS hL (by omega) (by omega) dL_law_864 ?_
  rw [← e2]
  refine zj_callV (k := 0) C X1 hP1 hP2 hO hS hdSM hdSO (kX4_at l κ hG.1.1 w1 w2 (by omega) (by omega) (by omega) (by omega) (kGood_pre hG.1)) (cwV 2 C.ts (zgV mlL_94 imX4_at slX4_at iniX4 cdX4_at) rfl rfl rfl (by decide +kernel) ⟨Nat.le_of_ble_eq_true rfl, Nat.le_of_ble_eq_true rfl⟩) (by decide) lyS_0 rfl rfl rfl hl.1 rfl (Nat.le_of_ble_eq_true rfl) dL_law_865 ⟨Nat.le_of_succ_le hcs.1, Nat.le_trans (Nat.le_add_right _ _) hcs.2⟩ (fun r u H locs q hP1 hP2 hO hS => ?_)
  obtain ⟨rfl, hu⟩ := q
  rw [hu] at hP1
  refine zg_aload_n C dL_law_868 rfl (lv_at hl 2 rfl) ?_
  refine zg_aload_n C dL_law_869 rfl (lv_at hl 0 rfl) ?_
  refine zg_iload C dL_law_870 (lv_at hl 4 rfl) ?_
  refine zg_iconst C dL_law_872 ?_
  refine zg_iadd C dL_law_873 ?_
  refine zj_sld C hX hb hbA hS hL (by omega) (by omega) dL_law_874 ?_
  rw [← e1]
  refine zg_aload_n C dL_law_875 rfl (lv_at hl 0 rfl) ?_
  refine zg_iload C dL_law_876 (lv_at hl 4 rfl) ?_
  refine zg_iconst C dL_law_878 ?_
  refine zg_iadd C dL_law_879 ?_
  refine zj_sld C hX hb hbA hS hL (by omega) (by omega) dL_law_880 ?_
  rw [← e2]
  refine zj_callV (k := 0) C X2 hP2 hP1 hO hS hdMS hdMO (kX5_at l μ hRm κ hM hG.1 w1 w2 (by omega) (by omega) (by omega) (by omega)) (cwV 2 C.ts (zgV mlL_97 imX5_at slX5_at iniX5 cdX5_at) rfl rfl rfl (by decide +kernel) ⟨Nat.le_of_ble_eq_true rfl, Nat.le_of_ble_eq_true rfl⟩) (by decide) lyM_0 rfl rfl rfl hl.1 rfl (Nat.le_of_ble_eq_true rfl) dL_law_881 ⟨Nat.le_of_succ_le hcs.1, Nat.le_trans (Nat.le_add_right _ _) hcs.2⟩ (fun r u2 H locs q hP2 hP1 hO hS => ?_)
  obtain ⟨rfl, hu2⟩ := q
  rw [hu2] at hP2
  refine zj_same (tgt := 1074) C dL_law_884 (by decide) ?_
  exact kk κ μ _ _ _ _ _ (by omega) (by omega) ⟨hG, hM, hRm, hP1, hP2, ⟨_, hO⟩, hS⟩ (lv_sub hl [0, 1, 2, 3, 4] rfl)

set_option maxHeartbeats 4000000 in
set_option maxRecDepth 100000 in
theorem lwc_16 {p : Program} {l : Launch} {e : Env} {s : State} {m : MethodId} {args : Array Value} {below : List Frame} {meth : Method} {c : Code} {Q : State → Prop} {D : va_G} {cI cZ cR cJ : ClassId} {b L d : Nat} {xs : Nat → Int32} (F : lwE p l s m args below meth c D cI cZ cR cJ b L d xs) {κ μ : Zt} {i : Int} (i0 : 0 ≤ i) (i1 : i + 6 ≤ L) {H : Heap} {locs : List Loc} {ls : Array Slot} {cells slots : Nat} (hI : lwI D cI cZ cR cJ d s κ μ H locs) (hl : lv_has ls 7 [(0, .ref b), (1, .ref (aS d 0)), (2, .ref (aM d 0)), (3, .ref (d + 84)), (4, .int (jI i))]) (hcs : cells + 1 ≤ lwR.cells ∧ slots + 6 ≤ lwR.slots)
    (kk : lwK p l e s m args below meth c D cI cZ cR cJ b d i cells slots Q) : W p l e lwR s m args below meth c H locs cells slots Q (F0 m 889 ls []) := by
  obtain ⟨C, X1, X2, KJ, hz, hX, hb, hL, hds, hcw_sign, hcw_path, hcw_kinds, hl0⟩ := F
  have hbA : ¬ d ≤ b := by omega
  have hAold : ∀ q, q < s.heap.size → ¬ d ≤ q := fun q h => by omega
  obtain ⟨hG, hM, hRm, hP1, hP2, ⟨v0, hO⟩, hS⟩ := hI
  obtain ⟨w1, e1⟩ : ∃ w : Int, w = (xs (i + 1).toNat).toInt := ⟨_, rfl⟩
  have l1 : -2147483648 ≤ w1 := by rw [e1]; exact jI_lo _
  have u1 : w1 < 2147483648 := by rw [e1]; exact jI_hi _
  obtain ⟨w2, e2⟩ : ∃ w : Int, w = (xs (i + 2).toNat).toInt := ⟨_, rfl⟩
  have l2 : -2147483648 ≤ w2 := by rw [e2]; exact jI_lo _
  have u2 : w2 < 2147483648 := by rw [e2]; exact jI_hi _
  obtain ⟨w3, e3⟩ : ∃ w : Int, w = (xs (i + 3).toNat).toInt := ⟨_, rfl⟩
  have l3 : -2147483648 ≤ w3 := by rw [e3]; exact jI_lo _
  have u3 : w3 < 2147483648 := by rw [e3]; exact jI_hi _
  obtain ⟨w4, e4⟩ : ∃ w : Int, w = (xs (i + 4).toNat).toInt := ⟨_, rfl⟩
  have l4 : -2147483648 ≤ w4 := by rw [e4]; exact jI_lo _
  have u4 : w4 < 2147483648 := by rw [e4]; exact jI_hi _
  obtain ⟨w5, e5⟩ : ∃ w : Int, w = (xs (i + 5).toNat).toInt := ⟨_, rfl⟩
  have l5 : -2147483648 ≤ w5 := by rw [e5]; exact jI_lo _
  have u5 : w5 < 2147483648 := by rw [e5]; exact jI_hi _
  refine zg_aload_n C dL_law_889 rfl (lv_at hl 1 rfl) ?_
  refine zg_aload_n C dL_law_890 rfl (lv_at hl 0 rfl) ?_
  refine zg_iload C dL_law_891 (lv_at hl 4 rfl) ?_
  refine zg_iconst C dL_law_893 ?_
  refine zg_iadd C dL_law_894 ?_
  refine zj_sld C hX hb hbA hS hL (by omega) (by omega) dL_law_895 ?_
  rw [← e1]
  refine zg_aload_n C dL_law_896 rfl (lv_at hl 0 rfl) ?_
  refine zg_iload C dL_law_897 (lv_at hl 4 rfl) ?_
  refine zg_iconst C dL_law_899 ?_
  refine zg_iadd C dL_law_900 ?_
  refine zj_sld C hX hb hbA hS hL (by omega) (by omega) dL_law_901 ?_
  rw [← e2]
  refine zg_aload_n C dL_law_902 rfl (lv_at hl 0 rfl) ?_
  refine zg_iload C dL_law_903 (lv_at hl 4 rfl) ?_
  refine zg_iconst C dL_law_905 ?_
  refine zg_iadd C dL_law_906 ?_
  refine zj_sld C hX hb hbA hS hL (by omega) (by omega) dL_law_907 ?_
  rw [← e3]
  refine zj_callV (k := 0) C X1 hP1 hP2 hO hS hdSM hdSO (kX4_about l κ hG.1.1 w1 w2 w3 (by omega) (by omega) (by omega) (by omega) (by omega) (by omega) (kGood_pre hG.1)) (cwV 3 C.ts (zgV mlL_98 imX4_about slX4_about iniX4 cdX4_about) rfl rfl rfl (by decide +kernel) ⟨Nat.le_of_ble_eq_true rfl, Nat.le_of_ble_eq_true rfl⟩) (by decide) lyS_0 rfl rfl rfl hl.1 rfl (Nat.le_of_ble_eq_true rfl) dL_law_908 ⟨Nat.le_of_succ_le hcs.1, Nat.le_trans (Nat.le_add_right _ _) hcs.2⟩ (fun r u H locs q hP1 hP2 hO hS => ?_)
  obtain ⟨rfl, hu⟩ := q
  rw [hu] at hP1
  refine zg_aload_n C dL_law_911 rfl (lv_at hl 2 rfl) ?_
  refine zg_aload_n C dL_law_912 rfl (lv_at hl 0 rfl) ?_
  refine zg_iload C dL_law_913 (lv_at hl 4 rfl) ?_
  refine zg_iconst C dL_law_915 ?_
  refine zg_iadd C dL_law_916 ?_
  refine zj_sld C hX hb hbA hS hL (by omega) (by omega) dL_law_917 ?_
  rw [← e1]
  refine zg_aload_n C dL_law_918 rfl (lv_at hl 0 rfl) ?_
  refine zg_iload C dL_law_919 (lv_at hl 4 rfl) ?_
  refine zg_iconst C dL_law_921 ?_
  refine zg_iadd C dL_law_922 ?_
  refine zj_sld C hX hb hbA hS hL (by omega) (by omega) dL_law_923 ?_
  rw [← e2]
  refine zg_aload_n C dL_law_924 rfl (lv_at hl 0 rfl) ?_
  refine zg_iload C dL_law_925 (lv_at hl 4 rfl) ?_
  refine zg_iconst C dL_law_927 ?_
  refine zg_iadd C dL_law_928 ?_
  refine zj_sld C hX hb hbA hS hL (by omega) (by omega) dL_law_929 ?_
  rw [← e3]
  refine zj_callV (k := 0) C X2 hP2 hP1 hO hS hdMS hdMO (kX5_about l μ hRm κ hM hG.1 w1 w2 w3 (by omega) (by omega) (by omega) (by omega) (by omega) (by omega)) (cwV 3 C.ts (zgV mlL_101 imX5_about slX5_about iniX5 cdX5_about) rfl rfl rfl (by decide +kernel) ⟨Nat.le_of_ble_eq_true rfl, Nat.le_of_ble_eq_true rfl⟩) (by decide) lyM_0 rfl rfl rfl hl.1 rfl (Nat.le_of_ble_eq_true rfl) dL_law_930 ⟨Nat.le_of_succ_le hcs.1, Nat.le_trans (Nat.le_add_right _ _) hcs.2⟩ (fun r u2 H locs q hP2 hP1 hO hS => ?_)
  obtain ⟨rfl, hu2⟩ := q
  rw [hu2] at hP2
  refine zj_same (tgt := 1074) C dL_law_933 (by decide) ?_
  exact kk κ μ _ _ _ _ _ (by omega) (by omega) ⟨hG, hM, hRm, hP1, hP2, ⟨_, hO⟩, hS⟩ (lv_sub hl [0, 1, 2, 3, 4] rfl)

set_option maxHeartbeats 4000000 in
set_option maxRecDepth 100000 in
theorem lwc_17 {p : Program} {l : Launch} {e : Env} {s : State} {m : MethodId} {args : Array Value} {below : List Frame} {meth : Method} {c : Code} {Q : State → Prop} {D : va_G} {cI cZ cR cJ : ClassId} {b L d : Nat} {xs : Nat → Int32} (F : lwE p l s m args below meth c D cI cZ cR cJ b L d xs) {κ μ : Zt} {i : Int} (i0 : 0 ≤ i) (i1 : i + 6 ≤ L) {H : Heap} {locs : List Loc} {ls : Array Slot} {cells slots : Nat} (hI : lwI D cI cZ cR cJ d s κ μ H locs) (hl : lv_has ls 7 [(0, .ref b), (1, .ref (aS d 0)), (2, .ref (aM d 0)), (3, .ref (d + 84)), (4, .int (jI i))]) (hcs : cells + 1 ≤ lwR.cells ∧ slots + 6 ≤ lwR.slots)
    (kk : lwK p l e s m args below meth c D cI cZ cR cJ b d i cells slots Q) : W p l e lwR s m args below meth c H locs cells slots Q (F0 m 938 ls []) := by
  obtain ⟨C, X1, X2, KJ, hz, hX, hb, hL, hds, hcw_sign, hcw_path, hcw_kinds, hl0⟩ := F
  have hbA : ¬ d ≤ b := by omega
  have hAold : ∀ q, q < s.heap.size → ¬ d ≤ q := fun q h => by omega
  obtain ⟨hG, hM, hRm, hP1, hP2, ⟨v0, hO⟩, hS⟩ := hI
  obtain ⟨w1, e1⟩ : ∃ w : Int, w = (xs (i + 1).toNat).toInt := ⟨_, rfl⟩
  have l1 : -2147483648 ≤ w1 := by rw [e1]; exact jI_lo _
  have u1 : w1 < 2147483648 := by rw [e1]; exact jI_hi _
  obtain ⟨w2, e2⟩ : ∃ w : Int, w = (xs (i + 2).toNat).toInt := ⟨_, rfl⟩
  have l2 : -2147483648 ≤ w2 := by rw [e2]; exact jI_lo _
  have u2 : w2 < 2147483648 := by rw [e2]; exact jI_hi _
  obtain ⟨w3, e3⟩ : ∃ w : Int, w = (xs (i + 3).toNat).toInt := ⟨_, rfl⟩
  have l3 : -2147483648 ≤ w3 := by rw [e3]; exact jI_lo _
  have u3 : w3 < 2147483648 := by rw [e3]; exact jI_hi _
  obtain ⟨w4, e4⟩ : ∃ w : Int, w = (xs (i + 4).toNat).toInt := ⟨_, rfl⟩
  have l4 : -2147483648 ≤ w4 := by rw [e4]; exact jI_lo _
  have u4 : w4 < 2147483648 := by rw [e4]; exact jI_hi _
  obtain ⟨w5, e5⟩ : ∃ w : Int, w = (xs (i + 5).toNat).toInt := ⟨_, rfl⟩
  have l5 : -2147483648 ≤ w5 := by rw [e5]; exact jI_lo _
  have u5 : w5 < 2147483648 := by rw [e5]; exact jI_hi _
  refine zg_aload_n C dL_law_938 rfl (lv_at hl 1 rfl) ?_
  refine zg_aload_n C dL_law_939 rfl (lv_at hl 0 rfl) ?_
  refine zg_iload C dL_law_940 (lv_at hl 4 rfl) ?_
  refine zg_iconst C dL_law_942 ?_
  refine zg_iadd C dL_law_943 ?_
  refine zj_sld C hX hb hbA hS hL (by omega) (by omega) dL_law_944 ?_
  rw [← e1]
  refine zg_aload_n C dL_law_945 rfl (lv_at hl 0 rfl) ?_
  refine zg_iload C dL_law_946 (lv_at hl 4 rfl) ?_
  refine zg_iconst C dL_law_948 ?_
  refine zg_iadd C dL_law_949 ?_
  refine zj_sld C hX hb hbA hS hL (by omega) (by omega) dL_law_950 ?_
  rw [← e2]
  refine zj_callV (k := 0) C X1 hP1 hP2 hO hS hdSM hdSO (kX4_same l κ hG.1.1 w1 w2 (by omega) (by omega) (by omega) (by omega) (kGood_pre hG.1)) (cwV 2 C.ts (zgV mlL_102 imX4_same slX4_same iniX4 cdX4_same) rfl rfl rfl (by decide +kernel) ⟨Nat.le_of_ble_eq_true rfl, Nat.le_of_ble_eq_true rfl⟩) (by decide) lyS_0 rfl rfl rfl hl.1 rfl (Nat.le_of_ble_eq_true rfl) dL_law_951 ⟨Nat.le_of_succ_le hcs.1, Nat.le_trans (Nat.le_add_right _ _) hcs.2⟩ (fun r u H locs q hP1 hP2 hO hS => ?_)
  obtain ⟨rfl, hzq⟩ := q
  refine zg_aload_n C dL_law_954 rfl (lv_at hl 2 rfl) ?_
  refine zg_aload_n C dL_law_955 rfl (lv_at hl 0 rfl) ?_
  refine zg_iload C dL_law_956 (lv_at hl 4 rfl) ?_
  refine zg_iconst C dL_law_958 ?_
  refine zg_iadd C dL_law_959 ?_
  refine zj_sld C hX hb hbA hS hL (by omega) (by omega) dL_law_960 ?_
  rw [← e1]
  refine zg_aload_n C dL_law_961 rfl (lv_at hl 0 rfl) ?_
  refine zg_iload C dL_law_962 (lv_at hl 4 rfl) ?_
  refine zg_iconst C dL_law_964 ?_
  refine zg_iadd C dL_law_965 ?_
  refine zj_sld C hX hb hbA hS hL (by omega) (by omega) dL_law_966 ?_
  rw [← e2]
  refine zj_callV (k := 0) C X2 hP2 hP1 hO hS hdMS hdMO (kX5_same l μ hRm κ hM hG.1 w1 w2 (by omega) (by omega) (by omega) (by omega)) (cwV 2 C.ts (zgV mlL_105 imX5_same slX5_same iniX5 cdX5_same) rfl rfl rfl (by decide +kernel) ⟨Nat.le_of_ble_eq_true rfl, Nat.le_of_ble_eq_true rfl⟩) (by decide) lyM_0 rfl rfl rfl hl.1 rfl (Nat.le_of_ble_eq_true rfl) dL_law_967 ⟨Nat.le_of_succ_le hcs.1, Nat.le_trans (Nat.le_add_right _ _) hcs.2⟩ (fun r u2 H locs q hP2 hP1 hO hS => ?_)
  obtain ⟨rfl, hu2⟩ := q
  rw [hu2] at hP2
  refine zj_same (tgt := 1074) C dL_law_970 (by decide) ?_
  exact kk u μ _ _ _ _ _ (by omega) (by omega) ⟨(kGood_zq hG hzq), (RR_zq hM hzq), hRm, hP1, hP2, ⟨_, hO⟩, hS⟩ (lv_sub hl [0, 1, 2, 3, 4] rfl)
