set_option maxHeartbeats 4000000 in
set_option maxRecDepth 100000 in
theorem lwc_0 {p : Program} {l : Launch} {e : Env} {s : State} {m : MethodId} {args : Array Value} {below : List Frame} {meth : Method} {c : Code} {Q : State → Prop} {D : va_G} {cI cZ cR cJ : ClassId} {b L d : Nat} {xs : Nat → Int32} (F : lwE p l s m args below meth c D cI cZ cR cJ b L d xs) {κ μ : Zt} {i : Int} (i0 : 0 ≤ i) (i1 : i + 6 ≤ L) {H : Heap} {locs : List Loc} {ls : Array Slot} {cells slots : Nat} (hI : lwI D cI cZ cR cJ d s κ μ H locs) (hl : lv_has ls 7 [(0, .ref b), (1, .ref (aS d 0)), (2, .ref (aM d 0)), (3, .ref (d + 84)), (4, .int (jI i))]) (hcs : cells + 1 ≤ lwR.cells ∧ slots + 6 ≤ lwR.slots)
    (kk : lwK p l e s m args below meth c D cI cZ cR cJ b d i cells slots Q) : W p l e lwR s m args below meth c H locs cells slots Q (F0 m 140 ls []) := by
  obtain ⟨C, X1, X2, KJ, hz, hX, hb, hL, hds, hcw_sign, hcw_path, hcw_kinds, hl0⟩ := F
  have hbA : ¬ d ≤ b := by omega
  have hAold : ∀ q, q < s.heap.size → ¬ d ≤ q := fun q h => by omega
  obtain ⟨hG, hM, hRm, hP1, hP2, ⟨v0, hO⟩, hS⟩ := hI
  obtain ⟨w1, e1⟩ : ∃ w : Int, w = (xs (i + 1).toNat).toInt := ⟨_, rfl⟩
  have l1 : -2147483648 ≤ w1 := by rw [e1]; exact jI_lo _
  have u1 : w1 < 2147483648 := by rw [e1]; exact jI_hi _
  obtain ⟨w2, e2⟩ : ∃ w : Int, w = (xs (i + 2).toNat).toInt := ⟨_, rfl⟩
  have l2 : -2147483648 ≤ w2 := by rw [e2]; exact jI_lo _
  have u2 : w2 < 2147483648 := by rw [e2]; exact jI_hi _
  obtain ⟨w3, e3⟩ : ∃ w : Int, w = (xs (i + 3).toNat).toInt := ⟨_, rfl⟩
  have l3 : -2147483648 ≤ w3 := by rw [e3]; exact jI_lo _
  have u3 : w3 < 2147483648 := by rw [e3]; exact jI_hi _
  obtain ⟨w4, e4⟩ : ∃ w : Int, w = (xs (i + 4).toNat).toInt := ⟨_, rfl⟩
  have l4 : -2147483648 ≤ w4 := by rw [e4]; exact jI_lo _
  have u4 : w4 < 2147483648 := by rw [e4]; exact jI_hi _
  obtain ⟨w5, e5⟩ : ∃ w : Int, w = (xs (i + 5).toNat).toInt := ⟨_, rfl⟩
  have l5 : -2147483648 ≤ w5 := by rw [e5]; exact jI_lo _
  have u5 : w5 < 2147483648 := by rw [e5]; exact jI_hi _
  refine zg_aload_n C dL_law_140 rfl (lv_at hl 1 rfl) ?_
  refine zg_aload_n C dL_law_141 rfl (lv_at hl 0 rfl) ?_
  refine zg_iload C dL_law_142 (lv_at hl 4 rfl) ?_
  refine zg_iconst C dL_law_144 ?_
  refine zg_iadd C dL_law_145 ?_
  refine zj_sld C hX hb hbA hS hL (by omega) (by omega) dL_law_146 ?_
  rw [← e1]
  refine zg_aload_n C dL_law_147 rfl (lv_at hl 0 rfl) ?_
  refine zg_iload C dL_law_148 (lv_at hl 4 rfl) ?_
  refine zg_iconst C dL_law_150 ?_
  refine zg_iadd C dL_law_151 ?_
  refine zj_sld C hX hb hbA hS hL (by omega) (by omega) dL_law_152 ?_
  rw [← e2]
  refine zj_callV (k := 0) C X1 hP1 hP2 hO hS hdSM hdSO (kX4_stream l κ hG.1.1 w1 w2 (by omega) (by omega) (by omega) (by omega) (kGood_pre hG.1)) (cwV 2 C.ts (zgV mlL_26 imX4_stream slX4_stream iniX4 cdX4_stream) rfl rfl rfl (by decide +kernel) ⟨Nat.le_of_ble_eq_true rfl, Nat.le_of_ble_eq_true rfl⟩) (by decide) lyS_0 rfl rfl rfl hl.1 rfl (Nat.le_of_ble_eq_true rfl) dL_law_153 ⟨Nat.le_of_succ_le hcs.1, Nat.le_trans (Nat.le_add_right _ _) hcs.2⟩ (fun r u H locs q hP1 hP2 hO hS => ?_)
  obtain ⟨rfl, hu⟩ := q
  rw [hu] at hP1
  refine zg_aload_n C dL_law_156 rfl (lv_at hl 2 rfl) ?_
  refine zg_aload_n C dL_law_157 rfl (lv_at hl 0 rfl) ?_
  refine zg_iload C dL_law_158 (lv_at hl 4 rfl) ?_
  refine zg_iconst C dL_law_160 ?_
  refine zg_iadd C dL_law_161 ?_
  refine zj_sld C hX hb hbA hS hL (by omega) (by omega) dL_law_162 ?_
  rw [← e1]
  refine zg_aload_n C dL_law_163 rfl (lv_at hl 0 rfl) ?_
  refine zg_iload C dL_law_164 (lv_at hl 4 rfl) ?_
  refine zg_iconst C dL_law_166 ?_
  refine zg_iadd C dL_law_167 ?_
  refine zj_sld C hX hb hbA hS hL (by omega) (by omega) dL_law_168 ?_
  rw [← e2]
  refine zj_callV (k := 0) C X2 hP2 hP1 hO hS hdMS hdMO (kX5_stream l μ hRm κ hM hG.1 w1 w2 (by omega) (by omega) (by omega) (by omega)) (cwV 2 C.ts (zgV mlL_29 imX5_stream slX5_stream iniX5 cdX5_stream) rfl rfl rfl (by decide +kernel) ⟨Nat.le_of_ble_eq_true rfl, Nat.le_of_ble_eq_true rfl⟩) (by decide) lyM_0 rfl rfl rfl hl.1 rfl (Nat.le_of_ble_eq_true rfl) dL_law_169 ⟨Nat.le_of_succ_le hcs.1, Nat.le_trans (Nat.le_add_right _ _) hcs.2⟩ (fun r u2 H locs q hP2 hP1 hO hS => ?_)
  obtain ⟨rfl, hR2, hM2, -⟩ := q
  refine zj_same (tgt := 1074) C dL_law_172 (by decide) ?_
  exact kk (kStrS κ w1 w2) u2 _ _ _ _ _ (by omega) (by omega) ⟨(kGood_strS hG w1 w2), hM2, hR2, hP1, hP2, ⟨_, hO⟩, hS⟩ (lv_sub hl [0, 1, 2, 3, 4] rfl)

set_option maxHeartbeats 4000000 in
set_option maxRecDepth 100000 in
theorem lwc_1 {p : Program} {l : Launch} {e : Env} {s : State} {m : MethodId} {args : Array Value} {below : List Frame} {meth : Method} {c : Code} {Q : State → Prop} {D : va_G} {cI cZ cR cJ : ClassId} {b L d : Nat} {xs : Nat → Int32} (F : lwE p l s m args below meth c D cI cZ cR cJ b L d xs) {κ μ : Zt} {i : Int} (i0 : 0 ≤ i) (i1 : i + 6 ≤ L) {H : Heap} {locs : List Loc} {ls : Array Slot} {cells slots : Nat} (hI : lwI D cI cZ cR cJ d s κ μ H locs) (hl : lv_has ls 7 [(0, .ref b), (1, .ref (aS d 0)), (2, .ref (aM d 0)), (3, .ref (d + 84)), (4, .int (jI i))]) (hcs : cells + 1 ≤ lwR.cells ∧ slots + 6 ≤ lwR.slots)
    (kk : lwK p l e s m args below meth c D cI cZ cR cJ b d i cells slots Q) : W p l e lwR s m args below meth c H locs cells slots Q (F0 m 177 ls []) := by
  obtain ⟨C, X1, X2, KJ, hz, hX, hb, hL, hds, hcw_sign, hcw_path, hcw_kinds, hl0⟩ := F
  have hbA : ¬ d ≤ b := by omega
  have hAold : ∀ q, q < s.heap.size → ¬ d ≤ q := fun q h => by omega
  obtain ⟨hG, hM, hRm, hP1, hP2, ⟨v0, hO⟩, hS⟩ := hI
  obtain ⟨w1, e1⟩ : ∃ w : Int, w = (xs (i + 1).toNat).toInt := ⟨_, rfl⟩
  have l1 : -2147483648 ≤ w1 := by rw [e1]; exact jI_lo _
  have u1 : w1 < 2147483648 := by rw [e1]; exact jI_hi _
  obtain ⟨w2, e2⟩ : ∃ w : Int, w = (xs (i + 2).toNat).toInt := ⟨_, rfl⟩
  have l2 : -2147483648 ≤ w2 := by rw [e2]; exact jI_lo _
  have u2 : w2 < 2147483648 := by rw [e2]; exact jI_hi _
  obtain ⟨w3, e3⟩ : ∃ w : Int, w = (xs (i + 3).toNat).toInt := ⟨_, rfl⟩
  have l3 : -2147483648 ≤ w3 := by rw [e3]; exact jI_lo _
  have u3 : w3 < 2147483648 := by rw [e3]; exact jI_hi _
  obtain ⟨w4, e4⟩ : ∃ w : Int, w = (xs (i + 4).toNat).toInt := ⟨_, rfl⟩
  have l4 : -2147483648 ≤ w4 := by rw [e4]; exact jI_lo _
  have u4 : w4 < 2147483648 := by rw [e4]; exact jI_hi _
  obtain ⟨w5, e5⟩ : ∃ w : Int, w = (xs (i + 5).toNat).toInt := ⟨_, rfl⟩
  have l5 : -2147483648 ≤ w5 := by rw [e5]; exact jI_lo _
  have u5 : w5 < 2147483648 := by rw [e5]; exact jI_hi _
  refine zg_aload_n C dL_law_177 rfl (lv_at hl 1 rfl) ?_
  refine zg_aload_n C dL_law_178 rfl (lv_at hl 0 rfl) ?_
  refine zg_iload C dL_law_179 (lv_at hl 4 rfl) ?_
  refine zg_iconst C dL_law_181 ?_
  refine zg_iadd C dL_law_182 ?_
  refine zj_sld C hX hb hbA hS hL (by omega) (by omega) dL_law_183 ?_
  rw [← e1]
  refine zg_aload_n C dL_law_184 rfl (lv_at hl 0 rfl) ?_
  refine zg_iload C dL_law_185 (lv_at hl 4 rfl) ?_
  refine zg_iconst C dL_law_187 ?_
  refine zg_iadd C dL_law_188 ?_
  refine zj_sld C hX hb hbA hS hL (by omega) (by omega) dL_law_189 ?_
  rw [← e2]
  refine zg_aload_n C dL_law_190 rfl (lv_at hl 0 rfl) ?_
  refine zg_iload C dL_law_191 (lv_at hl 4 rfl) ?_
  refine zg_iconst C dL_law_193 ?_
  refine zg_iadd C dL_law_194 ?_
  refine zj_sld C hX hb hbA hS hL (by omega) (by omega) dL_law_195 ?_
  rw [← e3]
  refine zj_callV (k := 0) C X1 hP1 hP2 hO hS hdSM hdSO (kX4_type l κ hG.1.1 w1 w2 w3 (by omega) (by omega) (by omega) (by omega) (by omega) (by omega) (kGood_pre hG.1)) (cwV 3 C.ts (zgV mlL_30 imX4_type slX4_type iniX4 cdX4_type) rfl rfl rfl (by decide +kernel) ⟨Nat.le_of_ble_eq_true rfl, Nat.le_of_ble_eq_true rfl⟩) (by decide) lyS_0 rfl rfl rfl hl.1 rfl (Nat.le_of_ble_eq_true rfl) dL_law_196 ⟨Nat.le_of_succ_le hcs.1, Nat.le_trans (Nat.le_add_right _ _) hcs.2⟩ (fun r u H locs q hP1 hP2 hO hS => ?_)
  obtain ⟨rfl, hu⟩ := q
  rw [hu] at hP1
  refine zg_aload_n C dL_law_199 rfl (lv_at hl 2 rfl) ?_
  refine zg_aload_n C dL_law_200 rfl (lv_at hl 0 rfl) ?_
  refine zg_iload C dL_law_201 (lv_at hl 4 rfl) ?_
  refine zg_iconst C dL_law_203 ?_
  refine zg_iadd C dL_law_204 ?_
  refine zj_sld C hX hb hbA hS hL (by omega) (by omega) dL_law_205 ?_
  rw [← e1]
  refine zg_aload_n C dL_law_206 rfl (lv_at hl 0 rfl) ?_
  refine zg_iload C dL_law_207 (lv_at hl 4 rfl) ?_
  refine zg_iconst C dL_law_209 ?_
  refine zg_iadd C dL_law_210 ?_
  refine zj_sld C hX hb hbA hS hL (by omega) (by omega) dL_law_211 ?_
  rw [← e2]
  refine zg_aload_n C dL_law_212 rfl (lv_at hl 0 rfl) ?_
  refine zg_iload C dL_law_213 (lv_at hl 4 rfl) ?_
  refine zg_iconst C dL_law_215 ?_
  refine zg_iadd C dL_law_216 ?_
  refine zj_sld C hX hb hbA hS hL (by omega) (by omega) dL_law_217 ?_
  rw [← e3]
  refine zj_callV (k := 0) C X2 hP2 hP1 hO hS hdMS hdMO (kX5_type l μ hRm κ hM hG.1 w1 w2 w3 (by omega) (by omega) (by omega) (by omega) (by omega) (by omega) hG.2) (cwV 3 C.ts (zgV mlL_34 imX5_type slX5_type iniX5 cdX5_type) rfl rfl rfl (by decide +kernel) ⟨Nat.le_of_ble_eq_true rfl, Nat.le_of_ble_eq_true rfl⟩) (by decide) lyM_0 rfl rfl rfl hl.1 rfl (Nat.le_of_ble_eq_true rfl) dL_law_218 ⟨Nat.le_of_succ_le hcs.1, Nat.le_trans (Nat.le_add_right _ _) hcs.2⟩ (fun r u2 H locs q hP2 hP1 hO hS => ?_)
  obtain ⟨rfl, hR2, hM2, -⟩ := q
  refine zj_same (tgt := 1074) C dL_law_221 (by decide) ?_
  exact kk (kTypS κ w1 w2 w3) u2 _ _ _ _ _ (by omega) (by omega) ⟨(kGood_typS hG w1 w2 w3), hM2, hR2, hP1, hP2, ⟨_, hO⟩, hS⟩ (lv_sub hl [0, 1, 2, 3, 4] rfl)

set_option maxHeartbeats 4000000 in
set_option maxRecDepth 100000 in
theorem lwc_2 {p : Program} {l : Launch} {e : Env} {s : State} {m : MethodId} {args : Array Value} {below : List Frame} {meth : Method} {c : Code} {Q : State → Prop} {D : va_G} {cI cZ cR cJ : ClassId} {b L d : Nat} {xs : Nat → Int32} (F : lwE p l s m args below meth c D cI cZ cR cJ b L d xs) {κ μ : Zt} {i : Int} (i0 : 0 ≤ i) (i1 : i + 6 ≤ L) {H : Heap} {locs : List Loc} {ls : Array Slot} {cells slots : Nat} (hI : lwI D cI cZ cR cJ d s κ μ H locs) (hl : lv_has ls 7 [(0, .ref b), (1, .ref (aS d 0)), (2, .ref (aM d 0)), (3, .ref (d + 84)), (4, .int (jI i))]) (hcs : cells + 1 ≤ lwR.cells ∧ slots + 6 ≤ lwR.slots)
    (kk : lwK p l e s m args below meth c D cI cZ cR cJ b d i cells slots Q) : W p l e lwR s m args below meth c H locs cells slots Q (F0 m 226 ls []) := by
  obtain ⟨C, X1, X2, KJ, hz, hX, hb, hL, hds, hcw_sign, hcw_path, hcw_kinds, hl0⟩ := F
  have hbA : ¬ d ≤ b := by omega
  have hAold : ∀ q, q < s.heap.size → ¬ d ≤ q := fun q h => by omega
  obtain ⟨hG, hM, hRm, hP1, hP2, ⟨v0, hO⟩, hS⟩ := hI
  obtain ⟨w1, e1⟩ : ∃ w : Int, w = (xs (i + 1).toNat).toInt := ⟨_, rfl⟩
  have l1 : -2147483648 ≤ w1 := by rw [e1]; exact jI_lo _
  have u1 : w1 < 2147483648 := by rw [e1]; exact jI_hi _
  obtain ⟨w2, e2⟩ : ∃ w : Int, w = (xs (i + 2).toNat).toInt := ⟨_, rfl⟩
  have l2 : -2147483648 ≤ w2 := by rw [e2]; exact jI_lo _
  have u2 : w2 < 2147483648 := by rw [e2]; exact jI_hi _
  obtain ⟨w3, e3⟩ : ∃ w : Int, w = (xs (i + 3).toNat).toInt := ⟨_, rfl⟩
  have l3 : -2147483648 ≤ w3 := by rw [e3]; exact jI_lo _
  have u3 : w3 < 2147483648 := by rw [e3]; exact jI_hi _
  obtain ⟨w4, e4⟩ : ∃ w : Int, w = (xs (i + 4).toNat).toInt := ⟨_, rfl⟩
  have l4 : -2147483648 ≤ w4 := by rw [e4]; exact jI_lo _
  have u4 : w4 < 2147483648 := by rw [e4]; exact jI_hi _
  obtain ⟨w5, e5⟩ : ∃ w : Int, w = (xs (i + 5).toNat).toInt := ⟨_, rfl⟩
  have l5 : -2147483648 ≤ w5 := by rw [e5]; exact jI_lo _
  have u5 : w5 < 2147483648 := by rw [e5]; exact jI_hi _
  refine zg_aload_n C dL_law_226 rfl (lv_at hl 1 rfl) ?_
  refine zg_aload_n C dL_law_227 rfl (lv_at hl 0 rfl) ?_
  refine zg_iload C dL_law_228 (lv_at hl 4 rfl) ?_
  refine zg_iconst C dL_law_230 ?_
  refine zg_iadd C dL_law_231 ?_
  refine zj_sld C hX hb hbA hS hL (by omega) (by omega) dL_law_232 ?_
  rw [← e1]
  refine zg_aload_n C dL_law_233 rfl (lv_at hl 0 rfl) ?_
  refine zg_iload C dL_law_234 (lv_at hl 4 rfl) ?_
  refine zg_iconst C dL_law_236 ?_
  refine zg_iadd C dL_law_237 ?_
  refine zj_sld C hX hb hbA hS hL (by omega) (by omega) dL_law_238 ?_
  rw [← e2]
  refine zg_aload_n C dL_law_239 rfl (lv_at hl 0 rfl) ?_
  refine zg_iload C dL_law_240 (lv_at hl 4 rfl) ?_
  refine zg_iconst C dL_law_242 ?_
  refine zg_iadd C dL_law_243 ?_
  refine zj_sld C hX hb hbA hS hL (by omega) (by omega) dL_law_244 ?_
  rw [← e3]
  refine zg_aload_n C dL_law_245 rfl (lv_at hl 0 rfl) ?_
  refine zg_iload C dL_law_246 (lv_at hl 4 rfl) ?_
  refine zg_iconst C dL_law_248 ?_
  refine zg_iadd C dL_law_249 ?_
  refine zj_sld C hX hb hbA hS hL (by omega) (by omega) dL_law_250 ?_
  rw [← e4]
  refine zj_callV (k := 0) C X1 hP1 hP2 hO hS hdSM hdSO (kX4_paste l κ hG.1.1 w1 w2 w3 w4 (by omega) (by omega) (by omega) (by omega) (by omega) (by omega) (by omega) (by omega) (kGood_pre hG.1) kGood kGoodI (fun τ r q v h hr v1 v2 => kGood_put h hr (by omega) (by omega)) hG) (cwV 4 C.ts (zgV mlL_35 imX4_paste slX4_paste iniX4 cdX4_paste) rfl rfl rfl (by decide +kernel) ⟨Nat.le_of_ble_eq_true rfl, Nat.le_of_ble_eq_true rfl⟩) (by decide) lyS_0 rfl rfl rfl hl.1 rfl (Nat.le_of_ble_eq_true rfl) dL_law_251 ⟨Nat.le_of_succ_le hcs.1, Nat.le_trans (Nat.le_add_right _ _) hcs.2⟩ (fun r u H locs q hP1 hP2 hO hS => ?_)
  obtain ⟨rfl, hu⟩ := q
  rw [hu] at hP1
  refine zg_aload_n C dL_law_254 rfl (lv_at hl 2 rfl) ?_
  refine zg_aload_n C dL_law_255 rfl (lv_at hl 0 rfl) ?_
  refine zg_iload C dL_law_256 (lv_at hl 4 rfl) ?_
  refine zg_iconst C dL_law_258 ?_
  refine zg_iadd C dL_law_259 ?_
  refine zj_sld C hX hb hbA hS hL (by omega) (by omega) dL_law_260 ?_
  rw [← e1]
  refine zg_aload_n C dL_law_261 rfl (lv_at hl 0 rfl) ?_
  refine zg_iload C dL_law_262 (lv_at hl 4 rfl) ?_
  refine zg_iconst C dL_law_264 ?_
  refine zg_iadd C dL_law_265 ?_
  refine zj_sld C hX hb hbA hS hL (by omega) (by omega) dL_law_266 ?_
  rw [← e2]
  refine zg_aload_n C dL_law_267 rfl (lv_at hl 0 rfl) ?_
  refine zg_iload C dL_law_268 (lv_at hl 4 rfl) ?_
  refine zg_iconst C dL_law_270 ?_
  refine zg_iadd C dL_law_271 ?_
  refine zj_sld C hX hb hbA hS hL (by omega) (by omega) dL_law_272 ?_
  rw [← e3]
  refine zg_aload_n C dL_law_273 rfl (lv_at hl 0 rfl) ?_
  refine zg_iload C dL_law_274 (lv_at hl 4 rfl) ?_
  refine zg_iconst C dL_law_276 ?_
  refine zg_iadd C dL_law_277 ?_
  refine zj_sld C hX hb hbA hS hL (by omega) (by omega) dL_law_278 ?_
  rw [← e4]
  refine zj_callV (k := 0) C X2 hP2 hP1 hO hS hdMS hdMO (kX5_paste l μ hRm κ hM hG.1 w1 w2 w3 w4 (by omega) (by omega) (by omega) (by omega) (by omega) (by omega) (by omega) (by omega) hG.2) (cwV 4 C.ts (zgV mlL_38 imX5_paste slX5_paste iniX5 cdX5_paste) rfl rfl rfl (by decide +kernel) ⟨Nat.le_of_ble_eq_true rfl, Nat.le_of_ble_eq_true rfl⟩) (by decide) lyM_0 rfl rfl rfl hl.1 rfl (Nat.le_of_ble_eq_true rfl) dL_law_279 ⟨Nat.le_of_succ_le hcs.1, Nat.le_trans (Nat.le_add_right _ _) hcs.2⟩ (fun r u2 H locs q hP2 hP1 hO hS => ?_)
  obtain ⟨rfl, hR2, hM2, -⟩ := q
  refine zj_same (tgt := 1074) C dL_law_282 (by decide) ?_
  exact kk (kPasS κ w1 w2 w3 w4) u2 _ _ _ _ _ (by omega) (by omega) ⟨(kGood_pasS hG w1 w2 w3 w4), hM2, hR2, hP1, hP2, ⟨_, hO⟩, hS⟩ (lv_sub hl [0, 1, 2, 3, 4] rfl)
