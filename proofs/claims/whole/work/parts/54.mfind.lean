set_option maxHeartbeats 4000000 in
set_option maxRecDepth 100000 in
theorem lpX5_findsPath_12 {l : Launch} {D : va_G} {a : Nat → Nat} {cI cZ : ClassId} {p : Program} {e : Env} {s : State} {m : MethodId} {below : List Frame} {meth : Method} {c : Code} {A : Nat → Prop} (σ : Zt) (hR : rgM σ) (κ : Zt) (hM : RR κ σ) (hG : kMid κ) (x : Int) (cn : Int) (pn : Int) (q : Int) (x0 : 0 ≤ x) (x1 : x < 6) (cn0 : cn = κ (21 + 6 * x.toNat) x.toNat + 1) (p0 : kSg κ pn) (q0 : -1 ≤ q) (q1 : q < κ 1 10) (hT : κ 1 10 < 400)  (C : zk p s m ([.ref (a 0), .int (jI x), .int (jI cn), .int (jI pn), .int (jI q)] : List Value).toArray meth c cX5_findsPath 12 (some .boolean) wsX5_findsPath RX5) (X : zx D vwCl (tyM cI cZ) A a 28 s) :
    ∀ (n : Nat) (bd k : Int) (τ : Zt) (ρ : Zt) (H : Heap) (locs : List Loc) (ls : Array Slot), ((13 - k).toNat < n) → (rgM τ) → (RR κ τ) → (1 ≤ k) → (k ≤ 13) → (-1 ≤ bd) → (bd < κ 1 10) → (τ 0 32 = k - 1) → (kFind x.toNat (κ 1 10) pn 12 1 q κ = kFind x.toNat (κ 1 10) pn (13 - k).toNat k bd ρ) → (kTo κ ρ (κ 1 10).toNat) → (mHas τ ρ (κ 1 10) k) → va_P D vwCl (zw 28 (layM cI cZ a) a τ) H → va_S A s.heap H locs → lv_has ls 12 [(0, .ref (a 0)), (1, .int (jI x)), (2, .int (jI cn)), (3, .int (jI pn)), (5, .int (jI bd)), (6, .int (jI k))] →
      W p l e ({ frames := 1, cells := 0, slots := 0, locals := 25 }) s m ([.ref (a 0), .int (jI x), .int (jI cn), .int (jI pn), .int (jI q)] : List Value).toArray below meth c H locs 0 0 (MQ below (va_Qi (fun r_ u_ => r_ = jI (bI (kFind x.toNat (κ 1 10) pn 12 1 q κ).1) ∧ rgM u_ ∧ mFnd κ x.toNat (kFind x.toNat (κ 1 10) pn 12 1 q κ) u_) (fun (u : Zt) t => va_P D vwCl (zw 28 (layM cI cZ a) a u) t.heap) A) ([.ref (a 0), .int (jI x), .int (jI cn), .int (jI pn), .int (jI q)] : List Value).toArray s 0 0 A) (F0 m 12 ls []) := by
  intro n
  induction n with
  | zero =>
    intro bd k τ ρ H locs ls hn hτ hM2 k0 k1 b0 b1 hd hE hto hmh hP hS hl
    exact absurd hn (by omega)
  | succ n ih =>
    intro bd k τ ρ H locs ls hn hτ hM2 k0 k1 b0 b1 hd hE hto hmh hP hS hl
    have bT := rgS_1_10 hG.1
    have bp : -1 ≤ pn ∧ pn < κ 1 10 := by rcases p0 with h9 | h9 <;> omega
    have bx := rgS_21 hG.1 (r := x.toNat) (by omega) x.toNat
    have b13 := rgS_13 hG.1 pn.toNat
    have ba := hG.a.2 x.toNat (by omega)
    refine zg_iload C dX5_findsPath_12 (lv_at hl 5 rfl) ?_
    refine zg_bipush C dX5_findsPath_14 (by decide) ?_
    refine zg_icmp_gt (tgt := 340) C (by omega) (by omega) (by omega) (by omega) dX5_findsPath_16 (by decide) (fun c_1 => ?_) (fun c_1 => ?_)
    · refine zg_iconst C dX5_findsPath_340 ?_
      refine zg_zret (b := false) C hP hS dX5_findsPath_341 ?_
      have h9 := fp_no hE (by omega) hM2
      exact ⟨congrArg (fun b => jI (bI b)) h9.1, hτ, h9.2⟩
    · refine zg_iload_n C dX5_findsPath_19 rfl (lv_at hl 3 rfl) ?_
      refine zg_iconst C dX5_findsPath_20 ?_
      refine zg_icmp_eq (tgt := 39) C (by omega) (by omega) (by omega) (by omega) dX5_findsPath_21 (by decide) (fun c_2 => ?_) (fun c_2 => ?_)
      · refine zg_iconst C dX5_findsPath_39 ?_
        refine zg_istore (lv' := [(7, .int (jI 0)), (0, .ref (a 0)), (1, .int (jI x)), (2, .int (jI cn)), (3, .int (jI pn)), (5, .int (jI bd)), (6, .int (jI k))]) C dX5_findsPath_40 hl (by decide) rfl (fun ls hl => ?_)
        refine zg_iload C dX5_findsPath_42 (lv_at hl 0 rfl) ?_
        refine zg_if_eq (tgt := 64) C (by omega) (by omega) dX5_findsPath_44 (by decide) (fun c_3 => ?_) (fun c_3 => ?_)
        · refine zg_iconst C dX5_findsPath_64 ?_
          refine zg_istore (lv' := [(8, .int (jI 0)), (7, .int (jI 0)), (0, .ref (a 0)), (1, .int (jI x)), (2, .int (jI cn)), (3, .int (jI pn)), (5, .int (jI bd)), (6, .int (jI k))]) C dX5_findsPath_65 hl (by decide) rfl (fun ls hl => ?_)
          have hL : kDigit (kLevel κ pn k) = 0 := by first | exact (rr_lev3 hM2 hτ (by omega) (by omega) (by omega) (by omega)).1 | exact (low_0 (by omega)).1
          refine zg_iload C dX5_findsPath_67 (lv_at hl 6 rfl) ?_
          refine zg_iconst C dX5_findsPath_69 ?_
          refine zg_icmp_eq (tgt := 91) C (by omega) (by omega) (by omega) (by omega) dX5_findsPath_70 (by decide) (fun c_4 => ?_) (fun c_4 => ?_)
          · refine zg_iload C dX5_findsPath_91 (lv_at hl 7 rfl) ?_
            refine zg_bipush C dX5_findsPath_93 (by decide) ?_
            refine zg_icmp_le (tgt := 104) C (by omega) (by omega) (by omega) (by omega) dX5_findsPath_95 (by decide) (fun c_5 => ?_) (fun c_5 => ?_)
            · refine zg_iconst C dX5_findsPath_104 ?_
              refine zg_iload C dX5_findsPath_105 (lv_at hl 7 rfl) ?_
              refine zg_iconst C dX5_findsPath_107 ?_
              refine zg_iadd C dX5_findsPath_108 ?_
              refine zg_shl C ((k + 3).toNat) (sh_amt (by omega) (by omega)) (by omega) (shl_ok k0 (by omega)) dX5_findsPath_109 ?_
              refine zg_istore (lv' := [(9, .int (jI (1 * 2 ^ ((k + 3).toNat)))), (8, .int (jI 0)), (7, .int (jI 0)), (0, .ref (a 0)), (1, .int (jI x)), (2, .int (jI cn)), (3, .int (jI pn)), (5, .int (jI bd)), (6, .int (jI k))]) C dX5_findsPath_110 hl (by decide) rfl (fun ls hl => ?_)
              have hH : kHigh κ bd k = (1 * 2 ^ ((k + 3).toNat)) := by first | exact (kHigh_b (by assumption)).trans (rr_lev3 hM2 hτ (by omega) (by omega) (by omega) (by omega)).1 | exact (kHigh_8 (by assumption) k0 (by omega)).trans (if_pos (by omega)) | exact (kHigh_8 (by assumption) k0 (by omega)).trans (if_neg (by omega))
              have hH16 : bd = -1 → 16 ≤ kHigh κ bd k := fun e => kHigh_16 e k0 (by omega)
              have hHr := kHigh_rg hG.1 (b := bd) (k := k) k0 (by omega)
              have hLr := kDigit_rg (kLevel_rg hG.1 pn k).1 (kLevel_rg hG.1 pn k).2
              refine zg_iload C dX5_findsPath_112 (lv_at hl 0 rfl) ?_
              refine zg_iload C dX5_findsPath_114 (lv_at hl 1 rfl) ?_
              refine zg_isub C dX5_findsPath_116 ?_
              refine zg_iconst C dX5_findsPath_117 ?_
              refine zg_icmp_le (tgt := 210) C (by omega) (by omega) (by omega) (by omega) dX5_findsPath_118 (by decide) (fun c_6 => ?_) (fun c_6 => ?_)
              · refine zg_iload C dX5_findsPath_210 (lv_at hl 2 rfl) ?_
                refine zg_if_eq (tgt := 280) C (by omega) (by omega) dX5_findsPath_212 (by decide) (fun c_7 => ?_) (fun c_7 => ?_)
                · refine zg_bipush C dX5_findsPath_280 (by decide) ?_
                  refine zg_iload C dX5_findsPath_282 (lv_at hl 7 rfl) ?_
                  refine zg_imul C dX5_findsPath_284 ?_
                  refine zg_iload C dX5_findsPath_285 (lv_at hl 8 rfl) ?_
                  refine zg_iadd C dX5_findsPath_287 ?_
                  refine zg_iconst C dX5_findsPath_288 ?_
                  refine zg_isub C dX5_findsPath_289 ?_
                  refine zg_istore (lv' := [(10, .int (jI (((12 * bd) + k) - 1))), (9, .int (jI (1 * 2 ^ ((k + 3).toNat)))), (8, .int (jI 0)), (7, .int (jI 0)), (0, .ref (a 0)), (1, .int (jI x)), (2, .int (jI cn)), (3, .int (jI pn)), (5, .int (jI bd)), (6, .int (jI k))]) C dX5_findsPath_290 hl (by decide) rfl (fun ls hl => ?_)
                  refine zg_aload_n C dX5_findsPath_292 rfl (lv_at hl 4 rfl) ?_
                  refine zg_get (j := 12) C X hP (by decide) lyM_0 rfl (zmem uwX5) (by decide) (C.tb flX5_45) (fun _ h9 => h9) rfl dX5_findsPath_293 ?_
                  refine zg_iload C dX5_findsPath_296 (lv_at hl 0 rfl) ?_
                  refine zg_iald (t0 := 0) C X hP (by decide) lyM_11 rfl (by decide) (by omega) (by omega) dX5_findsPath_298 ?_
                  have b_8 := rgM_11 hτ ((((12 * bd) + k) - 1).toNat)
                  refine zg_if_ne (tgt := 324) C (by omega) (by omega) dX5_findsPath_299 (by decide) (fun c_9 => ?_) (fun c_9 => ?_)
                  · refine zg_aload_n C dX5_findsPath_324 rfl (lv_at hl 4 rfl) ?_
                    refine zg_iconst C dX5_findsPath_325 ?_
                    refine zg_iload_n C dX5_findsPath_326 rfl (lv_at hl 5 rfl) ?_
                    refine zg_iload_n C dX5_findsPath_327 rfl (lv_at hl 6 rfl) ?_
                    refine zg_callVv C X hP hS (kX5_level l τ hτ 0 x cn (by omega) (by omega) (by omega) (by omega) (by omega) (by omega) (by omega)) (cwV 3 C.ts (zgV mlX5_121 imX5_level slX5_level iniX5 cdX5_level) rfl rfl rfl (by decide +kernel) ⟨Nat.le_of_ble_eq_true rfl, Nat.le_of_ble_eq_true rfl⟩) (by decide) lyM_0 rfl rfl rfl hl.1 rfl (Nat.le_of_ble_eq_true rfl) dX5_findsPath_328 ⟨Nat.zero_le _, Nat.zero_le _⟩ (fun σ10 H locs q12 hP hS => ?_)
                    have hR13 : rgM σ10 := by rw [q12]; exact mLev_rg hτ (by omega) (by omega) (by omega) (by omega) (by omega) (by omega) (by omega)
                    have hM14 : RR κ σ10 := by rw [q12]; exact RR_lev hM2
                    have hl2 : mHas σ10 (zu ρ 12 (κ 1 10 * 12 + k - 1).toNat (kMake 0 x.toNat (κ (21 + 6 * x.toNat) x.toNat + 1))) (κ 1 10) (k + 1) := by rw [q12]; exact mHas_lev bT.1 k0 hmh rfl rfl rfl hd (by rw [cn0, Int.toNat_of_nonneg x0])
                    have hd2 : σ10 0 32 = k + 1 - 1 := by rw [q12, mLev_32]; omega
                    have hdy : kDigit (kLevel κ bd k) ≠ 0 := fun h8 => absurd ((rr_lev3 hM2 hτ (by omega) (by omega) (by omega) (by omega)).1.symm.trans h8) (by assumption)
                    have hst := kFind_st (r := x.toNat) (b' := -1) bT.1 hto bp.1 bp.2 b0 b1 k0 (by omega) (by omega) (N := kMake 0 x.toNat (κ (21 + 6 * x.toNat) x.toNat + 1)) (inner_n (low_0 (by omega)).2 hdy) (by rw [if_neg (fun h8 => hdy (by rw [h8]; exact (kUn_make (by omega) (by omega) (by omega) (by omega) (by omega)).1))])
                    refine zg_iconst C dX5_findsPath_331 ?_
                    refine zg_istore (lv' := [(5, .int (jI (-1))), (10, .int (jI (((12 * bd) + k) - 1))), (9, .int (jI (1 * 2 ^ ((k + 3).toNat)))), (8, .int (jI 0)), (7, .int (jI 0)), (0, .ref (a 0)), (1, .int (jI x)), (2, .int (jI cn)), (3, .int (jI pn)), (6, .int (jI k))]) C dX5_findsPath_332 hl (by decide) rfl (fun ls hl => ?_)
                    refine zg_iinc (k := 9) (lv' := [(6, .int (jI (k + 1))), (5, .int (jI (-1))), (10, .int (jI (((12 * bd) + k) - 1))), (9, .int (jI (1 * 2 ^ ((k + 3).toNat)))), (8, .int (jI 0)), (7, .int (jI 0)), (0, .ref (a 0)), (1, .int (jI x)), (2, .int (jI cn)), (3, .int (jI pn))]) C dX5_findsPath_334 hl rfl (by decide) rfl (fun ls hl => ?_)
                    refine zg_goto (tgt := 12) C dX5_findsPath_337 (by decide) ?_
                    exact ih (-1) (k + 1) σ10 _ _ _ _ (by omega) hR13 hM14 (by omega) (by omega) (by omega) (by omega) hd2 (hE.trans hst.1) hst.2 hl2 hP hS (lv_sub hl [6, 7, 8, 9, 1, 0] rfl)
                  · refine zg_aload_n C dX5_findsPath_302 rfl (lv_at hl 4 rfl) ?_
                    refine zg_iconst C dX5_findsPath_303 ?_
                    refine zg_aload_n C dX5_findsPath_304 rfl (lv_at hl 4 rfl) ?_
                    refine zg_get (j := 13) C X hP (by decide) lyM_0 rfl (zmem uwX5) (by decide) (C.tb flX5_48) (fun _ h9 => h9) rfl dX5_findsPath_305 ?_
                    refine zg_iload C dX5_findsPath_308 (lv_at hl 0 rfl) ?_
                    refine zg_iald (t0 := 0) C X hP (by decide) lyM_12 rfl (by decide) (by omega) (by omega) dX5_findsPath_310 ?_
                    have b_15 := rgM_12 hτ ((((12 * bd) + k) - 1).toNat)
                    refine zg_aload_n C dX5_findsPath_311 rfl (lv_at hl 4 rfl) ?_
                    refine zg_get (j := 14) C X hP (by decide) lyM_0 rfl (zmem uwX5) (by decide) (C.tb flX5_51) (fun _ h9 => h9) rfl dX5_findsPath_312 ?_
                    refine zg_iload C dX5_findsPath_315 (lv_at hl 0 rfl) ?_
                    refine zg_iald (t0 := 0) C X hP (by decide) lyM_13 rfl (by decide) (by omega) (by omega) dX5_findsPath_317 ?_
                    have b_16 := rgM_13 hτ ((((12 * bd) + k) - 1).toNat)
                    refine zg_callVv C X hP hS (kX5_level l τ hτ 0 (τ 12 (((12 * bd) + k) - 1).toNat) (τ 13 (((12 * bd) + k) - 1).toNat) (by omega) (by omega) (by omega) (by omega) (by omega) (by omega) (by omega)) (cwV 3 C.ts (zgV mlX5_121 imX5_level slX5_level iniX5 cdX5_level) rfl rfl rfl (by decide +kernel) ⟨Nat.le_of_ble_eq_true rfl, Nat.le_of_ble_eq_true rfl⟩) (by decide) lyM_0 rfl rfl rfl hl.1 rfl (Nat.le_of_ble_eq_true rfl) dX5_findsPath_318 ⟨Nat.zero_le _, Nat.zero_le _⟩ (fun σ17 H locs q19 hP hS => ?_)
                    have hR20 : rgM σ17 := by rw [q19]; exact mLev_rg hτ (by omega) (by omega) (by omega) (by omega) (by omega) (by omega) (by omega)
                    have hM21 : RR κ σ17 := by rw [q19]; exact RR_lev hM2
                    have hl2 : mHas σ17 (zu ρ 12 (κ 1 10 * 12 + k - 1).toNat (kLevel κ bd k)) (κ 1 10) (k + 1) := by rw [q19]; exact mHas_lev bT.1 k0 hmh rfl rfl rfl hd (by rw [rr_lev hM2 (d := bd) (k := k) (by omega) (by omega) (by omega) (by omega)]; congr 1; exact Eq.symm (by assumption))
                    have hd2 : σ17 0 32 = k + 1 - 1 := by rw [q19, mLev_32]; omega
                    have hst := kFind_st (r := x.toNat) (b' := bd) bT.1 hto bp.1 bp.2 b0 b1 k0 (by omega) (by omega) (N := kLevel κ bd k) (inner_0 (low_0 (by omega)).2 ((rr_lev3 hM2 hτ (by omega) (by omega) (by omega) (by omega)).1.trans (by assumption))) (by rw [if_pos rfl])
                    refine zg_goto (tgt := 334) C dX5_findsPath_321 (by decide) ?_
                    refine zg_iinc (k := 9) (lv' := [(6, .int (jI (k + 1))), (10, .int (jI (((12 * bd) + k) - 1))), (9, .int (jI (1 * 2 ^ ((k + 3).toNat)))), (8, .int (jI 0)), (7, .int (jI 0)), (0, .ref (a 0)), (1, .int (jI x)), (2, .int (jI cn)), (3, .int (jI pn)), (5, .int (jI bd))]) C dX5_findsPath_334 hl rfl (by decide) rfl (fun ls hl => ?_)
                    refine zg_goto (tgt := 12) C dX5_findsPath_337 (by decide) ?_
                    exact ih bd (k + 1) σ17 _ _ _ _ (by omega) hR20 hM21 (by omega) (by omega) (by omega) (by omega) hd2 (hE.trans hst.1) hst.2 hl2 hP hS (lv_sub hl [5, 6, 7, 8, 9, 0] rfl)
                · exact absurd c_7 (by decide)
              · refine zg_aload_n C dX5_findsPath_121 rfl (lv_at hl 3 rfl) ?_
                refine zg_get (j := 23) C X hP (by decide) lyM_0 rfl (zmem uwX5) (by decide) (C.tb flX5_75) (fun _ h9 => h9) rfl dX5_findsPath_122 ?_
                refine zg_iload_n C dX5_findsPath_125 rfl (lv_at hl 4 rfl) ?_
                refine zg_aload_n C dX5_findsPath_126 rfl (lv_at hl 3 rfl) ?_
                refine zg_get (j := 23) C X hP (by decide) lyM_0 rfl (zmem uwX5) (by decide) (C.tb flX5_75) (fun _ h9 => h9) rfl dX5_findsPath_127 ?_
                refine zg_iload_n C dX5_findsPath_130 rfl (lv_at hl 4 rfl) ?_
                refine zg_iald (t0 := 0) C X hP (by decide) lyM_21 rfl (by decide) (by omega) (by omega) dX5_findsPath_131 ?_
                rw [rr_21 hM2 (x := x) (by omega) (by omega)]
                refine zg_ldc (v := 1664525) C (C.tb knX5_119) rfl dX5_findsPath_132 ?_
                refine zg_imul C dX5_findsPath_134 ?_
                refine zg_ldc (v := 1013904223) C (C.tb knX5_120) rfl dX5_findsPath_135 ?_
                refine zg_iadd C dX5_findsPath_137 ?_
                refine zg_iast (t0 := 0) C X hP hS (by decide) (fun x => lyM_21) rfl (by decide) (by omega) (by omega) dX5_findsPath_138 (fun H locs hP hS => ?_)
                obtain ⟨σ22, e23⟩ : ∃ z_ : Zt, z_ = zu τ 21 (x).toNat (((κ (20 + 6 * x.toNat) 3) * 1664525) + 1013904223) := ⟨_, rfl⟩
                rw [← e23] at hP
                have w_25 : σ22 21 (x).toNat = ((κ (20 + 6 * x.toNat) 3) * 1664525) + 1013904223 := by rw [e23]; exact zu_same _ _ _ _
                have hR24 : rgM σ22 := by rw [e23]; exact rzM_21 hτ
                obtain ⟨κ26, eκ26⟩ : ∃ z_ : Zt, z_ = kCoinS κ x.toNat := ⟨_, rfl⟩
                have hM27 : RR κ26 σ22 := by rw [eκ26, e23]; exact RR_21 hM2 (by omega)
                have hG28 : kMid κ26 := by rw [eκ26]; exact kMid_str hG (by omega)
                have hs : κ26 (20 + 6 * x.toNat) 3 = κ (20 + 6 * x.toNat) 3 * 1664525 + 1013904223 := by rw [eκ26]; unfold kCoinS; rw [zu_same]
                have hκ5 := eκ26
                refine zg_aload_n C dX5_findsPath_139 rfl (lv_at hl 3 rfl) ?_
                refine zg_get (j := 23) C X hP (by decide) lyM_0 rfl (zmem uwX5) (by decide) (C.tb flX5_75) (fun _ h9 => h9) rfl dX5_findsPath_140 ?_
                refine zg_iload_n C dX5_findsPath_143 rfl (lv_at hl 4 rfl) ?_
                refine zg_iald (t0 := 0) C X hP (by decide) lyM_21 rfl (by decide) (by omega) (by omega) dX5_findsPath_144 ?_
                rw [rr_21 hM27 (x := x) (by omega) (by omega)]
                refine zg_bipush C dX5_findsPath_145 (by decide) ?_
                refine zg_iushr C 16 (by decide) dX5_findsPath_147 ?_
                refine zg_istore (lv' := [(10, .int (jI ((κ26 (20 + 6 * x.toNat) 3) % 4294967296 / 2 ^ 16))), (9, .int (jI (1 * 2 ^ ((k + 3).toNat)))), (8, .int (jI 0)), (7, .int (jI 0)), (0, .ref (a 0)), (1, .int (jI x)), (2, .int (jI cn)), (3, .int (jI pn)), (5, .int (jI bd)), (6, .int (jI k))]) C dX5_findsPath_148 hl (by decide) rfl (fun ls hl => ?_)
                refine zg_iconst C dX5_findsPath_150 ?_
                refine zg_iload C dX5_findsPath_151 (lv_at hl 0 rfl) ?_
                refine zg_iload C dX5_findsPath_153 (lv_at hl 1 rfl) ?_
                refine zg_iload C dX5_findsPath_155 (lv_at hl 2 rfl) ?_
                refine zg_isub C dX5_findsPath_157 ?_
                refine zg_iconst C dX5_findsPath_158 ?_
                refine zg_isub C dX5_findsPath_159 ?_
                refine zg_bipush C dX5_findsPath_160 (by decide) ?_
                refine zg_icmp_ge (tgt := 175) C (by omega) (by omega) (by omega) (by omega) dX5_findsPath_162 (by decide) (fun c_29 => ?_) (fun c_29 => ?_)
                · refine zg_bipush C dX5_findsPath_175 (by decide) ?_
                  refine zg_irem C (by omega) (by omega) (by omega) (by omega) dX5_findsPath_177 ?_
                  refine zg_iadd C dX5_findsPath_178 ?_
                  refine zg_istore (lv' := [(11, .int (jI (1 + (((κ26 (20 + 6 * x.toNat) 3) % 4294967296 / 2 ^ 16) % 10)))), (10, .int (jI ((κ26 (20 + 6 * x.toNat) 3) % 4294967296 / 2 ^ 16))), (9, .int (jI (1 * 2 ^ ((k + 3).toNat)))), (8, .int (jI 0)), (7, .int (jI 0)), (0, .ref (a 0)), (1, .int (jI x)), (2, .int (jI cn)), (3, .int (jI pn)), (5, .int (jI bd)), (6, .int (jI k))]) C dX5_findsPath_179 hl (by decide) rfl (fun ls hl => ?_)
                  refine zg_aload_n C dX5_findsPath_181 rfl (lv_at hl 5 rfl) ?_
                  refine zg_iload C dX5_findsPath_182 (lv_at hl 10 rfl) ?_
                  refine zg_iconst C dX5_findsPath_184 ?_
                  refine zg_irem C (by omega) (by omega) (by omega) (by omega) dX5_findsPath_185 ?_
                  refine zg_iconst C dX5_findsPath_186 ?_
                  refine zg_icmp_ne (tgt := 198) C (by omega) (by omega) (by omega) (by omega) dX5_findsPath_187 (by decide) (fun c_30 => ?_) (fun c_30 => ?_)
                  · refine zg_iload C dX5_findsPath_198 (lv_at hl 2 rfl) ?_
                    refine zg_iload C dX5_findsPath_200 (lv_at hl 0 rfl) ?_
                    refine zg_isub C dX5_findsPath_202 ?_
                    refine zg_iload_n C dX5_findsPath_203 rfl (lv_at hl 6 rfl) ?_
                    refine zg_iload_n C dX5_findsPath_204 rfl (lv_at hl 7 rfl) ?_
                    have hD : kLastD k (kDigit (kLevel κ pn k)) (kHigh κ bd k) (kCoin κ x.toNat) = ((1 * 2 ^ ((k + 3).toNat)) - (1 + (((κ26 (20 + 6 * x.toNat) 3) % 4294967296 / 2 ^ 16) % 10))) := by rw [lastD_is hs, hL, hH]; first | (rw [if_pos (by omega), if_pos (by omega)]; done) | (rw [if_pos (by omega), if_neg (by omega)]; done) | (rw [if_neg (by omega), if_pos (by omega)]; done) | (rw [if_neg (by omega), if_neg (by omega)]; done)
                    have hDr := kLastD_rg (k := k) (lo := kDigit (kLevel κ pn k)) (hi := kHigh κ bd k) (co := kCoin κ x.toNat) (by omega) (by omega) (by omega) (kCoin_rg κ x.toNat).1
                    have hd5 : σ22 0 32 = k - 1 := by rw [e23, zu_ne (by decide)]; exact hd
                    have h25 : σ22 25 = τ 25 := by rw [e23, zu_ne (by decide)]
                    have h26 : σ22 26 = τ 26 := by rw [e23, zu_ne (by decide)]
                    have h27 : σ22 27 = τ 27 := by rw [e23, zu_ne (by decide)]
                    have hM5 := hM27
                    refine zg_callVv C X hP hS (kX5_level l σ22 hR24 ((1 * 2 ^ ((k + 3).toNat)) - (1 + (((κ26 (20 + 6 * x.toNat) 3) % 4294967296 / 2 ^ 16) % 10))) x cn (by omega) (by omega) (by omega) (by omega) (by omega) (by omega) (by omega)) (cwV 3 C.ts (zgV mlX5_121 imX5_level slX5_level iniX5 cdX5_level) rfl rfl rfl (by decide +kernel) ⟨Nat.le_of_ble_eq_true rfl, Nat.le_of_ble_eq_true rfl⟩) (by decide) lyM_0 rfl rfl rfl hl.1 rfl (Nat.le_of_ble_eq_true rfl) dX5_findsPath_205 ⟨Nat.zero_le _, Nat.zero_le _⟩ (fun σ31 H locs q33 hP hS => ?_)
                    have hR34 : rgM σ31 := by rw [q33]; exact mLev_rg hR24 (by omega) (by omega) (by omega) (by omega) (by omega) (by omega) (by omega)
                    have hM35 : RR κ26 σ31 := by rw [q33]; exact RR_lev hM27
                    refine zg_iconst C dX5_findsPath_208 ?_
                    refine zg_zret (b := true) C hP hS dX5_findsPath_209 ?_
                    have h9 := fp_hit (x := x) (c := cn) (r := x.toNat) (Int.toNat_of_nonneg x0) cn0 bT.1 hE hto bp.1 bp.2 b0 b1 k0 (by omega) (by omega) hmh h25 h26 h27 hd5 hD (by rw [← hκ5]; exact hM5)
                    exact ⟨congrArg (fun b => jI (bI b)) h9.1, hR34, by rw [q33]; exact h9.2⟩
                  · refine zg_iload C dX5_findsPath_190 (lv_at hl 3 rfl) ?_
                    refine zg_iload C dX5_findsPath_192 (lv_at hl 0 rfl) ?_
                    refine zg_iadd C dX5_findsPath_194 ?_
                    refine zg_goto (tgt := 203) C dX5_findsPath_195 (by decide) ?_
                    refine zg_iload_n C dX5_findsPath_203 rfl (lv_at hl 6 rfl) ?_
                    refine zg_iload_n C dX5_findsPath_204 rfl (lv_at hl 7 rfl) ?_
                    have hD : kLastD k (kDigit (kLevel κ pn k)) (kHigh κ bd k) (kCoin κ x.toNat) = (0 + (1 + (((κ26 (20 + 6 * x.toNat) 3) % 4294967296 / 2 ^ 16) % 10))) := by rw [lastD_is hs, hL, hH]; first | (rw [if_pos (by omega), if_pos (by omega)]; done) | (rw [if_pos (by omega), if_neg (by omega)]; done) | (rw [if_neg (by omega), if_pos (by omega)]; done) | (rw [if_neg (by omega), if_neg (by omega)]; done)
                    have hDr := kLastD_rg (k := k) (lo := kDigit (kLevel κ pn k)) (hi := kHigh κ bd k) (co := kCoin κ x.toNat) (by omega) (by omega) (by omega) (kCoin_rg κ x.toNat).1
                    have hd5 : σ22 0 32 = k - 1 := by rw [e23, zu_ne (by decide)]; exact hd
                    have h25 : σ22 25 = τ 25 := by rw [e23, zu_ne (by decide)]
                    have h26 : σ22 26 = τ 26 := by rw [e23, zu_ne (by decide)]
                    have h27 : σ22 27 = τ 27 := by rw [e23, zu_ne (by decide)]
                    have hM5 := hM27
                    refine zg_callVv C X hP hS (kX5_level l σ22 hR24 (0 + (1 + (((κ26 (20 + 6 * x.toNat) 3) % 4294967296 / 2 ^ 16) % 10))) x cn (by omega) (by omega) (by omega) (by omega) (by omega) (by omega) (by omega)) (cwV 3 C.ts (zgV mlX5_121 imX5_level slX5_level iniX5 cdX5_level) rfl rfl rfl (by decide +kernel) ⟨Nat.le_of_ble_eq_true rfl, Nat.le_of_ble_eq_true rfl⟩) (by decide) lyM_0 rfl rfl rfl hl.1 rfl (Nat.le_of_ble_eq_true rfl) dX5_findsPath_205 ⟨Nat.zero_le _, Nat.zero_le _⟩ (fun σ36 H locs q38 hP hS => ?_)
                    have hR39 : rgM σ36 := by rw [q38]; exact mLev_rg hR24 (by omega) (by omega) (by omega) (by omega) (by omega) (by omega) (by omega)
                    have hM40 : RR κ26 σ36 := by rw [q38]; exact RR_lev hM27
                    refine zg_iconst C dX5_findsPath_208 ?_
                    refine zg_zret (b := true) C hP hS dX5_findsPath_209 ?_
                    have h9 := fp_hit (x := x) (c := cn) (r := x.toNat) (Int.toNat_of_nonneg x0) cn0 bT.1 hE hto bp.1 bp.2 b0 b1 k0 (by omega) (by omega) hmh h25 h26 h27 hd5 hD (by rw [← hκ5]; exact hM5)
                    exact ⟨congrArg (fun b => jI (bI b)) h9.1, hR39, by rw [q38]; exact h9.2⟩
                · refine zg_iload C dX5_findsPath_165 (lv_at hl 1 rfl) ?_
                  refine zg_iload C dX5_findsPath_167 (lv_at hl 2 rfl) ?_
                  refine zg_isub C dX5_findsPath_169 ?_
                  refine zg_iconst C dX5_findsPath_170 ?_
                  refine zg_isub C dX5_findsPath_171 ?_
                  refine zg_goto (tgt := 177) C dX5_findsPath_172 (by decide) ?_
                  refine zg_irem C (by omega) (by omega) (by omega) (by omega) dX5_findsPath_177 ?_
                  refine zg_iadd C dX5_findsPath_178 ?_
                  refine zg_istore (lv' := [(11, .int (jI (1 + (((κ26 (20 + 6 * x.toNat) 3) % 4294967296 / 2 ^ 16) % (((1 * 2 ^ ((k + 3).toNat)) - 0) - 1))))), (10, .int (jI ((κ26 (20 + 6 * x.toNat) 3) % 4294967296 / 2 ^ 16))), (9, .int (jI (1 * 2 ^ ((k + 3).toNat)))), (8, .int (jI 0)), (7, .int (jI 0)), (0, .ref (a 0)), (1, .int (jI x)), (2, .int (jI cn)), (3, .int (jI pn)), (5, .int (jI bd)), (6, .int (jI k))]) C dX5_findsPath_179 hl (by decide) rfl (fun ls hl => ?_)
                  refine zg_aload_n C dX5_findsPath_181 rfl (lv_at hl 5 rfl) ?_
                  refine zg_iload C dX5_findsPath_182 (lv_at hl 10 rfl) ?_
                  refine zg_iconst C dX5_findsPath_184 ?_
                  refine zg_irem C (by omega) (by omega) (by omega) (by omega) dX5_findsPath_185 ?_
                  refine zg_iconst C dX5_findsPath_186 ?_
                  refine zg_icmp_ne (tgt := 198) C (by omega) (by omega) (by omega) (by omega) dX5_findsPath_187 (by decide) (fun c_41 => ?_) (fun c_41 => ?_)
                  · refine zg_iload C dX5_findsPath_198 (lv_at hl 2 rfl) ?_
                    refine zg_iload C dX5_findsPath_200 (lv_at hl 0 rfl) ?_
                    refine zg_isub C dX5_findsPath_202 ?_
                    refine zg_iload_n C dX5_findsPath_203 rfl (lv_at hl 6 rfl) ?_
                    refine zg_iload_n C dX5_findsPath_204 rfl (lv_at hl 7 rfl) ?_
                    have hD : kLastD k (kDigit (kLevel κ pn k)) (kHigh κ bd k) (kCoin κ x.toNat) = ((1 * 2 ^ ((k + 3).toNat)) - (1 + (((κ26 (20 + 6 * x.toNat) 3) % 4294967296 / 2 ^ 16) % (((1 * 2 ^ ((k + 3).toNat)) - 0) - 1)))) := by rw [lastD_is hs, hL, hH]; first | (rw [if_pos (by omega), if_pos (by omega)]; done) | (rw [if_pos (by omega), if_neg (by omega)]; done) | (rw [if_neg (by omega), if_pos (by omega)]; done) | (rw [if_neg (by omega), if_neg (by omega)]; done)
                    have hDr := kLastD_rg (k := k) (lo := kDigit (kLevel κ pn k)) (hi := kHigh κ bd k) (co := kCoin κ x.toNat) (by omega) (by omega) (by omega) (kCoin_rg κ x.toNat).1
                    have hd5 : σ22 0 32 = k - 1 := by rw [e23, zu_ne (by decide)]; exact hd
                    have h25 : σ22 25 = τ 25 := by rw [e23, zu_ne (by decide)]
                    have h26 : σ22 26 = τ 26 := by rw [e23, zu_ne (by decide)]
                    have h27 : σ22 27 = τ 27 := by rw [e23, zu_ne (by decide)]
                    have hM5 := hM27
                    refine zg_callVv C X hP hS (kX5_level l σ22 hR24 ((1 * 2 ^ ((k + 3).toNat)) - (1 + (((κ26 (20 + 6 * x.toNat) 3) % 4294967296 / 2 ^ 16) % (((1 * 2 ^ ((k + 3).toNat)) - 0) - 1)))) x cn (by omega) (by omega) (by omega) (by omega) (by omega) (by omega) (by omega)) (cwV 3 C.ts (zgV mlX5_121 imX5_level slX5_level iniX5 cdX5_level) rfl rfl rfl (by decide +kernel) ⟨Nat.le_of_ble_eq_true rfl, Nat.le_of_ble_eq_true rfl⟩) (by decide) lyM_0 rfl rfl rfl hl.1 rfl (Nat.le_of_ble_eq_true rfl) dX5_findsPath_205 ⟨Nat.zero_le _, Nat.zero_le _⟩ (fun σ42 H locs q44 hP hS => ?_)
                    have hR45 : rgM σ42 := by rw [q44]; exact mLev_rg hR24 (by omega) (by omega) (by omega) (by omega) (by omega) (by omega) (by omega)
                    have hM46 : RR κ26 σ42 := by rw [q44]; exact RR_lev hM27
                    refine zg_iconst C dX5_findsPath_208 ?_
                    refine zg_zret (b := true) C hP hS dX5_findsPath_209 ?_
                    have h9 := fp_hit (x := x) (c := cn) (r := x.toNat) (Int.toNat_of_nonneg x0) cn0 bT.1 hE hto bp.1 bp.2 b0 b1 k0 (by omega) (by omega) hmh h25 h26 h27 hd5 hD (by rw [← hκ5]; exact hM5)
                    exact ⟨congrArg (fun b => jI (bI b)) h9.1, hR45, by rw [q44]; exact h9.2⟩
                  · refine zg_iload C dX5_findsPath_190 (lv_at hl 3 rfl) ?_
                    refine zg_iload C dX5_findsPath_192 (lv_at hl 0 rfl) ?_
                    refine zg_iadd C dX5_findsPath_194 ?_
                    refine zg_goto (tgt := 203) C dX5_findsPath_195 (by decide) ?_
                    refine zg_iload_n C dX5_findsPath_203 rfl (lv_at hl 6 rfl) ?_
                    refine zg_iload_n C dX5_findsPath_204 rfl (lv_at hl 7 rfl) ?_
                    have hD : kLastD k (kDigit (kLevel κ pn k)) (kHigh κ bd k) (kCoin κ x.toNat) = (0 + (1 + (((κ26 (20 + 6 * x.toNat) 3) % 4294967296 / 2 ^ 16) % (((1 * 2 ^ ((k + 3).toNat)) - 0) - 1)))) := by rw [lastD_is hs, hL, hH]; first | (rw [if_pos (by omega), if_pos (by omega)]; done) | (rw [if_pos (by omega), if_neg (by omega)]; done) | (rw [if_neg (by omega), if_pos (by omega)]; done) | (rw [if_neg (by omega), if_neg (by omega)]; done)
                    have hDr := kLastD_rg (k := k) (lo := kDigit (kLevel κ pn k)) (hi := kHigh κ bd k) (co := kCoin κ x.toNat) (by omega) (by omega) (by omega) (kCoin_rg κ x.toNat).1
                    have hd5 : σ22 0 32 = k - 1 := by rw [e23, zu_ne (by decide)]; exact hd
                    have h25 : σ22 25 = τ 25 := by rw [e23, zu_ne (by decide)]
                    have h26 : σ22 26 = τ 26 := by rw [e23, zu_ne (by decide)]
                    have h27 : σ22 27 = τ 27 := by rw [e23, zu_ne (by decide)]
                    have hM5 := hM27
                    refine zg_callVv C X hP hS (kX5_level l σ22 hR24 (0 + (1 + (((κ26 (20 + 6 * x.toNat) 3) % 4294967296 / 2 ^ 16) % (((1 * 2 ^ ((k + 3).toNat)) - 0) - 1)))) x cn (by omega) (by omega) (by omega) (by omega) (by omega) (by omega) (by omega)) (cwV 3 C.ts (zgV mlX5_121 imX5_level slX5_level iniX5 cdX5_level) rfl rfl rfl (by decide +kernel) ⟨Nat.le_of_ble_eq_true rfl, Nat.le_of_ble_eq_true rfl⟩) (by decide) lyM_0 rfl rfl rfl hl.1 rfl (Nat.le_of_ble_eq_true rfl) dX5_findsPath_205 ⟨Nat.zero_le _, Nat.zero_le _⟩ (fun σ47 H locs q49 hP hS => ?_)
                    have hR50 : rgM σ47 := by rw [q49]; exact mLev_rg hR24 (by omega) (by omega) (by omega) (by omega) (by omega) (by omega) (by omega)
                    have hM51 : RR κ26 σ47 := by rw [q49]; exact RR_lev hM27
                    refine zg_iconst C dX5_findsPath_208 ?_
                    refine zg_zret (b := true) C hP hS dX5_findsPath_209 ?_
                    have h9 := fp_hit (x := x) (c := cn) (r := x.toNat) (Int.toNat_of_nonneg x0) cn0 bT.1 hE hto bp.1 bp.2 b0 b1 k0 (by omega) (by omega) hmh h25 h26 h27 hd5 hD (by rw [← hκ5]; exact hM5)
                    exact ⟨congrArg (fun b => jI (bI b)) h9.1, hR50, by rw [q49]; exact h9.2⟩
            · refine zg_sipush C dX5_findsPath_98 (by decide) ?_
              refine zg_goto (tgt := 110) C dX5_findsPath_101 (by decide) ?_
              refine zg_istore (lv' := [(9, .int (jI 4096)), (8, .int (jI 0)), (7, .int (jI 0)), (0, .ref (a 0)), (1, .int (jI x)), (2, .int (jI cn)), (3, .int (jI pn)), (5, .int (jI bd)), (6, .int (jI k))]) C dX5_findsPath_110 hl (by decide) rfl (fun ls hl => ?_)
              have hH : kHigh κ bd k = 4096 := by first | exact (kHigh_b (by assumption)).trans (rr_lev3 hM2 hτ (by omega) (by omega) (by omega) (by omega)).1 | exact (kHigh_8 (by assumption) k0 (by omega)).trans (if_pos (by omega)) | exact (kHigh_8 (by assumption) k0 (by omega)).trans (if_neg (by omega))
              have hH16 : bd = -1 → 16 ≤ kHigh κ bd k := fun e => kHigh_16 e k0 (by omega)
              have hHr := kHigh_rg hG.1 (b := bd) (k := k) k0 (by omega)
              have hLr := kDigit_rg (kLevel_rg hG.1 pn k).1 (kLevel_rg hG.1 pn k).2
              refine zg_iload C dX5_findsPath_112 (lv_at hl 0 rfl) ?_
              refine zg_iload C dX5_findsPath_114 (lv_at hl 1 rfl) ?_
              refine zg_isub C dX5_findsPath_116 ?_
              refine zg_iconst C dX5_findsPath_117 ?_
              refine zg_icmp_le (tgt := 210) C (by omega) (by omega) (by omega) (by omega) dX5_findsPath_118 (by decide) (fun c_52 => ?_) (fun c_52 => ?_)
              · refine zg_iload C dX5_findsPath_210 (lv_at hl 2 rfl) ?_
                refine zg_if_eq (tgt := 280) C (by omega) (by omega) dX5_findsPath_212 (by decide) (fun c_53 => ?_) (fun c_53 => ?_)
                · refine zg_bipush C dX5_findsPath_280 (by decide) ?_
                  refine zg_iload C dX5_findsPath_282 (lv_at hl 7 rfl) ?_
                  refine zg_imul C dX5_findsPath_284 ?_
                  refine zg_iload C dX5_findsPath_285 (lv_at hl 8 rfl) ?_
                  refine zg_iadd C dX5_findsPath_287 ?_
                  refine zg_iconst C dX5_findsPath_288 ?_
                  refine zg_isub C dX5_findsPath_289 ?_
                  refine zg_istore (lv' := [(10, .int (jI (((12 * bd) + k) - 1))), (9, .int (jI 4096)), (8, .int (jI 0)), (7, .int (jI 0)), (0, .ref (a 0)), (1, .int (jI x)), (2, .int (jI cn)), (3, .int (jI pn)), (5, .int (jI bd)), (6, .int (jI k))]) C dX5_findsPath_290 hl (by decide) rfl (fun ls hl => ?_)
                  refine zg_aload_n C dX5_findsPath_292 rfl (lv_at hl 4 rfl) ?_
                  refine zg_get (j := 12) C X hP (by decide) lyM_0 rfl (zmem uwX5) (by decide) (C.tb flX5_45) (fun _ h9 => h9) rfl dX5_findsPath_293 ?_
                  refine zg_iload C dX5_findsPath_296 (lv_at hl 0 rfl) ?_
                  refine zg_iald (t0 := 0) C X hP (by decide) lyM_11 rfl (by decide) (by omega) (by omega) dX5_findsPath_298 ?_
                  have b_54 := rgM_11 hτ ((((12 * bd) + k) - 1).toNat)
                  refine zg_if_ne (tgt := 324) C (by omega) (by omega) dX5_findsPath_299 (by decide) (fun c_55 => ?_) (fun c_55 => ?_)
                  · refine zg_aload_n C dX5_findsPath_324 rfl (lv_at hl 4 rfl) ?_
                    refine zg_iconst C dX5_findsPath_325 ?_
                    refine zg_iload_n C dX5_findsPath_326 rfl (lv_at hl 5 rfl) ?_
                    refine zg_iload_n C dX5_findsPath_327 rfl (lv_at hl 6 rfl) ?_
                    refine zg_callVv C X hP hS (kX5_level l τ hτ 0 x cn (by omega) (by omega) (by omega) (by omega) (by omega) (by omega) (by omega)) (cwV 3 C.ts (zgV mlX5_121 imX5_level slX5_level iniX5 cdX5_level) rfl rfl rfl (by decide +kernel) ⟨Nat.le_of_ble_eq_true rfl, Nat.le_of_ble_eq_true rfl⟩) (by decide) lyM_0 rfl rfl rfl hl.1 rfl (Nat.le_of_ble_eq_true rfl) dX5_findsPath_328 ⟨Nat.zero_le _, Nat.zero_le _⟩ (fun σ56 H locs q58 hP hS => ?_)
                    have hR59 : rgM σ56 := by rw [q58]; exact mLev_rg hτ (by omega) (by omega) (by omega) (by omega) (by omega) (by omega) (by omega)
                    have hM60 : RR κ σ56 := by rw [q58]; exact RR_lev hM2
                    have hl2 : mHas σ56 (zu ρ 12 (κ 1 10 * 12 + k - 1).toNat (kMake 0 x.toNat (κ (21 + 6 * x.toNat) x.toNat + 1))) (κ 1 10) (k + 1) := by rw [q58]; exact mHas_lev bT.1 k0 hmh rfl rfl rfl hd (by rw [cn0, Int.toNat_of_nonneg x0])
                    have hd2 : σ56 0 32 = k + 1 - 1 := by rw [q58, mLev_32]; omega
                    have hdy : kDigit (kLevel κ bd k) ≠ 0 := fun h8 => absurd ((rr_lev3 hM2 hτ (by omega) (by omega) (by omega) (by omega)).1.symm.trans h8) (by assumption)
                    have hst := kFind_st (r := x.toNat) (b' := -1) bT.1 hto bp.1 bp.2 b0 b1 k0 (by omega) (by omega) (N := kMake 0 x.toNat (κ (21 + 6 * x.toNat) x.toNat + 1)) (inner_n (low_0 (by omega)).2 hdy) (by rw [if_neg (fun h8 => hdy (by rw [h8]; exact (kUn_make (by omega) (by omega) (by omega) (by omega) (by omega)).1))])
                    refine zg_iconst C dX5_findsPath_331 ?_
                    refine zg_istore (lv' := [(5, .int (jI (-1))), (10, .int (jI (((12 * bd) + k) - 1))), (9, .int (jI 4096)), (8, .int (jI 0)), (7, .int (jI 0)), (0, .ref (a 0)), (1, .int (jI x)), (2, .int (jI cn)), (3, .int (jI pn)), (6, .int (jI k))]) C dX5_findsPath_332 hl (by decide) rfl (fun ls hl => ?_)
                    refine zg_iinc (k := 9) (lv' := [(6, .int (jI (k + 1))), (5, .int (jI (-1))), (10, .int (jI (((12 * bd) + k) - 1))), (9, .int (jI 4096)), (8, .int (jI 0)), (7, .int (jI 0)), (0, .ref (a 0)), (1, .int (jI x)), (2, .int (jI cn)), (3, .int (jI pn))]) C dX5_findsPath_334 hl rfl (by decide) rfl (fun ls hl => ?_)
                    refine zg_goto (tgt := 12) C dX5_findsPath_337 (by decide) ?_
                    exact ih (-1) (k + 1) σ56 _ _ _ _ (by omega) hR59 hM60 (by omega) (by omega) (by omega) (by omega) hd2 (hE.trans hst.1) hst.2 hl2 hP hS (lv_sub hl [6, 7, 8, 9, 1, 0] rfl)
                  · refine zg_aload_n C dX5_findsPath_302 rfl (lv_at hl 4 rfl) ?_
                    refine zg_iconst C dX5_findsPath_303 ?_
                    refine zg_aload_n C dX5_findsPath_304 rfl (lv_at hl 4 rfl) ?_
                    refine zg_get (j := 13) C X hP (by decide) lyM_0 rfl (zmem uwX5) (by decide) (C.tb flX5_48) (fun _ h9 => h9) rfl dX5_findsPath_305 ?_
                    refine zg_iload C dX5_findsPath_308 (lv_at hl 0 rfl) ?_
                    refine zg_iald (t0 := 0) C X hP (by decide) lyM_12 rfl (by decide) (by omega) (by omega) dX5_findsPath_310 ?_
                    have b_61 := rgM_12 hτ ((((12 * bd) + k) - 1).toNat)
                    refine zg_aload_n C dX5_findsPath_311 rfl (lv_at hl 4 rfl) ?_
                    refine zg_get (j := 14) C X hP (by decide) lyM_0 rfl (zmem uwX5) (by decide) (C.tb flX5_51) (fun _ h9 => h9) rfl dX5_findsPath_312 ?_
                    refine zg_iload C dX5_findsPath_315 (lv_at hl 0 rfl) ?_
                    refine zg_iald (t0 := 0) C X hP (by decide) lyM_13 rfl (by decide) (by omega) (by omega) dX5_findsPath_317 ?_
                    have b_62 := rgM_13 hτ ((((12 * bd) + k) - 1).toNat)
                    refine zg_callVv C X hP hS (kX5_level l τ hτ 0 (τ 12 (((12 * bd) + k) - 1).toNat) (τ 13 (((12 * bd) + k) - 1).toNat) (by omega) (by omega) (by omega) (by omega) (by omega) (by omega) (by omega)) (cwV 3 C.ts (zgV mlX5_121 imX5_level slX5_level iniX5 cdX5_level) rfl rfl rfl (by decide +kernel) ⟨Nat.le_of_ble_eq_true rfl, Nat.le_of_ble_eq_true rfl⟩) (by decide) lyM_0 rfl rfl rfl hl.1 rfl (Nat.le_of_ble_eq_true rfl) dX5_findsPath_318 ⟨Nat.zero_le _, Nat.zero_le _⟩ (fun σ63 H locs q65 hP hS => ?_)
                    have hR66 : rgM σ63 := by rw [q65]; exact mLev_rg hτ (by omega) (by omega) (by omega) (by omega) (by omega) (by omega) (by omega)
                    have hM67 : RR κ σ63 := by rw [q65]; exact RR_lev hM2
                    have hl2 : mHas σ63 (zu ρ 12 (κ 1 10 * 12 + k - 1).toNat (kLevel κ bd k)) (κ 1 10) (k + 1) := by rw [q65]; exact mHas_lev bT.1 k0 hmh rfl rfl rfl hd (by rw [rr_lev hM2 (d := bd) (k := k) (by omega) (by omega) (by omega) (by omega)]; congr 1; exact Eq.symm (by assumption))
                    have hd2 : σ63 0 32 = k + 1 - 1 := by rw [q65, mLev_32]; omega
                    have hst := kFind_st (r := x.toNat) (b' := bd) bT.1 hto bp.1 bp.2 b0 b1 k0 (by omega) (by omega) (N := kLevel κ bd k) (inner_0 (low_0 (by omega)).2 ((rr_lev3 hM2 hτ (by omega) (by omega) (by omega) (by omega)).1.trans (by assumption))) (by rw [if_pos rfl])
                    refine zg_goto (tgt := 334) C dX5_findsPath_321 (by decide) ?_
                    refine zg_iinc (k := 9) (lv' := [(6, .int (jI (k + 1))), (10, .int (jI (((12 * bd) + k) - 1))), (9, .int (jI 4096)), (8, .int (jI 0)), (7, .int (jI 0)), (0, .ref (a 0)), (1, .int (jI x)), (2, .int (jI cn)), (3, .int (jI pn)), (5, .int (jI bd))]) C dX5_findsPath_334 hl rfl (by decide) rfl (fun ls hl => ?_)
                    refine zg_goto (tgt := 12) C dX5_findsPath_337 (by decide) ?_
                    exact ih bd (k + 1) σ63 _ _ _ _ (by omega) hR66 hM67 (by omega) (by omega) (by omega) (by omega) hd2 (hE.trans hst.1) hst.2 hl2 hP hS (lv_sub hl [5, 6, 7, 8, 9, 0] rfl)
                · exact absurd c_53 (by decide)
              · refine zg_aload_n C dX5_findsPath_121 rfl (lv_at hl 3 rfl) ?_
                refine zg_get (j := 23) C X hP (by decide) lyM_0 rfl (zmem uwX5) (by decide) (C.tb flX5_75) (fun _ h9 => h9) rfl dX5_findsPath_122 ?_
                refine zg_iload_n C dX5_findsPath_125 rfl (lv_at hl 4 rfl) ?_
                refine zg_aload_n C dX5_findsPath_126 rfl (lv_at hl 3 rfl) ?_
                refine zg_get (j := 23) C X hP (by decide) lyM_0 rfl (zmem uwX5) (by decide) (C.tb flX5_75) (fun _ h9 => h9) rfl dX5_findsPath_127 ?_
                refine zg_iload_n C dX5_findsPath_130 rfl (lv_at hl 4 rfl) ?_
                refine zg_iald (t0 := 0) C X hP (by decide) lyM_21 rfl (by decide) (by omega) (by omega) dX5_findsPath_131 ?_
                rw [rr_21 hM2 (x := x) (by omega) (by omega)]
                refine zg_ldc (v := 1664525) C (C.tb knX5_119) rfl dX5_findsPath_132 ?_
                refine zg_imul C dX5_findsPath_134 ?_
                refine zg_ldc (v := 1013904223) C (C.tb knX5_120) rfl dX5_findsPath_135 ?_
                refine zg_iadd C dX5_findsPath_137 ?_
                refine zg_iast (t0 := 0) C X hP hS (by decide) (fun x => lyM_21) rfl (by decide) (by omega) (by omega) dX5_findsPath_138 (fun H locs hP hS => ?_)
                obtain ⟨σ68, e69⟩ : ∃ z_ : Zt, z_ = zu τ 21 (x).toNat (((κ (20 + 6 * x.toNat) 3) * 1664525) + 1013904223) := ⟨_, rfl⟩
                rw [← e69] at hP
                have w_71 : σ68 21 (x).toNat = ((κ (20 + 6 * x.toNat) 3) * 1664525) + 1013904223 := by rw [e69]; exact zu_same _ _ _ _
                have hR70 : rgM σ68 := by rw [e69]; exact rzM_21 hτ
                obtain ⟨κ72, eκ72⟩ : ∃ z_ : Zt, z_ = kCoinS κ x.toNat := ⟨_, rfl⟩
                have hM73 : RR κ72 σ68 := by rw [eκ72, e69]; exact RR_21 hM2 (by omega)
                have hG74 : kMid κ72 := by rw [eκ72]; exact kMid_str hG (by omega)
                have hs : κ72 (20 + 6 * x.toNat) 3 = κ (20 + 6 * x.toNat) 3 * 1664525 + 1013904223 := by rw [eκ72]; unfold kCoinS; rw [zu_same]
                have hκ5 := eκ72
                refine zg_aload_n C dX5_findsPath_139 rfl (lv_at hl 3 rfl) ?_
                refine zg_get (j := 23) C X hP (by decide) lyM_0 rfl (zmem uwX5) (by decide) (C.tb flX5_75) (fun _ h9 => h9) rfl dX5_findsPath_140 ?_
                refine zg_iload_n C dX5_findsPath_143 rfl (lv_at hl 4 rfl) ?_
                refine zg_iald (t0 := 0) C X hP (by decide) lyM_21 rfl (by decide) (by omega) (by omega) dX5_findsPath_144 ?_
                rw [rr_21 hM73 (x := x) (by omega) (by omega)]
                refine zg_bipush C dX5_findsPath_145 (by decide) ?_
                refine zg_iushr C 16 (by decide) dX5_findsPath_147 ?_
                refine zg_istore (lv' := [(10, .int (jI ((κ72 (20 + 6 * x.toNat) 3) % 4294967296 / 2 ^ 16))), (9, .int (jI 4096)), (8, .int (jI 0)), (7, .int (jI 0)), (0, .ref (a 0)), (1, .int (jI x)), (2, .int (jI cn)), (3, .int (jI pn)), (5, .int (jI bd)), (6, .int (jI k))]) C dX5_findsPath_148 hl (by decide) rfl (fun ls hl => ?_)
                refine zg_iconst C dX5_findsPath_150 ?_
                refine zg_iload C dX5_findsPath_151 (lv_at hl 0 rfl) ?_
                refine zg_iload C dX5_findsPath_153 (lv_at hl 1 rfl) ?_
                refine zg_iload C dX5_findsPath_155 (lv_at hl 2 rfl) ?_
                refine zg_isub C dX5_findsPath_157 ?_
                refine zg_iconst C dX5_findsPath_158 ?_
                refine zg_isub C dX5_findsPath_159 ?_
                refine zg_bipush C dX5_findsPath_160 (by decide) ?_
                refine zg_icmp_ge (tgt := 175) C (by omega) (by omega) (by omega) (by omega) dX5_findsPath_162 (by decide) (fun c_75 => ?_) (fun c_75 => ?_)
                · refine zg_bipush C dX5_findsPath_175 (by decide) ?_
                  refine zg_irem C (by omega) (by omega) (by omega) (by omega) dX5_findsPath_177 ?_
                  refine zg_iadd C dX5_findsPath_178 ?_
                  refine zg_istore (lv' := [(11, .int (jI (1 + (((κ72 (20 + 6 * x.toNat) 3) % 4294967296 / 2 ^ 16) % 10)))), (10, .int (jI ((κ72 (20 + 6 * x.toNat) 3) % 4294967296 / 2 ^ 16))), (9, .int (jI 4096)), (8, .int (jI 0)), (7, .int (jI 0)), (0, .ref (a 0)), (1, .int (jI x)), (2, .int (jI cn)), (3, .int (jI pn)), (5, .int (jI bd)), (6, .int (jI k))]) C dX5_findsPath_179 hl (by decide) rfl (fun ls hl => ?_)
                  refine zg_aload_n C dX5_findsPath_181 rfl (lv_at hl 5 rfl) ?_
                  refine zg_iload C dX5_findsPath_182 (lv_at hl 10 rfl) ?_
                  refine zg_iconst C dX5_findsPath_184 ?_
                  refine zg_irem C (by omega) (by omega) (by omega) (by omega) dX5_findsPath_185 ?_
                  refine zg_iconst C dX5_findsPath_186 ?_
                  refine zg_icmp_ne (tgt := 198) C (by omega) (by omega) (by omega) (by omega) dX5_findsPath_187 (by decide) (fun c_76 => ?_) (fun c_76 => ?_)
                  · refine zg_iload C dX5_findsPath_198 (lv_at hl 2 rfl) ?_
                    refine zg_iload C dX5_findsPath_200 (lv_at hl 0 rfl) ?_
                    refine zg_isub C dX5_findsPath_202 ?_
                    refine zg_iload_n C dX5_findsPath_203 rfl (lv_at hl 6 rfl) ?_
                    refine zg_iload_n C dX5_findsPath_204 rfl (lv_at hl 7 rfl) ?_
                    have hD : kLastD k (kDigit (kLevel κ pn k)) (kHigh κ bd k) (kCoin κ x.toNat) = (4096 - (1 + (((κ72 (20 + 6 * x.toNat) 3) % 4294967296 / 2 ^ 16) % 10))) := by rw [lastD_is hs, hL, hH]; first | (rw [if_pos (by omega), if_pos (by omega)]; done) | (rw [if_pos (by omega), if_neg (by omega)]; done) | (rw [if_neg (by omega), if_pos (by omega)]; done) | (rw [if_neg (by omega), if_neg (by omega)]; done)
                    have hDr := kLastD_rg (k := k) (lo := kDigit (kLevel κ pn k)) (hi := kHigh κ bd k) (co := kCoin κ x.toNat) (by omega) (by omega) (by omega) (kCoin_rg κ x.toNat).1
                    have hd5 : σ68 0 32 = k - 1 := by rw [e69, zu_ne (by decide)]; exact hd
                    have h25 : σ68 25 = τ 25 := by rw [e69, zu_ne (by decide)]
                    have h26 : σ68 26 = τ 26 := by rw [e69, zu_ne (by decide)]
                    have h27 : σ68 27 = τ 27 := by rw [e69, zu_ne (by decide)]
                    have hM5 := hM73
                    refine zg_callVv C X hP hS (kX5_level l σ68 hR70 (4096 - (1 + (((κ72 (20 + 6 * x.toNat) 3) % 4294967296 / 2 ^ 16) % 10))) x cn (by omega) (by omega) (by omega) (by omega) (by omega) (by omega) (by omega)) (cwV 3 C.ts (zgV mlX5_121 imX5_level slX5_level iniX5 cdX5_level) rfl rfl rfl (by decide +kernel) ⟨Nat.le_of_ble_eq_true rfl, Nat.le_of_ble_eq_true rfl⟩) (by decide) lyM_0 rfl rfl rfl hl.1 rfl (Nat.le_of_ble_eq_true rfl) dX5_findsPath_205 ⟨Nat.zero_le _, Nat.zero_le _⟩ (fun σ77 H locs q79 hP hS => ?_)
                    have hR80 : rgM σ77 := by rw [q79]; exact mLev_rg hR70 (by omega) (by omega) (by omega) (by omega) (by omega) (by omega) (by omega)
                    have hM81 : RR κ72 σ77 := by rw [q79]; exact RR_lev hM73
                    refine zg_iconst C dX5_findsPath_208 ?_
                    refine zg_zret (b := true) C hP hS dX5_findsPath_209 ?_
                    have h9 := fp_hit (x := x) (c := cn) (r := x.toNat) (Int.toNat_of_nonneg x0) cn0 bT.1 hE hto bp.1 bp.2 b0 b1 k0 (by omega) (by omega) hmh h25 h26 h27 hd5 hD (by rw [← hκ5]; exact hM5)
                    exact ⟨congrArg (fun b => jI (bI b)) h9.1, hR80, by rw [q79]; exact h9.2⟩
                  · refine zg_iload C dX5_findsPath_190 (lv_at hl 3 rfl) ?_
                    refine zg_iload C dX5_findsPath_192 (lv_at hl 0 rfl) ?_
                    refine zg_iadd C dX5_findsPath_194 ?_
                    refine zg_goto (tgt := 203) C dX5_findsPath_195 (by decide) ?_
                    refine zg_iload_n C dX5_findsPath_203 rfl (lv_at hl 6 rfl) ?_
                    refine zg_iload_n C dX5_findsPath_204 rfl (lv_at hl 7 rfl) ?_
                    have hD : kLastD k (kDigit (kLevel κ pn k)) (kHigh κ bd k) (kCoin κ x.toNat) = (0 + (1 + (((κ72 (20 + 6 * x.toNat) 3) % 4294967296 / 2 ^ 16) % 10))) := by rw [lastD_is hs, hL, hH]; first | (rw [if_pos (by omega), if_pos (by omega)]; done) | (rw [if_pos (by omega), if_neg (by omega)]; done) | (rw [if_neg (by omega), if_pos (by omega)]; done) | (rw [if_neg (by omega), if_neg (by omega)]; done)
                    have hDr := kLastD_rg (k := k) (lo := kDigit (kLevel κ pn k)) (hi := kHigh κ bd k) (co := kCoin κ x.toNat) (by omega) (by omega) (by omega) (kCoin_rg κ x.toNat).1
                    have hd5 : σ68 0 32 = k - 1 := by rw [e69, zu_ne (by decide)]; exact hd
                    have h25 : σ68 25 = τ 25 := by rw [e69, zu_ne (by decide)]
                    have h26 : σ68 26 = τ 26 := by rw [e69, zu_ne (by decide)]
                    have h27 : σ68 27 = τ 27 := by rw [e69, zu_ne (by decide)]
                    have hM5 := hM73
                    refine zg_callVv C X hP hS (kX5_level l σ68 hR70 (0 + (1 + (((κ72 (20 + 6 * x.toNat) 3) % 4294967296 / 2 ^ 16) % 10))) x cn (by omega) (by omega) (by omega) (by omega) (by omega) (by omega) (by omega)) (cwV 3 C.ts (zgV mlX5_121 imX5_level slX5_level iniX5 cdX5_level) rfl rfl rfl (by decide +kernel) ⟨Nat.le_of_ble_eq_true rfl, Nat.le_of_ble_eq_true rfl⟩) (by decide) lyM_0 rfl rfl rfl hl.1 rfl (Nat.le_of_ble_eq_true rfl) dX5_findsPath_205 ⟨Nat.zero_le _, Nat.zero_le _⟩ (fun σ82 H locs q84 hP hS => ?_)
                    have hR85 : rgM σ82 := by rw [q84]; exact mLev_rg hR70 (by omega) (by omega) (by omega) (by omega) (by omega) (by omega) (by omega)
                    have hM86 : RR κ72 σ82 := by rw [q84]; exact RR_lev hM73
                    refine zg_iconst C dX5_findsPath_208 ?_
                    refine zg_zret (b := true) C hP hS dX5_findsPath_209 ?_
                    have h9 := fp_hit (x := x) (c := cn) (r := x.toNat) (Int.toNat_of_nonneg x0) cn0 bT.1 hE hto bp.1 bp.2 b0 b1 k0 (by omega) (by omega) hmh h25 h26 h27 hd5 hD (by rw [← hκ5]; exact hM5)
                    exact ⟨congrArg (fun b => jI (bI b)) h9.1, hR85, by rw [q84]; exact h9.2⟩
                · refine zg_iload C dX5_findsPath_165 (lv_at hl 1 rfl) ?_
                  refine zg_iload C dX5_findsPath_167 (lv_at hl 2 rfl) ?_
                  refine zg_isub C dX5_findsPath_169 ?_
                  refine zg_iconst C dX5_findsPath_170 ?_
                  refine zg_isub C dX5_findsPath_171 ?_
                  refine zg_goto (tgt := 177) C dX5_findsPath_172 (by decide) ?_
                  refine zg_irem C (by omega) (by omega) (by omega) (by omega) dX5_findsPath_177 ?_
                  refine zg_iadd C dX5_findsPath_178 ?_
                  refine zg_istore (lv' := [(11, .int (jI (1 + (((κ72 (20 + 6 * x.toNat) 3) % 4294967296 / 2 ^ 16) % ((4096 - 0) - 1))))), (10, .int (jI ((κ72 (20 + 6 * x.toNat) 3) % 4294967296 / 2 ^ 16))), (9, .int (jI 4096)), (8, .int (jI 0)), (7, .int (jI 0)), (0, .ref (a 0)), (1, .int (jI x)), (2, .int (jI cn)), (3, .int (jI pn)), (5, .int (jI bd)), (6, .int (jI k))]) C dX5_findsPath_179 hl (by decide) rfl (fun ls hl => ?_)
                  refine zg_aload_n C dX5_findsPath_181 rfl (lv_at hl 5 rfl) ?_
                  refine zg_iload C dX5_findsPath_182 (lv_at hl 10 rfl) ?_
                  refine zg_iconst C dX5_findsPath_184 ?_
                  refine zg_irem C (by omega) (by omega) (by omega) (by omega) dX5_findsPath_185 ?_
                  refine zg_iconst C dX5_findsPath_186 ?_
                  refine zg_icmp_ne (tgt := 198) C (by omega) (by omega) (by omega) (by omega) dX5_findsPath_187 (by decide) (fun c_87 => ?_) (fun c_87 => ?_)
                  · refine zg_iload C dX5_findsPath_198 (lv_at hl 2 rfl) ?_
                    refine zg_iload C dX5_findsPath_200 (lv_at hl 0 rfl) ?_
                    refine zg_isub C dX5_findsPath_202 ?_
                    refine zg_iload_n C dX5_findsPath_203 rfl (lv_at hl 6 rfl) ?_
                    refine zg_iload_n C dX5_findsPath_204 rfl (lv_at hl 7 rfl) ?_
                    have hD : kLastD k (kDigit (kLevel κ pn k)) (kHigh κ bd k) (kCoin κ x.toNat) = (4096 - (1 + (((κ72 (20 + 6 * x.toNat) 3) % 4294967296 / 2 ^ 16) % ((4096 - 0) - 1)))) := by rw [lastD_is hs, hL, hH]; first | (rw [if_pos (by omega), if_pos (by omega)]; done) | (rw [if_pos (by omega), if_neg (by omega)]; done) | (rw [if_neg (by omega), if_pos (by omega)]; done) | (rw [if_neg (by omega), if_neg (by omega)]; done)
                    have hDr := kLastD_rg (k := k) (lo := kDigit (kLevel κ pn k)) (hi := kHigh κ bd k) (co := kCoin κ x.toNat) (by omega) (by omega) (by omega) (kCoin_rg κ x.toNat).1
                    have hd5 : σ68 0 32 = k - 1 := by rw [e69, zu_ne (by decide)]; exact hd
                    have h25 : σ68 25 = τ 25 := by rw [e69, zu_ne (by decide)]
                    have h26 : σ68 26 = τ 26 := by rw [e69, zu_ne (by decide)]
                    have h27 : σ68 27 = τ 27 := by rw [e69, zu_ne (by decide)]
                    have hM5 := hM73
                    refine zg_callVv C X hP hS (kX5_level l σ68 hR70 (4096 - (1 + (((κ72 (20 + 6 * x.toNat) 3) % 4294967296 / 2 ^ 16) % ((4096 - 0) - 1)))) x cn (by omega) (by omega) (by omega) (by omega) (by omega) (by omega) (by omega)) (cwV 3 C.ts (zgV mlX5_121 imX5_level slX5_level iniX5 cdX5_level) rfl rfl rfl (by decide +kernel) ⟨Nat.le_of_ble_eq_true rfl, Nat.le_of_ble_eq_true rfl⟩) (by decide) lyM_0 rfl rfl rfl hl.1 rfl (Nat.le_of_ble_eq_true rfl) dX5_findsPath_205 ⟨Nat.zero_le _, Nat.zero_le _⟩ (fun σ88 H locs q90 hP hS => ?_)
                    have hR91 : rgM σ88 := by rw [q90]; exact mLev_rg hR70 (by omega) (by omega) (by omega) (by omega) (by omega) (by omega) (by omega)
                    have hM92 : RR κ72 σ88 := by rw [q90]; exact RR_lev hM73
                    refine zg_iconst C dX5_findsPath_208 ?_
                    refine zg_zret (b := true) C hP hS dX5_findsPath_209 ?_
                    have h9 := fp_hit (x := x) (c := cn) (r := x.toNat) (Int.toNat_of_nonneg x0) cn0 bT.1 hE hto bp.1 bp.2 b0 b1 k0 (by omega) (by omega) hmh h25 h26 h27 hd5 hD (by rw [← hκ5]; exact hM5)
                    exact ⟨congrArg (fun b => jI (bI b)) h9.1, hR91, by rw [q90]; exact h9.2⟩
                  · refine zg_iload C dX5_findsPath_190 (lv_at hl 3 rfl) ?_
                    refine zg_iload C dX5_findsPath_192 (lv_at hl 0 rfl) ?_
                    refine zg_iadd C dX5_findsPath_194 ?_
                    refine zg_goto (tgt := 203) C dX5_findsPath_195 (by decide) ?_
                    refine zg_iload_n C dX5_findsPath_203 rfl (lv_at hl 6 rfl) ?_
                    refine zg_iload_n C dX5_findsPath_204 rfl (lv_at hl 7 rfl) ?_
                    have hD : kLastD k (kDigit (kLevel κ pn k)) (kHigh κ bd k) (kCoin κ x.toNat) = (0 + (1 + (((κ72 (20 + 6 * x.toNat) 3) % 4294967296 / 2 ^ 16) % ((4096 - 0) - 1)))) := by rw [lastD_is hs, hL, hH]; first | (rw [if_pos (by omega), if_pos (by omega)]; done) | (rw [if_pos (by omega), if_neg (by omega)]; done) | (rw [if_neg (by omega), if_pos (by omega)]; done) | (rw [if_neg (by omega), if_neg (by omega)]; done)
                    have hDr := kLastD_rg (k := k) (lo := kDigit (kLevel κ pn k)) (hi := kHigh κ bd k) (co := kCoin κ x.toNat) (by omega) (by omega) (by omega) (kCoin_rg κ x.toNat).1
                    have hd5 : σ68 0 32 = k - 1 := by rw [e69, zu_ne (by decide)]; exact hd
                    have h25 : σ68 25 = τ 25 := by rw [e69, zu_ne (by decide)]
                    have h26 : σ68 26 = τ 26 := by rw [e69, zu_ne (by decide)]
                    have h27 : σ68 27 = τ 27 := by rw [e69, zu_ne (by decide)]
                    have hM5 := hM73
                    refine zg_callVv C X hP hS (kX5_level l σ68 hR70 (0 + (1 + (((κ72 (20 + 6 * x.toNat) 3) % 4294967296 / 2 ^ 16) % ((4096 - 0) - 1)))) x cn (by omega) (by omega) (by omega) (by omega) (by omega) (by omega) (by omega)) (cwV 3 C.ts (zgV mlX5_121 imX5_level slX5_level iniX5 cdX5_level) rfl rfl rfl (by decide +kernel) ⟨Nat.le_of_ble_eq_true rfl, Nat.le_of_ble_eq_true rfl⟩) (by decide) lyM_0 rfl rfl rfl hl.1 rfl (Nat.le_of_ble_eq_true rfl) dX5_findsPath_205 ⟨Nat.zero_le _, Nat.zero_le _⟩ (fun σ93 H locs q95 hP hS => ?_)
                    have hR96 : rgM σ93 := by rw [q95]; exact mLev_rg hR70 (by omega) (by omega) (by omega) (by omega) (by omega) (by omega) (by omega)
                    have hM97 : RR κ72 σ93 := by rw [q95]; exact RR_lev hM73
                    refine zg_iconst C dX5_findsPath_208 ?_
                    refine zg_zret (b := true) C hP hS dX5_findsPath_209 ?_
                    have h9 := fp_hit (x := x) (c := cn) (r := x.toNat) (Int.toNat_of_nonneg x0) cn0 bT.1 hE hto bp.1 bp.2 b0 b1 k0 (by omega) (by omega) hmh h25 h26 h27 hd5 hD (by rw [← hκ5]; exact hM5)
                    exact ⟨congrArg (fun b => jI (bI b)) h9.1, hR96, by rw [q95]; exact h9.2⟩
          · refine zg_aload_n C dX5_findsPath_73 rfl (lv_at hl 2 rfl) ?_
            refine zg_get (j := 12) C X hP (by decide) lyM_0 rfl (zmem uwX5) (by decide) (C.tb flX5_45) (fun _ h9 => h9) rfl dX5_findsPath_74 ?_
            refine zg_bipush C dX5_findsPath_77 (by decide) ?_
            refine zg_iload C dX5_findsPath_79 (lv_at hl 6 rfl) ?_
            refine zg_imul C dX5_findsPath_81 ?_
            refine zg_iload C dX5_findsPath_82 (lv_at hl 7 rfl) ?_
            refine zg_iadd C dX5_findsPath_84 ?_
            refine zg_iconst C dX5_findsPath_85 ?_
            refine zg_isub C dX5_findsPath_86 ?_
            refine zg_iald (t0 := 0) C X hP (by decide) lyM_11 rfl (by decide) (by omega) (by omega) dX5_findsPath_87 ?_
            have b_98 := rgM_11 hτ ((((12 * bd) + k) - 1).toNat)
            refine zg_goto (tgt := 110) C dX5_findsPath_88 (by decide) ?_
            refine zg_istore (lv' := [(9, .int (jI (τ 11 (((12 * bd) + k) - 1).toNat))), (8, .int (jI 0)), (7, .int (jI 0)), (0, .ref (a 0)), (1, .int (jI x)), (2, .int (jI cn)), (3, .int (jI pn)), (5, .int (jI bd)), (6, .int (jI k))]) C dX5_findsPath_110 hl (by decide) rfl (fun ls hl => ?_)
            have hH : kHigh κ bd k = (τ 11 (((12 * bd) + k) - 1).toNat) := by first | exact (kHigh_b (by assumption)).trans (rr_lev3 hM2 hτ (by omega) (by omega) (by omega) (by omega)).1 | exact (kHigh_8 (by assumption) k0 (by omega)).trans (if_pos (by omega)) | exact (kHigh_8 (by assumption) k0 (by omega)).trans (if_neg (by omega))
            have hH16 : bd = -1 → 16 ≤ kHigh κ bd k := fun e => kHigh_16 e k0 (by omega)
            have hHr := kHigh_rg hG.1 (b := bd) (k := k) k0 (by omega)
            have hLr := kDigit_rg (kLevel_rg hG.1 pn k).1 (kLevel_rg hG.1 pn k).2
            refine zg_iload C dX5_findsPath_112 (lv_at hl 0 rfl) ?_
            refine zg_iload C dX5_findsPath_114 (lv_at hl 1 rfl) ?_
            refine zg_isub C dX5_findsPath_116 ?_
            refine zg_iconst C dX5_findsPath_117 ?_
            refine zg_icmp_le (tgt := 210) C (by omega) (by omega) (by omega) (by omega) dX5_findsPath_118 (by decide) (fun c_99 => ?_) (fun c_99 => ?_)
            · refine zg_iload C dX5_findsPath_210 (lv_at hl 2 rfl) ?_
              refine zg_if_eq (tgt := 280) C (by omega) (by omega) dX5_findsPath_212 (by decide) (fun c_100 => ?_) (fun c_100 => ?_)
              · refine zg_bipush C dX5_findsPath_280 (by decide) ?_
                refine zg_iload C dX5_findsPath_282 (lv_at hl 7 rfl) ?_
                refine zg_imul C dX5_findsPath_284 ?_
                refine zg_iload C dX5_findsPath_285 (lv_at hl 8 rfl) ?_
                refine zg_iadd C dX5_findsPath_287 ?_
                refine zg_iconst C dX5_findsPath_288 ?_
                refine zg_isub C dX5_findsPath_289 ?_
                refine zg_istore (lv' := [(10, .int (jI (((12 * bd) + k) - 1))), (9, .int (jI (τ 11 (((12 * bd) + k) - 1).toNat))), (8, .int (jI 0)), (7, .int (jI 0)), (0, .ref (a 0)), (1, .int (jI x)), (2, .int (jI cn)), (3, .int (jI pn)), (5, .int (jI bd)), (6, .int (jI k))]) C dX5_findsPath_290 hl (by decide) rfl (fun ls hl => ?_)
                refine zg_aload_n C dX5_findsPath_292 rfl (lv_at hl 4 rfl) ?_
                refine zg_get (j := 12) C X hP (by decide) lyM_0 rfl (zmem uwX5) (by decide) (C.tb flX5_45) (fun _ h9 => h9) rfl dX5_findsPath_293 ?_
                refine zg_iload C dX5_findsPath_296 (lv_at hl 0 rfl) ?_
                refine zg_iald (t0 := 0) C X hP (by decide) lyM_11 rfl (by decide) (by omega) (by omega) dX5_findsPath_298 ?_
                have b_101 := rgM_11 hτ ((((12 * bd) + k) - 1).toNat)
                refine zg_if_ne (tgt := 324) C (by omega) (by omega) dX5_findsPath_299 (by decide) (fun c_102 => ?_) (fun c_102 => ?_)
                · refine zg_aload_n C dX5_findsPath_324 rfl (lv_at hl 4 rfl) ?_
                  refine zg_iconst C dX5_findsPath_325 ?_
                  refine zg_iload_n C dX5_findsPath_326 rfl (lv_at hl 5 rfl) ?_
                  refine zg_iload_n C dX5_findsPath_327 rfl (lv_at hl 6 rfl) ?_
                  refine zg_callVv C X hP hS (kX5_level l τ hτ 0 x cn (by omega) (by omega) (by omega) (by omega) (by omega) (by omega) (by omega)) (cwV 3 C.ts (zgV mlX5_121 imX5_level slX5_level iniX5 cdX5_level) rfl rfl rfl (by decide +kernel) ⟨Nat.le_of_ble_eq_true rfl, Nat.le_of_ble_eq_true rfl⟩) (by decide) lyM_0 rfl rfl rfl hl.1 rfl (Nat.le_of_ble_eq_true rfl) dX5_findsPath_328 ⟨Nat.zero_le _, Nat.zero_le _⟩ (fun σ103 H locs q105 hP hS => ?_)
                  have hR106 : rgM σ103 := by rw [q105]; exact mLev_rg hτ (by omega) (by omega) (by omega) (by omega) (by omega) (by omega) (by omega)
                  have hM107 : RR κ σ103 := by rw [q105]; exact RR_lev hM2
                  have hl2 : mHas σ103 (zu ρ 12 (κ 1 10 * 12 + k - 1).toNat (kMake 0 x.toNat (κ (21 + 6 * x.toNat) x.toNat + 1))) (κ 1 10) (k + 1) := by rw [q105]; exact mHas_lev bT.1 k0 hmh rfl rfl rfl hd (by rw [cn0, Int.toNat_of_nonneg x0])
                  have hd2 : σ103 0 32 = k + 1 - 1 := by rw [q105, mLev_32]; omega
                  have hdy : kDigit (kLevel κ bd k) ≠ 0 := fun h8 => absurd ((rr_lev3 hM2 hτ (by omega) (by omega) (by omega) (by omega)).1.symm.trans h8) (by assumption)
                  have hst := kFind_st (r := x.toNat) (b' := -1) bT.1 hto bp.1 bp.2 b0 b1 k0 (by omega) (by omega) (N := kMake 0 x.toNat (κ (21 + 6 * x.toNat) x.toNat + 1)) (inner_n (low_0 (by omega)).2 hdy) (by rw [if_neg (fun h8 => hdy (by rw [h8]; exact (kUn_make (by omega) (by omega) (by omega) (by omega) (by omega)).1))])
                  refine zg_iconst C dX5_findsPath_331 ?_
                  refine zg_istore (lv' := [(5, .int (jI (-1))), (10, .int (jI (((12 * bd) + k) - 1))), (9, .int (jI (τ 11 (((12 * bd) + k) - 1).toNat))), (8, .int (jI 0)), (7, .int (jI 0)), (0, .ref (a 0)), (1, .int (jI x)), (2, .int (jI cn)), (3, .int (jI pn)), (6, .int (jI k))]) C dX5_findsPath_332 hl (by decide) rfl (fun ls hl => ?_)
                  refine zg_iinc (k := 9) (lv' := [(6, .int (jI (k + 1))), (5, .int (jI (-1))), (10, .int (jI (((12 * bd) + k) - 1))), (9, .int (jI (τ 11 (((12 * bd) + k) - 1).toNat))), (8, .int (jI 0)), (7, .int (jI 0)), (0, .ref (a 0)), (1, .int (jI x)), (2, .int (jI cn)), (3, .int (jI pn))]) C dX5_findsPath_334 hl rfl (by decide) rfl (fun ls hl => ?_)
                  refine zg_goto (tgt := 12) C dX5_findsPath_337 (by decide) ?_
                  exact ih (-1) (k + 1) σ103 _ _ _ _ (by omega) hR106 hM107 (by omega) (by omega) (by omega) (by omega) hd2 (hE.trans hst.1) hst.2 hl2 hP hS (lv_sub hl [6, 7, 8, 9, 1, 0] rfl)
                · refine zg_aload_n C dX5_findsPath_302 rfl (lv_at hl 4 rfl) ?_
                  refine zg_iconst C dX5_findsPath_303 ?_
                  refine zg_aload_n C dX5_findsPath_304 rfl (lv_at hl 4 rfl) ?_
                  refine zg_get (j := 13) C X hP (by decide) lyM_0 rfl (zmem uwX5) (by decide) (C.tb flX5_48) (fun _ h9 => h9) rfl dX5_findsPath_305 ?_
                  refine zg_iload C dX5_findsPath_308 (lv_at hl 0 rfl) ?_
                  refine zg_iald (t0 := 0) C X hP (by decide) lyM_12 rfl (by decide) (by omega) (by omega) dX5_findsPath_310 ?_
                  have b_108 := rgM_12 hτ ((((12 * bd) + k) - 1).toNat)
                  refine zg_aload_n C dX5_findsPath_311 rfl (lv_at hl 4 rfl) ?_
                  refine zg_get (j := 14) C X hP (by decide) lyM_0 rfl (zmem uwX5) (by decide) (C.tb flX5_51) (fun _ h9 => h9) rfl dX5_findsPath_312 ?_
                  refine zg_iload C dX5_findsPath_315 (lv_at hl 0 rfl) ?_
                  refine zg_iald (t0 := 0) C X hP (by decide) lyM_13 rfl (by decide) (by omega) (by omega) dX5_findsPath_317 ?_
                  have b_109 := rgM_13 hτ ((((12 * bd) + k) - 1).toNat)
                  refine zg_callVv C X hP hS (kX5_level l τ hτ 0 (τ 12 (((12 * bd) + k) - 1).toNat) (τ 13 (((12 * bd) + k) - 1).toNat) (by omega) (by omega) (by omega) (by omega) (by omega) (by omega) (by omega)) (cwV 3 C.ts (zgV mlX5_121 imX5_level slX5_level iniX5 cdX5_level) rfl rfl rfl (by decide +kernel) ⟨Nat.le_of_ble_eq_true rfl, Nat.le_of_ble_eq_true rfl⟩) (by decide) lyM_0 rfl rfl rfl hl.1 rfl (Nat.le_of_ble_eq_true rfl) dX5_findsPath_318 ⟨Nat.zero_le _, Nat.zero_le _⟩ (fun σ110 H locs q112 hP hS => ?_)
                  have hR113 : rgM σ110 := by rw [q112]; exact mLev_rg hτ (by omega) (by omega) (by omega) (by omega) (by omega) (by omega) (by omega)
                  have hM114 : RR κ σ110 := by rw [q112]; exact RR_lev hM2
                  have hl2 : mHas σ110 (zu ρ 12 (κ 1 10 * 12 + k - 1).toNat (kLevel κ bd k)) (κ 1 10) (k + 1) := by rw [q112]; exact mHas_lev bT.1 k0 hmh rfl rfl rfl hd (by rw [rr_lev hM2 (d := bd) (k := k) (by omega) (by omega) (by omega) (by omega)]; congr 1; exact Eq.symm (by assumption))
                  have hd2 : σ110 0 32 = k + 1 - 1 := by rw [q112, mLev_32]; omega
                  have hst := kFind_st (r := x.toNat) (b' := bd) bT.1 hto bp.1 bp.2 b0 b1 k0 (by omega) (by omega) (N := kLevel κ bd k) (inner_0 (low_0 (by omega)).2 ((rr_lev3 hM2 hτ (by omega) (by omega) (by omega) (by omega)).1.trans (by assumption))) (by rw [if_pos rfl])
                  refine zg_goto (tgt := 334) C dX5_findsPath_321 (by decide) ?_
                  refine zg_iinc (k := 9) (lv' := [(6, .int (jI (k + 1))), (10, .int (jI (((12 * bd) + k) - 1))), (9, .int (jI (τ 11 (((12 * bd) + k) - 1).toNat))), (8, .int (jI 0)), (7, .int (jI 0)), (0, .ref (a 0)), (1, .int (jI x)), (2, .int (jI cn)), (3, .int (jI pn)), (5, .int (jI bd))]) C dX5_findsPath_334 hl rfl (by decide) rfl (fun ls hl => ?_)
                  refine zg_goto (tgt := 12) C dX5_findsPath_337 (by decide) ?_
                  exact ih bd (k + 1) σ110 _ _ _ _ (by omega) hR113 hM114 (by omega) (by omega) (by omega) (by omega) hd2 (hE.trans hst.1) hst.2 hl2 hP hS (lv_sub hl [5, 6, 7, 8, 9, 0] rfl)
              · exact absurd c_100 (by decide)
            · refine zg_aload_n C dX5_findsPath_121 rfl (lv_at hl 3 rfl) ?_
              refine zg_get (j := 23) C X hP (by decide) lyM_0 rfl (zmem uwX5) (by decide) (C.tb flX5_75) (fun _ h9 => h9) rfl dX5_findsPath_122 ?_
              refine zg_iload_n C dX5_findsPath_125 rfl (lv_at hl 4 rfl) ?_
              refine zg_aload_n C dX5_findsPath_126 rfl (lv_at hl 3 rfl) ?_
              refine zg_get (j := 23) C X hP (by decide) lyM_0 rfl (zmem uwX5) (by decide) (C.tb flX5_75) (fun _ h9 => h9) rfl dX5_findsPath_127 ?_
              refine zg_iload_n C dX5_findsPath_130 rfl (lv_at hl 4 rfl) ?_
              refine zg_iald (t0 := 0) C X hP (by decide) lyM_21 rfl (by decide) (by omega) (by omega) dX5_findsPath_131 ?_
              rw [rr_21 hM2 (x := x) (by omega) (by omega)]
              refine zg_ldc (v := 1664525) C (C.tb knX5_119) rfl dX5_findsPath_132 ?_
              refine zg_imul C dX5_findsPath_134 ?_
              refine zg_ldc (v := 1013904223) C (C.tb knX5_120) rfl dX5_findsPath_135 ?_
              refine zg_iadd C dX5_findsPath_137 ?_
              refine zg_iast (t0 := 0) C X hP hS (by decide) (fun x => lyM_21) rfl (by decide) (by omega) (by omega) dX5_findsPath_138 (fun H locs hP hS => ?_)
              obtain ⟨σ115, e116⟩ : ∃ z_ : Zt, z_ = zu τ 21 (x).toNat (((κ (20 + 6 * x.toNat) 3) * 1664525) + 1013904223) := ⟨_, rfl⟩
              rw [← e116] at hP
              have w_118 : σ115 21 (x).toNat = ((κ (20 + 6 * x.toNat) 3) * 1664525) + 1013904223 := by rw [e116]; exact zu_same _ _ _ _
              have hR117 : rgM σ115 := by rw [e116]; exact rzM_21 hτ
              obtain ⟨κ119, eκ119⟩ : ∃ z_ : Zt, z_ = kCoinS κ x.toNat := ⟨_, rfl⟩
              have hM120 : RR κ119 σ115 := by rw [eκ119, e116]; exact RR_21 hM2 (by omega)
              have hG121 : kMid κ119 := by rw [eκ119]; exact kMid_str hG (by omega)
              have hs : κ119 (20 + 6 * x.toNat) 3 = κ (20 + 6 * x.toNat) 3 * 1664525 + 1013904223 := by rw [eκ119]; unfold kCoinS; rw [zu_same]
              have hκ5 := eκ119
              refine zg_aload_n C dX5_findsPath_139 rfl (lv_at hl 3 rfl) ?_
              refine zg_get (j := 23) C X hP (by decide) lyM_0 rfl (zmem uwX5) (by decide) (C.tb flX5_75) (fun _ h9 => h9) rfl dX5_findsPath_140 ?_
              refine zg_iload_n C dX5_findsPath_143 rfl (lv_at hl 4 rfl) ?_
              refine zg_iald (t0 := 0) C X hP (by decide) lyM_21 rfl (by decide) (by omega) (by omega) dX5_findsPath_144 ?_
              rw [rr_21 hM120 (x := x) (by omega) (by omega)]
              refine zg_bipush C dX5_findsPath_145 (by decide) ?_
              refine zg_iushr C 16 (by decide) dX5_findsPath_147 ?_
              refine zg_istore (lv' := [(10, .int (jI ((κ119 (20 + 6 * x.toNat) 3) % 4294967296 / 2 ^ 16))), (9, .int (jI (τ 11 (((12 * bd) + k) - 1).toNat))), (8, .int (jI 0)), (7, .int (jI 0)), (0, .ref (a 0)), (1, .int (jI x)), (2, .int (jI cn)), (3, .int (jI pn)), (5, .int (jI bd)), (6, .int (jI k))]) C dX5_findsPath_148 hl (by decide) rfl (fun ls hl => ?_)
              refine zg_iconst C dX5_findsPath_150 ?_
              refine zg_iload C dX5_findsPath_151 (lv_at hl 0 rfl) ?_
              refine zg_iload C dX5_findsPath_153 (lv_at hl 1 rfl) ?_
              refine zg_iload C dX5_findsPath_155 (lv_at hl 2 rfl) ?_
              refine zg_isub C dX5_findsPath_157 ?_
              refine zg_iconst C dX5_findsPath_158 ?_
              refine zg_isub C dX5_findsPath_159 ?_
              refine zg_bipush C dX5_findsPath_160 (by decide) ?_
              refine zg_icmp_ge (tgt := 175) C (by omega) (by omega) (by omega) (by omega) dX5_findsPath_162 (by decide) (fun c_122 => ?_) (fun c_122 => ?_)
              · refine zg_bipush C dX5_findsPath_175 (by decide) ?_
                refine zg_irem C (by omega) (by omega) (by omega) (by omega) dX5_findsPath_177 ?_
                refine zg_iadd C dX5_findsPath_178 ?_
                refine zg_istore (lv' := [(11, .int (jI (1 + (((κ119 (20 + 6 * x.toNat) 3) % 4294967296 / 2 ^ 16) % 10)))), (10, .int (jI ((κ119 (20 + 6 * x.toNat) 3) % 4294967296 / 2 ^ 16))), (9, .int (jI (τ 11 (((12 * bd) + k) - 1).toNat))), (8, .int (jI 0)), (7, .int (jI 0)), (0, .ref (a 0)), (1, .int (jI x)), (2, .int (jI cn)), (3, .int (jI pn)), (5, .int (jI bd)), (6, .int (jI k))]) C dX5_findsPath_179 hl (by decide) rfl (fun ls hl => ?_)
                refine zg_aload_n C dX5_findsPath_181 rfl (lv_at hl 5 rfl) ?_
                refine zg_iload C dX5_findsPath_182 (lv_at hl 10 rfl) ?_
                refine zg_iconst C dX5_findsPath_184 ?_
                refine zg_irem C (by omega) (by omega) (by omega) (by omega) dX5_findsPath_185 ?_
                refine zg_iconst C dX5_findsPath_186 ?_
                refine zg_icmp_ne (tgt := 198) C (by omega) (by omega) (by omega) (by omega) dX5_findsPath_187 (by decide) (fun c_123 => ?_) (fun c_123 => ?_)
                · refine zg_iload C dX5_findsPath_198 (lv_at hl 2 rfl) ?_
                  refine zg_iload C dX5_findsPath_200 (lv_at hl 0 rfl) ?_
                  refine zg_isub C dX5_findsPath_202 ?_
                  refine zg_iload_n C dX5_findsPath_203 rfl (lv_at hl 6 rfl) ?_
                  refine zg_iload_n C dX5_findsPath_204 rfl (lv_at hl 7 rfl) ?_
                  have hD : kLastD k (kDigit (kLevel κ pn k)) (kHigh κ bd k) (kCoin κ x.toNat) = ((τ 11 (((12 * bd) + k) - 1).toNat) - (1 + (((κ119 (20 + 6 * x.toNat) 3) % 4294967296 / 2 ^ 16) % 10))) := by rw [lastD_is hs, hL, hH]; first | (rw [if_pos (by omega), if_pos (by omega)]; done) | (rw [if_pos (by omega), if_neg (by omega)]; done) | (rw [if_neg (by omega), if_pos (by omega)]; done) | (rw [if_neg (by omega), if_neg (by omega)]; done)
                  have hDr := kLastD_rg (k := k) (lo := kDigit (kLevel κ pn k)) (hi := kHigh κ bd k) (co := kCoin κ x.toNat) (by omega) (by omega) (by omega) (kCoin_rg κ x.toNat).1
                  have hd5 : σ115 0 32 = k - 1 := by rw [e116, zu_ne (by decide)]; exact hd
                  have h25 : σ115 25 = τ 25 := by rw [e116, zu_ne (by decide)]
                  have h26 : σ115 26 = τ 26 := by rw [e116, zu_ne (by decide)]
                  have h27 : σ115 27 = τ 27 := by rw [e116, zu_ne (by decide)]
                  have hM5 := hM120
                  refine zg_callVv C X hP hS (kX5_level l σ115 hR117 ((τ 11 (((12 * bd) + k) - 1).toNat) - (1 + (((κ119 (20 + 6 * x.toNat) 3) % 4294967296 / 2 ^ 16) % 10))) x cn (by omega) (by omega) (by omega) (by omega) (by omega) (by omega) (by omega)) (cwV 3 C.ts (zgV mlX5_121 imX5_level slX5_level iniX5 cdX5_level) rfl rfl rfl (by decide +kernel) ⟨Nat.le_of_ble_eq_true rfl, Nat.le_of_ble_eq_true rfl⟩) (by decide) lyM_0 rfl rfl rfl hl.1 rfl (Nat.le_of_ble_eq_true rfl) dX5_findsPath_205 ⟨Nat.zero_le _, Nat.zero_le _⟩ (fun σ124 H locs q126 hP hS => ?_)
                  have hR127 : rgM σ124 := by rw [q126]; exact mLev_rg hR117 (by omega) (by omega) (by omega) (by omega) (by omega) (by omega) (by omega)
                  have hM128 : RR κ119 σ124 := by rw [q126]; exact RR_lev hM120
                  refine zg_iconst C dX5_findsPath_208 ?_
                  refine zg_zret (b := true) C hP hS dX5_findsPath_209 ?_
                  have h9 := fp_hit (x := x) (c := cn) (r := x.toNat) (Int.toNat_of_nonneg x0) cn0 bT.1 hE hto bp.1 bp.2 b0 b1 k0 (by omega) (by omega) hmh h25 h26 h27 hd5 hD (by rw [← hκ5]; exact hM5)
                  exact ⟨congrArg (fun b => jI (bI b)) h9.1, hR127, by rw [q126]; exact h9.2⟩
                · refine zg_iload C dX5_findsPath_190 (lv_at hl 3 rfl) ?_
                  refine zg_iload C dX5_findsPath_192 (lv_at hl 0 rfl) ?_
                  refine zg_iadd C dX5_findsPath_194 ?_
                  refine zg_goto (tgt := 203) C dX5_findsPath_195 (by decide) ?_
                  refine zg_iload_n C dX5_findsPath_203 rfl (lv_at hl 6 rfl) ?_
                  refine zg_iload_n C dX5_findsPath_204 rfl (lv_at hl 7 rfl) ?_
                  have hD : kLastD k (kDigit (kLevel κ pn k)) (kHigh κ bd k) (kCoin κ x.toNat) = (0 + (1 + (((κ119 (20 + 6 * x.toNat) 3) % 4294967296 / 2 ^ 16) % 10))) := by rw [lastD_is hs, hL, hH]; first | (rw [if_pos (by omega), if_pos (by omega)]; done) | (rw [if_pos (by omega), if_neg (by omega)]; done) | (rw [if_neg (by omega), if_pos (by omega)]; done) | (rw [if_neg (by omega), if_neg (by omega)]; done)
                  have hDr := kLastD_rg (k := k) (lo := kDigit (kLevel κ pn k)) (hi := kHigh κ bd k) (co := kCoin κ x.toNat) (by omega) (by omega) (by omega) (kCoin_rg κ x.toNat).1
                  have hd5 : σ115 0 32 = k - 1 := by rw [e116, zu_ne (by decide)]; exact hd
                  have h25 : σ115 25 = τ 25 := by rw [e116, zu_ne (by decide)]
                  have h26 : σ115 26 = τ 26 := by rw [e116, zu_ne (by decide)]
                  have h27 : σ115 27 = τ 27 := by rw [e116, zu_ne (by decide)]
                  have hM5 := hM120
                  refine zg_callVv C X hP hS (kX5_level l σ115 hR117 (0 + (1 + (((κ119 (20 + 6 * x.toNat) 3) % 4294967296 / 2 ^ 16) % 10))) x cn (by omega) (by omega) (by omega) (by omega) (by omega) (by omega) (by omega)) (cwV 3 C.ts (zgV mlX5_121 imX5_level slX5_level iniX5 cdX5_level) rfl rfl rfl (by decide +kernel) ⟨Nat.le_of_ble_eq_true rfl, Nat.le_of_ble_eq_true rfl⟩) (by decide) lyM_0 rfl rfl rfl hl.1 rfl (Nat.le_of_ble_eq_true rfl) dX5_findsPath_205 ⟨Nat.zero_le _, Nat.zero_le _⟩ (fun σ129 H locs q131 hP hS => ?_)
                  have hR132 : rgM σ129 := by rw [q131]; exact mLev_rg hR117 (by omega) (by omega) (by omega) (by omega) (by omega) (by omega) (by omega)
                  have hM133 : RR κ119 σ129 := by rw [q131]; exact RR_lev hM120
                  refine zg_iconst C dX5_findsPath_208 ?_
                  refine zg_zret (b := true) C hP hS dX5_findsPath_209 ?_
                  have h9 := fp_hit (x := x) (c := cn) (r := x.toNat) (Int.toNat_of_nonneg x0) cn0 bT.1 hE hto bp.1 bp.2 b0 b1 k0 (by omega) (by omega) hmh h25 h26 h27 hd5 hD (by rw [← hκ5]; exact hM5)
                  exact ⟨congrArg (fun b => jI (bI b)) h9.1, hR132, by rw [q131]; exact h9.2⟩
              · refine zg_iload C dX5_findsPath_165 (lv_at hl 1 rfl) ?_
                refine zg_iload C dX5_findsPath_167 (lv_at hl 2 rfl) ?_
                refine zg_isub C dX5_findsPath_169 ?_
                refine zg_iconst C dX5_findsPath_170 ?_
                refine zg_isub C dX5_findsPath_171 ?_
                refine zg_goto (tgt := 177) C dX5_findsPath_172 (by decide) ?_
                refine zg_irem C (by omega) (by omega) (by omega) (by omega) dX5_findsPath_177 ?_
                refine zg_iadd C dX5_findsPath_178 ?_
                refine zg_istore (lv' := [(11, .int (jI (1 + (((κ119 (20 + 6 * x.toNat) 3) % 4294967296 / 2 ^ 16) % (((τ 11 (((12 * bd) + k) - 1).toNat) - 0) - 1))))), (10, .int (jI ((κ119 (20 + 6 * x.toNat) 3) % 4294967296 / 2 ^ 16))), (9, .int (jI (τ 11 (((12 * bd) + k) - 1).toNat))), (8, .int (jI 0)), (7, .int (jI 0)), (0, .ref (a 0)), (1, .int (jI x)), (2, .int (jI cn)), (3, .int (jI pn)), (5, .int (jI bd)), (6, .int (jI k))]) C dX5_findsPath_179 hl (by decide) rfl (fun ls hl => ?_)
                refine zg_aload_n C dX5_findsPath_181 rfl (lv_at hl 5 rfl) ?_
                refine zg_iload C dX5_findsPath_182 (lv_at hl 10 rfl) ?_
                refine zg_iconst C dX5_findsPath_184 ?_
                refine zg_irem C (by omega) (by omega) (by omega) (by omega) dX5_findsPath_185 ?_
                refine zg_iconst C dX5_findsPath_186 ?_
                refine zg_icmp_ne (tgt := 198) C (by omega) (by omega) (by omega) (by omega) dX5_findsPath_187 (by decide) (fun c_134 => ?_) (fun c_134 => ?_)
                · refine zg_iload C dX5_findsPath_198 (lv_at hl 2 rfl) ?_
                  refine zg_iload C dX5_findsPath_200 (lv_at hl 0 rfl) ?_
                  refine zg_isub C dX5_findsPath_202 ?_
                  refine zg_iload_n C dX5_findsPath_203 rfl (lv_at hl 6 rfl) ?_
                  refine zg_iload_n C dX5_findsPath_204 rfl (lv_at hl 7 rfl) ?_
                  have hD : kLastD k (kDigit (kLevel κ pn k)) (kHigh κ bd k) (kCoin κ x.toNat) = ((τ 11 (((12 * bd) + k) - 1).toNat) - (1 + (((κ119 (20 + 6 * x.toNat) 3) % 4294967296 / 2 ^ 16) % (((τ 11 (((12 * bd) + k) - 1).toNat) - 0) - 1)))) := by rw [lastD_is hs, hL, hH]; first | (rw [if_pos (by omega), if_pos (by omega)]; done) | (rw [if_pos (by omega), if_neg (by omega)]; done) | (rw [if_neg (by omega), if_pos (by omega)]; done) | (rw [if_neg (by omega), if_neg (by omega)]; done)
                  have hDr := kLastD_rg (k := k) (lo := kDigit (kLevel κ pn k)) (hi := kHigh κ bd k) (co := kCoin κ x.toNat) (by omega) (by omega) (by omega) (kCoin_rg κ x.toNat).1
                  have hd5 : σ115 0 32 = k - 1 := by rw [e116, zu_ne (by decide)]; exact hd
                  have h25 : σ115 25 = τ 25 := by rw [e116, zu_ne (by decide)]
                  have h26 : σ115 26 = τ 26 := by rw [e116, zu_ne (by decide)]
                  have h27 : σ115 27 = τ 27 := by rw [e116, zu_ne (by decide)]
                  have hM5 := hM120
                  refine zg_callVv C X hP hS (kX5_level l σ115 hR117 ((τ 11 (((12 * bd) + k) - 1).toNat) - (1 + (((κ119 (20 + 6 * x.toNat) 3) % 4294967296 / 2 ^ 16) % (((τ 11 (((12 * bd) + k) - 1).toNat) - 0) - 1)))) x cn (by omega) (by omega) (by omega) (by omega) (by omega) (by omega) (by omega)) (cwV 3 C.ts (zgV mlX5_121 imX5_level slX5_level iniX5 cdX5_level) rfl rfl rfl (by decide +kernel) ⟨Nat.le_of_ble_eq_true rfl, Nat.le_of_ble_eq_true rfl⟩) (by decide) lyM_0 rfl rfl rfl hl.1 rfl (Nat.le_of_ble_eq_true rfl) dX5_findsPath_205 ⟨Nat.zero_le _, Nat.zero_le _⟩ (fun σ135 H locs q137 hP hS => ?_)
                  have hR138 : rgM σ135 := by rw [q137]; exact mLev_rg hR117 (by omega) (by omega) (by omega) (by omega) (by omega) (by omega) (by omega)
                  have hM139 : RR κ119 σ135 := by rw [q137]; exact RR_lev hM120
                  refine zg_iconst C dX5_findsPath_208 ?_
                  refine zg_zret (b := true) C hP hS dX5_findsPath_209 ?_
                  have h9 := fp_hit (x := x) (c := cn) (r := x.toNat) (Int.toNat_of_nonneg x0) cn0 bT.1 hE hto bp.1 bp.2 b0 b1 k0 (by omega) (by omega) hmh h25 h26 h27 hd5 hD (by rw [← hκ5]; exact hM5)
                  exact ⟨congrArg (fun b => jI (bI b)) h9.1, hR138, by rw [q137]; exact h9.2⟩
                · refine zg_iload C dX5_findsPath_190 (lv_at hl 3 rfl) ?_
                  refine zg_iload C dX5_findsPath_192 (lv_at hl 0 rfl) ?_
                  refine zg_iadd C dX5_findsPath_194 ?_
                  refine zg_goto (tgt := 203) C dX5_findsPath_195 (by decide) ?_
                  refine zg_iload_n C dX5_findsPath_203 rfl (lv_at hl 6 rfl) ?_
                  refine zg_iload_n C dX5_findsPath_204 rfl (lv_at hl 7 rfl) ?_
                  have hD : kLastD k (kDigit (kLevel κ pn k)) (kHigh κ bd k) (kCoin κ x.toNat) = (0 + (1 + (((κ119 (20 + 6 * x.toNat) 3) % 4294967296 / 2 ^ 16) % (((τ 11 (((12 * bd) + k) - 1).toNat) - 0) - 1)))) := by rw [lastD_is hs, hL, hH]; first | (rw [if_pos (by omega), if_pos (by omega)]; done) | (rw [if_pos (by omega), if_neg (by omega)]; done) | (rw [if_neg (by omega), if_pos (by omega)]; done) | (rw [if_neg (by omega), if_neg (by omega)]; done)
                  have hDr := kLastD_rg (k := k) (lo := kDigit (kLevel κ pn k)) (hi := kHigh κ bd k) (co := kCoin κ x.toNat) (by omega) (by omega) (by omega) (kCoin_rg κ x.toNat).1
                  have hd5 : σ115 0 32 = k - 1 := by rw [e116, zu_ne (by decide)]; exact hd
                  have h25 : σ115 25 = τ 25 := by rw [e116, zu_ne (by decide)]
                  have h26 : σ115 26 = τ 26 := by rw [e116, zu_ne (by decide)]
                  have h27 : σ115 27 = τ 27 := by rw [e116, zu_ne (by decide)]
                  have hM5 := hM120
                  refine zg_callVv C X hP hS (kX5_level l σ115 hR117 (0 + (1 + (((κ119 (20 + 6 * x.toNat) 3) % 4294967296 / 2 ^ 16) % (((τ 11 (((12 * bd) + k) - 1).toNat) - 0) - 1)))) x cn (by omega) (by omega) (by omega) (by omega) (by omega) (by omega) (by omega)) (cwV 3 C.ts (zgV mlX5_121 imX5_level slX5_level iniX5 cdX5_level) rfl rfl rfl (by decide +kernel) ⟨Nat.le_of_ble_eq_true rfl, Nat.le_of_ble_eq_true rfl⟩) (by decide) lyM_0 rfl rfl rfl hl.1 rfl (Nat.le_of_ble_eq_true rfl) dX5_findsPath_205 ⟨Nat.zero_le _, Nat.zero_le _⟩ (fun σ140 H locs q142 hP hS => ?_)
                  have hR143 : rgM σ140 := by rw [q142]; exact mLev_rg hR117 (by omega) (by omega) (by omega) (by omega) (by omega) (by omega) (by omega)
                  have hM144 : RR κ119 σ140 := by rw [q142]; exact RR_lev hM120
                  refine zg_iconst C dX5_findsPath_208 ?_
                  refine zg_zret (b := true) C hP hS dX5_findsPath_209 ?_
                  have h9 := fp_hit (x := x) (c := cn) (r := x.toNat) (Int.toNat_of_nonneg x0) cn0 bT.1 hE hto bp.1 bp.2 b0 b1 k0 (by omega) (by omega) hmh h25 h26 h27 hd5 hD (by rw [← hκ5]; exact hM5)
                  exact ⟨congrArg (fun b => jI (bI b)) h9.1, hR143, by rw [q142]; exact h9.2⟩
        · exact absurd c_3 (by decide)
      · refine zg_aload_n C dX5_findsPath_24 rfl (lv_at hl 0 rfl) ?_
        refine zg_get (j := 11) C X hP (by decide) lyM_0 rfl (zmem uwX5) (by decide) (C.tb flX5_42) (fun _ h9 => h9) rfl dX5_findsPath_25 ?_
        refine zg_iload_n C dX5_findsPath_28 rfl (lv_at hl 3 rfl) ?_
        refine zg_iald (t0 := 0) C X hP (by decide) lyM_10 rfl (by decide) (by omega) (by omega) dX5_findsPath_29 ?_
        rw [rr_10 hM2]
        have b_145 := rgS_13 hG.1 (pn).toNat
        have b_146 := rgM_10 hτ ((pn).toNat)
        refine zg_iload C dX5_findsPath_30 (lv_at hl 5 rfl) ?_
        refine zg_icmp_lt (tgt := 39) C (by omega) (by omega) (by omega) (by omega) dX5_findsPath_32 (by decide) (fun c_147 => ?_) (fun c_147 => ?_)
        · refine zg_iconst C dX5_findsPath_39 ?_
          refine zg_istore (lv' := [(7, .int (jI 0)), (0, .ref (a 0)), (1, .int (jI x)), (2, .int (jI cn)), (3, .int (jI pn)), (5, .int (jI bd)), (6, .int (jI k))]) C dX5_findsPath_40 hl (by decide) rfl (fun ls hl => ?_)
          refine zg_iload C dX5_findsPath_42 (lv_at hl 0 rfl) ?_
          refine zg_if_eq (tgt := 64) C (by omega) (by omega) dX5_findsPath_44 (by decide) (fun c_148 => ?_) (fun c_148 => ?_)
          · refine zg_iconst C dX5_findsPath_64 ?_
            refine zg_istore (lv' := [(8, .int (jI 0)), (7, .int (jI 0)), (0, .ref (a 0)), (1, .int (jI x)), (2, .int (jI cn)), (3, .int (jI pn)), (5, .int (jI bd)), (6, .int (jI k))]) C dX5_findsPath_65 hl (by decide) rfl (fun ls hl => ?_)
            have hL : kDigit (kLevel κ pn k) = 0 := by first | exact (rr_lev3 hM2 hτ (by omega) (by omega) (by omega) (by omega)).1 | exact (low_0 (by omega)).1
            refine zg_iload C dX5_findsPath_67 (lv_at hl 6 rfl) ?_
            refine zg_iconst C dX5_findsPath_69 ?_
            refine zg_icmp_eq (tgt := 91) C (by omega) (by omega) (by omega) (by omega) dX5_findsPath_70 (by decide) (fun c_149 => ?_) (fun c_149 => ?_)
            · refine zg_iload C dX5_findsPath_91 (lv_at hl 7 rfl) ?_
              refine zg_bipush C dX5_findsPath_93 (by decide) ?_
              refine zg_icmp_le (tgt := 104) C (by omega) (by omega) (by omega) (by omega) dX5_findsPath_95 (by decide) (fun c_150 => ?_) (fun c_150 => ?_)
              · refine zg_iconst C dX5_findsPath_104 ?_
                refine zg_iload C dX5_findsPath_105 (lv_at hl 7 rfl) ?_
                refine zg_iconst C dX5_findsPath_107 ?_
                refine zg_iadd C dX5_findsPath_108 ?_
                refine zg_shl C ((k + 3).toNat) (sh_amt (by omega) (by omega)) (by omega) (shl_ok k0 (by omega)) dX5_findsPath_109 ?_
                refine zg_istore (lv' := [(9, .int (jI (1 * 2 ^ ((k + 3).toNat)))), (8, .int (jI 0)), (7, .int (jI 0)), (0, .ref (a 0)), (1, .int (jI x)), (2, .int (jI cn)), (3, .int (jI pn)), (5, .int (jI bd)), (6, .int (jI k))]) C dX5_findsPath_110 hl (by decide) rfl (fun ls hl => ?_)
                have hH : kHigh κ bd k = (1 * 2 ^ ((k + 3).toNat)) := by first | exact (kHigh_b (by assumption)).trans (rr_lev3 hM2 hτ (by omega) (by omega) (by omega) (by omega)).1 | exact (kHigh_8 (by assumption) k0 (by omega)).trans (if_pos (by omega)) | exact (kHigh_8 (by assumption) k0 (by omega)).trans (if_neg (by omega))
                have hH16 : bd = -1 → 16 ≤ kHigh κ bd k := fun e => kHigh_16 e k0 (by omega)
                have hHr := kHigh_rg hG.1 (b := bd) (k := k) k0 (by omega)
                have hLr := kDigit_rg (kLevel_rg hG.1 pn k).1 (kLevel_rg hG.1 pn k).2
                refine zg_iload C dX5_findsPath_112 (lv_at hl 0 rfl) ?_
                refine zg_iload C dX5_findsPath_114 (lv_at hl 1 rfl) ?_
                refine zg_isub C dX5_findsPath_116 ?_
                refine zg_iconst C dX5_findsPath_117 ?_
                refine zg_icmp_le (tgt := 210) C (by omega) (by omega) (by omega) (by omega) dX5_findsPath_118 (by decide) (fun c_151 => ?_) (fun c_151 => ?_)
                · refine zg_iload C dX5_findsPath_210 (lv_at hl 2 rfl) ?_
                  refine zg_if_eq (tgt := 280) C (by omega) (by omega) dX5_findsPath_212 (by decide) (fun c_152 => ?_) (fun c_152 => ?_)
                  · refine zg_bipush C dX5_findsPath_280 (by decide) ?_
                    refine zg_iload C dX5_findsPath_282 (lv_at hl 7 rfl) ?_
                    refine zg_imul C dX5_findsPath_284 ?_
                    refine zg_iload C dX5_findsPath_285 (lv_at hl 8 rfl) ?_
                    refine zg_iadd C dX5_findsPath_287 ?_
                    refine zg_iconst C dX5_findsPath_288 ?_
                    refine zg_isub C dX5_findsPath_289 ?_
                    refine zg_istore (lv' := [(10, .int (jI (((12 * bd) + k) - 1))), (9, .int (jI (1 * 2 ^ ((k + 3).toNat)))), (8, .int (jI 0)), (7, .int (jI 0)), (0, .ref (a 0)), (1, .int (jI x)), (2, .int (jI cn)), (3, .int (jI pn)), (5, .int (jI bd)), (6, .int (jI k))]) C dX5_findsPath_290 hl (by decide) rfl (fun ls hl => ?_)
                    refine zg_aload_n C dX5_findsPath_292 rfl (lv_at hl 4 rfl) ?_
                    refine zg_get (j := 12) C X hP (by decide) lyM_0 rfl (zmem uwX5) (by decide) (C.tb flX5_45) (fun _ h9 => h9) rfl dX5_findsPath_293 ?_
                    refine zg_iload C dX5_findsPath_296 (lv_at hl 0 rfl) ?_
                    refine zg_iald (t0 := 0) C X hP (by decide) lyM_11 rfl (by decide) (by omega) (by omega) dX5_findsPath_298 ?_
                    have b_153 := rgM_11 hτ ((((12 * bd) + k) - 1).toNat)
                    refine zg_if_ne (tgt := 324) C (by omega) (by omega) dX5_findsPath_299 (by decide) (fun c_154 => ?_) (fun c_154 => ?_)
                    · refine zg_aload_n C dX5_findsPath_324 rfl (lv_at hl 4 rfl) ?_
                      refine zg_iconst C dX5_findsPath_325 ?_
                      refine zg_iload_n C dX5_findsPath_326 rfl (lv_at hl 5 rfl) ?_
                      refine zg_iload_n C dX5_findsPath_327 rfl (lv_at hl 6 rfl) ?_
                      refine zg_callVv C X hP hS (kX5_level l τ hτ 0 x cn (by omega) (by omega) (by omega) (by omega) (by omega) (by omega) (by omega)) (cwV 3 C.ts (zgV mlX5_121 imX5_level slX5_level iniX5 cdX5_level) rfl rfl rfl (by decide +kernel) ⟨Nat.le_of_ble_eq_true rfl, Nat.le_of_ble_eq_true rfl⟩) (by decide) lyM_0 rfl rfl rfl hl.1 rfl (Nat.le_of_ble_eq_true rfl) dX5_findsPath_328 ⟨Nat.zero_le _, Nat.zero_le _⟩ (fun σ155 H locs q157 hP hS => ?_)
                      have hR158 : rgM σ155 := by rw [q157]; exact mLev_rg hτ (by omega) (by omega) (by omega) (by omega) (by omega) (by omega) (by omega)
                      have hM159 : RR κ σ155 := by rw [q157]; exact RR_lev hM2
                      have hl2 : mHas σ155 (zu ρ 12 (κ 1 10 * 12 + k - 1).toNat (kMake 0 x.toNat (κ (21 + 6 * x.toNat) x.toNat + 1))) (κ 1 10) (k + 1) := by rw [q157]; exact mHas_lev bT.1 k0 hmh rfl rfl rfl hd (by rw [cn0, Int.toNat_of_nonneg x0])
                      have hd2 : σ155 0 32 = k + 1 - 1 := by rw [q157, mLev_32]; omega
                      have hdy : kDigit (kLevel κ bd k) ≠ 0 := fun h8 => absurd ((rr_lev3 hM2 hτ (by omega) (by omega) (by omega) (by omega)).1.symm.trans h8) (by assumption)
                      have hst := kFind_st (r := x.toNat) (b' := -1) bT.1 hto bp.1 bp.2 b0 b1 k0 (by omega) (by omega) (N := kMake 0 x.toNat (κ (21 + 6 * x.toNat) x.toNat + 1)) (inner_n (low_0 (by omega)).2 hdy) (by rw [if_neg (fun h8 => hdy (by rw [h8]; exact (kUn_make (by omega) (by omega) (by omega) (by omega) (by omega)).1))])
                      refine zg_iconst C dX5_findsPath_331 ?_
                      refine zg_istore (lv' := [(5, .int (jI (-1))), (10, .int (jI (((12 * bd) + k) - 1))), (9, .int (jI (1 * 2 ^ ((k + 3).toNat)))), (8, .int (jI 0)), (7, .int (jI 0)), (0, .ref (a 0)), (1, .int (jI x)), (2, .int (jI cn)), (3, .int (jI pn)), (6, .int (jI k))]) C dX5_findsPath_332 hl (by decide) rfl (fun ls hl => ?_)
                      refine zg_iinc (k := 9) (lv' := [(6, .int (jI (k + 1))), (5, .int (jI (-1))), (10, .int (jI (((12 * bd) + k) - 1))), (9, .int (jI (1 * 2 ^ ((k + 3).toNat)))), (8, .int (jI 0)), (7, .int (jI 0)), (0, .ref (a 0)), (1, .int (jI x)), (2, .int (jI cn)), (3, .int (jI pn))]) C dX5_findsPath_334 hl rfl (by decide) rfl (fun ls hl => ?_)
                      refine zg_goto (tgt := 12) C dX5_findsPath_337 (by decide) ?_
                      exact ih (-1) (k + 1) σ155 _ _ _ _ (by omega) hR158 hM159 (by omega) (by omega) (by omega) (by omega) hd2 (hE.trans hst.1) hst.2 hl2 hP hS (lv_sub hl [6, 7, 8, 9, 1, 0] rfl)
                    · refine zg_aload_n C dX5_findsPath_302 rfl (lv_at hl 4 rfl) ?_
                      refine zg_iconst C dX5_findsPath_303 ?_
                      refine zg_aload_n C dX5_findsPath_304 rfl (lv_at hl 4 rfl) ?_
                      refine zg_get (j := 13) C X hP (by decide) lyM_0 rfl (zmem uwX5) (by decide) (C.tb flX5_48) (fun _ h9 => h9) rfl dX5_findsPath_305 ?_
                      refine zg_iload C dX5_findsPath_308 (lv_at hl 0 rfl) ?_
                      refine zg_iald (t0 := 0) C X hP (by decide) lyM_12 rfl (by decide) (by omega) (by omega) dX5_findsPath_310 ?_
                      have b_160 := rgM_12 hτ ((((12 * bd) + k) - 1).toNat)
                      refine zg_aload_n C dX5_findsPath_311 rfl (lv_at hl 4 rfl) ?_
                      refine zg_get (j := 14) C X hP (by decide) lyM_0 rfl (zmem uwX5) (by decide) (C.tb flX5_51) (fun _ h9 => h9) rfl dX5_findsPath_312 ?_
                      refine zg_iload C dX5_findsPath_315 (lv_at hl 0 rfl) ?_
                      refine zg_iald (t0 := 0) C X hP (by decide) lyM_13 rfl (by decide) (by omega) (by omega) dX5_findsPath_317 ?_
                      have b_161 := rgM_13 hτ ((((12 * bd) + k) - 1).toNat)
                      refine zg_callVv C X hP hS (kX5_level l τ hτ 0 (τ 12 (((12 * bd) + k) - 1).toNat) (τ 13 (((12 * bd) + k) - 1).toNat) (by omega) (by omega) (by omega) (by omega) (by omega) (by omega) (by omega)) (cwV 3 C.ts (zgV mlX5_121 imX5_level slX5_level iniX5 cdX5_level) rfl rfl rfl (by decide +kernel) ⟨Nat.le_of_ble_eq_true rfl, Nat.le_of_ble_eq_true rfl⟩) (by decide) lyM_0 rfl rfl rfl hl.1 rfl (Nat.le_of_ble_eq_true rfl) dX5_findsPath_318 ⟨Nat.zero_le _, Nat.zero_le _⟩ (fun σ162 H locs q164 hP hS => ?_)
                      have hR165 : rgM σ162 := by rw [q164]; exact mLev_rg hτ (by omega) (by omega) (by omega) (by omega) (by omega) (by omega) (by omega)
                      have hM166 : RR κ σ162 := by rw [q164]; exact RR_lev hM2
                      have hl2 : mHas σ162 (zu ρ 12 (κ 1 10 * 12 + k - 1).toNat (kLevel κ bd k)) (κ 1 10) (k + 1) := by rw [q164]; exact mHas_lev bT.1 k0 hmh rfl rfl rfl hd (by rw [rr_lev hM2 (d := bd) (k := k) (by omega) (by omega) (by omega) (by omega)]; congr 1; exact Eq.symm (by assumption))
                      have hd2 : σ162 0 32 = k + 1 - 1 := by rw [q164, mLev_32]; omega
                      have hst := kFind_st (r := x.toNat) (b' := bd) bT.1 hto bp.1 bp.2 b0 b1 k0 (by omega) (by omega) (N := kLevel κ bd k) (inner_0 (low_0 (by omega)).2 ((rr_lev3 hM2 hτ (by omega) (by omega) (by omega) (by omega)).1.trans (by assumption))) (by rw [if_pos rfl])
                      refine zg_goto (tgt := 334) C dX5_findsPath_321 (by decide) ?_
                      refine zg_iinc (k := 9) (lv' := [(6, .int (jI (k + 1))), (10, .int (jI (((12 * bd) + k) - 1))), (9, .int (jI (1 * 2 ^ ((k + 3).toNat)))), (8, .int (jI 0)), (7, .int (jI 0)), (0, .ref (a 0)), (1, .int (jI x)), (2, .int (jI cn)), (3, .int (jI pn)), (5, .int (jI bd))]) C dX5_findsPath_334 hl rfl (by decide) rfl (fun ls hl => ?_)
                      refine zg_goto (tgt := 12) C dX5_findsPath_337 (by decide) ?_
                      exact ih bd (k + 1) σ162 _ _ _ _ (by omega) hR165 hM166 (by omega) (by omega) (by omega) (by omega) hd2 (hE.trans hst.1) hst.2 hl2 hP hS (lv_sub hl [5, 6, 7, 8, 9, 0] rfl)
                  · exact absurd c_152 (by decide)
                · refine zg_aload_n C dX5_findsPath_121 rfl (lv_at hl 3 rfl) ?_
                  refine zg_get (j := 23) C X hP (by decide) lyM_0 rfl (zmem uwX5) (by decide) (C.tb flX5_75) (fun _ h9 => h9) rfl dX5_findsPath_122 ?_
                  refine zg_iload_n C dX5_findsPath_125 rfl (lv_at hl 4 rfl) ?_
                  refine zg_aload_n C dX5_findsPath_126 rfl (lv_at hl 3 rfl) ?_
                  refine zg_get (j := 23) C X hP (by decide) lyM_0 rfl (zmem uwX5) (by decide) (C.tb flX5_75) (fun _ h9 => h9) rfl dX5_findsPath_127 ?_
                  refine zg_iload_n C dX5_findsPath_130 rfl (lv_at hl 4 rfl) ?_
                  refine zg_iald (t0 := 0) C X hP (by decide) lyM_21 rfl (by decide) (by omega) (by omega) dX5_findsPath_131 ?_
                  rw [rr_21 hM2 (x := x) (by omega) (by omega)]
                  refine zg_ldc (v := 1664525) C (C.tb knX5_119) rfl dX5_findsPath_132 ?_
                  refine zg_imul C dX5_findsPath_134 ?_
                  refine zg_ldc (v := 1013904223) C (C.tb knX5_120) rfl dX5_findsPath_135 ?_
                  refine zg_iadd C dX5_findsPath_137 ?_
                  refine zg_iast (t0 := 0) C X hP hS (by decide) (fun x => lyM_21) rfl (by decide) (by omega) (by omega) dX5_findsPath_138 (fun H locs hP hS => ?_)
                  obtain ⟨σ167, e168⟩ : ∃ z_ : Zt, z_ = zu τ 21 (x).toNat (((κ (20 + 6 * x.toNat) 3) * 1664525) + 1013904223) := ⟨_, rfl⟩
                  rw [← e168] at hP
                  have w_170 : σ167 21 (x).toNat = ((κ (20 + 6 * x.toNat) 3) * 1664525) + 1013904223 := by rw [e168]; exact zu_same _ _ _ _
                  have hR169 : rgM σ167 := by rw [e168]; exact rzM_21 hτ
                  obtain ⟨κ171, eκ171⟩ : ∃ z_ : Zt, z_ = kCoinS κ x.toNat := ⟨_, rfl⟩
                  have hM172 : RR κ171 σ167 := by rw [eκ171, e168]; exact RR_21 hM2 (by omega)
                  have hG173 : kMid κ171 := by rw [eκ171]; exact kMid_str hG (by omega)
                  have hs : κ171 (20 + 6 * x.toNat) 3 = κ (20 + 6 * x.toNat) 3 * 1664525 + 1013904223 := by rw [eκ171]; unfold kCoinS; rw [zu_same]
                  have hκ5 := eκ171
                  refine zg_aload_n C dX5_findsPath_139 rfl (lv_at hl 3 rfl) ?_
                  refine zg_get (j := 23) C X hP (by decide) lyM_0 rfl (zmem uwX5) (by decide) (C.tb flX5_75) (fun _ h9 => h9) rfl dX5_findsPath_140 ?_
                  refine zg_iload_n C dX5_findsPath_143 rfl (lv_at hl 4 rfl) ?_
                  refine zg_iald (t0 := 0) C X hP (by decide) lyM_21 rfl (by decide) (by omega) (by omega) dX5_findsPath_144 ?_
                  rw [rr_21 hM172 (x := x) (by omega) (by omega)]
                  refine zg_bipush C dX5_findsPath_145 (by decide) ?_
                  refine zg_iushr C 16 (by decide) dX5_findsPath_147 ?_
                  refine zg_istore (lv' := [(10, .int (jI ((κ171 (20 + 6 * x.toNat) 3) % 4294967296 / 2 ^ 16))), (9, .int (jI (1 * 2 ^ ((k + 3).toNat)))), (8, .int (jI 0)), (7, .int (jI 0)), (0, .ref (a 0)), (1, .int (jI x)), (2, .int (jI cn)), (3, .int (jI pn)), (5, .int (jI bd)), (6, .int (jI k))]) C dX5_findsPath_148 hl (by decide) rfl (fun ls hl => ?_)
                  refine zg_iconst C dX5_findsPath_150 ?_
                  refine zg_iload C dX5_findsPath_151 (lv_at hl 0 rfl) ?_
                  refine zg_iload C dX5_findsPath_153 (lv_at hl 1 rfl) ?_
                  refine zg_iload C dX5_findsPath_155 (lv_at hl 2 rfl) ?_
                  refine zg_isub C dX5_findsPath_157 ?_
                  refine zg_iconst C dX5_findsPath_158 ?_
                  refine zg_isub C dX5_findsPath_159 ?_
                  refine zg_bipush C dX5_findsPath_160 (by decide) ?_
                  refine zg_icmp_ge (tgt := 175) C (by omega) (by omega) (by omega) (by omega) dX5_findsPath_162 (by decide) (fun c_174 => ?_) (fun c_174 => ?_)
                  · refine zg_bipush C dX5_findsPath_175 (by decide) ?_
                    refine zg_irem C (by omega) (by omega) (by omega) (by omega) dX5_findsPath_177 ?_
                    refine zg_iadd C dX5_findsPath_178 ?_
                    refine zg_istore (lv' := [(11, .int (jI (1 + (((κ171 (20 + 6 * x.toNat) 3) % 4294967296 / 2 ^ 16) % 10)))), (10, .int (jI ((κ171 (20 + 6 * x.toNat) 3) % 4294967296 / 2 ^ 16))), (9, .int (jI (1 * 2 ^ ((k + 3).toNat)))), (8, .int (jI 0)), (7, .int (jI 0)), (0, .ref (a 0)), (1, .int (jI x)), (2, .int (jI cn)), (3, .int (jI pn)), (5, .int (jI bd)), (6, .int (jI k))]) C dX5_findsPath_179 hl (by decide) rfl (fun ls hl => ?_)
                    refine zg_aload_n C dX5_findsPath_181 rfl (lv_at hl 5 rfl) ?_
                    refine zg_iload C dX5_findsPath_182 (lv_at hl 10 rfl) ?_
                    refine zg_iconst C dX5_findsPath_184 ?_
                    refine zg_irem C (by omega) (by omega) (by omega) (by omega) dX5_findsPath_185 ?_
                    refine zg_iconst C dX5_findsPath_186 ?_
                    refine zg_icmp_ne (tgt := 198) C (by omega) (by omega) (by omega) (by omega) dX5_findsPath_187 (by decide) (fun c_175 => ?_) (fun c_175 => ?_)
                    · refine zg_iload C dX5_findsPath_198 (lv_at hl 2 rfl) ?_
                      refine zg_iload C dX5_findsPath_200 (lv_at hl 0 rfl) ?_
                      refine zg_isub C dX5_findsPath_202 ?_
                      refine zg_iload_n C dX5_findsPath_203 rfl (lv_at hl 6 rfl) ?_
                      refine zg_iload_n C dX5_findsPath_204 rfl (lv_at hl 7 rfl) ?_
                      have hD : kLastD k (kDigit (kLevel κ pn k)) (kHigh κ bd k) (kCoin κ x.toNat) = ((1 * 2 ^ ((k + 3).toNat)) - (1 + (((κ171 (20 + 6 * x.toNat) 3) % 4294967296 / 2 ^ 16) % 10))) := by rw [lastD_is hs, hL, hH]; first | (rw [if_pos (by omega), if_pos (by omega)]; done) | (rw [if_pos (by omega), if_neg (by omega)]; done) | (rw [if_neg (by omega), if_pos (by omega)]; done) | (rw [if_neg (by omega), if_neg (by omega)]; done)
                      have hDr := kLastD_rg (k := k) (lo := kDigit (kLevel κ pn k)) (hi := kHigh κ bd k) (co := kCoin κ x.toNat) (by omega) (by omega) (by omega) (kCoin_rg κ x.toNat).1
                      have hd5 : σ167 0 32 = k - 1 := by rw [e168, zu_ne (by decide)]; exact hd
                      have h25 : σ167 25 = τ 25 := by rw [e168, zu_ne (by decide)]
                      have h26 : σ167 26 = τ 26 := by rw [e168, zu_ne (by decide)]
                      have h27 : σ167 27 = τ 27 := by rw [e168, zu_ne (by decide)]
                      have hM5 := hM172
                      refine zg_callVv C X hP hS (kX5_level l σ167 hR169 ((1 * 2 ^ ((k + 3).toNat)) - (1 + (((κ171 (20 + 6 * x.toNat) 3) % 4294967296 / 2 ^ 16) % 10))) x cn (by omega) (by omega) (by omega) (by omega) (by omega) (by omega) (by omega)) (cwV 3 C.ts (zgV mlX5_121 imX5_level slX5_level iniX5 cdX5_level) rfl rfl rfl (by decide +kernel) ⟨Nat.le_of_ble_eq_true rfl, Nat.le_of_ble_eq_true rfl⟩) (by decide) lyM_0 rfl rfl rfl hl.1 rfl (Nat.le_of_ble_eq_true rfl) dX5_findsPath_205 ⟨Nat.zero_le _, Nat.zero_le _⟩ (fun σ176 H locs q178 hP hS => ?_)
                      have hR179 : rgM σ176 := by rw [q178]; exact mLev_rg hR169 (by omega) (by omega) (by omega) (by omega) (by omega) (by omega) (by omega)
                      have hM180 : RR κ171 σ176 := by rw [q178]; exact RR_lev hM172
                      refine zg_iconst C dX5_findsPath_208 ?_
                      refine zg_zret (b := true) C hP hS dX5_findsPath_209 ?_
                      have h9 := fp_hit (x := x) (c := cn) (r := x.toNat) (Int.toNat_of_nonneg x0) cn0 bT.1 hE hto bp.1 bp.2 b0 b1 k0 (by omega) (by omega) hmh h25 h26 h27 hd5 hD (by rw [← hκ5]; exact hM5)
                      exact ⟨congrArg (fun b => jI (bI b)) h9.1, hR179, by rw [q178]; exact h9.2⟩
                    · refine zg_iload C dX5_findsPath_190 (lv_at hl 3 rfl) ?_
                      refine zg_iload C dX5_findsPath_192 (lv_at hl 0 rfl) ?_
                      refine zg_iadd C dX5_findsPath_194 ?_
                      refine zg_goto (tgt := 203) C dX5_findsPath_195 (by decide) ?_
                      refine zg_iload_n C dX5_findsPath_203 rfl (lv_at hl 6 rfl) ?_
                      refine zg_iload_n C dX5_findsPath_204 rfl (lv_at hl 7 rfl) ?_
                      have hD : kLastD k (kDigit (kLevel κ pn k)) (kHigh κ bd k) (kCoin κ x.toNat) = (0 + (1 + (((κ171 (20 + 6 * x.toNat) 3) % 4294967296 / 2 ^ 16) % 10))) := by rw [lastD_is hs, hL, hH]; first | (rw [if_pos (by omega), if_pos (by omega)]; done) | (rw [if_pos (by omega), if_neg (by omega)]; done) | (rw [if_neg (by omega), if_pos (by omega)]; done) | (rw [if_neg (by omega), if_neg (by omega)]; done)
                      have hDr := kLastD_rg (k := k) (lo := kDigit (kLevel κ pn k)) (hi := kHigh κ bd k) (co := kCoin κ x.toNat) (by omega) (by omega) (by omega) (kCoin_rg κ x.toNat).1
                      have hd5 : σ167 0 32 = k - 1 := by rw [e168, zu_ne (by decide)]; exact hd
                      have h25 : σ167 25 = τ 25 := by rw [e168, zu_ne (by decide)]
                      have h26 : σ167 26 = τ 26 := by rw [e168, zu_ne (by decide)]
                      have h27 : σ167 27 = τ 27 := by rw [e168, zu_ne (by decide)]
                      have hM5 := hM172
                      refine zg_callVv C X hP hS (kX5_level l σ167 hR169 (0 + (1 + (((κ171 (20 + 6 * x.toNat) 3) % 4294967296 / 2 ^ 16) % 10))) x cn (by omega) (by omega) (by omega) (by omega) (by omega) (by omega) (by omega)) (cwV 3 C.ts (zgV mlX5_121 imX5_level slX5_level iniX5 cdX5_level) rfl rfl rfl (by decide +kernel) ⟨Nat.le_of_ble_eq_true rfl, Nat.le_of_ble_eq_true rfl⟩) (by decide) lyM_0 rfl rfl rfl hl.1 rfl (Nat.le_of_ble_eq_true rfl) dX5_findsPath_205 ⟨Nat.zero_le _, Nat.zero_le _⟩ (fun σ181 H locs q183 hP hS => ?_)
                      have hR184 : rgM σ181 := by rw [q183]; exact mLev_rg hR169 (by omega) (by omega) (by omega) (by omega) (by omega) (by omega) (by omega)
                      have hM185 : RR κ171 σ181 := by rw [q183]; exact RR_lev hM172
                      refine zg_iconst C dX5_findsPath_208 ?_
                      refine zg_zret (b := true) C hP hS dX5_findsPath_209 ?_
                      have h9 := fp_hit (x := x) (c := cn) (r := x.toNat) (Int.toNat_of_nonneg x0) cn0 bT.1 hE hto bp.1 bp.2 b0 b1 k0 (by omega) (by omega) hmh h25 h26 h27 hd5 hD (by rw [← hκ5]; exact hM5)
                      exact ⟨congrArg (fun b => jI (bI b)) h9.1, hR184, by rw [q183]; exact h9.2⟩
                  · refine zg_iload C dX5_findsPath_165 (lv_at hl 1 rfl) ?_
                    refine zg_iload C dX5_findsPath_167 (lv_at hl 2 rfl) ?_
                    refine zg_isub C dX5_findsPath_169 ?_
                    refine zg_iconst C dX5_findsPath_170 ?_
                    refine zg_isub C dX5_findsPath_171 ?_
                    refine zg_goto (tgt := 177) C dX5_findsPath_172 (by decide) ?_
                    refine zg_irem C (by omega) (by omega) (by omega) (by omega) dX5_findsPath_177 ?_
                    refine zg_iadd C dX5_findsPath_178 ?_
                    refine zg_istore (lv' := [(11, .int (jI (1 + (((κ171 (20 + 6 * x.toNat) 3) % 4294967296 / 2 ^ 16) % (((1 * 2 ^ ((k + 3).toNat)) - 0) - 1))))), (10, .int (jI ((κ171 (20 + 6 * x.toNat) 3) % 4294967296 / 2 ^ 16))), (9, .int (jI (1 * 2 ^ ((k + 3).toNat)))), (8, .int (jI 0)), (7, .int (jI 0)), (0, .ref (a 0)), (1, .int (jI x)), (2, .int (jI cn)), (3, .int (jI pn)), (5, .int (jI bd)), (6, .int (jI k))]) C dX5_findsPath_179 hl (by decide) rfl (fun ls hl => ?_)
                    refine zg_aload_n C dX5_findsPath_181 rfl (lv_at hl 5 rfl) ?_
                    refine zg_iload C dX5_findsPath_182 (lv_at hl 10 rfl) ?_
                    refine zg_iconst C dX5_findsPath_184 ?_
                    refine zg_irem C (by omega) (by omega) (by omega) (by omega) dX5_findsPath_185 ?_
                    refine zg_iconst C dX5_findsPath_186 ?_
                    refine zg_icmp_ne (tgt := 198) C (by omega) (by omega) (by omega) (by omega) dX5_findsPath_187 (by decide) (fun c_186 => ?_) (fun c_186 => ?_)
                    · refine zg_iload C dX5_findsPath_198 (lv_at hl 2 rfl) ?_
                      refine zg_iload C dX5_findsPath_200 (lv_at hl 0 rfl) ?_
                      refine zg_isub C dX5_findsPath_202 ?_
                      refine zg_iload_n C dX5_findsPath_203 rfl (lv_at hl 6 rfl) ?_
                      refine zg_iload_n C dX5_findsPath_204 rfl (lv_at hl 7 rfl) ?_
                      have hD : kLastD k (kDigit (kLevel κ pn k)) (kHigh κ bd k) (kCoin κ x.toNat) = ((1 * 2 ^ ((k + 3).toNat)) - (1 + (((κ171 (20 + 6 * x.toNat) 3) % 4294967296 / 2 ^ 16) % (((1 * 2 ^ ((k + 3).toNat)) - 0) - 1)))) := by rw [lastD_is hs, hL, hH]; first | (rw [if_pos (by omega), if_pos (by omega)]; done) | (rw [if_pos (by omega), if_neg (by omega)]; done) | (rw [if_neg (by omega), if_pos (by omega)]; done) | (rw [if_neg (by omega), if_neg (by omega)]; done)
                      have hDr := kLastD_rg (k := k) (lo := kDigit (kLevel κ pn k)) (hi := kHigh κ bd k) (co := kCoin κ x.toNat) (by omega) (by omega) (by omega) (kCoin_rg κ x.toNat).1
                      have hd5 : σ167 0 32 = k - 1 := by rw [e168, zu_ne (by decide)]; exact hd
                      have h25 : σ167 25 = τ 25 := by rw [e168, zu_ne (by decide)]
                      have h26 : σ167 26 = τ 26 := by rw [e168, zu_ne (by decide)]
                      have h27 : σ167 27 = τ 27 := by rw [e168, zu_ne (by decide)]
                      have hM5 := hM172
                      refine zg_callVv C X hP hS (kX5_level l σ167 hR169 ((1 * 2 ^ ((k + 3).toNat)) - (1 + (((κ171 (20 + 6 * x.toNat) 3) % 4294967296 / 2 ^ 16) % (((1 * 2 ^ ((k + 3).toNat)) - 0) - 1)))) x cn (by omega) (by omega) (by omega) (by omega) (by omega) (by omega) (by omega)) (cwV 3 C.ts (zgV mlX5_121 imX5_level slX5_level iniX5 cdX5_level) rfl rfl rfl (by decide +kernel) ⟨Nat.le_of_ble_eq_true rfl, Nat.le_of_ble_eq_true rfl⟩) (by decide) lyM_0 rfl rfl rfl hl.1 rfl (Nat.le_of_ble_eq_true rfl) dX5_findsPath_205 ⟨Nat.zero_le _, Nat.zero_le _⟩ (fun σ187 H locs q189 hP hS => ?_)
                      have hR190 : rgM σ187 := by rw [q189]; exact mLev_rg hR169 (by omega) (by omega) (by omega) (by omega) (by omega) (by omega) (by omega)
                      have hM191 : RR κ171 σ187 := by rw [q189]; exact RR_lev hM172
                      refine zg_iconst C dX5_findsPath_208 ?_
                      refine zg_zret (b := true) C hP hS dX5_findsPath_209 ?_
                      have h9 := fp_hit (x := x) (c := cn) (r := x.toNat) (Int.toNat_of_nonneg x0) cn0 bT.1 hE hto bp.1 bp.2 b0 b1 k0 (by omega) (by omega) hmh h25 h26 h27 hd5 hD (by rw [← hκ5]; exact hM5)
                      exact ⟨congrArg (fun b => jI (bI b)) h9.1, hR190, by rw [q189]; exact h9.2⟩
                    · refine zg_iload C dX5_findsPath_190 (lv_at hl 3 rfl) ?_
                      refine zg_iload C dX5_findsPath_192 (lv_at hl 0 rfl) ?_
                      refine zg_iadd C dX5_findsPath_194 ?_
                      refine zg_goto (tgt := 203) C dX5_findsPath_195 (by decide) ?_
                      refine zg_iload_n C dX5_findsPath_203 rfl (lv_at hl 6 rfl) ?_
                      refine zg_iload_n C dX5_findsPath_204 rfl (lv_at hl 7 rfl) ?_
                      have hD : kLastD k (kDigit (kLevel κ pn k)) (kHigh κ bd k) (kCoin κ x.toNat) = (0 + (1 + (((κ171 (20 + 6 * x.toNat) 3) % 4294967296 / 2 ^ 16) % (((1 * 2 ^ ((k + 3).toNat)) - 0) - 1)))) := by rw [lastD_is hs, hL, hH]; first | (rw [if_pos (by omega), if_pos (by omega)]; done) | (rw [if_pos (by omega), if_neg (by omega)]; done) | (rw [if_neg (by omega), if_pos (by omega)]; done) | (rw [if_neg (by omega), if_neg (by omega)]; done)
                      have hDr := kLastD_rg (k := k) (lo := kDigit (kLevel κ pn k)) (hi := kHigh κ bd k) (co := kCoin κ x.toNat) (by omega) (by omega) (by omega) (kCoin_rg κ x.toNat).1
                      have hd5 : σ167 0 32 = k - 1 := by rw [e168, zu_ne (by decide)]; exact hd
                      have h25 : σ167 25 = τ 25 := by rw [e168, zu_ne (by decide)]
                      have h26 : σ167 26 = τ 26 := by rw [e168, zu_ne (by decide)]
                      have h27 : σ167 27 = τ 27 := by rw [e168, zu_ne (by decide)]
                      have hM5 := hM172
                      refine zg_callVv C X hP hS (kX5_level l σ167 hR169 (0 + (1 + (((κ171 (20 + 6 * x.toNat) 3) % 4294967296 / 2 ^ 16) % (((1 * 2 ^ ((k + 3).toNat)) - 0) - 1)))) x cn (by omega) (by omega) (by omega) (by omega) (by omega) (by omega) (by omega)) (cwV 3 C.ts (zgV mlX5_121 imX5_level slX5_level iniX5 cdX5_level) rfl rfl rfl (by decide +kernel) ⟨Nat.le_of_ble_eq_true rfl, Nat.le_of_ble_eq_true rfl⟩) (by decide) lyM_0 rfl rfl rfl hl.1 rfl (Nat.le_of_ble_eq_true rfl) dX5_findsPath_205 ⟨Nat.zero_le _, Nat.zero_le _⟩ (fun σ192 H locs q194 hP hS => ?_)
                      have hR195 : rgM σ192 := by rw [q194]; exact mLev_rg hR169 (by omega) (by omega) (by omega) (by omega) (by omega) (by omega) (by omega)
                      have hM196 : RR κ171 σ192 := by rw [q194]; exact RR_lev hM172
                      refine zg_iconst C dX5_findsPath_208 ?_
                      refine zg_zret (b := true) C hP hS dX5_findsPath_209 ?_
                      have h9 := fp_hit (x := x) (c := cn) (r := x.toNat) (Int.toNat_of_nonneg x0) cn0 bT.1 hE hto bp.1 bp.2 b0 b1 k0 (by omega) (by omega) hmh h25 h26 h27 hd5 hD (by rw [← hκ5]; exact hM5)
                      exact ⟨congrArg (fun b => jI (bI b)) h9.1, hR195, by rw [q194]; exact h9.2⟩
              · refine zg_sipush C dX5_findsPath_98 (by decide) ?_
                refine zg_goto (tgt := 110) C dX5_findsPath_101 (by decide) ?_
                refine zg_istore (lv' := [(9, .int (jI 4096)), (8, .int (jI 0)), (7, .int (jI 0)), (0, .ref (a 0)), (1, .int (jI x)), (2, .int (jI cn)), (3, .int (jI pn)), (5, .int (jI bd)), (6, .int (jI k))]) C dX5_findsPath_110 hl (by decide) rfl (fun ls hl => ?_)
                have hH : kHigh κ bd k = 4096 := by first | exact (kHigh_b (by assumption)).trans (rr_lev3 hM2 hτ (by omega) (by omega) (by omega) (by omega)).1 | exact (kHigh_8 (by assumption) k0 (by omega)).trans (if_pos (by omega)) | exact (kHigh_8 (by assumption) k0 (by omega)).trans (if_neg (by omega))
                have hH16 : bd = -1 → 16 ≤ kHigh κ bd k := fun e => kHigh_16 e k0 (by omega)
                have hHr := kHigh_rg hG.1 (b := bd) (k := k) k0 (by omega)
                have hLr := kDigit_rg (kLevel_rg hG.1 pn k).1 (kLevel_rg hG.1 pn k).2
                refine zg_iload C dX5_findsPath_112 (lv_at hl 0 rfl) ?_
                refine zg_iload C dX5_findsPath_114 (lv_at hl 1 rfl) ?_
                refine zg_isub C dX5_findsPath_116 ?_
                refine zg_iconst C dX5_findsPath_117 ?_
                refine zg_icmp_le (tgt := 210) C (by omega) (by omega) (by omega) (by omega) dX5_findsPath_118 (by decide) (fun c_197 => ?_) (fun c_197 => ?_)
                · refine zg_iload C dX5_findsPath_210 (lv_at hl 2 rfl) ?_
                  refine zg_if_eq (tgt := 280) C (by omega) (by omega) dX5_findsPath_212 (by decide) (fun c_198 => ?_) (fun c_198 => ?_)
                  · refine zg_bipush C dX5_findsPath_280 (by decide) ?_
                    refine zg_iload C dX5_findsPath_282 (lv_at hl 7 rfl) ?_
                    refine zg_imul C dX5_findsPath_284 ?_
                    refine zg_iload C dX5_findsPath_285 (lv_at hl 8 rfl) ?_
                    refine zg_iadd C dX5_findsPath_287 ?_
                    refine zg_iconst C dX5_findsPath_288 ?_
                    refine zg_isub C dX5_findsPath_289 ?_
                    refine zg_istore (lv' := [(10, .int (jI (((12 * bd) + k) - 1))), (9, .int (jI 4096)), (8, .int (jI 0)), (7, .int (jI 0)), (0, .ref (a 0)), (1, .int (jI x)), (2, .int (jI cn)), (3, .int (jI pn)), (5, .int (jI bd)), (6, .int (jI k))]) C dX5_findsPath_290 hl (by decide) rfl (fun ls hl => ?_)
                    refine zg_aload_n C dX5_findsPath_292 rfl (lv_at hl 4 rfl) ?_
                    refine zg_get (j := 12) C X hP (by decide) lyM_0 rfl (zmem uwX5) (by decide) (C.tb flX5_45) (fun _ h9 => h9) rfl dX5_findsPath_293 ?_
                    refine zg_iload C dX5_findsPath_296 (lv_at hl 0 rfl) ?_
                    refine zg_iald (t0 := 0) C X hP (by decide) lyM_11 rfl (by decide) (by omega) (by omega) dX5_findsPath_298 ?_
                    have b_199 := rgM_11 hτ ((((12 * bd) + k) - 1).toNat)
                    refine zg_if_ne (tgt := 324) C (by omega) (by omega) dX5_findsPath_299 (by decide) (fun c_200 => ?_) (fun c_200 => ?_)
                    · refine zg_aload_n C dX5_findsPath_324 rfl (lv_at hl 4 rfl) ?_
                      refine zg_iconst C dX5_findsPath_325 ?_
                      refine zg_iload_n C dX5_findsPath_326 rfl (lv_at hl 5 rfl) ?_
                      refine zg_iload_n C dX5_findsPath_327 rfl (lv_at hl 6 rfl) ?_
                      refine zg_callVv C X hP hS (kX5_level l τ hτ 0 x cn (by omega) (by omega) (by omega) (by omega) (by omega) (by omega) (by omega)) (cwV 3 C.ts (zgV mlX5_121 imX5_level slX5_level iniX5 cdX5_level) rfl rfl rfl (by decide +kernel) ⟨Nat.le_of_ble_eq_true rfl, Nat.le_of_ble_eq_true rfl⟩) (by decide) lyM_0 rfl rfl rfl hl.1 rfl (Nat.le_of_ble_eq_true rfl) dX5_findsPath_328 ⟨Nat.zero_le _, Nat.zero_le _⟩ (fun σ201 H locs q203 hP hS => ?_)
                      have hR204 : rgM σ201 := by rw [q203]; exact mLev_rg hτ (by omega) (by omega) (by omega) (by omega) (by omega) (by omega) (by omega)
                      have hM205 : RR κ σ201 := by rw [q203]; exact RR_lev hM2
                      have hl2 : mHas σ201 (zu ρ 12 (κ 1 10 * 12 + k - 1).toNat (kMake 0 x.toNat (κ (21 + 6 * x.toNat) x.toNat + 1))) (κ 1 10) (k + 1) := by rw [q203]; exact mHas_lev bT.1 k0 hmh rfl rfl rfl hd (by rw [cn0, Int.toNat_of_nonneg x0])
                      have hd2 : σ201 0 32 = k + 1 - 1 := by rw [q203, mLev_32]; omega
                      have hdy : kDigit (kLevel κ bd k) ≠ 0 := fun h8 => absurd ((rr_lev3 hM2 hτ (by omega) (by omega) (by omega) (by omega)).1.symm.trans h8) (by assumption)
                      have hst := kFind_st (r := x.toNat) (b' := -1) bT.1 hto bp.1 bp.2 b0 b1 k0 (by omega) (by omega) (N := kMake 0 x.toNat (κ (21 + 6 * x.toNat) x.toNat + 1)) (inner_n (low_0 (by omega)).2 hdy) (by rw [if_neg (fun h8 => hdy (by rw [h8]; exact (kUn_make (by omega) (by omega) (by omega) (by omega) (by omega)).1))])
                      refine zg_iconst C dX5_findsPath_331 ?_
                      refine zg_istore (lv' := [(5, .int (jI (-1))), (10, .int (jI (((12 * bd) + k) - 1))), (9, .int (jI 4096)), (8, .int (jI 0)), (7, .int (jI 0)), (0, .ref (a 0)), (1, .int (jI x)), (2, .int (jI cn)), (3, .int (jI pn)), (6, .int (jI k))]) C dX5_findsPath_332 hl (by decide) rfl (fun ls hl => ?_)
                      refine zg_iinc (k := 9) (lv' := [(6, .int (jI (k + 1))), (5, .int (jI (-1))), (10, .int (jI (((12 * bd) + k) - 1))), (9, .int (jI 4096)), (8, .int (jI 0)), (7, .int (jI 0)), (0, .ref (a 0)), (1, .int (jI x)), (2, .int (jI cn)), (3, .int (jI pn))]) C dX5_findsPath_334 hl rfl (by decide) rfl (fun ls hl => ?_)
                      refine zg_goto (tgt := 12) C dX5_findsPath_337 (by decide) ?_
                      exact ih (-1) (k + 1) σ201 _ _ _ _ (by omega) hR204 hM205 (by omega) (by omega) (by omega) (by omega) hd2 (hE.trans hst.1) hst.2 hl2 hP hS (lv_sub hl [6, 7, 8, 9, 1, 0] rfl)
                    · refine zg_aload_n C dX5_findsPath_302 rfl (lv_at hl 4 rfl) ?_
                      refine zg_iconst C dX5_findsPath_303 ?_
                      refine zg_aload_n C dX5_findsPath_304 rfl (lv_at hl 4 rfl) ?_
                      refine zg_get (j := 13) C X hP (by decide) lyM_0 rfl (zmem uwX5) (by decide) (C.tb flX5_48) (fun _ h9 => h9) rfl dX5_findsPath_305 ?_
                      refine zg_iload C dX5_findsPath_308 (lv_at hl 0 rfl) ?_
                      refine zg_iald (t0 := 0) C X hP (by decide) lyM_12 rfl (by decide) (by omega) (by omega) dX5_findsPath_310 ?_
                      have b_206 := rgM_12 hτ ((((12 * bd) + k) - 1).toNat)
                      refine zg_aload_n C dX5_findsPath_311 rfl (lv_at hl 4 rfl) ?_
                      refine zg_get (j := 14) C X hP (by decide) lyM_0 rfl (zmem uwX5) (by decide) (C.tb flX5_51) (fun _ h9 => h9) rfl dX5_findsPath_312 ?_
                      refine zg_iload C dX5_findsPath_315 (lv_at hl 0 rfl) ?_
                      refine zg_iald (t0 := 0) C X hP (by decide) lyM_13 rfl (by decide) (by omega) (by omega) dX5_findsPath_317 ?_
                      have b_207 := rgM_13 hτ ((((12 * bd) + k) - 1).toNat)
                      refine zg_callVv C X hP hS (kX5_level l τ hτ 0 (τ 12 (((12 * bd) + k) - 1).toNat) (τ 13 (((12 * bd) + k) - 1).toNat) (by omega) (by omega) (by omega) (by omega) (by omega) (by omega) (by omega)) (cwV 3 C.ts (zgV mlX5_121 imX5_level slX5_level iniX5 cdX5_level) rfl rfl rfl (by decide +kernel) ⟨Nat.le_of_ble_eq_true rfl, Nat.le_of_ble_eq_true rfl⟩) (by decide) lyM_0 rfl rfl rfl hl.1 rfl (Nat.le_of_ble_eq_true rfl) dX5_findsPath_318 ⟨Nat.zero_le _, Nat.zero_le _⟩ (fun σ208 H locs q210 hP hS => ?_)
                      have hR211 : rgM σ208 := by rw [q210]; exact mLev_rg hτ (by omega) (by omega) (by omega) (by omega) (by omega) (by omega) (by omega)
                      have hM212 : RR κ σ208 := by rw [q210]; exact RR_lev hM2
                      have hl2 : mHas σ208 (zu ρ 12 (κ 1 10 * 12 + k - 1).toNat (kLevel κ bd k)) (κ 1 10) (k + 1) := by rw [q210]; exact mHas_lev bT.1 k0 hmh rfl rfl rfl hd (by rw [rr_lev hM2 (d := bd) (k := k) (by omega) (by omega) (by omega) (by omega)]; congr 1; exact Eq.symm (by assumption))
                      have hd2 : σ208 0 32 = k + 1 - 1 := by rw [q210, mLev_32]; omega
                      have hst := kFind_st (r := x.toNat) (b' := bd) bT.1 hto bp.1 bp.2 b0 b1 k0 (by omega) (by omega) (N := kLevel κ bd k) (inner_0 (low_0 (by omega)).2 ((rr_lev3 hM2 hτ (by omega) (by omega) (by omega) (by omega)).1.trans (by assumption))) (by rw [if_pos rfl])
                      refine zg_goto (tgt := 334) C dX5_findsPath_321 (by decide) ?_
                      refine zg_iinc (k := 9) (lv' := [(6, .int (jI (k + 1))), (10, .int (jI (((12 * bd) + k) - 1))), (9, .int (jI 4096)), (8, .int (jI 0)), (7, .int (jI 0)), (0, .ref (a 0)), (1, .int (jI x)), (2, .int (jI cn)), (3, .int (jI pn)), (5, .int (jI bd))]) C dX5_findsPath_334 hl rfl (by decide) rfl (fun ls hl => ?_)
                      refine zg_goto (tgt := 12) C dX5_findsPath_337 (by decide) ?_
                      exact ih bd (k + 1) σ208 _ _ _ _ (by omega) hR211 hM212 (by omega) (by omega) (by omega) (by omega) hd2 (hE.trans hst.1) hst.2 hl2 hP hS (lv_sub hl [5, 6, 7, 8, 9, 0] rfl)
                  · exact absurd c_198 (by decide)
                · refine zg_aload_n C dX5_findsPath_121 rfl (lv_at hl 3 rfl) ?_
                  refine zg_get (j := 23) C X hP (by decide) lyM_0 rfl (zmem uwX5) (by decide) (C.tb flX5_75) (fun _ h9 => h9) rfl dX5_findsPath_122 ?_
                  refine zg_iload_n C dX5_findsPath_125 rfl (lv_at hl 4 rfl) ?_
                  refine zg_aload_n C dX5_findsPath_126 rfl (lv_at hl 3 rfl) ?_
                  refine zg_get (j := 23) C X hP (by decide) lyM_0 rfl (zmem uwX5) (by decide) (C.tb flX5_75) (fun _ h9 => h9) rfl dX5_findsPath_127 ?_
                  refine zg_iload_n C dX5_findsPath_130 rfl (lv_at hl 4 rfl) ?_
                  refine zg_iald (t0 := 0) C X hP (by decide) lyM_21 rfl (by decide) (by omega) (by omega) dX5_findsPath_131 ?_
                  rw [rr_21 hM2 (x := x) (by omega) (by omega)]
                  refine zg_ldc (v := 1664525) C (C.tb knX5_119) rfl dX5_findsPath_132 ?_
                  refine zg_imul C dX5_findsPath_134 ?_
                  refine zg_ldc (v := 1013904223) C (C.tb knX5_120) rfl dX5_findsPath_135 ?_
                  refine zg_iadd C dX5_findsPath_137 ?_
                  refine zg_iast (t0 := 0) C X hP hS (by decide) (fun x => lyM_21) rfl (by decide) (by omega) (by omega) dX5_findsPath_138 (fun H locs hP hS => ?_)
                  obtain ⟨σ213, e214⟩ : ∃ z_ : Zt, z_ = zu τ 21 (x).toNat (((κ (20 + 6 * x.toNat) 3) * 1664525) + 1013904223) := ⟨_, rfl⟩
                  rw [← e214] at hP
                  have w_216 : σ213 21 (x).toNat = ((κ (20 + 6 * x.toNat) 3) * 1664525) + 1013904223 := by rw [e214]; exact zu_same _ _ _ _
                  have hR215 : rgM σ213 := by rw [e214]; exact rzM_21 hτ
                  obtain ⟨κ217, eκ217⟩ : ∃ z_ : Zt, z_ = kCoinS κ x.toNat := ⟨_, rfl⟩
                  have hM218 : RR κ217 σ213 := by rw [eκ217, e214]; exact RR_21 hM2 (by omega)
                  have hG219 : kMid κ217 := by rw [eκ217]; exact kMid_str hG (by omega)
                  have hs : κ217 (20 + 6 * x.toNat) 3 = κ (20 + 6 * x.toNat) 3 * 1664525 + 1013904223 := by rw [eκ217]; unfold kCoinS; rw [zu_same]
                  have hκ5 := eκ217
                  refine zg_aload_n C dX5_findsPath_139 rfl (lv_at hl 3 rfl) ?_
                  refine zg_get (j := 23) C X hP (by decide) lyM_0 rfl (zmem uwX5) (by decide) (C.tb flX5_75) (fun _ h9 => h9) rfl dX5_findsPath_140 ?_
                  refine zg_iload_n C dX5_findsPath_143 rfl (lv_at hl 4 rfl) ?_
                  refine zg_iald (t0 := 0) C X hP (by decide) lyM_21 rfl (by decide) (by omega) (by omega) dX5_findsPath_144 ?_
                  rw [rr_21 hM218 (x := x) (by omega) (by omega)]
                  refine zg_bipush C dX5_findsPath_145 (by decide) ?_
                  refine zg_iushr C 16 (by decide) dX5_findsPath_147 ?_
                  refine zg_istore (lv' := [(10, .int (jI ((κ217 (20 + 6 * x.toNat) 3) % 4294967296 / 2 ^ 16))), (9, .int (jI 4096)), (8, .int (jI 0)), (7, .int (jI 0)), (0, .ref (a 0)), (1, .int (jI x)), (2, .int (jI cn)), (3, .int (jI pn)), (5, .int (jI bd)), (6, .int (jI k))]) C dX5_findsPath_148 hl (by decide) rfl (fun ls hl => ?_)
                  refine zg_iconst C dX5_findsPath_150 ?_
                  refine zg_iload C dX5_findsPath_151 (lv_at hl 0 rfl) ?_
                  refine zg_iload C dX5_findsPath_153 (lv_at hl 1 rfl) ?_
                  refine zg_iload C dX5_findsPath_155 (lv_at hl 2 rfl) ?_
                  refine zg_isub C dX5_findsPath_157 ?_
                  refine zg_iconst C dX5_findsPath_158 ?_
                  refine zg_isub C dX5_findsPath_159 ?_
                  refine zg_bipush C dX5_findsPath_160 (by decide) ?_
                  refine zg_icmp_ge (tgt := 175) C (by omega) (by omega) (by omega) (by omega) dX5_findsPath_162 (by decide) (fun c_220 => ?_) (fun c_220 => ?_)
                  · refine zg_bipush C dX5_findsPath_175 (by decide) ?_
                    refine zg_irem C (by omega) (by omega) (by omega) (by omega) dX5_findsPath_177 ?_
                    refine zg_iadd C dX5_findsPath_178 ?_
                    refine zg_istore (lv' := [(11, .int (jI (1 + (((κ217 (20 + 6 * x.toNat) 3) % 4294967296 / 2 ^ 16) % 10)))), (10, .int (jI ((κ217 (20 + 6 * x.toNat) 3) % 4294967296 / 2 ^ 16))), (9, .int (jI 4096)), (8, .int (jI 0)), (7, .int (jI 0)), (0, .ref (a 0)), (1, .int (jI x)), (2, .int (jI cn)), (3, .int (jI pn)), (5, .int (jI bd)), (6, .int (jI k))]) C dX5_findsPath_179 hl (by decide) rfl (fun ls hl => ?_)
                    refine zg_aload_n C dX5_findsPath_181 rfl (lv_at hl 5 rfl) ?_
                    refine zg_iload C dX5_findsPath_182 (lv_at hl 10 rfl) ?_
                    refine zg_iconst C dX5_findsPath_184 ?_
                    refine zg_irem C (by omega) (by omega) (by omega) (by omega) dX5_findsPath_185 ?_
                    refine zg_iconst C dX5_findsPath_186 ?_
                    refine zg_icmp_ne (tgt := 198) C (by omega) (by omega) (by omega) (by omega) dX5_findsPath_187 (by decide) (fun c_221 => ?_) (fun c_221 => ?_)
                    · refine zg_iload C dX5_findsPath_198 (lv_at hl 2 rfl) ?_
                      refine zg_iload C dX5_findsPath_200 (lv_at hl 0 rfl) ?_
                      refine zg_isub C dX5_findsPath_202 ?_
                      refine zg_iload_n C dX5_findsPath_203 rfl (lv_at hl 6 rfl) ?_
                      refine zg_iload_n C dX5_findsPath_204 rfl (lv_at hl 7 rfl) ?_
                      have hD : kLastD k (kDigit (kLevel κ pn k)) (kHigh κ bd k) (kCoin κ x.toNat) = (4096 - (1 + (((κ217 (20 + 6 * x.toNat) 3) % 4294967296 / 2 ^ 16) % 10))) := by rw [lastD_is hs, hL, hH]; first | (rw [if_pos (by omega), if_pos (by omega)]; done) | (rw [if_pos (by omega), if_neg (by omega)]; done) | (rw [if_neg (by omega), if_pos (by omega)]; done) | (rw [if_neg (by omega), if_neg (by omega)]; done)
                      have hDr := kLastD_rg (k := k) (lo := kDigit (kLevel κ pn k)) (hi := kHigh κ bd k) (co := kCoin κ x.toNat) (by omega) (by omega) (by omega) (kCoin_rg κ x.toNat).1
                      have hd5 : σ213 0 32 = k - 1 := by rw [e214, zu_ne (by decide)]; exact hd
                      have h25 : σ213 25 = τ 25 := by rw [e214, zu_ne (by decide)]
                      have h26 : σ213 26 = τ 26 := by rw [e214, zu_ne (by decide)]
                      have h27 : σ213 27 = τ 27 := by rw [e214, zu_ne (by decide)]
                      have hM5 := hM218
                      refine zg_callVv C X hP hS (kX5_level l σ213 hR215 (4096 - (1 + (((κ217 (20 + 6 * x.toNat) 3) % 4294967296 / 2 ^ 16) % 10))) x cn (by omega) (by omega) (by omega) (by omega) (by omega) (by omega) (by omega)) (cwV 3 C.ts (zgV mlX5_121 imX5_level slX5_level iniX5 cdX5_level) rfl rfl rfl (by decide +kernel) ⟨Nat.le_of_ble_eq_true rfl, Nat.le_of_ble_eq_true rfl⟩) (by decide) lyM_0 rfl rfl rfl hl.1 rfl (Nat.le_of_ble_eq_true rfl) dX5_findsPath_205 ⟨Nat.zero_le _, Nat.zero_le _⟩ (fun σ222 H locs q224 hP hS => ?_)
                      have hR225 : rgM σ222 := by rw [q224]; exact mLev_rg hR215 (by omega) (by omega) (by omega) (by omega) (by omega) (by omega) (by omega)
                      have hM226 : RR κ217 σ222 := by rw [q224]; exact RR_lev hM218
                      refine zg_iconst C dX5_findsPath_208 ?_
                      refine zg_zret (b := true) C hP hS dX5_findsPath_209 ?_
                      have h9 := fp_hit (x := x) (c := cn) (r := x.toNat) (Int.toNat_of_nonneg x0) cn0 bT.1 hE hto bp.1 bp.2 b0 b1 k0 (by omega) (by omega) hmh h25 h26 h27 hd5 hD (by rw [← hκ5]; exact hM5)
                      exact ⟨congrArg (fun b => jI (bI b)) h9.1, hR225, by rw [q224]; exact h9.2⟩
                    · refine zg_iload C dX5_findsPath_190 (lv_at hl 3 rfl) ?_
                      refine zg_iload C dX5_findsPath_192 (lv_at hl 0 rfl) ?_
                      refine zg_iadd C dX5_findsPath_194 ?_
                      refine zg_goto (tgt := 203) C dX5_findsPath_195 (by decide) ?_
                      refine zg_iload_n C dX5_findsPath_203 rfl (lv_at hl 6 rfl) ?_
                      refine zg_iload_n C dX5_findsPath_204 rfl (lv_at hl 7 rfl) ?_
                      have hD : kLastD k (kDigit (kLevel κ pn k)) (kHigh κ bd k) (kCoin κ x.toNat) = (0 + (1 + (((κ217 (20 + 6 * x.toNat) 3) % 4294967296 / 2 ^ 16) % 10))) := by rw [lastD_is hs, hL, hH]; first | (rw [if_pos (by omega), if_pos (by omega)]; done) | (rw [if_pos (by omega), if_neg (by omega)]; done) | (rw [if_neg (by omega), if_pos (by omega)]; done) | (rw [if_neg (by omega), if_neg (by omega)]; done)
                      have hDr := kLastD_rg (k := k) (lo := kDigit (kLevel κ pn k)) (hi := kHigh κ bd k) (co := kCoin κ x.toNat) (by omega) (by omega) (by omega) (kCoin_rg κ x.toNat).1
                      have hd5 : σ213 0 32 = k - 1 := by rw [e214, zu_ne (by decide)]; exact hd
                      have h25 : σ213 25 = τ 25 := by rw [e214, zu_ne (by decide)]
                      have h26 : σ213 26 = τ 26 := by rw [e214, zu_ne (by decide)]
                      have h27 : σ213 27 = τ 27 := by rw [e214, zu_ne (by decide)]
                      have hM5 := hM218
                      refine zg_callVv C X hP hS (kX5_level l σ213 hR215 (0 + (1 + (((κ217 (20 + 6 * x.toNat) 3) % 4294967296 / 2 ^ 16) % 10))) x cn (by omega) (by omega) (by omega) (by omega) (by omega) (by omega) (by omega)) (cwV 3 C.ts (zgV mlX5_121 imX5_level slX5_level iniX5 cdX5_level) rfl rfl rfl (by decide +kernel) ⟨Nat.le_of_ble_eq_true rfl, Nat.le_of_ble_eq_true rfl⟩) (by decide) lyM_0 rfl rfl rfl hl.1 rfl (Nat.le_of_ble_eq_true rfl) dX5_findsPath_205 ⟨Nat.zero_le _, Nat.zero_le _⟩ (fun σ227 H locs q229 hP hS => ?_)
                      have hR230 : rgM σ227 := by rw [q229]; exact mLev_rg hR215 (by omega) (by omega) (by omega) (by omega) (by omega) (by omega) (by omega)
                      have hM231 : RR κ217 σ227 := by rw [q229]; exact RR_lev hM218
                      refine zg_iconst C dX5_findsPath_208 ?_
                      refine zg_zret (b := true) C hP hS dX5_findsPath_209 ?_
                      have h9 := fp_hit (x := x) (c := cn) (r := x.toNat) (Int.toNat_of_nonneg x0) cn0 bT.1 hE hto bp.1 bp.2 b0 b1 k0 (by omega) (by omega) hmh h25 h26 h27 hd5 hD (by rw [← hκ5]; exact hM5)
                      exact ⟨congrArg (fun b => jI (bI b)) h9.1, hR230, by rw [q229]; exact h9.2⟩
                  · refine zg_iload C dX5_findsPath_165 (lv_at hl 1 rfl) ?_
                    refine zg_iload C dX5_findsPath_167 (lv_at hl 2 rfl) ?_
                    refine zg_isub C dX5_findsPath_169 ?_
                    refine zg_iconst C dX5_findsPath_170 ?_
                    refine zg_isub C dX5_findsPath_171 ?_
                    refine zg_goto (tgt := 177) C dX5_findsPath_172 (by decide) ?_
                    refine zg_irem C (by omega) (by omega) (by omega) (by omega) dX5_findsPath_177 ?_
                    refine zg_iadd C dX5_findsPath_178 ?_
                    refine zg_istore (lv' := [(11, .int (jI (1 + (((κ217 (20 + 6 * x.toNat) 3) % 4294967296 / 2 ^ 16) % ((4096 - 0) - 1))))), (10, .int (jI ((κ217 (20 + 6 * x.toNat) 3) % 4294967296 / 2 ^ 16))), (9, .int (jI 4096)), (8, .int (jI 0)), (7, .int (jI 0)), (0, .ref (a 0)), (1, .int (jI x)), (2, .int (jI cn)), (3, .int (jI pn)), (5, .int (jI bd)), (6, .int (jI k))]) C dX5_findsPath_179 hl (by decide) rfl (fun ls hl => ?_)
                    refine zg_aload_n C dX5_findsPath_181 rfl (lv_at hl 5 rfl) ?_
                    refine zg_iload C dX5_findsPath_182 (lv_at hl 10 rfl) ?_
                    refine zg_iconst C dX5_findsPath_184 ?_
                    refine zg_irem C (by omega) (by omega) (by omega) (by omega) dX5_findsPath_185 ?_
                    refine zg_iconst C dX5_findsPath_186 ?_
                    refine zg_icmp_ne (tgt := 198) C (by omega) (by omega) (by omega) (by omega) dX5_findsPath_187 (by decide) (fun c_232 => ?_) (fun c_232 => ?_)
                    · refine zg_iload C dX5_findsPath_198 (lv_at hl 2 rfl) ?_
                      refine zg_iload C dX5_findsPath_200 (lv_at hl 0 rfl) ?_
                      refine zg_isub C dX5_findsPath_202 ?_
                      refine zg_iload_n C dX5_findsPath_203 rfl (lv_at hl 6 rfl) ?_
                      refine zg_iload_n C dX5_findsPath_204 rfl (lv_at hl 7 rfl) ?_
                      have hD : kLastD k (kDigit (kLevel κ pn k)) (kHigh κ bd k) (kCoin κ x.toNat) = (4096 - (1 + (((κ217 (20 + 6 * x.toNat) 3) % 4294967296 / 2 ^ 16) % ((4096 - 0) - 1)))) := by rw [lastD_is hs, hL, hH]; first | (rw [if_pos (by omega), if_pos (by omega)]; done) | (rw [if_pos (by omega), if_neg (by omega)]; done) | (rw [if_neg (by omega), if_pos (by omega)]; done) | (rw [if_neg (by omega), if_neg (by omega)]; done)
                      have hDr := kLastD_rg (k := k) (lo := kDigit (kLevel κ pn k)) (hi := kHigh κ bd k) (co := kCoin κ x.toNat) (by omega) (by omega) (by omega) (kCoin_rg κ x.toNat).1
                      have hd5 : σ213 0 32 = k - 1 := by rw [e214, zu_ne (by decide)]; exact hd
                      have h25 : σ213 25 = τ 25 := by rw [e214, zu_ne (by decide)]
                      have h26 : σ213 26 = τ 26 := by rw [e214, zu_ne (by decide)]
                      have h27 : σ213 27 = τ 27 := by rw [e214, zu_ne (by decide)]
                      have hM5 := hM218
                      refine zg_callVv C X hP hS (kX5_level l σ213 hR215 (4096 - (1 + (((κ217 (20 + 6 * x.toNat) 3) % 4294967296 / 2 ^ 16) % ((4096 - 0) - 1)))) x cn (by omega) (by omega) (by omega) (by omega) (by omega) (by omega) (by omega)) (cwV 3 C.ts (zgV mlX5_121 imX5_level slX5_level iniX5 cdX5_level) rfl rfl rfl (by decide +kernel) ⟨Nat.le_of_ble_eq_true rfl, Nat.le_of_ble_eq_true rfl⟩) (by decide) lyM_0 rfl rfl rfl hl.1 rfl (Nat.le_of_ble_eq_true rfl) dX5_findsPath_205 ⟨Nat.zero_le _, Nat.zero_le _⟩ (fun σ233 H locs q235 hP hS => ?_)
                      have hR236 : rgM σ233 := by rw [q235]; exact mLev_rg hR215 (by omega) (by omega) (by omega) (by omega) (by omega) (by omega) (by omega)
                      have hM237 : RR κ217 σ233 := by rw [q235]; exact RR_lev hM218
                      refine zg_iconst C dX5_findsPath_208 ?_
                      refine zg_zret (b := true) C hP hS dX5_findsPath_209 ?_
                      have h9 := fp_hit (x := x) (c := cn) (r := x.toNat) (Int.toNat_of_nonneg x0) cn0 bT.1 hE hto bp.1 bp.2 b0 b1 k0 (by omega) (by omega) hmh h25 h26 h27 hd5 hD (by rw [← hκ5]; exact hM5)
                      exact ⟨congrArg (fun b => jI (bI b)) h9.1, hR236, by rw [q235]; exact h9.2⟩
                    · refine zg_iload C dX5_findsPath_190 (lv_at hl 3 rfl) ?_
                      refine zg_iload C dX5_findsPath_192 (lv_at hl 0 rfl) ?_
                      refine zg_iadd C dX5_findsPath_194 ?_
                      refine zg_goto (tgt := 203) C dX5_findsPath_195 (by decide) ?_
                      refine zg_iload_n C dX5_findsPath_203 rfl (lv_at hl 6 rfl) ?_
                      refine zg_iload_n C dX5_findsPath_204 rfl (lv_at hl 7 rfl) ?_
                      have hD : kLastD k (kDigit (kLevel κ pn k)) (kHigh κ bd k) (kCoin κ x.toNat) = (0 + (1 + (((κ217 (20 + 6 * x.toNat) 3) % 4294967296 / 2 ^ 16) % ((4096 - 0) - 1)))) := by rw [lastD_is hs, hL, hH]; first | (rw [if_pos (by omega), if_pos (by omega)]; done) | (rw [if_pos (by omega), if_neg (by omega)]; done) | (rw [if_neg (by omega), if_pos (by omega)]; done) | (rw [if_neg (by omega), if_neg (by omega)]; done)
                      have hDr := kLastD_rg (k := k) (lo := kDigit (kLevel κ pn k)) (hi := kHigh κ bd k) (co := kCoin κ x.toNat) (by omega) (by omega) (by omega) (kCoin_rg κ x.toNat).1
                      have hd5 : σ213 0 32 = k - 1 := by rw [e214, zu_ne (by decide)]; exact hd
                      have h25 : σ213 25 = τ 25 := by rw [e214, zu_ne (by decide)]
                      have h26 : σ213 26 = τ 26 := by rw [e214, zu_ne (by decide)]
                      have h27 : σ213 27 = τ 27 := by rw [e214, zu_ne (by decide)]
                      have hM5 := hM218
                      refine zg_callVv C X hP hS (kX5_level l σ213 hR215 (0 + (1 + (((κ217 (20 + 6 * x.toNat) 3) % 4294967296 / 2 ^ 16) % ((4096 - 0) - 1)))) x cn (by omega) (by omega) (by omega) (by omega) (by omega) (by omega) (by omega)) (cwV 3 C.ts (zgV mlX5_121 imX5_level slX5_level iniX5 cdX5_level) rfl rfl rfl (by decide +kernel) ⟨Nat.le_of_ble_eq_true rfl, Nat.le_of_ble_eq_true rfl⟩) (by decide) lyM_0 rfl rfl rfl hl.1 rfl (Nat.le_of_ble_eq_true rfl) dX5_findsPath_205 ⟨Nat.zero_le _, Nat.zero_le _⟩ (fun σ238 H locs q240 hP hS => ?_)
                      have hR241 : rgM σ238 := by rw [q240]; exact mLev_rg hR215 (by omega) (by omega) (by omega) (by omega) (by omega) (by omega) (by omega)
                      have hM242 : RR κ217 σ238 := by rw [q240]; exact RR_lev hM218
                      refine zg_iconst C dX5_findsPath_208 ?_
                      refine zg_zret (b := true) C hP hS dX5_findsPath_209 ?_
                      have h9 := fp_hit (x := x) (c := cn) (r := x.toNat) (Int.toNat_of_nonneg x0) cn0 bT.1 hE hto bp.1 bp.2 b0 b1 k0 (by omega) (by omega) hmh h25 h26 h27 hd5 hD (by rw [← hκ5]; exact hM5)
                      exact ⟨congrArg (fun b => jI (bI b)) h9.1, hR241, by rw [q240]; exact h9.2⟩
            · refine zg_aload_n C dX5_findsPath_73 rfl (lv_at hl 2 rfl) ?_
              refine zg_get (j := 12) C X hP (by decide) lyM_0 rfl (zmem uwX5) (by decide) (C.tb flX5_45) (fun _ h9 => h9) rfl dX5_findsPath_74 ?_
              refine zg_bipush C dX5_findsPath_77 (by decide) ?_
              refine zg_iload C dX5_findsPath_79 (lv_at hl 6 rfl) ?_
              refine zg_imul C dX5_findsPath_81 ?_
              refine zg_iload C dX5_findsPath_82 (lv_at hl 7 rfl) ?_
              refine zg_iadd C dX5_findsPath_84 ?_
              refine zg_iconst C dX5_findsPath_85 ?_
              refine zg_isub C dX5_findsPath_86 ?_
              refine zg_iald (t0 := 0) C X hP (by decide) lyM_11 rfl (by decide) (by omega) (by omega) dX5_findsPath_87 ?_
              have b_243 := rgM_11 hτ ((((12 * bd) + k) - 1).toNat)
              refine zg_goto (tgt := 110) C dX5_findsPath_88 (by decide) ?_
              refine zg_istore (lv' := [(9, .int (jI (τ 11 (((12 * bd) + k) - 1).toNat))), (8, .int (jI 0)), (7, .int (jI 0)), (0, .ref (a 0)), (1, .int (jI x)), (2, .int (jI cn)), (3, .int (jI pn)), (5, .int (jI bd)), (6, .int (jI k))]) C dX5_findsPath_110 hl (by decide) rfl (fun ls hl => ?_)
              have hH : kHigh κ bd k = (τ 11 (((12 * bd) + k) - 1).toNat) := by first | exact (kHigh_b (by assumption)).trans (rr_lev3 hM2 hτ (by omega) (by omega) (by omega) (by omega)).1 | exact (kHigh_8 (by assumption) k0 (by omega)).trans (if_pos (by omega)) | exact (kHigh_8 (by assumption) k0 (by omega)).trans (if_neg (by omega))
              have hH16 : bd = -1 → 16 ≤ kHigh κ bd k := fun e => kHigh_16 e k0 (by omega)
              have hHr := kHigh_rg hG.1 (b := bd) (k := k) k0 (by omega)
              have hLr := kDigit_rg (kLevel_rg hG.1 pn k).1 (kLevel_rg hG.1 pn k).2
              refine zg_iload C dX5_findsPath_112 (lv_at hl 0 rfl) ?_
              refine zg_iload C dX5_findsPath_114 (lv_at hl 1 rfl) ?_
              refine zg_isub C dX5_findsPath_116 ?_
              refine zg_iconst C dX5_findsPath_117 ?_
              refine zg_icmp_le (tgt := 210) C (by omega) (by omega) (by omega) (by omega) dX5_findsPath_118 (by decide) (fun c_244 => ?_) (fun c_244 => ?_)
              · refine zg_iload C dX5_findsPath_210 (lv_at hl 2 rfl) ?_
                refine zg_if_eq (tgt := 280) C (by omega) (by omega) dX5_findsPath_212 (by decide) (fun c_245 => ?_) (fun c_245 => ?_)
                · refine zg_bipush C dX5_findsPath_280 (by decide) ?_
                  refine zg_iload C dX5_findsPath_282 (lv_at hl 7 rfl) ?_
                  refine zg_imul C dX5_findsPath_284 ?_
                  refine zg_iload C dX5_findsPath_285 (lv_at hl 8 rfl) ?_
                  refine zg_iadd C dX5_findsPath_287 ?_
                  refine zg_iconst C dX5_findsPath_288 ?_
                  refine zg_isub C dX5_findsPath_289 ?_
                  refine zg_istore (lv' := [(10, .int (jI (((12 * bd) + k) - 1))), (9, .int (jI (τ 11 (((12 * bd) + k) - 1).toNat))), (8, .int (jI 0)), (7, .int (jI 0)), (0, .ref (a 0)), (1, .int (jI x)), (2, .int (jI cn)), (3, .int (jI pn)), (5, .int (jI bd)), (6, .int (jI k))]) C dX5_findsPath_290 hl (by decide) rfl (fun ls hl => ?_)
                  refine zg_aload_n C dX5_findsPath_292 rfl (lv_at hl 4 rfl) ?_
                  refine zg_get (j := 12) C X hP (by decide) lyM_0 rfl (zmem uwX5) (by decide) (C.tb flX5_45) (fun _ h9 => h9) rfl dX5_findsPath_293 ?_
                  refine zg_iload C dX5_findsPath_296 (lv_at hl 0 rfl) ?_
                  refine zg_iald (t0 := 0) C X hP (by decide) lyM_11 rfl (by decide) (by omega) (by omega) dX5_findsPath_298 ?_
                  have b_246 := rgM_11 hτ ((((12 * bd) + k) - 1).toNat)
                  refine zg_if_ne (tgt := 324) C (by omega) (by omega) dX5_findsPath_299 (by decide) (fun c_247 => ?_) (fun c_247 => ?_)
                  · refine zg_aload_n C dX5_findsPath_324 rfl (lv_at hl 4 rfl) ?_
                    refine zg_iconst C dX5_findsPath_325 ?_
                    refine zg_iload_n C dX5_findsPath_326 rfl (lv_at hl 5 rfl) ?_
                    refine zg_iload_n C dX5_findsPath_327 rfl (lv_at hl 6 rfl) ?_
                    refine zg_callVv C X hP hS (kX5_level l τ hτ 0 x cn (by omega) (by omega) (by omega) (by omega) (by omega) (by omega) (by omega)) (cwV 3 C.ts (zgV mlX5_121 imX5_level slX5_level iniX5 cdX5_level) rfl rfl rfl (by decide +kernel) ⟨Nat.le_of_ble_eq_true rfl, Nat.le_of_ble_eq_true rfl⟩) (by decide) lyM_0 rfl rfl rfl hl.1 rfl (Nat.le_of_ble_eq_true rfl) dX5_findsPath_328 ⟨Nat.zero_le _, Nat.zero_le _⟩ (fun σ248 H locs q250 hP hS => ?_)
                    have hR251 : rgM σ248 := by rw [q250]; exact mLev_rg hτ (by omega) (by omega) (by omega) (by omega) (by omega) (by omega) (by omega)
                    have hM252 : RR κ σ248 := by rw [q250]; exact RR_lev hM2
                    have hl2 : mHas σ248 (zu ρ 12 (κ 1 10 * 12 + k - 1).toNat (kMake 0 x.toNat (κ (21 + 6 * x.toNat) x.toNat + 1))) (κ 1 10) (k + 1) := by rw [q250]; exact mHas_lev bT.1 k0 hmh rfl rfl rfl hd (by rw [cn0, Int.toNat_of_nonneg x0])
                    have hd2 : σ248 0 32 = k + 1 - 1 := by rw [q250, mLev_32]; omega
                    have hdy : kDigit (kLevel κ bd k) ≠ 0 := fun h8 => absurd ((rr_lev3 hM2 hτ (by omega) (by omega) (by omega) (by omega)).1.symm.trans h8) (by assumption)
                    have hst := kFind_st (r := x.toNat) (b' := -1) bT.1 hto bp.1 bp.2 b0 b1 k0 (by omega) (by omega) (N := kMake 0 x.toNat (κ (21 + 6 * x.toNat) x.toNat + 1)) (inner_n (low_0 (by omega)).2 hdy) (by rw [if_neg (fun h8 => hdy (by rw [h8]; exact (kUn_make (by omega) (by omega) (by omega) (by omega) (by omega)).1))])
                    refine zg_iconst C dX5_findsPath_331 ?_
                    refine zg_istore (lv' := [(5, .int (jI (-1))), (10, .int (jI (((12 * bd) + k) - 1))), (9, .int (jI (τ 11 (((12 * bd) + k) - 1).toNat))), (8, .int (jI 0)), (7, .int (jI 0)), (0, .ref (a 0)), (1, .int (jI x)), (2, .int (jI cn)), (3, .int (jI pn)), (6, .int (jI k))]) C dX5_findsPath_332 hl (by decide) rfl (fun ls hl => ?_)
                    refine zg_iinc (k := 9) (lv' := [(6, .int (jI (k + 1))), (5, .int (jI (-1))), (10, .int (jI (((12 * bd) + k) - 1))), (9, .int (jI (τ 11 (((12 * bd) + k) - 1).toNat))), (8, .int (jI 0)), (7, .int (jI 0)), (0, .ref (a 0)), (1, .int (jI x)), (2, .int (jI cn)), (3, .int (jI pn))]) C dX5_findsPath_334 hl rfl (by decide) rfl (fun ls hl => ?_)
                    refine zg_goto (tgt := 12) C dX5_findsPath_337 (by decide) ?_
                    exact ih (-1) (k + 1) σ248 _ _ _ _ (by omega) hR251 hM252 (by omega) (by omega) (by omega) (by omega) hd2 (hE.trans hst.1) hst.2 hl2 hP hS (lv_sub hl [6, 7, 8, 9, 1, 0] rfl)
                  · refine zg_aload_n C dX5_findsPath_302 rfl (lv_at hl 4 rfl) ?_
                    refine zg_iconst C dX5_findsPath_303 ?_
                    refine zg_aload_n C dX5_findsPath_304 rfl (lv_at hl 4 rfl) ?_
                    refine zg_get (j := 13) C X hP (by decide) lyM_0 rfl (zmem uwX5) (by decide) (C.tb flX5_48) (fun _ h9 => h9) rfl dX5_findsPath_305 ?_
                    refine zg_iload C dX5_findsPath_308 (lv_at hl 0 rfl) ?_
                    refine zg_iald (t0 := 0) C X hP (by decide) lyM_12 rfl (by decide) (by omega) (by omega) dX5_findsPath_310 ?_
                    have b_253 := rgM_12 hτ ((((12 * bd) + k) - 1).toNat)
                    refine zg_aload_n C dX5_findsPath_311 rfl (lv_at hl 4 rfl) ?_
                    refine zg_get (j := 14) C X hP (by decide) lyM_0 rfl (zmem uwX5) (by decide) (C.tb flX5_51) (fun _ h9 => h9) rfl dX5_findsPath_312 ?_
                    refine zg_iload C dX5_findsPath_315 (lv_at hl 0 rfl) ?_
                    refine zg_iald (t0 := 0) C X hP (by decide) lyM_13 rfl (by decide) (by omega) (by omega) dX5_findsPath_317 ?_
                    have b_254 := rgM_13 hτ ((((12 * bd) + k) - 1).toNat)
                    refine zg_callVv C X hP hS (kX5_level l τ hτ 0 (τ 12 (((12 * bd) + k) - 1).toNat) (τ 13 (((12 * bd) + k) - 1).toNat) (by omega) (by omega) (by omega) (by omega) (by omega) (by omega) (by omega)) (cwV 3 C.ts (zgV mlX5_121 imX5_level slX5_level iniX5 cdX5_level) rfl rfl rfl (by decide +kernel) ⟨Nat.le_of_ble_eq_true rfl, Nat.le_of_ble_eq_true rfl⟩) (by decide) lyM_0 rfl rfl rfl hl.1 rfl (Nat.le_of_ble_eq_true rfl) dX5_findsPath_318 ⟨Nat.zero_le _, Nat.zero_le _⟩ (fun σ255 H locs q257 hP hS => ?_)
                    have hR258 : rgM σ255 := by rw [q257]; exact mLev_rg hτ (by omega) (by omega) (by omega) (by omega) (by omega) (by omega) (by omega)
                    have hM259 : RR κ σ255 := by rw [q257]; exact RR_lev hM2
                    have hl2 : mHas σ255 (zu ρ 12 (κ 1 10 * 12 + k - 1).toNat (kLevel κ bd k)) (κ 1 10) (k + 1) := by rw [q257]; exact mHas_lev bT.1 k0 hmh rfl rfl rfl hd (by rw [rr_lev hM2 (d := bd) (k := k) (by omega) (by omega) (by omega) (by omega)]; congr 1; exact Eq.symm (by assumption))
                    have hd2 : σ255 0 32 = k + 1 - 1 := by rw [q257, mLev_32]; omega
                    have hst := kFind_st (r := x.toNat) (b' := bd) bT.1 hto bp.1 bp.2 b0 b1 k0 (by omega) (by omega) (N := kLevel κ bd k) (inner_0 (low_0 (by omega)).2 ((rr_lev3 hM2 hτ (by omega) (by omega) (by omega) (by omega)).1.trans (by assumption))) (by rw [if_pos rfl])
                    refine zg_goto (tgt := 334) C dX5_findsPath_321 (by decide) ?_
                    refine zg_iinc (k := 9) (lv' := [(6, .int (jI (k + 1))), (10, .int (jI (((12 * bd) + k) - 1))), (9, .int (jI (τ 11 (((12 * bd) + k) - 1).toNat))), (8, .int (jI 0)), (7, .int (jI 0)), (0, .ref (a 0)), (1, .int (jI x)), (2, .int (jI cn)), (3, .int (jI pn)), (5, .int (jI bd))]) C dX5_findsPath_334 hl rfl (by decide) rfl (fun ls hl => ?_)
                    refine zg_goto (tgt := 12) C dX5_findsPath_337 (by decide) ?_
                    exact ih bd (k + 1) σ255 _ _ _ _ (by omega) hR258 hM259 (by omega) (by omega) (by omega) (by omega) hd2 (hE.trans hst.1) hst.2 hl2 hP hS (lv_sub hl [5, 6, 7, 8, 9, 0] rfl)
                · exact absurd c_245 (by decide)
              · refine zg_aload_n C dX5_findsPath_121 rfl (lv_at hl 3 rfl) ?_
                refine zg_get (j := 23) C X hP (by decide) lyM_0 rfl (zmem uwX5) (by decide) (C.tb flX5_75) (fun _ h9 => h9) rfl dX5_findsPath_122 ?_
                refine zg_iload_n C dX5_findsPath_125 rfl (lv_at hl 4 rfl) ?_
                refine zg_aload_n C dX5_findsPath_126 rfl (lv_at hl 3 rfl) ?_
                refine zg_get (j := 23) C X hP (by decide) lyM_0 rfl (zmem uwX5) (by decide) (C.tb flX5_75) (fun _ h9 => h9) rfl dX5_findsPath_127 ?_
                refine zg_iload_n C dX5_findsPath_130 rfl (lv_at hl 4 rfl) ?_
                refine zg_iald (t0 := 0) C X hP (by decide) lyM_21 rfl (by decide) (by omega) (by omega) dX5_findsPath_131 ?_
                rw [rr_21 hM2 (x := x) (by omega) (by omega)]
                refine zg_ldc (v := 1664525) C (C.tb knX5_119) rfl dX5_findsPath_132 ?_
                refine zg_imul C dX5_findsPath_134 ?_
                refine zg_ldc (v := 1013904223) C (C.tb knX5_120) rfl dX5_findsPath_135 ?_
                refine zg_iadd C dX5_findsPath_137 ?_
                refine zg_iast (t0 := 0) C X hP hS (by decide) (fun x => lyM_21) rfl (by decide) (by omega) (by omega) dX5_findsPath_138 (fun H locs hP hS => ?_)
                obtain ⟨σ260, e261⟩ : ∃ z_ : Zt, z_ = zu τ 21 (x).toNat (((κ (20 + 6 * x.toNat) 3) * 1664525) + 1013904223) := ⟨_, rfl⟩
                rw [← e261] at hP
                have w_263 : σ260 21 (x).toNat = ((κ (20 + 6 * x.toNat) 3) * 1664525) + 1013904223 := by rw [e261]; exact zu_same _ _ _ _
                have hR262 : rgM σ260 := by rw [e261]; exact rzM_21 hτ
                obtain ⟨κ264, eκ264⟩ : ∃ z_ : Zt, z_ = kCoinS κ x.toNat := ⟨_, rfl⟩
                have hM265 : RR κ264 σ260 := by rw [eκ264, e261]; exact RR_21 hM2 (by omega)
                have hG266 : kMid κ264 := by rw [eκ264]; exact kMid_str hG (by omega)
                have hs : κ264 (20 + 6 * x.toNat) 3 = κ (20 + 6 * x.toNat) 3 * 1664525 + 1013904223 := by rw [eκ264]; unfold kCoinS; rw [zu_same]
                have hκ5 := eκ264
                refine zg_aload_n C dX5_findsPath_139 rfl (lv_at hl 3 rfl) ?_
                refine zg_get (j := 23) C X hP (by decide) lyM_0 rfl (zmem uwX5) (by decide) (C.tb flX5_75) (fun _ h9 => h9) rfl dX5_findsPath_140 ?_
                refine zg_iload_n C dX5_findsPath_143 rfl (lv_at hl 4 rfl) ?_
                refine zg_iald (t0 := 0) C X hP (by decide) lyM_21 rfl (by decide) (by omega) (by omega) dX5_findsPath_144 ?_
                rw [rr_21 hM265 (x := x) (by omega) (by omega)]
                refine zg_bipush C dX5_findsPath_145 (by decide) ?_
                refine zg_iushr C 16 (by decide) dX5_findsPath_147 ?_
                refine zg_istore (lv' := [(10, .int (jI ((κ264 (20 + 6 * x.toNat) 3) % 4294967296 / 2 ^ 16))), (9, .int (jI (τ 11 (((12 * bd) + k) - 1).toNat))), (8, .int (jI 0)), (7, .int (jI 0)), (0, .ref (a 0)), (1, .int (jI x)), (2, .int (jI cn)), (3, .int (jI pn)), (5, .int (jI bd)), (6, .int (jI k))]) C dX5_findsPath_148 hl (by decide) rfl (fun ls hl => ?_)
                refine zg_iconst C dX5_findsPath_150 ?_
                refine zg_iload C dX5_findsPath_151 (lv_at hl 0 rfl) ?_
                refine zg_iload C dX5_findsPath_153 (lv_at hl 1 rfl) ?_
                refine zg_iload C dX5_findsPath_155 (lv_at hl 2 rfl) ?_
                refine zg_isub C dX5_findsPath_157 ?_
                refine zg_iconst C dX5_findsPath_158 ?_
                refine zg_isub C dX5_findsPath_159 ?_
                refine zg_bipush C dX5_findsPath_160 (by decide) ?_
                refine zg_icmp_ge (tgt := 175) C (by omega) (by omega) (by omega) (by omega) dX5_findsPath_162 (by decide) (fun c_267 => ?_) (fun c_267 => ?_)
                · refine zg_bipush C dX5_findsPath_175 (by decide) ?_
                  refine zg_irem C (by omega) (by omega) (by omega) (by omega) dX5_findsPath_177 ?_
                  refine zg_iadd C dX5_findsPath_178 ?_
                  refine zg_istore (lv' := [(11, .int (jI (1 + (((κ264 (20 + 6 * x.toNat) 3) % 4294967296 / 2 ^ 16) % 10)))), (10, .int (jI ((κ264 (20 + 6 * x.toNat) 3) % 4294967296 / 2 ^ 16))), (9, .int (jI (τ 11 (((12 * bd) + k) - 1).toNat))), (8, .int (jI 0)), (7, .int (jI 0)), (0, .ref (a 0)), (1, .int (jI x)), (2, .int (jI cn)), (3, .int (jI pn)), (5, .int (jI bd)), (6, .int (jI k))]) C dX5_findsPath_179 hl (by decide) rfl (fun ls hl => ?_)
                  refine zg_aload_n C dX5_findsPath_181 rfl (lv_at hl 5 rfl) ?_
                  refine zg_iload C dX5_findsPath_182 (lv_at hl 10 rfl) ?_
                  refine zg_iconst C dX5_findsPath_184 ?_
                  refine zg_irem C (by omega) (by omega) (by omega) (by omega) dX5_findsPath_185 ?_
                  refine zg_iconst C dX5_findsPath_186 ?_
                  refine zg_icmp_ne (tgt := 198) C (by omega) (by omega) (by omega) (by omega) dX5_findsPath_187 (by decide) (fun c_268 => ?_) (fun c_268 => ?_)
                  · refine zg_iload C dX5_findsPath_198 (lv_at hl 2 rfl) ?_
                    refine zg_iload C dX5_findsPath_200 (lv_at hl 0 rfl) ?_
                    refine zg_isub C dX5_findsPath_202 ?_
                    refine zg_iload_n C dX5_findsPath_203 rfl (lv_at hl 6 rfl) ?_
                    refine zg_iload_n C dX5_findsPath_204 rfl (lv_at hl 7 rfl) ?_
                    have hD : kLastD k (kDigit (kLevel κ pn k)) (kHigh κ bd k) (kCoin κ x.toNat) = ((τ 11 (((12 * bd) + k) - 1).toNat) - (1 + (((κ264 (20 + 6 * x.toNat) 3) % 4294967296 / 2 ^ 16) % 10))) := by rw [lastD_is hs, hL, hH]; first | (rw [if_pos (by omega), if_pos (by omega)]; done) | (rw [if_pos (by omega), if_neg (by omega)]; done) | (rw [if_neg (by omega), if_pos (by omega)]; done) | (rw [if_neg (by omega), if_neg (by omega)]; done)
                    have hDr := kLastD_rg (k := k) (lo := kDigit (kLevel κ pn k)) (hi := kHigh κ bd k) (co := kCoin κ x.toNat) (by omega) (by omega) (by omega) (kCoin_rg κ x.toNat).1
                    have hd5 : σ260 0 32 = k - 1 := by rw [e261, zu_ne (by decide)]; exact hd
                    have h25 : σ260 25 = τ 25 := by rw [e261, zu_ne (by decide)]
                    have h26 : σ260 26 = τ 26 := by rw [e261, zu_ne (by decide)]
                    have h27 : σ260 27 = τ 27 := by rw [e261, zu_ne (by decide)]
                    have hM5 := hM265
                    refine zg_callVv C X hP hS (kX5_level l σ260 hR262 ((τ 11 (((12 * bd) + k) - 1).toNat) - (1 + (((κ264 (20 + 6 * x.toNat) 3) % 4294967296 / 2 ^ 16) % 10))) x cn (by omega) (by omega) (by omega) (by omega) (by omega) (by omega) (by omega)) (cwV 3 C.ts (zgV mlX5_121 imX5_level slX5_level iniX5 cdX5_level) rfl rfl rfl (by decide +kernel) ⟨Nat.le_of_ble_eq_true rfl, Nat.le_of_ble_eq_true rfl⟩) (by decide) lyM_0 rfl rfl rfl hl.1 rfl (Nat.le_of_ble_eq_true rfl) dX5_findsPath_205 ⟨Nat.zero_le _, Nat.zero_le _⟩ (fun σ269 H locs q271 hP hS => ?_)
                    have hR272 : rgM σ269 := by rw [q271]; exact mLev_rg hR262 (by omega) (by omega) (by omega) (by omega) (by omega) (by omega) (by omega)
                    have hM273 : RR κ264 σ269 := by rw [q271]; exact RR_lev hM265
                    refine zg_iconst C dX5_findsPath_208 ?_
                    refine zg_zret (b := true) C hP hS dX5_findsPath_209 ?_
                    have h9 := fp_hit (x := x) (c := cn) (r := x.toNat) (Int.toNat_of_nonneg x0) cn0 bT.1 hE hto bp.1 bp.2 b0 b1 k0 (by omega) (by omega) hmh h25 h26 h27 hd5 hD (by rw [← hκ5]; exact hM5)
                    exact ⟨congrArg (fun b => jI (bI b)) h9.1, hR272, by rw [q271]; exact h9.2⟩
                  · refine zg_iload C dX5_findsPath_190 (lv_at hl 3 rfl) ?_
                    refine zg_iload C dX5_findsPath_192 (lv_at hl 0 rfl) ?_
                    refine zg_iadd C dX5_findsPath_194 ?_
                    refine zg_goto (tgt := 203) C dX5_findsPath_195 (by decide) ?_
                    refine zg_iload_n C dX5_findsPath_203 rfl (lv_at hl 6 rfl) ?_
                    refine zg_iload_n C dX5_findsPath_204 rfl (lv_at hl 7 rfl) ?_
                    have hD : kLastD k (kDigit (kLevel κ pn k)) (kHigh κ bd k) (kCoin κ x.toNat) = (0 + (1 + (((κ264 (20 + 6 * x.toNat) 3) % 4294967296 / 2 ^ 16) % 10))) := by rw [lastD_is hs, hL, hH]; first | (rw [if_pos (by omega), if_pos (by omega)]; done) | (rw [if_pos (by omega), if_neg (by omega)]; done) | (rw [if_neg (by omega), if_pos (by omega)]; done) | (rw [if_neg (by omega), if_neg (by omega)]; done)
                    have hDr := kLastD_rg (k := k) (lo := kDigit (kLevel κ pn k)) (hi := kHigh κ bd k) (co := kCoin κ x.toNat) (by omega) (by omega) (by omega) (kCoin_rg κ x.toNat).1
                    have hd5 : σ260 0 32 = k - 1 := by rw [e261, zu_ne (by decide)]; exact hd
                    have h25 : σ260 25 = τ 25 := by rw [e261, zu_ne (by decide)]
                    have h26 : σ260 26 = τ 26 := by rw [e261, zu_ne (by decide)]
                    have h27 : σ260 27 = τ 27 := by rw [e261, zu_ne (by decide)]
                    have hM5 := hM265
                    refine zg_callVv C X hP hS (kX5_level l σ260 hR262 (0 + (1 + (((κ264 (20 + 6 * x.toNat) 3) % 4294967296 / 2 ^ 16) % 10))) x cn (by omega) (by omega) (by omega) (by omega) (by omega) (by omega) (by omega)) (cwV 3 C.ts (zgV mlX5_121 imX5_level slX5_level iniX5 cdX5_level) rfl rfl rfl (by decide +kernel) ⟨Nat.le_of_ble_eq_true rfl, Nat.le_of_ble_eq_true rfl⟩) (by decide) lyM_0 rfl rfl rfl hl.1 rfl (Nat.le_of_ble_eq_true rfl) dX5_findsPath_205 ⟨Nat.zero_le _, Nat.zero_le _⟩ (fun σ274 H locs q276 hP hS => ?_)
                    have hR277 : rgM σ274 := by rw [q276]; exact mLev_rg hR262 (by omega) (by omega) (by omega) (by omega) (by omega) (by omega) (by omega)
                    have hM278 : RR κ264 σ274 := by rw [q276]; exact RR_lev hM265
                    refine zg_iconst C dX5_findsPath_208 ?_
                    refine zg_zret (b := true) C hP hS dX5_findsPath_209 ?_
                    have h9 := fp_hit (x := x) (c := cn) (r := x.toNat) (Int.toNat_of_nonneg x0) cn0 bT.1 hE hto bp.1 bp.2 b0 b1 k0 (by omega) (by omega) hmh h25 h26 h27 hd5 hD (by rw [← hκ5]; exact hM5)
                    exact ⟨congrArg (fun b => jI (bI b)) h9.1, hR277, by rw [q276]; exact h9.2⟩
                · refine zg_iload C dX5_findsPath_165 (lv_at hl 1 rfl) ?_
                  refine zg_iload C dX5_findsPath_167 (lv_at hl 2 rfl) ?_
                  refine zg_isub C dX5_findsPath_169 ?_
                  refine zg_iconst C dX5_findsPath_170 ?_
                  refine zg_isub C dX5_findsPath_171 ?_
                  refine zg_goto (tgt := 177) C dX5_findsPath_172 (by decide) ?_
                  refine zg_irem C (by omega) (by omega) (by omega) (by omega) dX5_findsPath_177 ?_
                  refine zg_iadd C dX5_findsPath_178 ?_
                  refine zg_istore (lv' := [(11, .int (jI (1 + (((κ264 (20 + 6 * x.toNat) 3) % 4294967296 / 2 ^ 16) % (((τ 11 (((12 * bd) + k) - 1).toNat) - 0) - 1))))), (10, .int (jI ((κ264 (20 + 6 * x.toNat) 3) % 4294967296 / 2 ^ 16))), (9, .int (jI (τ 11 (((12 * bd) + k) - 1).toNat))), (8, .int (jI 0)), (7, .int (jI 0)), (0, .ref (a 0)), (1, .int (jI x)), (2, .int (jI cn)), (3, .int (jI pn)), (5, .int (jI bd)), (6, .int (jI k))]) C dX5_findsPath_179 hl (by decide) rfl (fun ls hl => ?_)
                  refine zg_aload_n C dX5_findsPath_181 rfl (lv_at hl 5 rfl) ?_
                  refine zg_iload C dX5_findsPath_182 (lv_at hl 10 rfl) ?_
                  refine zg_iconst C dX5_findsPath_184 ?_
                  refine zg_irem C (by omega) (by omega) (by omega) (by omega) dX5_findsPath_185 ?_
                  refine zg_iconst C dX5_findsPath_186 ?_
                  refine zg_icmp_ne (tgt := 198) C (by omega) (by omega) (by omega) (by omega) dX5_findsPath_187 (by decide) (fun c_279 => ?_) (fun c_279 => ?_)
                  · refine zg_iload C dX5_findsPath_198 (lv_at hl 2 rfl) ?_
                    refine zg_iload C dX5_findsPath_200 (lv_at hl 0 rfl) ?_
                    refine zg_isub C dX5_findsPath_202 ?_
                    refine zg_iload_n C dX5_findsPath_203 rfl (lv_at hl 6 rfl) ?_
                    refine zg_iload_n C dX5_findsPath_204 rfl (lv_at hl 7 rfl) ?_
                    have hD : kLastD k (kDigit (kLevel κ pn k)) (kHigh κ bd k) (kCoin κ x.toNat) = ((τ 11 (((12 * bd) + k) - 1).toNat) - (1 + (((κ264 (20 + 6 * x.toNat) 3) % 4294967296 / 2 ^ 16) % (((τ 11 (((12 * bd) + k) - 1).toNat) - 0) - 1)))) := by rw [lastD_is hs, hL, hH]; first | (rw [if_pos (by omega), if_pos (by omega)]; done) | (rw [if_pos (by omega), if_neg (by omega)]; done) | (rw [if_neg (by omega), if_pos (by omega)]; done) | (rw [if_neg (by omega), if_neg (by omega)]; done)
                    have hDr := kLastD_rg (k := k) (lo := kDigit (kLevel κ pn k)) (hi := kHigh κ bd k) (co := kCoin κ x.toNat) (by omega) (by omega) (by omega) (kCoin_rg κ x.toNat).1
                    have hd5 : σ260 0 32 = k - 1 := by rw [e261, zu_ne (by decide)]; exact hd
                    have h25 : σ260 25 = τ 25 := by rw [e261, zu_ne (by decide)]
                    have h26 : σ260 26 = τ 26 := by rw [e261, zu_ne (by decide)]
                    have h27 : σ260 27 = τ 27 := by rw [e261, zu_ne (by decide)]
                    have hM5 := hM265
                    refine zg_callVv C X hP hS (kX5_level l σ260 hR262 ((τ 11 (((12 * bd) + k) - 1).toNat) - (1 + (((κ264 (20 + 6 * x.toNat) 3) % 4294967296 / 2 ^ 16) % (((τ 11 (((12 * bd) + k) - 1).toNat) - 0) - 1)))) x cn (by omega) (by omega) (by omega) (by omega) (by omega) (by omega) (by omega)) (cwV 3 C.ts (zgV mlX5_121 imX5_level slX5_level iniX5 cdX5_level) rfl rfl rfl (by decide +kernel) ⟨Nat.le_of_ble_eq_true rfl, Nat.le_of_ble_eq_true rfl⟩) (by decide) lyM_0 rfl rfl rfl hl.1 rfl (Nat.le_of_ble_eq_true rfl) dX5_findsPath_205 ⟨Nat.zero_le _, Nat.zero_le _⟩ (fun σ280 H locs q282 hP hS => ?_)
                    have hR283 : rgM σ280 := by rw [q282]; exact mLev_rg hR262 (by omega) (by omega) (by omega) (by omega) (by omega) (by omega) (by omega)
                    have hM284 : RR κ264 σ280 := by rw [q282]; exact RR_lev hM265
                    refine zg_iconst C dX5_findsPath_208 ?_
                    refine zg_zret (b := true) C hP hS dX5_findsPath_209 ?_
                    have h9 := fp_hit (x := x) (c := cn) (r := x.toNat) (Int.toNat_of_nonneg x0) cn0 bT.1 hE hto bp.1 bp.2 b0 b1 k0 (by omega) (by omega) hmh h25 h26 h27 hd5 hD (by rw [← hκ5]; exact hM5)
                    exact ⟨congrArg (fun b => jI (bI b)) h9.1, hR283, by rw [q282]; exact h9.2⟩
                  · refine zg_iload C dX5_findsPath_190 (lv_at hl 3 rfl) ?_
                    refine zg_iload C dX5_findsPath_192 (lv_at hl 0 rfl) ?_
                    refine zg_iadd C dX5_findsPath_194 ?_
                    refine zg_goto (tgt := 203) C dX5_findsPath_195 (by decide) ?_
                    refine zg_iload_n C dX5_findsPath_203 rfl (lv_at hl 6 rfl) ?_
                    refine zg_iload_n C dX5_findsPath_204 rfl (lv_at hl 7 rfl) ?_
                    have hD : kLastD k (kDigit (kLevel κ pn k)) (kHigh κ bd k) (kCoin κ x.toNat) = (0 + (1 + (((κ264 (20 + 6 * x.toNat) 3) % 4294967296 / 2 ^ 16) % (((τ 11 (((12 * bd) + k) - 1).toNat) - 0) - 1)))) := by rw [lastD_is hs, hL, hH]; first | (rw [if_pos (by omega), if_pos (by omega)]; done) | (rw [if_pos (by omega), if_neg (by omega)]; done) | (rw [if_neg (by omega), if_pos (by omega)]; done) | (rw [if_neg (by omega), if_neg (by omega)]; done)
                    have hDr := kLastD_rg (k := k) (lo := kDigit (kLevel κ pn k)) (hi := kHigh κ bd k) (co := kCoin κ x.toNat) (by omega) (by omega) (by omega) (kCoin_rg κ x.toNat).1
                    have hd5 : σ260 0 32 = k - 1 := by rw [e261, zu_ne (by decide)]; exact hd
                    have h25 : σ260 25 = τ 25 := by rw [e261, zu_ne (by decide)]
                    have h26 : σ260 26 = τ 26 := by rw [e261, zu_ne (by decide)]
                    have h27 : σ260 27 = τ 27 := by rw [e261, zu_ne (by decide)]
                    have hM5 := hM265
                    refine zg_callVv C X hP hS (kX5_level l σ260 hR262 (0 + (1 + (((κ264 (20 + 6 * x.toNat) 3) % 4294967296 / 2 ^ 16) % (((τ 11 (((12 * bd) + k) - 1).toNat) - 0) - 1)))) x cn (by omega) (by omega) (by omega) (by omega) (by omega) (by omega) (by omega)) (cwV 3 C.ts (zgV mlX5_121 imX5_level slX5_level iniX5 cdX5_level) rfl rfl rfl (by decide +kernel) ⟨Nat.le_of_ble_eq_true rfl, Nat.le_of_ble_eq_true rfl⟩) (by decide) lyM_0 rfl rfl rfl hl.1 rfl (Nat.le_of_ble_eq_true rfl) dX5_findsPath_205 ⟨Nat.zero_le _, Nat.zero_le _⟩ (fun σ285 H locs q287 hP hS => ?_)
                    have hR288 : rgM σ285 := by rw [q287]; exact mLev_rg hR262 (by omega) (by omega) (by omega) (by omega) (by omega) (by omega) (by omega)
                    have hM289 : RR κ264 σ285 := by rw [q287]; exact RR_lev hM265
                    refine zg_iconst C dX5_findsPath_208 ?_
                    refine zg_zret (b := true) C hP hS dX5_findsPath_209 ?_
                    have h9 := fp_hit (x := x) (c := cn) (r := x.toNat) (Int.toNat_of_nonneg x0) cn0 bT.1 hE hto bp.1 bp.2 b0 b1 k0 (by omega) (by omega) hmh h25 h26 h27 hd5 hD (by rw [← hκ5]; exact hM5)
                    exact ⟨congrArg (fun b => jI (bI b)) h9.1, hR288, by rw [q287]; exact h9.2⟩
          · exact absurd c_148 (by decide)
        · refine zg_iconst C dX5_findsPath_35 ?_
          refine zg_goto (tgt := 40) C dX5_findsPath_36 (by decide) ?_
          refine zg_istore (lv' := [(7, .int (jI 1)), (0, .ref (a 0)), (1, .int (jI x)), (2, .int (jI cn)), (3, .int (jI pn)), (5, .int (jI bd)), (6, .int (jI k))]) C dX5_findsPath_40 hl (by decide) rfl (fun ls hl => ?_)
          refine zg_iload C dX5_findsPath_42 (lv_at hl 0 rfl) ?_
          refine zg_if_eq (tgt := 64) C (by omega) (by omega) dX5_findsPath_44 (by decide) (fun c_290 => ?_) (fun c_290 => ?_)
          · exact absurd c_290 (by decide)
          · refine zg_aload_n C dX5_findsPath_47 rfl (lv_at hl 1 rfl) ?_
            refine zg_get (j := 12) C X hP (by decide) lyM_0 rfl (zmem uwX5) (by decide) (C.tb flX5_45) (fun _ h9 => h9) rfl dX5_findsPath_48 ?_
            refine zg_bipush C dX5_findsPath_51 (by decide) ?_
            refine zg_iload_n C dX5_findsPath_53 rfl (lv_at hl 4 rfl) ?_
            refine zg_imul C dX5_findsPath_54 ?_
            refine zg_iload C dX5_findsPath_55 (lv_at hl 6 rfl) ?_
            refine zg_iadd C dX5_findsPath_57 ?_
            refine zg_iconst C dX5_findsPath_58 ?_
            refine zg_isub C dX5_findsPath_59 ?_
            refine zg_iald (t0 := 0) C X hP (by decide) lyM_11 rfl (by decide) (by omega) (by omega) dX5_findsPath_60 ?_
            have b_291 := rgM_11 hτ ((((12 * pn) + k) - 1).toNat)
            refine zg_goto (tgt := 65) C dX5_findsPath_61 (by decide) ?_
            refine zg_istore (lv' := [(8, .int (jI (τ 11 (((12 * pn) + k) - 1).toNat))), (7, .int (jI 1)), (0, .ref (a 0)), (1, .int (jI x)), (2, .int (jI cn)), (3, .int (jI pn)), (5, .int (jI bd)), (6, .int (jI k))]) C dX5_findsPath_65 hl (by decide) rfl (fun ls hl => ?_)
            have hL : kDigit (kLevel κ pn k) = (τ 11 (((12 * pn) + k) - 1).toNat) := by first | exact (rr_lev3 hM2 hτ (by omega) (by omega) (by omega) (by omega)).1 | exact (low_0 (by omega)).1
            refine zg_iload C dX5_findsPath_67 (lv_at hl 6 rfl) ?_
            refine zg_iconst C dX5_findsPath_69 ?_
            refine zg_icmp_eq (tgt := 91) C (by omega) (by omega) (by omega) (by omega) dX5_findsPath_70 (by decide) (fun c_292 => ?_) (fun c_292 => ?_)
            · refine zg_iload C dX5_findsPath_91 (lv_at hl 7 rfl) ?_
              refine zg_bipush C dX5_findsPath_93 (by decide) ?_
              refine zg_icmp_le (tgt := 104) C (by omega) (by omega) (by omega) (by omega) dX5_findsPath_95 (by decide) (fun c_293 => ?_) (fun c_293 => ?_)
              · refine zg_iconst C dX5_findsPath_104 ?_
                refine zg_iload C dX5_findsPath_105 (lv_at hl 7 rfl) ?_
                refine zg_iconst C dX5_findsPath_107 ?_
                refine zg_iadd C dX5_findsPath_108 ?_
                refine zg_shl C ((k + 3).toNat) (sh_amt (by omega) (by omega)) (by omega) (shl_ok k0 (by omega)) dX5_findsPath_109 ?_
                refine zg_istore (lv' := [(9, .int (jI (1 * 2 ^ ((k + 3).toNat)))), (8, .int (jI (τ 11 (((12 * pn) + k) - 1).toNat))), (7, .int (jI 1)), (0, .ref (a 0)), (1, .int (jI x)), (2, .int (jI cn)), (3, .int (jI pn)), (5, .int (jI bd)), (6, .int (jI k))]) C dX5_findsPath_110 hl (by decide) rfl (fun ls hl => ?_)
                have hH : kHigh κ bd k = (1 * 2 ^ ((k + 3).toNat)) := by first | exact (kHigh_b (by assumption)).trans (rr_lev3 hM2 hτ (by omega) (by omega) (by omega) (by omega)).1 | exact (kHigh_8 (by assumption) k0 (by omega)).trans (if_pos (by omega)) | exact (kHigh_8 (by assumption) k0 (by omega)).trans (if_neg (by omega))
                have hH16 : bd = -1 → 16 ≤ kHigh κ bd k := fun e => kHigh_16 e k0 (by omega)
                have hHr := kHigh_rg hG.1 (b := bd) (k := k) k0 (by omega)
                have hLr := kDigit_rg (kLevel_rg hG.1 pn k).1 (kLevel_rg hG.1 pn k).2
                refine zg_iload C dX5_findsPath_112 (lv_at hl 0 rfl) ?_
                refine zg_iload C dX5_findsPath_114 (lv_at hl 1 rfl) ?_
                refine zg_isub C dX5_findsPath_116 ?_
                refine zg_iconst C dX5_findsPath_117 ?_
                refine zg_icmp_le (tgt := 210) C (by omega) (by omega) (by omega) (by omega) dX5_findsPath_118 (by decide) (fun c_294 => ?_) (fun c_294 => ?_)
                · refine zg_iload C dX5_findsPath_210 (lv_at hl 2 rfl) ?_
                  refine zg_if_eq (tgt := 280) C (by omega) (by omega) dX5_findsPath_212 (by decide) (fun c_295 => ?_) (fun c_295 => ?_)
                  · exact absurd c_295 (by decide)
                  · refine zg_bipush C dX5_findsPath_215 (by decide) ?_
                    refine zg_iload_n C dX5_findsPath_217 rfl (lv_at hl 6 rfl) ?_
                    refine zg_imul C dX5_findsPath_218 ?_
                    refine zg_iload C dX5_findsPath_219 (lv_at hl 8 rfl) ?_
                    refine zg_iadd C dX5_findsPath_221 ?_
                    refine zg_iconst C dX5_findsPath_222 ?_
                    refine zg_isub C dX5_findsPath_223 ?_
                    refine zg_istore (lv' := [(10, .int (jI (((12 * pn) + k) - 1))), (9, .int (jI (1 * 2 ^ ((k + 3).toNat)))), (8, .int (jI (τ 11 (((12 * pn) + k) - 1).toNat))), (7, .int (jI 1)), (0, .ref (a 0)), (1, .int (jI x)), (2, .int (jI cn)), (3, .int (jI pn)), (5, .int (jI bd)), (6, .int (jI k))]) C dX5_findsPath_224 hl (by decide) rfl (fun ls hl => ?_)
                    refine zg_aload_n C dX5_findsPath_226 rfl (lv_at hl 4 rfl) ?_
                    refine zg_aload_n C dX5_findsPath_227 rfl (lv_at hl 4 rfl) ?_
                    refine zg_get (j := 12) C X hP (by decide) lyM_0 rfl (zmem uwX5) (by decide) (C.tb flX5_45) (fun _ h9 => h9) rfl dX5_findsPath_228 ?_
                    refine zg_iload C dX5_findsPath_231 (lv_at hl 0 rfl) ?_
                    refine zg_iald (t0 := 0) C X hP (by decide) lyM_11 rfl (by decide) (by omega) (by omega) dX5_findsPath_233 ?_
                    have b_296 := rgM_11 hτ ((((12 * pn) + k) - 1).toNat)
                    refine zg_aload_n C dX5_findsPath_234 rfl (lv_at hl 4 rfl) ?_
                    refine zg_get (j := 13) C X hP (by decide) lyM_0 rfl (zmem uwX5) (by decide) (C.tb flX5_48) (fun _ h9 => h9) rfl dX5_findsPath_235 ?_
                    refine zg_iload C dX5_findsPath_238 (lv_at hl 0 rfl) ?_
                    refine zg_iald (t0 := 0) C X hP (by decide) lyM_12 rfl (by decide) (by omega) (by omega) dX5_findsPath_240 ?_
                    have b_297 := rgM_12 hτ ((((12 * pn) + k) - 1).toNat)
                    refine zg_aload_n C dX5_findsPath_241 rfl (lv_at hl 4 rfl) ?_
                    refine zg_get (j := 14) C X hP (by decide) lyM_0 rfl (zmem uwX5) (by decide) (C.tb flX5_51) (fun _ h9 => h9) rfl dX5_findsPath_242 ?_
                    refine zg_iload C dX5_findsPath_245 (lv_at hl 0 rfl) ?_
                    refine zg_iald (t0 := 0) C X hP (by decide) lyM_13 rfl (by decide) (by omega) (by omega) dX5_findsPath_247 ?_
                    have b_298 := rgM_13 hτ ((((12 * pn) + k) - 1).toNat)
                    refine zg_callVv C X hP hS (kX5_level l τ hτ (τ 11 (((12 * pn) + k) - 1).toNat) (τ 12 (((12 * pn) + k) - 1).toNat) (τ 13 (((12 * pn) + k) - 1).toNat) (by omega) (by omega) (by omega) (by omega) (by omega) (by omega) (by omega)) (cwV 3 C.ts (zgV mlX5_121 imX5_level slX5_level iniX5 cdX5_level) rfl rfl rfl (by decide +kernel) ⟨Nat.le_of_ble_eq_true rfl, Nat.le_of_ble_eq_true rfl⟩) (by decide) lyM_0 rfl rfl rfl hl.1 rfl (Nat.le_of_ble_eq_true rfl) dX5_findsPath_248 ⟨Nat.zero_le _, Nat.zero_le _⟩ (fun σ299 H locs q301 hP hS => ?_)
                    have hR302 : rgM σ299 := by rw [q301]; exact mLev_rg hτ (by omega) (by omega) (by omega) (by omega) (by omega) (by omega) (by omega)
                    have hM303 : RR κ σ299 := by rw [q301]; exact RR_lev hM2
                    have hl2 : mHas σ299 (zu ρ 12 (κ 1 10 * 12 + k - 1).toNat (kLevel κ pn k)) (κ 1 10) (k + 1) := by rw [q301]; exact mHas_lev bT.1 k0 hmh rfl rfl rfl hd ((rr_lev hM2 (by omega) (by omega) (by omega) (by omega)).symm)
                    have hd2 : σ299 0 32 = k + 1 - 1 := by rw [q301, mLev_32]; omega
                    refine zg_iload C dX5_findsPath_251 (lv_at hl 8 rfl) ?_
                    refine zg_iconst C dX5_findsPath_253 ?_
                    refine zg_icmp_eq (tgt := 273) C (by omega) (by omega) (by omega) (by omega) dX5_findsPath_254 (by decide) (fun c_304 => ?_) (fun c_304 => ?_)
                    · refine zg_iload C dX5_findsPath_273 (lv_at hl 8 rfl) ?_
                      refine zg_istore (lv' := [(5, .int (jI bd)), (10, .int (jI (((12 * pn) + k) - 1))), (9, .int (jI (1 * 2 ^ ((k + 3).toNat)))), (8, .int (jI (τ 11 (((12 * pn) + k) - 1).toNat))), (7, .int (jI 1)), (0, .ref (a 0)), (1, .int (jI x)), (2, .int (jI cn)), (3, .int (jI pn)), (6, .int (jI k))]) C dX5_findsPath_275 hl (by decide) rfl (fun ls hl => ?_)
                      have hst := kFind_st (r := x.toNat) (b' := bd) bT.1 hto bp.1 bp.2 b0 b1 k0 (by omega) (by omega) (N := kLevel κ pn k) (inner_p hG p0 (by omega) k0 (by omega)) (by first | (rw [if_pos (of_decide_eq_true ((mIsLev_is hM303 hR302 (by omega) (by omega) (by omega) (by omega) (by omega) (by omega)).symm.trans (by assumption)))]; done) | (rw [if_neg (of_decide_eq_false ((mIsLev_is hM303 hR302 (by omega) (by omega) (by omega) (by omega) (by omega) (by omega)).symm.trans (by assumption)))]; done) | (split <;> omega))
                      refine zg_goto (tgt := 334) C dX5_findsPath_277 (by decide) ?_
                      refine zg_iinc (k := 9) (lv' := [(6, .int (jI (k + 1))), (5, .int (jI bd)), (10, .int (jI (((12 * pn) + k) - 1))), (9, .int (jI (1 * 2 ^ ((k + 3).toNat)))), (8, .int (jI (τ 11 (((12 * pn) + k) - 1).toNat))), (7, .int (jI 1)), (0, .ref (a 0)), (1, .int (jI x)), (2, .int (jI cn)), (3, .int (jI pn))]) C dX5_findsPath_334 hl rfl (by decide) rfl (fun ls hl => ?_)
                      refine zg_goto (tgt := 12) C dX5_findsPath_337 (by decide) ?_
                      exact ih bd (k + 1) σ299 _ _ _ _ (by omega) hR302 hM303 (by omega) (by omega) (by omega) (by omega) hd2 (hE.trans hst.1) hst.2 hl2 hP hS (lv_sub hl [6, 7, 8, 9, 1, 0] rfl)
                    · refine zg_aload_n C dX5_findsPath_257 rfl (lv_at hl 4 rfl) ?_
                      refine zg_iload_n C dX5_findsPath_258 rfl (lv_at hl 7 rfl) ?_
                      refine zg_iload C dX5_findsPath_259 (lv_at hl 9 rfl) ?_
                      refine zg_iload C dX5_findsPath_261 (lv_at hl 8 rfl) ?_
                      refine zg_callV C X hP hS (kX5_isLevel l σ299 hR302 pn k bd (by omega) (by omega) (by omega) (by omega) (by omega) (by omega)) (cwV 3 C.ts (zgV mlX5_125 imX5_isLevel slX5_isLevel iniX5 cdX5_isLevel) rfl rfl rfl (by decide +kernel) ⟨Nat.le_of_ble_eq_true rfl, Nat.le_of_ble_eq_true rfl⟩) (by decide) lyM_0 rfl rfl rfl hl.1 rfl (Nat.le_of_ble_eq_true rfl) dX5_findsPath_263 ⟨Nat.zero_le _, Nat.zero_le _⟩ (fun r_306 σ305 H locs q307 hP hS => ?_)
                      obtain ⟨rfl, q307⟩ := q307
                      rw [q307] at hP
                      refine zg_ifneB (tgt := 273) C dX5_findsPath_266 (by decide) (fun c_308 => ?_) (fun c_308 => ?_)
                      · refine zg_iload C dX5_findsPath_273 (lv_at hl 8 rfl) ?_
                        refine zg_istore (lv' := [(5, .int (jI bd)), (10, .int (jI (((12 * pn) + k) - 1))), (9, .int (jI (1 * 2 ^ ((k + 3).toNat)))), (8, .int (jI (τ 11 (((12 * pn) + k) - 1).toNat))), (7, .int (jI 1)), (0, .ref (a 0)), (1, .int (jI x)), (2, .int (jI cn)), (3, .int (jI pn)), (6, .int (jI k))]) C dX5_findsPath_275 hl (by decide) rfl (fun ls hl => ?_)
                        have hst := kFind_st (r := x.toNat) (b' := bd) bT.1 hto bp.1 bp.2 b0 b1 k0 (by omega) (by omega) (N := kLevel κ pn k) (inner_p hG p0 (by omega) k0 (by omega)) (by first | (rw [if_pos (of_decide_eq_true ((mIsLev_is hM303 hR302 (by omega) (by omega) (by omega) (by omega) (by omega) (by omega)).symm.trans (by assumption)))]; done) | (rw [if_neg (of_decide_eq_false ((mIsLev_is hM303 hR302 (by omega) (by omega) (by omega) (by omega) (by omega) (by omega)).symm.trans (by assumption)))]; done) | (split <;> omega))
                        refine zg_goto (tgt := 334) C dX5_findsPath_277 (by decide) ?_
                        refine zg_iinc (k := 9) (lv' := [(6, .int (jI (k + 1))), (5, .int (jI bd)), (10, .int (jI (((12 * pn) + k) - 1))), (9, .int (jI (1 * 2 ^ ((k + 3).toNat)))), (8, .int (jI (τ 11 (((12 * pn) + k) - 1).toNat))), (7, .int (jI 1)), (0, .ref (a 0)), (1, .int (jI x)), (2, .int (jI cn)), (3, .int (jI pn))]) C dX5_findsPath_334 hl rfl (by decide) rfl (fun ls hl => ?_)
                        refine zg_goto (tgt := 12) C dX5_findsPath_337 (by decide) ?_
                        exact ih bd (k + 1) σ299 _ _ _ _ (by omega) hR302 hM303 (by omega) (by omega) (by omega) (by omega) hd2 (hE.trans hst.1) hst.2 hl2 hP hS (lv_sub hl [6, 7, 8, 9, 1, 0] rfl)
                      · refine zg_iconst C dX5_findsPath_269 ?_
                        refine zg_goto (tgt := 275) C dX5_findsPath_270 (by decide) ?_
                        refine zg_istore (lv' := [(5, .int (jI (-1))), (10, .int (jI (((12 * pn) + k) - 1))), (9, .int (jI (1 * 2 ^ ((k + 3).toNat)))), (8, .int (jI (τ 11 (((12 * pn) + k) - 1).toNat))), (7, .int (jI 1)), (0, .ref (a 0)), (1, .int (jI x)), (2, .int (jI cn)), (3, .int (jI pn)), (6, .int (jI k))]) C dX5_findsPath_275 hl (by decide) rfl (fun ls hl => ?_)
                        have hst := kFind_st (r := x.toNat) (b' := (-1)) bT.1 hto bp.1 bp.2 b0 b1 k0 (by omega) (by omega) (N := kLevel κ pn k) (inner_p hG p0 (by omega) k0 (by omega)) (by first | (rw [if_pos (of_decide_eq_true ((mIsLev_is hM303 hR302 (by omega) (by omega) (by omega) (by omega) (by omega) (by omega)).symm.trans (by assumption)))]; done) | (rw [if_neg (of_decide_eq_false ((mIsLev_is hM303 hR302 (by omega) (by omega) (by omega) (by omega) (by omega) (by omega)).symm.trans (by assumption)))]; done) | (split <;> omega))
                        refine zg_goto (tgt := 334) C dX5_findsPath_277 (by decide) ?_
                        refine zg_iinc (k := 9) (lv' := [(6, .int (jI (k + 1))), (5, .int (jI (-1))), (10, .int (jI (((12 * pn) + k) - 1))), (9, .int (jI (1 * 2 ^ ((k + 3).toNat)))), (8, .int (jI (τ 11 (((12 * pn) + k) - 1).toNat))), (7, .int (jI 1)), (0, .ref (a 0)), (1, .int (jI x)), (2, .int (jI cn)), (3, .int (jI pn))]) C dX5_findsPath_334 hl rfl (by decide) rfl (fun ls hl => ?_)
                        refine zg_goto (tgt := 12) C dX5_findsPath_337 (by decide) ?_
                        exact ih (-1) (k + 1) σ299 _ _ _ _ (by omega) hR302 hM303 (by omega) (by omega) (by omega) (by omega) hd2 (hE.trans hst.1) hst.2 hl2 hP hS (lv_sub hl [6, 7, 8, 9, 1, 0] rfl)
                · refine zg_aload_n C dX5_findsPath_121 rfl (lv_at hl 3 rfl) ?_
                  refine zg_get (j := 23) C X hP (by decide) lyM_0 rfl (zmem uwX5) (by decide) (C.tb flX5_75) (fun _ h9 => h9) rfl dX5_findsPath_122 ?_
                  refine zg_iload_n C dX5_findsPath_125 rfl (lv_at hl 4 rfl) ?_
                  refine zg_aload_n C dX5_findsPath_126 rfl (lv_at hl 3 rfl) ?_
                  refine zg_get (j := 23) C X hP (by decide) lyM_0 rfl (zmem uwX5) (by decide) (C.tb flX5_75) (fun _ h9 => h9) rfl dX5_findsPath_127 ?_
                  refine zg_iload_n C dX5_findsPath_130 rfl (lv_at hl 4 rfl) ?_
                  refine zg_iald (t0 := 0) C X hP (by decide) lyM_21 rfl (by decide) (by omega) (by omega) dX5_findsPath_131 ?_
                  rw [rr_21 hM2 (x := x) (by omega) (by omega)]
                  refine zg_ldc (v := 1664525) C (C.tb knX5_119) rfl dX5_findsPath_132 ?_
                  refine zg_imul C dX5_findsPath_134 ?_
                  refine zg_ldc (v := 1013904223) C (C.tb knX5_120) rfl dX5_findsPath_135 ?_
                  refine zg_iadd C dX5_findsPath_137 ?_
                  refine zg_iast (t0 := 0) C X hP hS (by decide) (fun x => lyM_21) rfl (by decide) (by omega) (by omega) dX5_findsPath_138 (fun H locs hP hS => ?_)
                  obtain ⟨σ309, e310⟩ : ∃ z_ : Zt, z_ = zu τ 21 (x).toNat (((κ (20 + 6 * x.toNat) 3) * 1664525) + 1013904223) := ⟨_, rfl⟩
                  rw [← e310] at hP
                  have w_312 : σ309 21 (x).toNat = ((κ (20 + 6 * x.toNat) 3) * 1664525) + 1013904223 := by rw [e310]; exact zu_same _ _ _ _
                  have hR311 : rgM σ309 := by rw [e310]; exact rzM_21 hτ
                  obtain ⟨κ313, eκ313⟩ : ∃ z_ : Zt, z_ = kCoinS κ x.toNat := ⟨_, rfl⟩
                  have hM314 : RR κ313 σ309 := by rw [eκ313, e310]; exact RR_21 hM2 (by omega)
                  have hG315 : kMid κ313 := by rw [eκ313]; exact kMid_str hG (by omega)
                  have hs : κ313 (20 + 6 * x.toNat) 3 = κ (20 + 6 * x.toNat) 3 * 1664525 + 1013904223 := by rw [eκ313]; unfold kCoinS; rw [zu_same]
                  have hκ5 := eκ313
                  refine zg_aload_n C dX5_findsPath_139 rfl (lv_at hl 3 rfl) ?_
                  refine zg_get (j := 23) C X hP (by decide) lyM_0 rfl (zmem uwX5) (by decide) (C.tb flX5_75) (fun _ h9 => h9) rfl dX5_findsPath_140 ?_
                  refine zg_iload_n C dX5_findsPath_143 rfl (lv_at hl 4 rfl) ?_
                  refine zg_iald (t0 := 0) C X hP (by decide) lyM_21 rfl (by decide) (by omega) (by omega) dX5_findsPath_144 ?_
                  rw [rr_21 hM314 (x := x) (by omega) (by omega)]
                  refine zg_bipush C dX5_findsPath_145 (by decide) ?_
                  refine zg_iushr C 16 (by decide) dX5_findsPath_147 ?_
                  refine zg_istore (lv' := [(10, .int (jI ((κ313 (20 + 6 * x.toNat) 3) % 4294967296 / 2 ^ 16))), (9, .int (jI (1 * 2 ^ ((k + 3).toNat)))), (8, .int (jI (τ 11 (((12 * pn) + k) - 1).toNat))), (7, .int (jI 1)), (0, .ref (a 0)), (1, .int (jI x)), (2, .int (jI cn)), (3, .int (jI pn)), (5, .int (jI bd)), (6, .int (jI k))]) C dX5_findsPath_148 hl (by decide) rfl (fun ls hl => ?_)
                  refine zg_iconst C dX5_findsPath_150 ?_
                  refine zg_iload C dX5_findsPath_151 (lv_at hl 0 rfl) ?_
                  refine zg_iload C dX5_findsPath_153 (lv_at hl 1 rfl) ?_
                  refine zg_iload C dX5_findsPath_155 (lv_at hl 2 rfl) ?_
                  refine zg_isub C dX5_findsPath_157 ?_
                  refine zg_iconst C dX5_findsPath_158 ?_
                  refine zg_isub C dX5_findsPath_159 ?_
                  refine zg_bipush C dX5_findsPath_160 (by decide) ?_
                  refine zg_icmp_ge (tgt := 175) C (by omega) (by omega) (by omega) (by omega) dX5_findsPath_162 (by decide) (fun c_316 => ?_) (fun c_316 => ?_)
                  · refine zg_bipush C dX5_findsPath_175 (by decide) ?_
                    refine zg_irem C (by omega) (by omega) (by omega) (by omega) dX5_findsPath_177 ?_
                    refine zg_iadd C dX5_findsPath_178 ?_
                    refine zg_istore (lv' := [(11, .int (jI (1 + (((κ313 (20 + 6 * x.toNat) 3) % 4294967296 / 2 ^ 16) % 10)))), (10, .int (jI ((κ313 (20 + 6 * x.toNat) 3) % 4294967296 / 2 ^ 16))), (9, .int (jI (1 * 2 ^ ((k + 3).toNat)))), (8, .int (jI (τ 11 (((12 * pn) + k) - 1).toNat))), (7, .int (jI 1)), (0, .ref (a 0)), (1, .int (jI x)), (2, .int (jI cn)), (3, .int (jI pn)), (5, .int (jI bd)), (6, .int (jI k))]) C dX5_findsPath_179 hl (by decide) rfl (fun ls hl => ?_)
                    refine zg_aload_n C dX5_findsPath_181 rfl (lv_at hl 5 rfl) ?_
                    refine zg_iload C dX5_findsPath_182 (lv_at hl 10 rfl) ?_
                    refine zg_iconst C dX5_findsPath_184 ?_
                    refine zg_irem C (by omega) (by omega) (by omega) (by omega) dX5_findsPath_185 ?_
                    refine zg_iconst C dX5_findsPath_186 ?_
                    refine zg_icmp_ne (tgt := 198) C (by omega) (by omega) (by omega) (by omega) dX5_findsPath_187 (by decide) (fun c_317 => ?_) (fun c_317 => ?_)
                    · refine zg_iload C dX5_findsPath_198 (lv_at hl 2 rfl) ?_
                      refine zg_iload C dX5_findsPath_200 (lv_at hl 0 rfl) ?_
                      refine zg_isub C dX5_findsPath_202 ?_
                      refine zg_iload_n C dX5_findsPath_203 rfl (lv_at hl 6 rfl) ?_
                      refine zg_iload_n C dX5_findsPath_204 rfl (lv_at hl 7 rfl) ?_
                      have hD : kLastD k (kDigit (kLevel κ pn k)) (kHigh κ bd k) (kCoin κ x.toNat) = ((1 * 2 ^ ((k + 3).toNat)) - (1 + (((κ313 (20 + 6 * x.toNat) 3) % 4294967296 / 2 ^ 16) % 10))) := by rw [lastD_is hs, hL, hH]; first | (rw [if_pos (by omega), if_pos (by omega)]; done) | (rw [if_pos (by omega), if_neg (by omega)]; done) | (rw [if_neg (by omega), if_pos (by omega)]; done) | (rw [if_neg (by omega), if_neg (by omega)]; done)
                      have hDr := kLastD_rg (k := k) (lo := kDigit (kLevel κ pn k)) (hi := kHigh κ bd k) (co := kCoin κ x.toNat) (by omega) (by omega) (by omega) (kCoin_rg κ x.toNat).1
                      have hd5 : σ309 0 32 = k - 1 := by rw [e310, zu_ne (by decide)]; exact hd
                      have h25 : σ309 25 = τ 25 := by rw [e310, zu_ne (by decide)]
                      have h26 : σ309 26 = τ 26 := by rw [e310, zu_ne (by decide)]
                      have h27 : σ309 27 = τ 27 := by rw [e310, zu_ne (by decide)]
                      have hM5 := hM314
                      refine zg_callVv C X hP hS (kX5_level l σ309 hR311 ((1 * 2 ^ ((k + 3).toNat)) - (1 + (((κ313 (20 + 6 * x.toNat) 3) % 4294967296 / 2 ^ 16) % 10))) x cn (by omega) (by omega) (by omega) (by omega) (by omega) (by omega) (by omega)) (cwV 3 C.ts (zgV mlX5_121 imX5_level slX5_level iniX5 cdX5_level) rfl rfl rfl (by decide +kernel) ⟨Nat.le_of_ble_eq_true rfl, Nat.le_of_ble_eq_true rfl⟩) (by decide) lyM_0 rfl rfl rfl hl.1 rfl (Nat.le_of_ble_eq_true rfl) dX5_findsPath_205 ⟨Nat.zero_le _, Nat.zero_le _⟩ (fun σ318 H locs q320 hP hS => ?_)
                      have hR321 : rgM σ318 := by rw [q320]; exact mLev_rg hR311 (by omega) (by omega) (by omega) (by omega) (by omega) (by omega) (by omega)
                      have hM322 : RR κ313 σ318 := by rw [q320]; exact RR_lev hM314
                      refine zg_iconst C dX5_findsPath_208 ?_
                      refine zg_zret (b := true) C hP hS dX5_findsPath_209 ?_
                      have h9 := fp_hit (x := x) (c := cn) (r := x.toNat) (Int.toNat_of_nonneg x0) cn0 bT.1 hE hto bp.1 bp.2 b0 b1 k0 (by omega) (by omega) hmh h25 h26 h27 hd5 hD (by rw [← hκ5]; exact hM5)
                      exact ⟨congrArg (fun b => jI (bI b)) h9.1, hR321, by rw [q320]; exact h9.2⟩
                    · refine zg_iload C dX5_findsPath_190 (lv_at hl 3 rfl) ?_
                      refine zg_iload C dX5_findsPath_192 (lv_at hl 0 rfl) ?_
                      refine zg_iadd C dX5_findsPath_194 ?_
                      refine zg_goto (tgt := 203) C dX5_findsPath_195 (by decide) ?_
                      refine zg_iload_n C dX5_findsPath_203 rfl (lv_at hl 6 rfl) ?_
                      refine zg_iload_n C dX5_findsPath_204 rfl (lv_at hl 7 rfl) ?_
                      have hD : kLastD k (kDigit (kLevel κ pn k)) (kHigh κ bd k) (kCoin κ x.toNat) = ((τ 11 (((12 * pn) + k) - 1).toNat) + (1 + (((κ313 (20 + 6 * x.toNat) 3) % 4294967296 / 2 ^ 16) % 10))) := by rw [lastD_is hs, hL, hH]; first | (rw [if_pos (by omega), if_pos (by omega)]; done) | (rw [if_pos (by omega), if_neg (by omega)]; done) | (rw [if_neg (by omega), if_pos (by omega)]; done) | (rw [if_neg (by omega), if_neg (by omega)]; done)
                      have hDr := kLastD_rg (k := k) (lo := kDigit (kLevel κ pn k)) (hi := kHigh κ bd k) (co := kCoin κ x.toNat) (by omega) (by omega) (by omega) (kCoin_rg κ x.toNat).1
                      have hd5 : σ309 0 32 = k - 1 := by rw [e310, zu_ne (by decide)]; exact hd
                      have h25 : σ309 25 = τ 25 := by rw [e310, zu_ne (by decide)]
                      have h26 : σ309 26 = τ 26 := by rw [e310, zu_ne (by decide)]
                      have h27 : σ309 27 = τ 27 := by rw [e310, zu_ne (by decide)]
                      have hM5 := hM314
                      refine zg_callVv C X hP hS (kX5_level l σ309 hR311 ((τ 11 (((12 * pn) + k) - 1).toNat) + (1 + (((κ313 (20 + 6 * x.toNat) 3) % 4294967296 / 2 ^ 16) % 10))) x cn (by omega) (by omega) (by omega) (by omega) (by omega) (by omega) (by omega)) (cwV 3 C.ts (zgV mlX5_121 imX5_level slX5_level iniX5 cdX5_level) rfl rfl rfl (by decide +kernel) ⟨Nat.le_of_ble_eq_true rfl, Nat.le_of_ble_eq_true rfl⟩) (by decide) lyM_0 rfl rfl rfl hl.1 rfl (Nat.le_of_ble_eq_true rfl) dX5_findsPath_205 ⟨Nat.zero_le _, Nat.zero_le _⟩ (fun σ323 H locs q325 hP hS => ?_)
                      have hR326 : rgM σ323 := by rw [q325]; exact mLev_rg hR311 (by omega) (by omega) (by omega) (by omega) (by omega) (by omega) (by omega)
                      have hM327 : RR κ313 σ323 := by rw [q325]; exact RR_lev hM314
                      refine zg_iconst C dX5_findsPath_208 ?_
                      refine zg_zret (b := true) C hP hS dX5_findsPath_209 ?_
                      have h9 := fp_hit (x := x) (c := cn) (r := x.toNat) (Int.toNat_of_nonneg x0) cn0 bT.1 hE hto bp.1 bp.2 b0 b1 k0 (by omega) (by omega) hmh h25 h26 h27 hd5 hD (by rw [← hκ5]; exact hM5)
                      exact ⟨congrArg (fun b => jI (bI b)) h9.1, hR326, by rw [q325]; exact h9.2⟩
                  · refine zg_iload C dX5_findsPath_165 (lv_at hl 1 rfl) ?_
                    refine zg_iload C dX5_findsPath_167 (lv_at hl 2 rfl) ?_
                    refine zg_isub C dX5_findsPath_169 ?_
                    refine zg_iconst C dX5_findsPath_170 ?_
                    refine zg_isub C dX5_findsPath_171 ?_
                    refine zg_goto (tgt := 177) C dX5_findsPath_172 (by decide) ?_
                    refine zg_irem C (by omega) (by omega) (by omega) (by omega) dX5_findsPath_177 ?_
                    refine zg_iadd C dX5_findsPath_178 ?_
                    refine zg_istore (lv' := [(11, .int (jI (1 + (((κ313 (20 + 6 * x.toNat) 3) % 4294967296 / 2 ^ 16) % (((1 * 2 ^ ((k + 3).toNat)) - (τ 11 (((12 * pn) + k) - 1).toNat)) - 1))))), (10, .int (jI ((κ313 (20 + 6 * x.toNat) 3) % 4294967296 / 2 ^ 16))), (9, .int (jI (1 * 2 ^ ((k + 3).toNat)))), (8, .int (jI (τ 11 (((12 * pn) + k) - 1).toNat))), (7, .int (jI 1)), (0, .ref (a 0)), (1, .int (jI x)), (2, .int (jI cn)), (3, .int (jI pn)), (5, .int (jI bd)), (6, .int (jI k))]) C dX5_findsPath_179 hl (by decide) rfl (fun ls hl => ?_)
                    refine zg_aload_n C dX5_findsPath_181 rfl (lv_at hl 5 rfl) ?_
                    refine zg_iload C dX5_findsPath_182 (lv_at hl 10 rfl) ?_
                    refine zg_iconst C dX5_findsPath_184 ?_
                    refine zg_irem C (by omega) (by omega) (by omega) (by omega) dX5_findsPath_185 ?_
                    refine zg_iconst C dX5_findsPath_186 ?_
                    refine zg_icmp_ne (tgt := 198) C (by omega) (by omega) (by omega) (by omega) dX5_findsPath_187 (by decide) (fun c_328 => ?_) (fun c_328 => ?_)
                    · refine zg_iload C dX5_findsPath_198 (lv_at hl 2 rfl) ?_
                      refine zg_iload C dX5_findsPath_200 (lv_at hl 0 rfl) ?_
                      refine zg_isub C dX5_findsPath_202 ?_
                      refine zg_iload_n C dX5_findsPath_203 rfl (lv_at hl 6 rfl) ?_
                      refine zg_iload_n C dX5_findsPath_204 rfl (lv_at hl 7 rfl) ?_
                      have hD : kLastD k (kDigit (kLevel κ pn k)) (kHigh κ bd k) (kCoin κ x.toNat) = ((1 * 2 ^ ((k + 3).toNat)) - (1 + (((κ313 (20 + 6 * x.toNat) 3) % 4294967296 / 2 ^ 16) % (((1 * 2 ^ ((k + 3).toNat)) - (τ 11 (((12 * pn) + k) - 1).toNat)) - 1)))) := by rw [lastD_is hs, hL, hH]; first | (rw [if_pos (by omega), if_pos (by omega)]; done) | (rw [if_pos (by omega), if_neg (by omega)]; done) | (rw [if_neg (by omega), if_pos (by omega)]; done) | (rw [if_neg (by omega), if_neg (by omega)]; done)
                      have hDr := kLastD_rg (k := k) (lo := kDigit (kLevel κ pn k)) (hi := kHigh κ bd k) (co := kCoin κ x.toNat) (by omega) (by omega) (by omega) (kCoin_rg κ x.toNat).1
                      have hd5 : σ309 0 32 = k - 1 := by rw [e310, zu_ne (by decide)]; exact hd
                      have h25 : σ309 25 = τ 25 := by rw [e310, zu_ne (by decide)]
                      have h26 : σ309 26 = τ 26 := by rw [e310, zu_ne (by decide)]
                      have h27 : σ309 27 = τ 27 := by rw [e310, zu_ne (by decide)]
                      have hM5 := hM314
                      refine zg_callVv C X hP hS (kX5_level l σ309 hR311 ((1 * 2 ^ ((k + 3).toNat)) - (1 + (((κ313 (20 + 6 * x.toNat) 3) % 4294967296 / 2 ^ 16) % (((1 * 2 ^ ((k + 3).toNat)) - (τ 11 (((12 * pn) + k) - 1).toNat)) - 1)))) x cn (by omega) (by omega) (by omega) (by omega) (by omega) (by omega) (by omega)) (cwV 3 C.ts (zgV mlX5_121 imX5_level slX5_level iniX5 cdX5_level) rfl rfl rfl (by decide +kernel) ⟨Nat.le_of_ble_eq_true rfl, Nat.le_of_ble_eq_true rfl⟩) (by decide) lyM_0 rfl rfl rfl hl.1 rfl (Nat.le_of_ble_eq_true rfl) dX5_findsPath_205 ⟨Nat.zero_le _, Nat.zero_le _⟩ (fun σ329 H locs q331 hP hS => ?_)
                      have hR332 : rgM σ329 := by rw [q331]; exact mLev_rg hR311 (by omega) (by omega) (by omega) (by omega) (by omega) (by omega) (by omega)
                      have hM333 : RR κ313 σ329 := by rw [q331]; exact RR_lev hM314
                      refine zg_iconst C dX5_findsPath_208 ?_
                      refine zg_zret (b := true) C hP hS dX5_findsPath_209 ?_
                      have h9 := fp_hit (x := x) (c := cn) (r := x.toNat) (Int.toNat_of_nonneg x0) cn0 bT.1 hE hto bp.1 bp.2 b0 b1 k0 (by omega) (by omega) hmh h25 h26 h27 hd5 hD (by rw [← hκ5]; exact hM5)
                      exact ⟨congrArg (fun b => jI (bI b)) h9.1, hR332, by rw [q331]; exact h9.2⟩
                    · refine zg_iload C dX5_findsPath_190 (lv_at hl 3 rfl) ?_
                      refine zg_iload C dX5_findsPath_192 (lv_at hl 0 rfl) ?_
                      refine zg_iadd C dX5_findsPath_194 ?_
                      refine zg_goto (tgt := 203) C dX5_findsPath_195 (by decide) ?_
                      refine zg_iload_n C dX5_findsPath_203 rfl (lv_at hl 6 rfl) ?_
                      refine zg_iload_n C dX5_findsPath_204 rfl (lv_at hl 7 rfl) ?_
                      have hD : kLastD k (kDigit (kLevel κ pn k)) (kHigh κ bd k) (kCoin κ x.toNat) = ((τ 11 (((12 * pn) + k) - 1).toNat) + (1 + (((κ313 (20 + 6 * x.toNat) 3) % 4294967296 / 2 ^ 16) % (((1 * 2 ^ ((k + 3).toNat)) - (τ 11 (((12 * pn) + k) - 1).toNat)) - 1)))) := by rw [lastD_is hs, hL, hH]; first | (rw [if_pos (by omega), if_pos (by omega)]; done) | (rw [if_pos (by omega), if_neg (by omega)]; done) | (rw [if_neg (by omega), if_pos (by omega)]; done) | (rw [if_neg (by omega), if_neg (by omega)]; done)
                      have hDr := kLastD_rg (k := k) (lo := kDigit (kLevel κ pn k)) (hi := kHigh κ bd k) (co := kCoin κ x.toNat) (by omega) (by omega) (by omega) (kCoin_rg κ x.toNat).1
                      have hd5 : σ309 0 32 = k - 1 := by rw [e310, zu_ne (by decide)]; exact hd
                      have h25 : σ309 25 = τ 25 := by rw [e310, zu_ne (by decide)]
                      have h26 : σ309 26 = τ 26 := by rw [e310, zu_ne (by decide)]
                      have h27 : σ309 27 = τ 27 := by rw [e310, zu_ne (by decide)]
                      have hM5 := hM314
                      refine zg_callVv C X hP hS (kX5_level l σ309 hR311 ((τ 11 (((12 * pn) + k) - 1).toNat) + (1 + (((κ313 (20 + 6 * x.toNat) 3) % 4294967296 / 2 ^ 16) % (((1 * 2 ^ ((k + 3).toNat)) - (τ 11 (((12 * pn) + k) - 1).toNat)) - 1)))) x cn (by omega) (by omega) (by omega) (by omega) (by omega) (by omega) (by omega)) (cwV 3 C.ts (zgV mlX5_121 imX5_level slX5_level iniX5 cdX5_level) rfl rfl rfl (by decide +kernel) ⟨Nat.le_of_ble_eq_true rfl, Nat.le_of_ble_eq_true rfl⟩) (by decide) lyM_0 rfl rfl rfl hl.1 rfl (Nat.le_of_ble_eq_true rfl) dX5_findsPath_205 ⟨Nat.zero_le _, Nat.zero_le _⟩ (fun σ334 H locs q336 hP hS => ?_)
                      have hR337 : rgM σ334 := by rw [q336]; exact mLev_rg hR311 (by omega) (by omega) (by omega) (by omega) (by omega) (by omega) (by omega)
                      have hM338 : RR κ313 σ334 := by rw [q336]; exact RR_lev hM314
                      refine zg_iconst C dX5_findsPath_208 ?_
                      refine zg_zret (b := true) C hP hS dX5_findsPath_209 ?_
                      have h9 := fp_hit (x := x) (c := cn) (r := x.toNat) (Int.toNat_of_nonneg x0) cn0 bT.1 hE hto bp.1 bp.2 b0 b1 k0 (by omega) (by omega) hmh h25 h26 h27 hd5 hD (by rw [← hκ5]; exact hM5)
                      exact ⟨congrArg (fun b => jI (bI b)) h9.1, hR337, by rw [q336]; exact h9.2⟩
              · refine zg_sipush C dX5_findsPath_98 (by decide) ?_
                refine zg_goto (tgt := 110) C dX5_findsPath_101 (by decide) ?_
                refine zg_istore (lv' := [(9, .int (jI 4096)), (8, .int (jI (τ 11 (((12 * pn) + k) - 1).toNat))), (7, .int (jI 1)), (0, .ref (a 0)), (1, .int (jI x)), (2, .int (jI cn)), (3, .int (jI pn)), (5, .int (jI bd)), (6, .int (jI k))]) C dX5_findsPath_110 hl (by decide) rfl (fun ls hl => ?_)
                have hH : kHigh κ bd k = 4096 := by first | exact (kHigh_b (by assumption)).trans (rr_lev3 hM2 hτ (by omega) (by omega) (by omega) (by omega)).1 | exact (kHigh_8 (by assumption) k0 (by omega)).trans (if_pos (by omega)) | exact (kHigh_8 (by assumption) k0 (by omega)).trans (if_neg (by omega))
                have hH16 : bd = -1 → 16 ≤ kHigh κ bd k := fun e => kHigh_16 e k0 (by omega)
                have hHr := kHigh_rg hG.1 (b := bd) (k := k) k0 (by omega)
                have hLr := kDigit_rg (kLevel_rg hG.1 pn k).1 (kLevel_rg hG.1 pn k).2
                refine zg_iload C dX5_findsPath_112 (lv_at hl 0 rfl) ?_
                refine zg_iload C dX5_findsPath_114 (lv_at hl 1 rfl) ?_
                refine zg_isub C dX5_findsPath_116 ?_
                refine zg_iconst C dX5_findsPath_117 ?_
                refine zg_icmp_le (tgt := 210) C (by omega) (by omega) (by omega) (by omega) dX5_findsPath_118 (by decide) (fun c_339 => ?_) (fun c_339 => ?_)
                · refine zg_iload C dX5_findsPath_210 (lv_at hl 2 rfl) ?_
                  refine zg_if_eq (tgt := 280) C (by omega) (by omega) dX5_findsPath_212 (by decide) (fun c_340 => ?_) (fun c_340 => ?_)
                  · exact absurd c_340 (by decide)
                  · refine zg_bipush C dX5_findsPath_215 (by decide) ?_
                    refine zg_iload_n C dX5_findsPath_217 rfl (lv_at hl 6 rfl) ?_
                    refine zg_imul C dX5_findsPath_218 ?_
                    refine zg_iload C dX5_findsPath_219 (lv_at hl 8 rfl) ?_
                    refine zg_iadd C dX5_findsPath_221 ?_
                    refine zg_iconst C dX5_findsPath_222 ?_
                    refine zg_isub C dX5_findsPath_223 ?_
                    refine zg_istore (lv' := [(10, .int (jI (((12 * pn) + k) - 1))), (9, .int (jI 4096)), (8, .int (jI (τ 11 (((12 * pn) + k) - 1).toNat))), (7, .int (jI 1)), (0, .ref (a 0)), (1, .int (jI x)), (2, .int (jI cn)), (3, .int (jI pn)), (5, .int (jI bd)), (6, .int (jI k))]) C dX5_findsPath_224 hl (by decide) rfl (fun ls hl => ?_)
                    refine zg_aload_n C dX5_findsPath_226 rfl (lv_at hl 4 rfl) ?_
                    refine zg_aload_n C dX5_findsPath_227 rfl (lv_at hl 4 rfl) ?_
                    refine zg_get (j := 12) C X hP (by decide) lyM_0 rfl (zmem uwX5) (by decide) (C.tb flX5_45) (fun _ h9 => h9) rfl dX5_findsPath_228 ?_
                    refine zg_iload C dX5_findsPath_231 (lv_at hl 0 rfl) ?_
                    refine zg_iald (t0 := 0) C X hP (by decide) lyM_11 rfl (by decide) (by omega) (by omega) dX5_findsPath_233 ?_
                    have b_341 := rgM_11 hτ ((((12 * pn) + k) - 1).toNat)
                    refine zg_aload_n C dX5_findsPath_234 rfl (lv_at hl 4 rfl) ?_
                    refine zg_get (j := 13) C X hP (by decide) lyM_0 rfl (zmem uwX5) (by decide) (C.tb flX5_48) (fun _ h9 => h9) rfl dX5_findsPath_235 ?_
                    refine zg_iload C dX5_findsPath_238 (lv_at hl 0 rfl) ?_
                    refine zg_iald (t0 := 0) C X hP (by decide) lyM_12 rfl (by decide) (by omega) (by omega) dX5_findsPath_240 ?_
                    have b_342 := rgM_12 hτ ((((12 * pn) + k) - 1).toNat)
                    refine zg_aload_n C dX5_findsPath_241 rfl (lv_at hl 4 rfl) ?_
                    refine zg_get (j := 14) C X hP (by decide) lyM_0 rfl (zmem uwX5) (by decide) (C.tb flX5_51) (fun _ h9 => h9) rfl dX5_findsPath_242 ?_
                    refine zg_iload C dX5_findsPath_245 (lv_at hl 0 rfl) ?_
                    refine zg_iald (t0 := 0) C X hP (by decide) lyM_13 rfl (by decide) (by omega) (by omega) dX5_findsPath_247 ?_
                    have b_343 := rgM_13 hτ ((((12 * pn) + k) - 1).toNat)
                    refine zg_callVv C X hP hS (kX5_level l τ hτ (τ 11 (((12 * pn) + k) - 1).toNat) (τ 12 (((12 * pn) + k) - 1).toNat) (τ 13 (((12 * pn) + k) - 1).toNat) (by omega) (by omega) (by omega) (by omega) (by omega) (by omega) (by omega)) (cwV 3 C.ts (zgV mlX5_121 imX5_level slX5_level iniX5 cdX5_level) rfl rfl rfl (by decide +kernel) ⟨Nat.le_of_ble_eq_true rfl, Nat.le_of_ble_eq_true rfl⟩) (by decide) lyM_0 rfl rfl rfl hl.1 rfl (Nat.le_of_ble_eq_true rfl) dX5_findsPath_248 ⟨Nat.zero_le _, Nat.zero_le _⟩ (fun σ344 H locs q346 hP hS => ?_)
                    have hR347 : rgM σ344 := by rw [q346]; exact mLev_rg hτ (by omega) (by omega) (by omega) (by omega) (by omega) (by omega) (by omega)
                    have hM348 : RR κ σ344 := by rw [q346]; exact RR_lev hM2
                    have hl2 : mHas σ344 (zu ρ 12 (κ 1 10 * 12 + k - 1).toNat (kLevel κ pn k)) (κ 1 10) (k + 1) := by rw [q346]; exact mHas_lev bT.1 k0 hmh rfl rfl rfl hd ((rr_lev hM2 (by omega) (by omega) (by omega) (by omega)).symm)
                    have hd2 : σ344 0 32 = k + 1 - 1 := by rw [q346, mLev_32]; omega
                    refine zg_iload C dX5_findsPath_251 (lv_at hl 8 rfl) ?_
                    refine zg_iconst C dX5_findsPath_253 ?_
                    refine zg_icmp_eq (tgt := 273) C (by omega) (by omega) (by omega) (by omega) dX5_findsPath_254 (by decide) (fun c_349 => ?_) (fun c_349 => ?_)
                    · refine zg_iload C dX5_findsPath_273 (lv_at hl 8 rfl) ?_
                      refine zg_istore (lv' := [(5, .int (jI bd)), (10, .int (jI (((12 * pn) + k) - 1))), (9, .int (jI 4096)), (8, .int (jI (τ 11 (((12 * pn) + k) - 1).toNat))), (7, .int (jI 1)), (0, .ref (a 0)), (1, .int (jI x)), (2, .int (jI cn)), (3, .int (jI pn)), (6, .int (jI k))]) C dX5_findsPath_275 hl (by decide) rfl (fun ls hl => ?_)
                      have hst := kFind_st (r := x.toNat) (b' := bd) bT.1 hto bp.1 bp.2 b0 b1 k0 (by omega) (by omega) (N := kLevel κ pn k) (inner_p hG p0 (by omega) k0 (by omega)) (by first | (rw [if_pos (of_decide_eq_true ((mIsLev_is hM348 hR347 (by omega) (by omega) (by omega) (by omega) (by omega) (by omega)).symm.trans (by assumption)))]; done) | (rw [if_neg (of_decide_eq_false ((mIsLev_is hM348 hR347 (by omega) (by omega) (by omega) (by omega) (by omega) (by omega)).symm.trans (by assumption)))]; done) | (split <;> omega))
                      refine zg_goto (tgt := 334) C dX5_findsPath_277 (by decide) ?_
                      refine zg_iinc (k := 9) (lv' := [(6, .int (jI (k + 1))), (5, .int (jI bd)), (10, .int (jI (((12 * pn) + k) - 1))), (9, .int (jI 4096)), (8, .int (jI (τ 11 (((12 * pn) + k) - 1).toNat))), (7, .int (jI 1)), (0, .ref (a 0)), (1, .int (jI x)), (2, .int (jI cn)), (3, .int (jI pn))]) C dX5_findsPath_334 hl rfl (by decide) rfl (fun ls hl => ?_)
                      refine zg_goto (tgt := 12) C dX5_findsPath_337 (by decide) ?_
                      exact ih bd (k + 1) σ344 _ _ _ _ (by omega) hR347 hM348 (by omega) (by omega) (by omega) (by omega) hd2 (hE.trans hst.1) hst.2 hl2 hP hS (lv_sub hl [6, 7, 8, 9, 1, 0] rfl)
                    · refine zg_aload_n C dX5_findsPath_257 rfl (lv_at hl 4 rfl) ?_
                      refine zg_iload_n C dX5_findsPath_258 rfl (lv_at hl 7 rfl) ?_
                      refine zg_iload C dX5_findsPath_259 (lv_at hl 9 rfl) ?_
                      refine zg_iload C dX5_findsPath_261 (lv_at hl 8 rfl) ?_
                      refine zg_callV C X hP hS (kX5_isLevel l σ344 hR347 pn k bd (by omega) (by omega) (by omega) (by omega) (by omega) (by omega)) (cwV 3 C.ts (zgV mlX5_125 imX5_isLevel slX5_isLevel iniX5 cdX5_isLevel) rfl rfl rfl (by decide +kernel) ⟨Nat.le_of_ble_eq_true rfl, Nat.le_of_ble_eq_true rfl⟩) (by decide) lyM_0 rfl rfl rfl hl.1 rfl (Nat.le_of_ble_eq_true rfl) dX5_findsPath_263 ⟨Nat.zero_le _, Nat.zero_le _⟩ (fun r_351 σ350 H locs q352 hP hS => ?_)
                      obtain ⟨rfl, q352⟩ := q352
                      rw [q352] at hP
                      refine zg_ifneB (tgt := 273) C dX5_findsPath_266 (by decide) (fun c_353 => ?_) (fun c_353 => ?_)
                      · refine zg_iload C dX5_findsPath_273 (lv_at hl 8 rfl) ?_
                        refine zg_istore (lv' := [(5, .int (jI bd)), (10, .int (jI (((12 * pn) + k) - 1))), (9, .int (jI 4096)), (8, .int (jI (τ 11 (((12 * pn) + k) - 1).toNat))), (7, .int (jI 1)), (0, .ref (a 0)), (1, .int (jI x)), (2, .int (jI cn)), (3, .int (jI pn)), (6, .int (jI k))]) C dX5_findsPath_275 hl (by decide) rfl (fun ls hl => ?_)
                        have hst := kFind_st (r := x.toNat) (b' := bd) bT.1 hto bp.1 bp.2 b0 b1 k0 (by omega) (by omega) (N := kLevel κ pn k) (inner_p hG p0 (by omega) k0 (by omega)) (by first | (rw [if_pos (of_decide_eq_true ((mIsLev_is hM348 hR347 (by omega) (by omega) (by omega) (by omega) (by omega) (by omega)).symm.trans (by assumption)))]; done) | (rw [if_neg (of_decide_eq_false ((mIsLev_is hM348 hR347 (by omega) (by omega) (by omega) (by omega) (by omega) (by omega)).symm.trans (by assumption)))]; done) | (split <;> omega))
                        refine zg_goto (tgt := 334) C dX5_findsPath_277 (by decide) ?_
                        refine zg_iinc (k := 9) (lv' := [(6, .int (jI (k + 1))), (5, .int (jI bd)), (10, .int (jI (((12 * pn) + k) - 1))), (9, .int (jI 4096)), (8, .int (jI (τ 11 (((12 * pn) + k) - 1).toNat))), (7, .int (jI 1)), (0, .ref (a 0)), (1, .int (jI x)), (2, .int (jI cn)), (3, .int (jI pn))]) C dX5_findsPath_334 hl rfl (by decide) rfl (fun ls hl => ?_)
                        refine zg_goto (tgt := 12) C dX5_findsPath_337 (by decide) ?_
                        exact ih bd (k + 1) σ344 _ _ _ _ (by omega) hR347 hM348 (by omega) (by omega) (by omega) (by omega) hd2 (hE.trans hst.1) hst.2 hl2 hP hS (lv_sub hl [6, 7, 8, 9, 1, 0] rfl)
                      · refine zg_iconst C dX5_findsPath_269 ?_
                        refine zg_goto (tgt := 275) C dX5_findsPath_270 (by decide) ?_
                        refine zg_istore (lv' := [(5, .int (jI (-1))), (10, .int (jI (((12 * pn) + k) - 1))), (9, .int (jI 4096)), (8, .int (jI (τ 11 (((12 * pn) + k) - 1).toNat))), (7, .int (jI 1)), (0, .ref (a 0)), (1, .int (jI x)), (2, .int (jI cn)), (3, .int (jI pn)), (6, .int (jI k))]) C dX5_findsPath_275 hl (by decide) rfl (fun ls hl => ?_)
                        have hst := kFind_st (r := x.toNat) (b' := (-1)) bT.1 hto bp.1 bp.2 b0 b1 k0 (by omega) (by omega) (N := kLevel κ pn k) (inner_p hG p0 (by omega) k0 (by omega)) (by first | (rw [if_pos (of_decide_eq_true ((mIsLev_is hM348 hR347 (by omega) (by omega) (by omega) (by omega) (by omega) (by omega)).symm.trans (by assumption)))]; done) | (rw [if_neg (of_decide_eq_false ((mIsLev_is hM348 hR347 (by omega) (by omega) (by omega) (by omega) (by omega) (by omega)).symm.trans (by assumption)))]; done) | (split <;> omega))
                        refine zg_goto (tgt := 334) C dX5_findsPath_277 (by decide) ?_
                        refine zg_iinc (k := 9) (lv' := [(6, .int (jI (k + 1))), (5, .int (jI (-1))), (10, .int (jI (((12 * pn) + k) - 1))), (9, .int (jI 4096)), (8, .int (jI (τ 11 (((12 * pn) + k) - 1).toNat))), (7, .int (jI 1)), (0, .ref (a 0)), (1, .int (jI x)), (2, .int (jI cn)), (3, .int (jI pn))]) C dX5_findsPath_334 hl rfl (by decide) rfl (fun ls hl => ?_)
                        refine zg_goto (tgt := 12) C dX5_findsPath_337 (by decide) ?_
                        exact ih (-1) (k + 1) σ344 _ _ _ _ (by omega) hR347 hM348 (by omega) (by omega) (by omega) (by omega) hd2 (hE.trans hst.1) hst.2 hl2 hP hS (lv_sub hl [6, 7, 8, 9, 1, 0] rfl)
                · refine zg_aload_n C dX5_findsPath_121 rfl (lv_at hl 3 rfl) ?_
                  refine zg_get (j := 23) C X hP (by decide) lyM_0 rfl (zmem uwX5) (by decide) (C.tb flX5_75) (fun _ h9 => h9) rfl dX5_findsPath_122 ?_
                  refine zg_iload_n C dX5_findsPath_125 rfl (lv_at hl 4 rfl) ?_
                  refine zg_aload_n C dX5_findsPath_126 rfl (lv_at hl 3 rfl) ?_
                  refine zg_get (j := 23) C X hP (by decide) lyM_0 rfl (zmem uwX5) (by decide) (C.tb flX5_75) (fun _ h9 => h9) rfl dX5_findsPath_127 ?_
                  refine zg_iload_n C dX5_findsPath_130 rfl (lv_at hl 4 rfl) ?_
                  refine zg_iald (t0 := 0) C X hP (by decide) lyM_21 rfl (by decide) (by omega) (by omega) dX5_findsPath_131 ?_
                  rw [rr_21 hM2 (x := x) (by omega) (by omega)]
                  refine zg_ldc (v := 1664525) C (C.tb knX5_119) rfl dX5_findsPath_132 ?_
                  refine zg_imul C dX5_findsPath_134 ?_
                  refine zg_ldc (v := 1013904223) C (C.tb knX5_120) rfl dX5_findsPath_135 ?_
                  refine zg_iadd C dX5_findsPath_137 ?_
                  refine zg_iast (t0 := 0) C X hP hS (by decide) (fun x => lyM_21) rfl (by decide) (by omega) (by omega) dX5_findsPath_138 (fun H locs hP hS => ?_)
                  obtain ⟨σ354, e355⟩ : ∃ z_ : Zt, z_ = zu τ 21 (x).toNat (((κ (20 + 6 * x.toNat) 3) * 1664525) + 1013904223) := ⟨_, rfl⟩
                  rw [← e355] at hP
                  have w_357 : σ354 21 (x).toNat = ((κ (20 + 6 * x.toNat) 3) * 1664525) + 1013904223 := by rw [e355]; exact zu_same _ _ _ _
                  have hR356 : rgM σ354 := by rw [e355]; exact rzM_21 hτ
                  obtain ⟨κ358, eκ358⟩ : ∃ z_ : Zt, z_ = kCoinS κ x.toNat := ⟨_, rfl⟩
                  have hM359 : RR κ358 σ354 := by rw [eκ358, e355]; exact RR_21 hM2 (by omega)
                  have hG360 : kMid κ358 := by rw [eκ358]; exact kMid_str hG (by omega)
                  have hs : κ358 (20 + 6 * x.toNat) 3 = κ (20 + 6 * x.toNat) 3 * 1664525 + 1013904223 := by rw [eκ358]; unfold kCoinS; rw [zu_same]
                  have hκ5 := eκ358
                  refine zg_aload_n C dX5_findsPath_139 rfl (lv_at hl 3 rfl) ?_
                  refine zg_get (j := 23) C X hP (by decide) lyM_0 rfl (zmem uwX5) (by decide) (C.tb flX5_75) (fun _ h9 => h9) rfl dX5_findsPath_140 ?_
                  refine zg_iload_n C dX5_findsPath_143 rfl (lv_at hl 4 rfl) ?_
                  refine zg_iald (t0 := 0) C X hP (by decide) lyM_21 rfl (by decide) (by omega) (by omega) dX5_findsPath_144 ?_
                  rw [rr_21 hM359 (x := x) (by omega) (by omega)]
                  refine zg_bipush C dX5_findsPath_145 (by decide) ?_
                  refine zg_iushr C 16 (by decide) dX5_findsPath_147 ?_
                  refine zg_istore (lv' := [(10, .int (jI ((κ358 (20 + 6 * x.toNat) 3) % 4294967296 / 2 ^ 16))), (9, .int (jI 4096)), (8, .int (jI (τ 11 (((12 * pn) + k) - 1).toNat))), (7, .int (jI 1)), (0, .ref (a 0)), (1, .int (jI x)), (2, .int (jI cn)), (3, .int (jI pn)), (5, .int (jI bd)), (6, .int (jI k))]) C dX5_findsPath_148 hl (by decide) rfl (fun ls hl => ?_)
                  refine zg_iconst C dX5_findsPath_150 ?_
                  refine zg_iload C dX5_findsPath_151 (lv_at hl 0 rfl) ?_
                  refine zg_iload C dX5_findsPath_153 (lv_at hl 1 rfl) ?_
                  refine zg_iload C dX5_findsPath_155 (lv_at hl 2 rfl) ?_
                  refine zg_isub C dX5_findsPath_157 ?_
                  refine zg_iconst C dX5_findsPath_158 ?_
                  refine zg_isub C dX5_findsPath_159 ?_
                  refine zg_bipush C dX5_findsPath_160 (by decide) ?_
                  refine zg_icmp_ge (tgt := 175) C (by omega) (by omega) (by omega) (by omega) dX5_findsPath_162 (by decide) (fun c_361 => ?_) (fun c_361 => ?_)
                  · refine zg_bipush C dX5_findsPath_175 (by decide) ?_
                    refine zg_irem C (by omega) (by omega) (by omega) (by omega) dX5_findsPath_177 ?_
                    refine zg_iadd C dX5_findsPath_178 ?_
                    refine zg_istore (lv' := [(11, .int (jI (1 + (((κ358 (20 + 6 * x.toNat) 3) % 4294967296 / 2 ^ 16) % 10)))), (10, .int (jI ((κ358 (20 + 6 * x.toNat) 3) % 4294967296 / 2 ^ 16))), (9, .int (jI 4096)), (8, .int (jI (τ 11 (((12 * pn) + k) - 1).toNat))), (7, .int (jI 1)), (0, .ref (a 0)), (1, .int (jI x)), (2, .int (jI cn)), (3, .int (jI pn)), (5, .int (jI bd)), (6, .int (jI k))]) C dX5_findsPath_179 hl (by decide) rfl (fun ls hl => ?_)
                    refine zg_aload_n C dX5_findsPath_181 rfl (lv_at hl 5 rfl) ?_
                    refine zg_iload C dX5_findsPath_182 (lv_at hl 10 rfl) ?_
                    refine zg_iconst C dX5_findsPath_184 ?_
                    refine zg_irem C (by omega) (by omega) (by omega) (by omega) dX5_findsPath_185 ?_
                    refine zg_iconst C dX5_findsPath_186 ?_
                    refine zg_icmp_ne (tgt := 198) C (by omega) (by omega) (by omega) (by omega) dX5_findsPath_187 (by decide) (fun c_362 => ?_) (fun c_362 => ?_)
                    · refine zg_iload C dX5_findsPath_198 (lv_at hl 2 rfl) ?_
                      refine zg_iload C dX5_findsPath_200 (lv_at hl 0 rfl) ?_
                      refine zg_isub C dX5_findsPath_202 ?_
                      refine zg_iload_n C dX5_findsPath_203 rfl (lv_at hl 6 rfl) ?_
                      refine zg_iload_n C dX5_findsPath_204 rfl (lv_at hl 7 rfl) ?_
                      have hD : kLastD k (kDigit (kLevel κ pn k)) (kHigh κ bd k) (kCoin κ x.toNat) = (4096 - (1 + (((κ358 (20 + 6 * x.toNat) 3) % 4294967296 / 2 ^ 16) % 10))) := by rw [lastD_is hs, hL, hH]; first | (rw [if_pos (by omega), if_pos (by omega)]; done) | (rw [if_pos (by omega), if_neg (by omega)]; done) | (rw [if_neg (by omega), if_pos (by omega)]; done) | (rw [if_neg (by omega), if_neg (by omega)]; done)
                      have hDr := kLastD_rg (k := k) (lo := kDigit (kLevel κ pn k)) (hi := kHigh κ bd k) (co := kCoin κ x.toNat) (by omega) (by omega) (by omega) (kCoin_rg κ x.toNat).1
                      have hd5 : σ354 0 32 = k - 1 := by rw [e355, zu_ne (by decide)]; exact hd
                      have h25 : σ354 25 = τ 25 := by rw [e355, zu_ne (by decide)]
                      have h26 : σ354 26 = τ 26 := by rw [e355, zu_ne (by decide)]
                      have h27 : σ354 27 = τ 27 := by rw [e355, zu_ne (by decide)]
                      have hM5 := hM359
                      refine zg_callVv C X hP hS (kX5_level l σ354 hR356 (4096 - (1 + (((κ358 (20 + 6 * x.toNat) 3) % 4294967296 / 2 ^ 16) % 10))) x cn (by omega) (by omega) (by omega) (by omega) (by omega) (by omega) (by omega)) (cwV 3 C.ts (zgV mlX5_121 imX5_level slX5_level iniX5 cdX5_level) rfl rfl rfl (by decide +kernel) ⟨Nat.le_of_ble_eq_true rfl, Nat.le_of_ble_eq_true rfl⟩) (by decide) lyM_0 rfl rfl rfl hl.1 rfl (Nat.le_of_ble_eq_true rfl) dX5_findsPath_205 ⟨Nat.zero_le _, Nat.zero_le _⟩ (fun σ363 H locs q365 hP hS => ?_)
                      have hR366 : rgM σ363 := by rw [q365]; exact mLev_rg hR356 (by omega) (by omega) (by omega) (by omega) (by omega) (by omega) (by omega)
                      have hM367 : RR κ358 σ363 := by rw [q365]; exact RR_lev hM359
                      refine zg_iconst C dX5_findsPath_208 ?_
                      refine zg_zret (b := true) C hP hS dX5_findsPath_209 ?_
                      have h9 := fp_hit (x := x) (c := cn) (r := x.toNat) (Int.toNat_of_nonneg x0) cn0 bT.1 hE hto bp.1 bp.2 b0 b1 k0 (by omega) (by omega) hmh h25 h26 h27 hd5 hD (by rw [← hκ5]; exact hM5)
                      exact ⟨congrArg (fun b => jI (bI b)) h9.1, hR366, by rw [q365]; exact h9.2⟩
                    · refine zg_iload C dX5_findsPath_190 (lv_at hl 3 rfl) ?_
                      refine zg_iload C dX5_findsPath_192 (lv_at hl 0 rfl) ?_
                      refine zg_iadd C dX5_findsPath_194 ?_
                      refine zg_goto (tgt := 203) C dX5_findsPath_195 (by decide) ?_
                      refine zg_iload_n C dX5_findsPath_203 rfl (lv_at hl 6 rfl) ?_
                      refine zg_iload_n C dX5_findsPath_204 rfl (lv_at hl 7 rfl) ?_
                      have hD : kLastD k (kDigit (kLevel κ pn k)) (kHigh κ bd k) (kCoin κ x.toNat) = ((τ 11 (((12 * pn) + k) - 1).toNat) + (1 + (((κ358 (20 + 6 * x.toNat) 3) % 4294967296 / 2 ^ 16) % 10))) := by rw [lastD_is hs, hL, hH]; first | (rw [if_pos (by omega), if_pos (by omega)]; done) | (rw [if_pos (by omega), if_neg (by omega)]; done) | (rw [if_neg (by omega), if_pos (by omega)]; done) | (rw [if_neg (by omega), if_neg (by omega)]; done)
                      have hDr := kLastD_rg (k := k) (lo := kDigit (kLevel κ pn k)) (hi := kHigh κ bd k) (co := kCoin κ x.toNat) (by omega) (by omega) (by omega) (kCoin_rg κ x.toNat).1
                      have hd5 : σ354 0 32 = k - 1 := by rw [e355, zu_ne (by decide)]; exact hd
                      have h25 : σ354 25 = τ 25 := by rw [e355, zu_ne (by decide)]
                      have h26 : σ354 26 = τ 26 := by rw [e355, zu_ne (by decide)]
                      have h27 : σ354 27 = τ 27 := by rw [e355, zu_ne (by decide)]
                      have hM5 := hM359
                      refine zg_callVv C X hP hS (kX5_level l σ354 hR356 ((τ 11 (((12 * pn) + k) - 1).toNat) + (1 + (((κ358 (20 + 6 * x.toNat) 3) % 4294967296 / 2 ^ 16) % 10))) x cn (by omega) (by omega) (by omega) (by omega) (by omega) (by omega) (by omega)) (cwV 3 C.ts (zgV mlX5_121 imX5_level slX5_level iniX5 cdX5_level) rfl rfl rfl (by decide +kernel) ⟨Nat.le_of_ble_eq_true rfl, Nat.le_of_ble_eq_true rfl⟩) (by decide) lyM_0 rfl rfl rfl hl.1 rfl (Nat.le_of_ble_eq_true rfl) dX5_findsPath_205 ⟨Nat.zero_le _, Nat.zero_le _⟩ (fun σ368 H locs q370 hP hS => ?_)
                      have hR371 : rgM σ368 := by rw [q370]; exact mLev_rg hR356 (by omega) (by omega) (by omega) (by omega) (by omega) (by omega) (by omega)
                      have hM372 : RR κ358 σ368 := by rw [q370]; exact RR_lev hM359
                      refine zg_iconst C dX5_findsPath_208 ?_
                      refine zg_zret (b := true) C hP hS dX5_findsPath_209 ?_
                      have h9 := fp_hit (x := x) (c := cn) (r := x.toNat) (Int.toNat_of_nonneg x0) cn0 bT.1 hE hto bp.1 bp.2 b0 b1 k0 (by omega) (by omega) hmh h25 h26 h27 hd5 hD (by rw [← hκ5]; exact hM5)
                      exact ⟨congrArg (fun b => jI (bI b)) h9.1, hR371, by rw [q370]; exact h9.2⟩
                  · refine zg_iload C dX5_findsPath_165 (lv_at hl 1 rfl) ?_
                    refine zg_iload C dX5_findsPath_167 (lv_at hl 2 rfl) ?_
                    refine zg_isub C dX5_findsPath_169 ?_
                    refine zg_iconst C dX5_findsPath_170 ?_
                    refine zg_isub C dX5_findsPath_171 ?_
                    refine zg_goto (tgt := 177) C dX5_findsPath_172 (by decide) ?_
                    refine zg_irem C (by omega) (by omega) (by omega) (by omega) dX5_findsPath_177 ?_
                    refine zg_iadd C dX5_findsPath_178 ?_
                    refine zg_istore (lv' := [(11, .int (jI (1 + (((κ358 (20 + 6 * x.toNat) 3) % 4294967296 / 2 ^ 16) % ((4096 - (τ 11 (((12 * pn) + k) - 1).toNat)) - 1))))), (10, .int (jI ((κ358 (20 + 6 * x.toNat) 3) % 4294967296 / 2 ^ 16))), (9, .int (jI 4096)), (8, .int (jI (τ 11 (((12 * pn) + k) - 1).toNat))), (7, .int (jI 1)), (0, .ref (a 0)), (1, .int (jI x)), (2, .int (jI cn)), (3, .int (jI pn)), (5, .int (jI bd)), (6, .int (jI k))]) C dX5_findsPath_179 hl (by decide) rfl (fun ls hl => ?_)
                    refine zg_aload_n C dX5_findsPath_181 rfl (lv_at hl 5 rfl) ?_
                    refine zg_iload C dX5_findsPath_182 (lv_at hl 10 rfl) ?_
                    refine zg_iconst C dX5_findsPath_184 ?_
                    refine zg_irem C (by omega) (by omega) (by omega) (by omega) dX5_findsPath_185 ?_
                    refine zg_iconst C dX5_findsPath_186 ?_
                    refine zg_icmp_ne (tgt := 198) C (by omega) (by omega) (by omega) (by omega) dX5_findsPath_187 (by decide) (fun c_373 => ?_) (fun c_373 => ?_)
                    · refine zg_iload C dX5_findsPath_198 (lv_at hl 2 rfl) ?_
                      refine zg_iload C dX5_findsPath_200 (lv_at hl 0 rfl) ?_
                      refine zg_isub C dX5_findsPath_202 ?_
                      refine zg_iload_n C dX5_findsPath_203 rfl (lv_at hl 6 rfl) ?_
                      refine zg_iload_n C dX5_findsPath_204 rfl (lv_at hl 7 rfl) ?_
                      have hD : kLastD k (kDigit (kLevel κ pn k)) (kHigh κ bd k) (kCoin κ x.toNat) = (4096 - (1 + (((κ358 (20 + 6 * x.toNat) 3) % 4294967296 / 2 ^ 16) % ((4096 - (τ 11 (((12 * pn) + k) - 1).toNat)) - 1)))) := by rw [lastD_is hs, hL, hH]; first | (rw [if_pos (by omega), if_pos (by omega)]; done) | (rw [if_pos (by omega), if_neg (by omega)]; done) | (rw [if_neg (by omega), if_pos (by omega)]; done) | (rw [if_neg (by omega), if_neg (by omega)]; done)
                      have hDr := kLastD_rg (k := k) (lo := kDigit (kLevel κ pn k)) (hi := kHigh κ bd k) (co := kCoin κ x.toNat) (by omega) (by omega) (by omega) (kCoin_rg κ x.toNat).1
                      have hd5 : σ354 0 32 = k - 1 := by rw [e355, zu_ne (by decide)]; exact hd
                      have h25 : σ354 25 = τ 25 := by rw [e355, zu_ne (by decide)]
                      have h26 : σ354 26 = τ 26 := by rw [e355, zu_ne (by decide)]
                      have h27 : σ354 27 = τ 27 := by rw [e355, zu_ne (by decide)]
                      have hM5 := hM359
                      refine zg_callVv C X hP hS (kX5_level l σ354 hR356 (4096 - (1 + (((κ358 (20 + 6 * x.toNat) 3) % 4294967296 / 2 ^ 16) % ((4096 - (τ 11 (((12 * pn) + k) - 1).toNat)) - 1)))) x cn (by omega) (by omega) (by omega) (by omega) (by omega) (by omega) (by omega)) (cwV 3 C.ts (zgV mlX5_121 imX5_level slX5_level iniX5 cdX5_level) rfl rfl rfl (by decide +kernel) ⟨Nat.le_of_ble_eq_true rfl, Nat.le_of_ble_eq_true rfl⟩) (by decide) lyM_0 rfl rfl rfl hl.1 rfl (Nat.le_of_ble_eq_true rfl) dX5_findsPath_205 ⟨Nat.zero_le _, Nat.zero_le _⟩ (fun σ374 H locs q376 hP hS => ?_)
                      have hR377 : rgM σ374 := by rw [q376]; exact mLev_rg hR356 (by omega) (by omega) (by omega) (by omega) (by omega) (by omega) (by omega)
                      have hM378 : RR κ358 σ374 := by rw [q376]; exact RR_lev hM359
                      refine zg_iconst C dX5_findsPath_208 ?_
                      refine zg_zret (b := true) C hP hS dX5_findsPath_209 ?_
                      have h9 := fp_hit (x := x) (c := cn) (r := x.toNat) (Int.toNat_of_nonneg x0) cn0 bT.1 hE hto bp.1 bp.2 b0 b1 k0 (by omega) (by omega) hmh h25 h26 h27 hd5 hD (by rw [← hκ5]; exact hM5)
                      exact ⟨congrArg (fun b => jI (bI b)) h9.1, hR377, by rw [q376]; exact h9.2⟩
                    · refine zg_iload C dX5_findsPath_190 (lv_at hl 3 rfl) ?_
                      refine zg_iload C dX5_findsPath_192 (lv_at hl 0 rfl) ?_
                      refine zg_iadd C dX5_findsPath_194 ?_
                      refine zg_goto (tgt := 203) C dX5_findsPath_195 (by decide) ?_
                      refine zg_iload_n C dX5_findsPath_203 rfl (lv_at hl 6 rfl) ?_
                      refine zg_iload_n C dX5_findsPath_204 rfl (lv_at hl 7 rfl) ?_
                      have hD : kLastD k (kDigit (kLevel κ pn k)) (kHigh κ bd k) (kCoin κ x.toNat) = ((τ 11 (((12 * pn) + k) - 1).toNat) + (1 + (((κ358 (20 + 6 * x.toNat) 3) % 4294967296 / 2 ^ 16) % ((4096 - (τ 11 (((12 * pn) + k) - 1).toNat)) - 1)))) := by rw [lastD_is hs, hL, hH]; first | (rw [if_pos (by omega), if_pos (by omega)]; done) | (rw [if_pos (by omega), if_neg (by omega)]; done) | (rw [if_neg (by omega), if_pos (by omega)]; done) | (rw [if_neg (by omega), if_neg (by omega)]; done)
                      have hDr := kLastD_rg (k := k) (lo := kDigit (kLevel κ pn k)) (hi := kHigh κ bd k) (co := kCoin κ x.toNat) (by omega) (by omega) (by omega) (kCoin_rg κ x.toNat).1
                      have hd5 : σ354 0 32 = k - 1 := by rw [e355, zu_ne (by decide)]; exact hd
                      have h25 : σ354 25 = τ 25 := by rw [e355, zu_ne (by decide)]
                      have h26 : σ354 26 = τ 26 := by rw [e355, zu_ne (by decide)]
                      have h27 : σ354 27 = τ 27 := by rw [e355, zu_ne (by decide)]
                      have hM5 := hM359
                      refine zg_callVv C X hP hS (kX5_level l σ354 hR356 ((τ 11 (((12 * pn) + k) - 1).toNat) + (1 + (((κ358 (20 + 6 * x.toNat) 3) % 4294967296 / 2 ^ 16) % ((4096 - (τ 11 (((12 * pn) + k) - 1).toNat)) - 1)))) x cn (by omega) (by omega) (by omega) (by omega) (by omega) (by omega) (by omega)) (cwV 3 C.ts (zgV mlX5_121 imX5_level slX5_level iniX5 cdX5_level) rfl rfl rfl (by decide +kernel) ⟨Nat.le_of_ble_eq_true rfl, Nat.le_of_ble_eq_true rfl⟩) (by decide) lyM_0 rfl rfl rfl hl.1 rfl (Nat.le_of_ble_eq_true rfl) dX5_findsPath_205 ⟨Nat.zero_le _, Nat.zero_le _⟩ (fun σ379 H locs q381 hP hS => ?_)
                      have hR382 : rgM σ379 := by rw [q381]; exact mLev_rg hR356 (by omega) (by omega) (by omega) (by omega) (by omega) (by omega) (by omega)
                      have hM383 : RR κ358 σ379 := by rw [q381]; exact RR_lev hM359
                      refine zg_iconst C dX5_findsPath_208 ?_
                      refine zg_zret (b := true) C hP hS dX5_findsPath_209 ?_
                      have h9 := fp_hit (x := x) (c := cn) (r := x.toNat) (Int.toNat_of_nonneg x0) cn0 bT.1 hE hto bp.1 bp.2 b0 b1 k0 (by omega) (by omega) hmh h25 h26 h27 hd5 hD (by rw [← hκ5]; exact hM5)
                      exact ⟨congrArg (fun b => jI (bI b)) h9.1, hR382, by rw [q381]; exact h9.2⟩
            · refine zg_aload_n C dX5_findsPath_73 rfl (lv_at hl 2 rfl) ?_
              refine zg_get (j := 12) C X hP (by decide) lyM_0 rfl (zmem uwX5) (by decide) (C.tb flX5_45) (fun _ h9 => h9) rfl dX5_findsPath_74 ?_
              refine zg_bipush C dX5_findsPath_77 (by decide) ?_
              refine zg_iload C dX5_findsPath_79 (lv_at hl 6 rfl) ?_
              refine zg_imul C dX5_findsPath_81 ?_
              refine zg_iload C dX5_findsPath_82 (lv_at hl 7 rfl) ?_
              refine zg_iadd C dX5_findsPath_84 ?_
              refine zg_iconst C dX5_findsPath_85 ?_
              refine zg_isub C dX5_findsPath_86 ?_
              refine zg_iald (t0 := 0) C X hP (by decide) lyM_11 rfl (by decide) (by omega) (by omega) dX5_findsPath_87 ?_
              have b_384 := rgM_11 hτ ((((12 * bd) + k) - 1).toNat)
              refine zg_goto (tgt := 110) C dX5_findsPath_88 (by decide) ?_
              refine zg_istore (lv' := [(9, .int (jI (τ 11 (((12 * bd) + k) - 1).toNat))), (8, .int (jI (τ 11 (((12 * pn) + k) - 1).toNat))), (7, .int (jI 1)), (0, .ref (a 0)), (1, .int (jI x)), (2, .int (jI cn)), (3, .int (jI pn)), (5, .int (jI bd)), (6, .int (jI k))]) C dX5_findsPath_110 hl (by decide) rfl (fun ls hl => ?_)
              have hH : kHigh κ bd k = (τ 11 (((12 * bd) + k) - 1).toNat) := by first | exact (kHigh_b (by assumption)).trans (rr_lev3 hM2 hτ (by omega) (by omega) (by omega) (by omega)).1 | exact (kHigh_8 (by assumption) k0 (by omega)).trans (if_pos (by omega)) | exact (kHigh_8 (by assumption) k0 (by omega)).trans (if_neg (by omega))
              have hH16 : bd = -1 → 16 ≤ kHigh κ bd k := fun e => kHigh_16 e k0 (by omega)
              have hHr := kHigh_rg hG.1 (b := bd) (k := k) k0 (by omega)
              have hLr := kDigit_rg (kLevel_rg hG.1 pn k).1 (kLevel_rg hG.1 pn k).2
              refine zg_iload C dX5_findsPath_112 (lv_at hl 0 rfl) ?_
              refine zg_iload C dX5_findsPath_114 (lv_at hl 1 rfl) ?_
              refine zg_isub C dX5_findsPath_116 ?_
              refine zg_iconst C dX5_findsPath_117 ?_
              refine zg_icmp_le (tgt := 210) C (by omega) (by omega) (by omega) (by omega) dX5_findsPath_118 (by decide) (fun c_385 => ?_) (fun c_385 => ?_)
              · refine zg_iload C dX5_findsPath_210 (lv_at hl 2 rfl) ?_
                refine zg_if_eq (tgt := 280) C (by omega) (by omega) dX5_findsPath_212 (by decide) (fun c_386 => ?_) (fun c_386 => ?_)
                · exact absurd c_386 (by decide)
                · refine zg_bipush C dX5_findsPath_215 (by decide) ?_
                  refine zg_iload_n C dX5_findsPath_217 rfl (lv_at hl 6 rfl) ?_
                  refine zg_imul C dX5_findsPath_218 ?_
                  refine zg_iload C dX5_findsPath_219 (lv_at hl 8 rfl) ?_
                  refine zg_iadd C dX5_findsPath_221 ?_
                  refine zg_iconst C dX5_findsPath_222 ?_
                  refine zg_isub C dX5_findsPath_223 ?_
                  refine zg_istore (lv' := [(10, .int (jI (((12 * pn) + k) - 1))), (9, .int (jI (τ 11 (((12 * bd) + k) - 1).toNat))), (8, .int (jI (τ 11 (((12 * pn) + k) - 1).toNat))), (7, .int (jI 1)), (0, .ref (a 0)), (1, .int (jI x)), (2, .int (jI cn)), (3, .int (jI pn)), (5, .int (jI bd)), (6, .int (jI k))]) C dX5_findsPath_224 hl (by decide) rfl (fun ls hl => ?_)
                  refine zg_aload_n C dX5_findsPath_226 rfl (lv_at hl 4 rfl) ?_
                  refine zg_aload_n C dX5_findsPath_227 rfl (lv_at hl 4 rfl) ?_
                  refine zg_get (j := 12) C X hP (by decide) lyM_0 rfl (zmem uwX5) (by decide) (C.tb flX5_45) (fun _ h9 => h9) rfl dX5_findsPath_228 ?_
                  refine zg_iload C dX5_findsPath_231 (lv_at hl 0 rfl) ?_
                  refine zg_iald (t0 := 0) C X hP (by decide) lyM_11 rfl (by decide) (by omega) (by omega) dX5_findsPath_233 ?_
                  have b_387 := rgM_11 hτ ((((12 * pn) + k) - 1).toNat)
                  refine zg_aload_n C dX5_findsPath_234 rfl (lv_at hl 4 rfl) ?_
                  refine zg_get (j := 13) C X hP (by decide) lyM_0 rfl (zmem uwX5) (by decide) (C.tb flX5_48) (fun _ h9 => h9) rfl dX5_findsPath_235 ?_
                  refine zg_iload C dX5_findsPath_238 (lv_at hl 0 rfl) ?_
                  refine zg_iald (t0 := 0) C X hP (by decide) lyM_12 rfl (by decide) (by omega) (by omega) dX5_findsPath_240 ?_
                  have b_388 := rgM_12 hτ ((((12 * pn) + k) - 1).toNat)
                  refine zg_aload_n C dX5_findsPath_241 rfl (lv_at hl 4 rfl) ?_
                  refine zg_get (j := 14) C X hP (by decide) lyM_0 rfl (zmem uwX5) (by decide) (C.tb flX5_51) (fun _ h9 => h9) rfl dX5_findsPath_242 ?_
                  refine zg_iload C dX5_findsPath_245 (lv_at hl 0 rfl) ?_
                  refine zg_iald (t0 := 0) C X hP (by decide) lyM_13 rfl (by decide) (by omega) (by omega) dX5_findsPath_247 ?_
                  have b_389 := rgM_13 hτ ((((12 * pn) + k) - 1).toNat)
                  refine zg_callVv C X hP hS (kX5_level l τ hτ (τ 11 (((12 * pn) + k) - 1).toNat) (τ 12 (((12 * pn) + k) - 1).toNat) (τ 13 (((12 * pn) + k) - 1).toNat) (by omega) (by omega) (by omega) (by omega) (by omega) (by omega) (by omega)) (cwV 3 C.ts (zgV mlX5_121 imX5_level slX5_level iniX5 cdX5_level) rfl rfl rfl (by decide +kernel) ⟨Nat.le_of_ble_eq_true rfl, Nat.le_of_ble_eq_true rfl⟩) (by decide) lyM_0 rfl rfl rfl hl.1 rfl (Nat.le_of_ble_eq_true rfl) dX5_findsPath_248 ⟨Nat.zero_le _, Nat.zero_le _⟩ (fun σ390 H locs q392 hP hS => ?_)
                  have hR393 : rgM σ390 := by rw [q392]; exact mLev_rg hτ (by omega) (by omega) (by omega) (by omega) (by omega) (by omega) (by omega)
                  have hM394 : RR κ σ390 := by rw [q392]; exact RR_lev hM2
                  have hl2 : mHas σ390 (zu ρ 12 (κ 1 10 * 12 + k - 1).toNat (kLevel κ pn k)) (κ 1 10) (k + 1) := by rw [q392]; exact mHas_lev bT.1 k0 hmh rfl rfl rfl hd ((rr_lev hM2 (by omega) (by omega) (by omega) (by omega)).symm)
                  have hd2 : σ390 0 32 = k + 1 - 1 := by rw [q392, mLev_32]; omega
                  refine zg_iload C dX5_findsPath_251 (lv_at hl 8 rfl) ?_
                  refine zg_iconst C dX5_findsPath_253 ?_
                  refine zg_icmp_eq (tgt := 273) C (by omega) (by omega) (by omega) (by omega) dX5_findsPath_254 (by decide) (fun c_395 => ?_) (fun c_395 => ?_)
                  · refine zg_iload C dX5_findsPath_273 (lv_at hl 8 rfl) ?_
                    refine zg_istore (lv' := [(5, .int (jI bd)), (10, .int (jI (((12 * pn) + k) - 1))), (9, .int (jI (τ 11 (((12 * bd) + k) - 1).toNat))), (8, .int (jI (τ 11 (((12 * pn) + k) - 1).toNat))), (7, .int (jI 1)), (0, .ref (a 0)), (1, .int (jI x)), (2, .int (jI cn)), (3, .int (jI pn)), (6, .int (jI k))]) C dX5_findsPath_275 hl (by decide) rfl (fun ls hl => ?_)
                    have hst := kFind_st (r := x.toNat) (b' := bd) bT.1 hto bp.1 bp.2 b0 b1 k0 (by omega) (by omega) (N := kLevel κ pn k) (inner_p hG p0 (by omega) k0 (by omega)) (by first | (rw [if_pos (of_decide_eq_true ((mIsLev_is hM394 hR393 (by omega) (by omega) (by omega) (by omega) (by omega) (by omega)).symm.trans (by assumption)))]; done) | (rw [if_neg (of_decide_eq_false ((mIsLev_is hM394 hR393 (by omega) (by omega) (by omega) (by omega) (by omega) (by omega)).symm.trans (by assumption)))]; done) | (split <;> omega))
                    refine zg_goto (tgt := 334) C dX5_findsPath_277 (by decide) ?_
                    refine zg_iinc (k := 9) (lv' := [(6, .int (jI (k + 1))), (5, .int (jI bd)), (10, .int (jI (((12 * pn) + k) - 1))), (9, .int (jI (τ 11 (((12 * bd) + k) - 1).toNat))), (8, .int (jI (τ 11 (((12 * pn) + k) - 1).toNat))), (7, .int (jI 1)), (0, .ref (a 0)), (1, .int (jI x)), (2, .int (jI cn)), (3, .int (jI pn))]) C dX5_findsPath_334 hl rfl (by decide) rfl (fun ls hl => ?_)
                    refine zg_goto (tgt := 12) C dX5_findsPath_337 (by decide) ?_
                    exact ih bd (k + 1) σ390 _ _ _ _ (by omega) hR393 hM394 (by omega) (by omega) (by omega) (by omega) hd2 (hE.trans hst.1) hst.2 hl2 hP hS (lv_sub hl [6, 7, 8, 9, 1, 0] rfl)
                  · refine zg_aload_n C dX5_findsPath_257 rfl (lv_at hl 4 rfl) ?_
                    refine zg_iload_n C dX5_findsPath_258 rfl (lv_at hl 7 rfl) ?_
                    refine zg_iload C dX5_findsPath_259 (lv_at hl 9 rfl) ?_
                    refine zg_iload C dX5_findsPath_261 (lv_at hl 8 rfl) ?_
                    refine zg_callV C X hP hS (kX5_isLevel l σ390 hR393 pn k bd (by omega) (by omega) (by omega) (by omega) (by omega) (by omega)) (cwV 3 C.ts (zgV mlX5_125 imX5_isLevel slX5_isLevel iniX5 cdX5_isLevel) rfl rfl rfl (by decide +kernel) ⟨Nat.le_of_ble_eq_true rfl, Nat.le_of_ble_eq_true rfl⟩) (by decide) lyM_0 rfl rfl rfl hl.1 rfl (Nat.le_of_ble_eq_true rfl) dX5_findsPath_263 ⟨Nat.zero_le _, Nat.zero_le _⟩ (fun r_397 σ396 H locs q398 hP hS => ?_)
                    obtain ⟨rfl, q398⟩ := q398
                    rw [q398] at hP
                    refine zg_ifneB (tgt := 273) C dX5_findsPath_266 (by decide) (fun c_399 => ?_) (fun c_399 => ?_)
                    · refine zg_iload C dX5_findsPath_273 (lv_at hl 8 rfl) ?_
                      refine zg_istore (lv' := [(5, .int (jI bd)), (10, .int (jI (((12 * pn) + k) - 1))), (9, .int (jI (τ 11 (((12 * bd) + k) - 1).toNat))), (8, .int (jI (τ 11 (((12 * pn) + k) - 1).toNat))), (7, .int (jI 1)), (0, .ref (a 0)), (1, .int (jI x)), (2, .int (jI cn)), (3, .int (jI pn)), (6, .int (jI k))]) C dX5_findsPath_275 hl (by decide) rfl (fun ls hl => ?_)
                      have hst := kFind_st (r := x.toNat) (b' := bd) bT.1 hto bp.1 bp.2 b0 b1 k0 (by omega) (by omega) (N := kLevel κ pn k) (inner_p hG p0 (by omega) k0 (by omega)) (by first | (rw [if_pos (of_decide_eq_true ((mIsLev_is hM394 hR393 (by omega) (by omega) (by omega) (by omega) (by omega) (by omega)).symm.trans (by assumption)))]; done) | (rw [if_neg (of_decide_eq_false ((mIsLev_is hM394 hR393 (by omega) (by omega) (by omega) (by omega) (by omega) (by omega)).symm.trans (by assumption)))]; done) | (split <;> omega))
                      refine zg_goto (tgt := 334) C dX5_findsPath_277 (by decide) ?_
                      refine zg_iinc (k := 9) (lv' := [(6, .int (jI (k + 1))), (5, .int (jI bd)), (10, .int (jI (((12 * pn) + k) - 1))), (9, .int (jI (τ 11 (((12 * bd) + k) - 1).toNat))), (8, .int (jI (τ 11 (((12 * pn) + k) - 1).toNat))), (7, .int (jI 1)), (0, .ref (a 0)), (1, .int (jI x)), (2, .int (jI cn)), (3, .int (jI pn))]) C dX5_findsPath_334 hl rfl (by decide) rfl (fun ls hl => ?_)
                      refine zg_goto (tgt := 12) C dX5_findsPath_337 (by decide) ?_
                      exact ih bd (k + 1) σ390 _ _ _ _ (by omega) hR393 hM394 (by omega) (by omega) (by omega) (by omega) hd2 (hE.trans hst.1) hst.2 hl2 hP hS (lv_sub hl [6, 7, 8, 9, 1, 0] rfl)
                    · refine zg_iconst C dX5_findsPath_269 ?_
                      refine zg_goto (tgt := 275) C dX5_findsPath_270 (by decide) ?_
                      refine zg_istore (lv' := [(5, .int (jI (-1))), (10, .int (jI (((12 * pn) + k) - 1))), (9, .int (jI (τ 11 (((12 * bd) + k) - 1).toNat))), (8, .int (jI (τ 11 (((12 * pn) + k) - 1).toNat))), (7, .int (jI 1)), (0, .ref (a 0)), (1, .int (jI x)), (2, .int (jI cn)), (3, .int (jI pn)), (6, .int (jI k))]) C dX5_findsPath_275 hl (by decide) rfl (fun ls hl => ?_)
                      have hst := kFind_st (r := x.toNat) (b' := (-1)) bT.1 hto bp.1 bp.2 b0 b1 k0 (by omega) (by omega) (N := kLevel κ pn k) (inner_p hG p0 (by omega) k0 (by omega)) (by first | (rw [if_pos (of_decide_eq_true ((mIsLev_is hM394 hR393 (by omega) (by omega) (by omega) (by omega) (by omega) (by omega)).symm.trans (by assumption)))]; done) | (rw [if_neg (of_decide_eq_false ((mIsLev_is hM394 hR393 (by omega) (by omega) (by omega) (by omega) (by omega) (by omega)).symm.trans (by assumption)))]; done) | (split <;> omega))
                      refine zg_goto (tgt := 334) C dX5_findsPath_277 (by decide) ?_
                      refine zg_iinc (k := 9) (lv' := [(6, .int (jI (k + 1))), (5, .int (jI (-1))), (10, .int (jI (((12 * pn) + k) - 1))), (9, .int (jI (τ 11 (((12 * bd) + k) - 1).toNat))), (8, .int (jI (τ 11 (((12 * pn) + k) - 1).toNat))), (7, .int (jI 1)), (0, .ref (a 0)), (1, .int (jI x)), (2, .int (jI cn)), (3, .int (jI pn))]) C dX5_findsPath_334 hl rfl (by decide) rfl (fun ls hl => ?_)
                      refine zg_goto (tgt := 12) C dX5_findsPath_337 (by decide) ?_
                      exact ih (-1) (k + 1) σ390 _ _ _ _ (by omega) hR393 hM394 (by omega) (by omega) (by omega) (by omega) hd2 (hE.trans hst.1) hst.2 hl2 hP hS (lv_sub hl [6, 7, 8, 9, 1, 0] rfl)
              · refine zg_aload_n C dX5_findsPath_121 rfl (lv_at hl 3 rfl) ?_
                refine zg_get (j := 23) C X hP (by decide) lyM_0 rfl (zmem uwX5) (by decide) (C.tb flX5_75) (fun _ h9 => h9) rfl dX5_findsPath_122 ?_
                refine zg_iload_n C dX5_findsPath_125 rfl (lv_at hl 4 rfl) ?_
                refine zg_aload_n C dX5_findsPath_126 rfl (lv_at hl 3 rfl) ?_
                refine zg_get (j := 23) C X hP (by decide) lyM_0 rfl (zmem uwX5) (by decide) (C.tb flX5_75) (fun _ h9 => h9) rfl dX5_findsPath_127 ?_
                refine zg_iload_n C dX5_findsPath_130 rfl (lv_at hl 4 rfl) ?_
                refine zg_iald (t0 := 0) C X hP (by decide) lyM_21 rfl (by decide) (by omega) (by omega) dX5_findsPath_131 ?_
                rw [rr_21 hM2 (x := x) (by omega) (by omega)]
                refine zg_ldc (v := 1664525) C (C.tb knX5_119) rfl dX5_findsPath_132 ?_
                refine zg_imul C dX5_findsPath_134 ?_
                refine zg_ldc (v := 1013904223) C (C.tb knX5_120) rfl dX5_findsPath_135 ?_
                refine zg_iadd C dX5_findsPath_137 ?_
                refine zg_iast (t0 := 0) C X hP hS (by decide) (fun x => lyM_21) rfl (by decide) (by omega) (by omega) dX5_findsPath_138 (fun H locs hP hS => ?_)
                obtain ⟨σ400, e401⟩ : ∃ z_ : Zt, z_ = zu τ 21 (x).toNat (((κ (20 + 6 * x.toNat) 3) * 1664525) + 1013904223) := ⟨_, rfl⟩
                rw [← e401] at hP
                have w_403 : σ400 21 (x).toNat = ((κ (20 + 6 * x.toNat) 3) * 1664525) + 1013904223 := by rw [e401]; exact zu_same _ _ _ _
                have hR402 : rgM σ400 := by rw [e401]; exact rzM_21 hτ
                obtain ⟨κ404, eκ404⟩ : ∃ z_ : Zt, z_ = kCoinS κ x.toNat := ⟨_, rfl⟩
                have hM405 : RR κ404 σ400 := by rw [eκ404, e401]; exact RR_21 hM2 (by omega)
                have hG406 : kMid κ404 := by rw [eκ404]; exact kMid_str hG (by omega)
                have hs : κ404 (20 + 6 * x.toNat) 3 = κ (20 + 6 * x.toNat) 3 * 1664525 + 1013904223 := by rw [eκ404]; unfold kCoinS; rw [zu_same]
                have hκ5 := eκ404
                refine zg_aload_n C dX5_findsPath_139 rfl (lv_at hl 3 rfl) ?_
                refine zg_get (j := 23) C X hP (by decide) lyM_0 rfl (zmem uwX5) (by decide) (C.tb flX5_75) (fun _ h9 => h9) rfl dX5_findsPath_140 ?_
                refine zg_iload_n C dX5_findsPath_143 rfl (lv_at hl 4 rfl) ?_
                refine zg_iald (t0 := 0) C X hP (by decide) lyM_21 rfl (by decide) (by omega) (by omega) dX5_findsPath_144 ?_
                rw [rr_21 hM405 (x := x) (by omega) (by omega)]
                refine zg_bipush C dX5_findsPath_145 (by decide) ?_
                refine zg_iushr C 16 (by decide) dX5_findsPath_147 ?_
                refine zg_istore (lv' := [(10, .int (jI ((κ404 (20 + 6 * x.toNat) 3) % 4294967296 / 2 ^ 16))), (9, .int (jI (τ 11 (((12 * bd) + k) - 1).toNat))), (8, .int (jI (τ 11 (((12 * pn) + k) - 1).toNat))), (7, .int (jI 1)), (0, .ref (a 0)), (1, .int (jI x)), (2, .int (jI cn)), (3, .int (jI pn)), (5, .int (jI bd)), (6, .int (jI k))]) C dX5_findsPath_148 hl (by decide) rfl (fun ls hl => ?_)
                refine zg_iconst C dX5_findsPath_150 ?_
                refine zg_iload C dX5_findsPath_151 (lv_at hl 0 rfl) ?_
                refine zg_iload C dX5_findsPath_153 (lv_at hl 1 rfl) ?_
                refine zg_iload C dX5_findsPath_155 (lv_at hl 2 rfl) ?_
                refine zg_isub C dX5_findsPath_157 ?_
                refine zg_iconst C dX5_findsPath_158 ?_
                refine zg_isub C dX5_findsPath_159 ?_
                refine zg_bipush C dX5_findsPath_160 (by decide) ?_
                refine zg_icmp_ge (tgt := 175) C (by omega) (by omega) (by omega) (by omega) dX5_findsPath_162 (by decide) (fun c_407 => ?_) (fun c_407 => ?_)
                · refine zg_bipush C dX5_findsPath_175 (by decide) ?_
                  refine zg_irem C (by omega) (by omega) (by omega) (by omega) dX5_findsPath_177 ?_
                  refine zg_iadd C dX5_findsPath_178 ?_
                  refine zg_istore (lv' := [(11, .int (jI (1 + (((κ404 (20 + 6 * x.toNat) 3) % 4294967296 / 2 ^ 16) % 10)))), (10, .int (jI ((κ404 (20 + 6 * x.toNat) 3) % 4294967296 / 2 ^ 16))), (9, .int (jI (τ 11 (((12 * bd) + k) - 1).toNat))), (8, .int (jI (τ 11 (((12 * pn) + k) - 1).toNat))), (7, .int (jI 1)), (0, .ref (a 0)), (1, .int (jI x)), (2, .int (jI cn)), (3, .int (jI pn)), (5, .int (jI bd)), (6, .int (jI k))]) C dX5_findsPath_179 hl (by decide) rfl (fun ls hl => ?_)
                  refine zg_aload_n C dX5_findsPath_181 rfl (lv_at hl 5 rfl) ?_
                  refine zg_iload C dX5_findsPath_182 (lv_at hl 10 rfl) ?_
                  refine zg_iconst C dX5_findsPath_184 ?_
                  refine zg_irem C (by omega) (by omega) (by omega) (by omega) dX5_findsPath_185 ?_
                  refine zg_iconst C dX5_findsPath_186 ?_
                  refine zg_icmp_ne (tgt := 198) C (by omega) (by omega) (by omega) (by omega) dX5_findsPath_187 (by decide) (fun c_408 => ?_) (fun c_408 => ?_)
                  · refine zg_iload C dX5_findsPath_198 (lv_at hl 2 rfl) ?_
                    refine zg_iload C dX5_findsPath_200 (lv_at hl 0 rfl) ?_
                    refine zg_isub C dX5_findsPath_202 ?_
                    refine zg_iload_n C dX5_findsPath_203 rfl (lv_at hl 6 rfl) ?_
                    refine zg_iload_n C dX5_findsPath_204 rfl (lv_at hl 7 rfl) ?_
                    have hD : kLastD k (kDigit (kLevel κ pn k)) (kHigh κ bd k) (kCoin κ x.toNat) = ((τ 11 (((12 * bd) + k) - 1).toNat) - (1 + (((κ404 (20 + 6 * x.toNat) 3) % 4294967296 / 2 ^ 16) % 10))) := by rw [lastD_is hs, hL, hH]; first | (rw [if_pos (by omega), if_pos (by omega)]; done) | (rw [if_pos (by omega), if_neg (by omega)]; done) | (rw [if_neg (by omega), if_pos (by omega)]; done) | (rw [if_neg (by omega), if_neg (by omega)]; done)
                    have hDr := kLastD_rg (k := k) (lo := kDigit (kLevel κ pn k)) (hi := kHigh κ bd k) (co := kCoin κ x.toNat) (by omega) (by omega) (by omega) (kCoin_rg κ x.toNat).1
                    have hd5 : σ400 0 32 = k - 1 := by rw [e401, zu_ne (by decide)]; exact hd
                    have h25 : σ400 25 = τ 25 := by rw [e401, zu_ne (by decide)]
                    have h26 : σ400 26 = τ 26 := by rw [e401, zu_ne (by decide)]
                    have h27 : σ400 27 = τ 27 := by rw [e401, zu_ne (by decide)]
                    have hM5 := hM405
                    refine zg_callVv C X hP hS (kX5_level l σ400 hR402 ((τ 11 (((12 * bd) + k) - 1).toNat) - (1 + (((κ404 (20 + 6 * x.toNat) 3) % 4294967296 / 2 ^ 16) % 10))) x cn (by omega) (by omega) (by omega) (by omega) (by omega) (by omega) (by omega)) (cwV 3 C.ts (zgV mlX5_121 imX5_level slX5_level iniX5 cdX5_level) rfl rfl rfl (by decide +kernel) ⟨Nat.le_of_ble_eq_true rfl, Nat.le_of_ble_eq_true rfl⟩) (by decide) lyM_0 rfl rfl rfl hl.1 rfl (Nat.le_of_ble_eq_true rfl) dX5_findsPath_205 ⟨Nat.zero_le _, Nat.zero_le _⟩ (fun σ409 H locs q411 hP hS => ?_)
                    have hR412 : rgM σ409 := by rw [q411]; exact mLev_rg hR402 (by omega) (by omega) (by omega) (by omega) (by omega) (by omega) (by omega)
                    have hM413 : RR κ404 σ409 := by rw [q411]; exact RR_lev hM405
                    refine zg_iconst C dX5_findsPath_208 ?_
                    refine zg_zret (b := true) C hP hS dX5_findsPath_209 ?_
                    have h9 := fp_hit (x := x) (c := cn) (r := x.toNat) (Int.toNat_of_nonneg x0) cn0 bT.1 hE hto bp.1 bp.2 b0 b1 k0 (by omega) (by omega) hmh h25 h26 h27 hd5 hD (by rw [← hκ5]; exact hM5)
                    exact ⟨congrArg (fun b => jI (bI b)) h9.1, hR412, by rw [q411]; exact h9.2⟩
                  · refine zg_iload C dX5_findsPath_190 (lv_at hl 3 rfl) ?_
                    refine zg_iload C dX5_findsPath_192 (lv_at hl 0 rfl) ?_
                    refine zg_iadd C dX5_findsPath_194 ?_
                    refine zg_goto (tgt := 203) C dX5_findsPath_195 (by decide) ?_
                    refine zg_iload_n C dX5_findsPath_203 rfl (lv_at hl 6 rfl) ?_
                    refine zg_iload_n C dX5_findsPath_204 rfl (lv_at hl 7 rfl) ?_
                    have hD : kLastD k (kDigit (kLevel κ pn k)) (kHigh κ bd k) (kCoin κ x.toNat) = ((τ 11 (((12 * pn) + k) - 1).toNat) + (1 + (((κ404 (20 + 6 * x.toNat) 3) % 4294967296 / 2 ^ 16) % 10))) := by rw [lastD_is hs, hL, hH]; first | (rw [if_pos (by omega), if_pos (by omega)]; done) | (rw [if_pos (by omega), if_neg (by omega)]; done) | (rw [if_neg (by omega), if_pos (by omega)]; done) | (rw [if_neg (by omega), if_neg (by omega)]; done)
                    have hDr := kLastD_rg (k := k) (lo := kDigit (kLevel κ pn k)) (hi := kHigh κ bd k) (co := kCoin κ x.toNat) (by omega) (by omega) (by omega) (kCoin_rg κ x.toNat).1
                    have hd5 : σ400 0 32 = k - 1 := by rw [e401, zu_ne (by decide)]; exact hd
                    have h25 : σ400 25 = τ 25 := by rw [e401, zu_ne (by decide)]
                    have h26 : σ400 26 = τ 26 := by rw [e401, zu_ne (by decide)]
                    have h27 : σ400 27 = τ 27 := by rw [e401, zu_ne (by decide)]
                    have hM5 := hM405
                    refine zg_callVv C X hP hS (kX5_level l σ400 hR402 ((τ 11 (((12 * pn) + k) - 1).toNat) + (1 + (((κ404 (20 + 6 * x.toNat) 3) % 4294967296 / 2 ^ 16) % 10))) x cn (by omega) (by omega) (by omega) (by omega) (by omega) (by omega) (by omega)) (cwV 3 C.ts (zgV mlX5_121 imX5_level slX5_level iniX5 cdX5_level) rfl rfl rfl (by decide +kernel) ⟨Nat.le_of_ble_eq_true rfl, Nat.le_of_ble_eq_true rfl⟩) (by decide) lyM_0 rfl rfl rfl hl.1 rfl (Nat.le_of_ble_eq_true rfl) dX5_findsPath_205 ⟨Nat.zero_le _, Nat.zero_le _⟩ (fun σ414 H locs q416 hP hS => ?_)
                    have hR417 : rgM σ414 := by rw [q416]; exact mLev_rg hR402 (by omega) (by omega) (by omega) (by omega) (by omega) (by omega) (by omega)
                    have hM418 : RR κ404 σ414 := by rw [q416]; exact RR_lev hM405
                    refine zg_iconst C dX5_findsPath_208 ?_
                    refine zg_zret (b := true) C hP hS dX5_findsPath_209 ?_
                    have h9 := fp_hit (x := x) (c := cn) (r := x.toNat) (Int.toNat_of_nonneg x0) cn0 bT.1 hE hto bp.1 bp.2 b0 b1 k0 (by omega) (by omega) hmh h25 h26 h27 hd5 hD (by rw [← hκ5]; exact hM5)
                    exact ⟨congrArg (fun b => jI (bI b)) h9.1, hR417, by rw [q416]; exact h9.2⟩
                · refine zg_iload C dX5_findsPath_165 (lv_at hl 1 rfl) ?_
                  refine zg_iload C dX5_findsPath_167 (lv_at hl 2 rfl) ?_
                  refine zg_isub C dX5_findsPath_169 ?_
                  refine zg_iconst C dX5_findsPath_170 ?_
                  refine zg_isub C dX5_findsPath_171 ?_
                  refine zg_goto (tgt := 177) C dX5_findsPath_172 (by decide) ?_
                  refine zg_irem C (by omega) (by omega) (by omega) (by omega) dX5_findsPath_177 ?_
                  refine zg_iadd C dX5_findsPath_178 ?_
                  refine zg_istore (lv' := [(11, .int (jI (1 + (((κ404 (20 + 6 * x.toNat) 3) % 4294967296 / 2 ^ 16) % (((τ 11 (((12 * bd) + k) - 1).toNat) - (τ 11 (((12 * pn) + k) - 1).toNat)) - 1))))), (10, .int (jI ((κ404 (20 + 6 * x.toNat) 3) % 4294967296 / 2 ^ 16))), (9, .int (jI (τ 11 (((12 * bd) + k) - 1).toNat))), (8, .int (jI (τ 11 (((12 * pn) + k) - 1).toNat))), (7, .int (jI 1)), (0, .ref (a 0)), (1, .int (jI x)), (2, .int (jI cn)), (3, .int (jI pn)), (5, .int (jI bd)), (6, .int (jI k))]) C dX5_findsPath_179 hl (by decide) rfl (fun ls hl => ?_)
                  refine zg_aload_n C dX5_findsPath_181 rfl (lv_at hl 5 rfl) ?_
                  refine zg_iload C dX5_findsPath_182 (lv_at hl 10 rfl) ?_
                  refine zg_iconst C dX5_findsPath_184 ?_
                  refine zg_irem C (by omega) (by omega) (by omega) (by omega) dX5_findsPath_185 ?_
                  refine zg_iconst C dX5_findsPath_186 ?_
                  refine zg_icmp_ne (tgt := 198) C (by omega) (by omega) (by omega) (by omega) dX5_findsPath_187 (by decide) (fun c_419 => ?_) (fun c_419 => ?_)
                  · refine zg_iload C dX5_findsPath_198 (lv_at hl 2 rfl) ?_
                    refine zg_iload C dX5_findsPath_200 (lv_at hl 0 rfl) ?_
                    refine zg_isub C dX5_findsPath_202 ?_
                    refine zg_iload_n C dX5_findsPath_203 rfl (lv_at hl 6 rfl) ?_
                    refine zg_iload_n C dX5_findsPath_204 rfl (lv_at hl 7 rfl) ?_
                    have hD : kLastD k (kDigit (kLevel κ pn k)) (kHigh κ bd k) (kCoin κ x.toNat) = ((τ 11 (((12 * bd) + k) - 1).toNat) - (1 + (((κ404 (20 + 6 * x.toNat) 3) % 4294967296 / 2 ^ 16) % (((τ 11 (((12 * bd) + k) - 1).toNat) - (τ 11 (((12 * pn) + k) - 1).toNat)) - 1)))) := by rw [lastD_is hs, hL, hH]; first | (rw [if_pos (by omega), if_pos (by omega)]; done) | (rw [if_pos (by omega), if_neg (by omega)]; done) | (rw [if_neg (by omega), if_pos (by omega)]; done) | (rw [if_neg (by omega), if_neg (by omega)]; done)
                    have hDr := kLastD_rg (k := k) (lo := kDigit (kLevel κ pn k)) (hi := kHigh κ bd k) (co := kCoin κ x.toNat) (by omega) (by omega) (by omega) (kCoin_rg κ x.toNat).1
                    have hd5 : σ400 0 32 = k - 1 := by rw [e401, zu_ne (by decide)]; exact hd
                    have h25 : σ400 25 = τ 25 := by rw [e401, zu_ne (by decide)]
                    have h26 : σ400 26 = τ 26 := by rw [e401, zu_ne (by decide)]
                    have h27 : σ400 27 = τ 27 := by rw [e401, zu_ne (by decide)]
                    have hM5 := hM405
                    refine zg_callVv C X hP hS (kX5_level l σ400 hR402 ((τ 11 (((12 * bd) + k) - 1).toNat) - (1 + (((κ404 (20 + 6 * x.toNat) 3) % 4294967296 / 2 ^ 16) % (((τ 11 (((12 * bd) + k) - 1).toNat) - (τ 11 (((12 * pn) + k) - 1).toNat)) - 1)))) x cn (by omega) (by omega) (by omega) (by omega) (by omega) (by omega) (by omega)) (cwV 3 C.ts (zgV mlX5_121 imX5_level slX5_level iniX5 cdX5_level) rfl rfl rfl (by decide +kernel) ⟨Nat.le_of_ble_eq_true rfl, Nat.le_of_ble_eq_true rfl⟩) (by decide) lyM_0 rfl rfl rfl hl.1 rfl (Nat.le_of_ble_eq_true rfl) dX5_findsPath_205 ⟨Nat.zero_le _, Nat.zero_le _⟩ (fun σ420 H locs q422 hP hS => ?_)
                    have hR423 : rgM σ420 := by rw [q422]; exact mLev_rg hR402 (by omega) (by omega) (by omega) (by omega) (by omega) (by omega) (by omega)
                    have hM424 : RR κ404 σ420 := by rw [q422]; exact RR_lev hM405
                    refine zg_iconst C dX5_findsPath_208 ?_
                    refine zg_zret (b := true) C hP hS dX5_findsPath_209 ?_
                    have h9 := fp_hit (x := x) (c := cn) (r := x.toNat) (Int.toNat_of_nonneg x0) cn0 bT.1 hE hto bp.1 bp.2 b0 b1 k0 (by omega) (by omega) hmh h25 h26 h27 hd5 hD (by rw [← hκ5]; exact hM5)
                    exact ⟨congrArg (fun b => jI (bI b)) h9.1, hR423, by rw [q422]; exact h9.2⟩
                  · refine zg_iload C dX5_findsPath_190 (lv_at hl 3 rfl) ?_
                    refine zg_iload C dX5_findsPath_192 (lv_at hl 0 rfl) ?_
                    refine zg_iadd C dX5_findsPath_194 ?_
                    refine zg_goto (tgt := 203) C dX5_findsPath_195 (by decide) ?_
                    refine zg_iload_n C dX5_findsPath_203 rfl (lv_at hl 6 rfl) ?_
                    refine zg_iload_n C dX5_findsPath_204 rfl (lv_at hl 7 rfl) ?_
                    have hD : kLastD k (kDigit (kLevel κ pn k)) (kHigh κ bd k) (kCoin κ x.toNat) = ((τ 11 (((12 * pn) + k) - 1).toNat) + (1 + (((κ404 (20 + 6 * x.toNat) 3) % 4294967296 / 2 ^ 16) % (((τ 11 (((12 * bd) + k) - 1).toNat) - (τ 11 (((12 * pn) + k) - 1).toNat)) - 1)))) := by rw [lastD_is hs, hL, hH]; first | (rw [if_pos (by omega), if_pos (by omega)]; done) | (rw [if_pos (by omega), if_neg (by omega)]; done) | (rw [if_neg (by omega), if_pos (by omega)]; done) | (rw [if_neg (by omega), if_neg (by omega)]; done)
                    have hDr := kLastD_rg (k := k) (lo := kDigit (kLevel κ pn k)) (hi := kHigh κ bd k) (co := kCoin κ x.toNat) (by omega) (by omega) (by omega) (kCoin_rg κ x.toNat).1
                    have hd5 : σ400 0 32 = k - 1 := by rw [e401, zu_ne (by decide)]; exact hd
                    have h25 : σ400 25 = τ 25 := by rw [e401, zu_ne (by decide)]
                    have h26 : σ400 26 = τ 26 := by rw [e401, zu_ne (by decide)]
                    have h27 : σ400 27 = τ 27 := by rw [e401, zu_ne (by decide)]
                    have hM5 := hM405
                    refine zg_callVv C X hP hS (kX5_level l σ400 hR402 ((τ 11 (((12 * pn) + k) - 1).toNat) + (1 + (((κ404 (20 + 6 * x.toNat) 3) % 4294967296 / 2 ^ 16) % (((τ 11 (((12 * bd) + k) - 1).toNat) - (τ 11 (((12 * pn) + k) - 1).toNat)) - 1)))) x cn (by omega) (by omega) (by omega) (by omega) (by omega) (by omega) (by omega)) (cwV 3 C.ts (zgV mlX5_121 imX5_level slX5_level iniX5 cdX5_level) rfl rfl rfl (by decide +kernel) ⟨Nat.le_of_ble_eq_true rfl, Nat.le_of_ble_eq_true rfl⟩) (by decide) lyM_0 rfl rfl rfl hl.1 rfl (Nat.le_of_ble_eq_true rfl) dX5_findsPath_205 ⟨Nat.zero_le _, Nat.zero_le _⟩ (fun σ425 H locs q427 hP hS => ?_)
                    have hR428 : rgM σ425 := by rw [q427]; exact mLev_rg hR402 (by omega) (by omega) (by omega) (by omega) (by omega) (by omega) (by omega)
                    have hM429 : RR κ404 σ425 := by rw [q427]; exact RR_lev hM405
                    refine zg_iconst C dX5_findsPath_208 ?_
                    refine zg_zret (b := true) C hP hS dX5_findsPath_209 ?_
                    have h9 := fp_hit (x := x) (c := cn) (r := x.toNat) (Int.toNat_of_nonneg x0) cn0 bT.1 hE hto bp.1 bp.2 b0 b1 k0 (by omega) (by omega) hmh h25 h26 h27 hd5 hD (by rw [← hκ5]; exact hM5)
                    exact ⟨congrArg (fun b => jI (bI b)) h9.1, hR428, by rw [q427]; exact h9.2⟩
set_option maxHeartbeats 4000000 in
set_option maxRecDepth 100000 in
theorem kX5_findsPath (l : Launch) {D : va_G} {a : Nat → Nat} {cI cZ : ClassId} (σ : Zt) (hR : rgM σ) (κ : Zt) (hM : RR κ σ) (hG : kMid κ) (x : Int) (cn : Int) (pn : Int) (q : Int) (x0 : 0 ≤ x) (x1 : x < 6) (cn0 : cn = κ (21 + 6 * x.toNat) x.toNat + 1) (p0 : kSg κ pn) (q0 : -1 ≤ q) (q1 : q < κ 1 10) (hT : κ 1 10 < 400) : zc l D vwCl (tyM cI cZ) 28 (layM cI cZ a) a yX5_findsPath wsX5_findsPath ({ frames := 1, cells := 0, slots := 0, locals := 25 }) [.ref (a 0), .int (jI x), .int (jI cn), .int (jI pn), .int (jI q)] σ (fun r_ u_ => r_ = jI (bI (kFind x.toNat (κ 1 10) pn 12 1 q κ).1) ∧ rgM u_ ∧ mFnd κ x.toNat (kFind x.toNat (κ 1 10) pn 12 1 q κ) u_) := by
  refine zc_of (cc := cX5_findsPath) (maxL := 12) (ret := some .boolean) (own := RX5) (by decide) rfl rfl (Nat.le_of_ble_eq_true rfl) rfl ?_
  intro p e s m below meth c A ls C X hP hS hl
  have bT := rgS_1_10 hG.1
  have bP := rgS_11_4 hG.1
  have bPT := hG.e.1
  refine zg_aload_n C dX5_findsPath_0 rfl (lv_at hl 0 rfl) ?_
  refine zg_iconst C dX5_findsPath_1 ?_
  refine zg_put (j := 32) (v := 0) C X hP hS (by decide) lyM_0 rfl (zmem uwX5) tyX5 tyX5_ok nmX5 (by decide) (C.tb flX5_116) (fun _ h9 => h9) rfl (by decide +kernel) (Nat.le_of_ble_eq_true rfl) (by rw [lyM_0]; rfl) dX5_findsPath_2 (fun H locs hP hS => ?_)
  obtain ⟨σ430, e431⟩ : ∃ z_ : Zt, z_ = zu σ 0 32 0 := ⟨_, rfl⟩
  rw [← e431] at hP
  have w_433 : σ430 0 32 = 0 := by rw [e431]; exact zu_same _ _ _ _
  have hR432 : rgM σ430 := by rw [e431]; exact rzM_0_32 hR (by omega) (by omega)
  have hM434 : RR κ σ430 := by rw [e431]; exact RR_keep hM (by decide)
  refine zg_iload C dX5_findsPath_5 (lv_at hl 4 rfl) ?_
  refine zg_istore (lv' := [(5, .int (jI q)), (0, .ref (a 0)), (1, .int (jI x)), (2, .int (jI cn)), (3, .int (jI pn)), (4, .int (jI q))]) C dX5_findsPath_7 hl (by decide) rfl (fun ls hl => ?_)
  refine zg_iconst C dX5_findsPath_9 ?_
  refine zg_istore (lv' := [(6, .int (jI 1)), (5, .int (jI q)), (0, .ref (a 0)), (1, .int (jI x)), (2, .int (jI cn)), (3, .int (jI pn)), (4, .int (jI q))]) C dX5_findsPath_10 hl (by decide) rfl (fun ls hl => ?_)
  exact lpX5_findsPath_12 σ hR κ hM hG x cn pn q x0 x1 cn0 p0 q0 q1 hT C X 14 q 1 σ430 κ _ _ _ (by omega) hR432 hM434 (by omega) (by omega) (by omega) (by omega) (by omega) rfl ⟨fun _ _ => rfl, fun _ _ => rfl⟩ (fun j h8 h9 => by omega) hP hS (lv_sub hl [2, 3, 4, 5, 1, 0] rfl)
