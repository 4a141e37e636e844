set_option maxHeartbeats 4000000 in
set_option maxRecDepth 100000 in
theorem lpX1_findNew_6 {l : Launch} {D : va_G} {a : Nat → Nat} {cI cZ cR : ClassId} {p : Program} {e : Env} {s : State} {m : MethodId} {below : List Frame} {meth : Method} {c : Code} {A : Nat → Prop} (σ : Zt) (hR : rgS σ) (r : Nat) (hr : r < 6) (fr : Int) (be : Int) (bh : Int) (fr0 : 0 ≤ fr) (fr1 : fr < 400) (be0 : -1 ≤ be) (be1 : be < 400) (bh0 : -1 ≤ bh) (bh1 : bh < 400) (dn : σ (21 + 6 * r) r < 400)  (C : zk p s m ([.ref (a 11), .int (jI fr), .int (jI be), .int (jI bh), .ref (a (20 + 6 * r))] : List Value).toArray meth c cX1_findNew 11 (some .boolean) wsX1_findNew RX1) (X : zx D vwCl (tyS cI cZ cR) A a 56 s) :
    ∀ (n : Nat) (b k : Int) (τ : Zt) (H : Heap) (locs : List Loc) (ls : Array Slot), ((13 - k).toNat < n) → (rgS τ) → (1 ≤ k) → (k ≤ 13) → (-1 ≤ b) → (b < 400) → (τ (21 + 6 * r) r < 400) → (kFind r fr be 12 1 bh σ = kFind r fr be (13 - k).toNat k b τ) → va_P D vwCl (zw 56 (layS cI cZ cR a) a τ) H → va_S A s.heap H locs → lv_has ls 11 [(0, .ref (a 11)), (1, .int (jI fr)), (2, .int (jI be)), (3, .int (jI bh)), (4, .ref (a (20 + 6 * r))), (5, .int (jI b)), (6, .int (jI k))] →
      W p l e ({ frames := 2, cells := 0, slots := 0, locals := 45 }) s m ([.ref (a 11), .int (jI fr), .int (jI be), .int (jI bh), .ref (a (20 + 6 * r))] : List Value).toArray below meth c H locs 0 0 (MQ below (va_Qi (fun r_ u_ => r_ = jI (bI ((kFind r fr be 12 1 bh σ).1)) ∧ u_ = (kFind r fr be 12 1 bh σ).2) (fun (u : Zt) t => va_P D vwCl (zw 56 (layS cI cZ cR a) a u) t.heap) A) ([.ref (a 11), .int (jI fr), .int (jI be), .int (jI bh), .ref (a (20 + 6 * r))] : List Value).toArray s 0 0 A) (F0 m 6 ls []) := by
  intro n
  induction n with
  | zero =>
    intro b k τ H locs ls hn hτ k0 k1 b0 b1 hd hE hP hS hl
    exact absurd hn (by omega)
  | succ n ih =>
    intro b k τ H locs ls hn hτ k0 k1 b0 b1 hd hE hP hS hl
    have b_00 := rgS_21 hτ hr r
    have b_01 := rgS_20_0 hτ hr
    refine zg_iload C dX1_findNew_6 (lv_at hl 6 rfl) ?_
    refine zg_bipush C dX1_findNew_8 (by decide) ?_
    refine zg_icmp_gt (tgt := 174) C (by omega) (by omega) (by omega) (by omega) dX1_findNew_10 (by decide) (fun c_1 => ?_) (fun c_1 => ?_)
    · refine zg_iconst C dX1_findNew_174 ?_
      refine zg_zret (b := false) C hP hS dX1_findNew_175 ?_
      exact ⟨congrArg (fun b => jI (bI b)) (by rw [hE, kFind_end (by omega)]), by rw [hE, kFind_end (by omega)]⟩
    · refine zg_aload_n C dX1_findNew_13 rfl (lv_at hl 0 rfl) ?_
      refine zg_iload_n C dX1_findNew_14 rfl (lv_at hl 2 rfl) ?_
      refine zg_iload C dX1_findNew_15 (lv_at hl 6 rfl) ?_
      refine zg_callV C X hP hS (kX1_levelOf l τ hτ be k (by omega) (by omega) (by omega) (by omega)) (cwV 2 C.ts (zgV mlX1_30 imX1_levelOf slX1_levelOf iniX1 cdX1_levelOf) rfl rfl rfl (by decide +kernel) ⟨Nat.le_of_ble_eq_true rfl, Nat.le_of_ble_eq_true rfl⟩) (by decide) lyS_11 rfl rfl rfl hl.1 rfl (Nat.le_of_ble_eq_true rfl) dX1_findNew_17 ⟨Nat.zero_le _, Nat.zero_le _⟩ (fun r_3 σ2 H locs q4 hP hS => ?_)
      obtain ⟨rfl, q4⟩ := q4
      have b_5 := kLevel_rg hτ be k
      rw [q4] at hP
      refine zg_callS C X hP hS (kX1_digitOf l τ hτ (kLevel τ be k) (by omega) (by omega)) (cwS 1 C.ts (zgS mlX1_33 stX1_digitOf iniX1 cdX1_digitOf) rfl rfl rfl (by decide +kernel) ⟨Nat.le_of_ble_eq_true rfl, Nat.le_of_ble_eq_true rfl⟩) rfl hl.1 rfl (Nat.le_of_ble_eq_true rfl) dX1_findNew_20 ⟨Nat.zero_le _, Nat.zero_le _⟩ (fun r_7 σ6 H locs q8 hP hS => ?_)
      obtain ⟨rfl, q8⟩ := q8
      have b_9 := kDigit_rg (x := (kLevel τ be k)) (by omega) (by omega)
      rw [q8] at hP
      refine zg_istore (lv' := [(7, .int (jI (kDigit (kLevel τ be k)))), (0, .ref (a 11)), (1, .int (jI fr)), (2, .int (jI be)), (3, .int (jI bh)), (4, .ref (a (20 + 6 * r))), (5, .int (jI b)), (6, .int (jI k))]) C dX1_findNew_23 hl (by decide) rfl (fun ls hl => ?_)
      refine zg_iload C dX1_findNew_25 (lv_at hl 6 rfl) ?_
      refine zg_iconst C dX1_findNew_27 ?_
      refine zg_icmp_ne (tgt := 39) C (by omega) (by omega) (by omega) (by omega) dX1_findNew_28 (by decide) (fun c_10 => ?_) (fun c_10 => ?_)
      · refine zg_aload_n C dX1_findNew_39 rfl (lv_at hl 1 rfl) ?_
        refine zg_iload C dX1_findNew_40 (lv_at hl 6 rfl) ?_
        refine zg_iload C dX1_findNew_42 (lv_at hl 7 rfl) ?_
        refine zg_callV C X hP hS (kX1_levelOf l τ hτ b k (by omega) (by omega) (by omega) (by omega)) (cwV 2 C.ts (zgV mlX1_30 imX1_levelOf slX1_levelOf iniX1 cdX1_levelOf) rfl rfl rfl (by decide +kernel) ⟨Nat.le_of_ble_eq_true rfl, Nat.le_of_ble_eq_true rfl⟩) (by decide) lyS_11 rfl rfl rfl hl.1 rfl (Nat.le_of_ble_eq_true rfl) dX1_findNew_44 ⟨Nat.zero_le _, Nat.zero_le _⟩ (fun r_12 σ11 H locs q13 hP hS => ?_)
        obtain ⟨rfl, q13⟩ := q13
        have b_14 := kLevel_rg hτ b k
        rw [q13] at hP
        refine zg_callS C X hP hS (kX1_digitOf l τ hτ (kLevel τ b k) (by omega) (by omega)) (cwS 1 C.ts (zgS mlX1_33 stX1_digitOf iniX1 cdX1_digitOf) rfl rfl rfl (by decide +kernel) ⟨Nat.le_of_ble_eq_true rfl, Nat.le_of_ble_eq_true rfl⟩) rfl hl.1 rfl (Nat.le_of_ble_eq_true rfl) dX1_findNew_47 ⟨Nat.zero_le _, Nat.zero_le _⟩ (fun r_16 σ15 H locs q17 hP hS => ?_)
        obtain ⟨rfl, q17⟩ := q17
        have b_18 := kDigit_rg (x := (kLevel τ b k)) (by omega) (by omega)
        rw [q17] at hP
        refine zg_istore (lv' := [(8, .int (jI (kDigit (kLevel τ b k)))), (7, .int (jI (kDigit (kLevel τ be k)))), (0, .ref (a 11)), (1, .int (jI fr)), (2, .int (jI be)), (3, .int (jI bh)), (4, .ref (a (20 + 6 * r))), (5, .int (jI b)), (6, .int (jI k))]) C dX1_findNew_50 hl (by decide) rfl (fun ls hl => ?_)
        refine zg_iload_n C dX1_findNew_52 rfl (lv_at hl 3 rfl) ?_
        refine zg_bipush C dX1_findNew_53 (by decide) ?_
        refine zg_imul C dX1_findNew_55 ?_
        refine zg_iload C dX1_findNew_56 (lv_at hl 8 rfl) ?_
        refine zg_iadd C dX1_findNew_58 ?_
        refine zg_iconst C dX1_findNew_59 ?_
        refine zg_isub C dX1_findNew_60 ?_
        refine zg_istore (lv' := [(9, .int (jI (((fr * 12) + k) - 1))), (8, .int (jI (kDigit (kLevel τ b k)))), (7, .int (jI (kDigit (kLevel τ be k)))), (0, .ref (a 11)), (1, .int (jI fr)), (2, .int (jI be)), (3, .int (jI bh)), (4, .ref (a (20 + 6 * r))), (5, .int (jI b)), (6, .int (jI k))]) C dX1_findNew_61 hl (by decide) rfl (fun ls hl => ?_)
        refine zg_iload C dX1_findNew_63 (lv_at hl 1 rfl) ?_
        refine zg_iload C dX1_findNew_65 (lv_at hl 2 rfl) ?_
        refine zg_isub C dX1_findNew_67 ?_
        refine zg_iconst C dX1_findNew_68 ?_
        refine zg_icmp_le (tgt := 120) C (by omega) (by omega) (by omega) (by omega) dX1_findNew_69 (by decide) (fun c_19 => ?_) (fun c_19 => ?_)
        · first | have hh := kHigh_no (σ := τ) (k := k) (b := b) (by assumption) | have hh := kHigh_b (σ := τ) (k := k) (b := b) (by assumption)
          refine zg_aload_n C dX1_findNew_120 rfl (lv_at hl 3 rfl) ?_
          refine zg_get (j := 0) C X hP (by decide) lyS_11 rfl (zmem uwX1) (by decide) (C.tb flX1_9) (fun _ h9 => h9) rfl dX1_findNew_121 ?_
          refine zg_iload C dX1_findNew_124 (lv_at hl 0 rfl) ?_
          refine zg_aload_n C dX1_findNew_126 rfl (lv_at hl 3 rfl) ?_
          refine zg_iload_n C dX1_findNew_127 rfl (lv_at hl 5 rfl) ?_
          refine zg_iload C dX1_findNew_128 (lv_at hl 9 rfl) ?_
          refine zg_callV C X hP hS (kX1_levelOf l τ hτ be k (by omega) (by omega) (by omega) (by omega)) (cwV 2 C.ts (zgV mlX1_30 imX1_levelOf slX1_levelOf iniX1 cdX1_levelOf) rfl rfl rfl (by decide +kernel) ⟨Nat.le_of_ble_eq_true rfl, Nat.le_of_ble_eq_true rfl⟩) (by decide) lyS_11 rfl rfl rfl hl.1 rfl (Nat.le_of_ble_eq_true rfl) dX1_findNew_130 ⟨Nat.zero_le _, Nat.zero_le _⟩ (fun r_21 σ20 H locs q22 hP hS => ?_)
          obtain ⟨rfl, q22⟩ := q22
          have b_23 := kLevel_rg hτ be k
          rw [q22] at hP
          refine zg_aload_n C dX1_findNew_133 rfl (lv_at hl 3 rfl) ?_
          refine zg_iload C dX1_findNew_134 (lv_at hl 8 rfl) ?_
          refine zg_iload C dX1_findNew_136 (lv_at hl 9 rfl) ?_
          refine zg_callV C X hP hS (kX1_levelOf l τ hτ b k (by omega) (by omega) (by omega) (by omega)) (cwV 2 C.ts (zgV mlX1_30 imX1_levelOf slX1_levelOf iniX1 cdX1_levelOf) rfl rfl rfl (by decide +kernel) ⟨Nat.le_of_ble_eq_true rfl, Nat.le_of_ble_eq_true rfl⟩) (by decide) lyS_11 rfl rfl rfl hl.1 rfl (Nat.le_of_ble_eq_true rfl) dX1_findNew_138 ⟨Nat.zero_le _, Nat.zero_le _⟩ (fun r_25 σ24 H locs q26 hP hS => ?_)
          obtain ⟨rfl, q26⟩ := q26
          have b_27 := kLevel_rg hτ b k
          rw [q26] at hP
          refine zg_aload C dX1_findNew_141 (lv_at hl 7 rfl) ?_
          refine zg_callS C X hP hS (kX1_innerLevel l τ hτ r hr (kLevel τ be k) (kLevel τ b k) (by omega) (by omega) (by omega) (by omega) (by omega)) (cwS 3 C.ts (zgS mlX1_61 stX1_innerLevel iniX1 cdX1_innerLevel) rfl rfl rfl (by decide +kernel) ⟨Nat.le_of_ble_eq_true rfl, Nat.le_of_ble_eq_true rfl⟩) rfl hl.1 rfl (Nat.le_of_ble_eq_true rfl) dX1_findNew_143 ⟨Nat.zero_le _, Nat.zero_le _⟩ (fun r_29 σ28 H locs q30 hP hS => ?_)
          obtain ⟨rfl, q30⟩ := q30
          have b_31 := kInner_rg (x := (kLevel τ be k)) (y := (kLevel τ b k)) (r := r) (n := τ (21 + 6 * r) r + 1) (by omega) (by omega) (by omega) (by omega) (by omega) (by have := rgS_21 hτ (r := r) (by omega) r; omega) (by omega)
          rw [q30] at hP
          refine zg_iast (t0 := 0) C X hP hS (by decide) (fun x => lyS_12) rfl (by decide) (by omega) (by omega) dX1_findNew_146 (fun H locs hP hS => ?_)
          obtain ⟨σ32, e33⟩ : ∃ z_ : Zt, z_ = zu τ 12 (((fr * 12) + k) - 1).toNat (kInner (kLevel τ be k) (kLevel τ b k) r (τ (21 + 6 * r) r + 1)) := ⟨_, rfl⟩
          rw [← e33] at hP
          have w_35 : σ32 12 (((fr * 12) + k) - 1).toNat = kInner (kLevel τ be k) (kLevel τ b k) r (τ (21 + 6 * r) r + 1) := by rw [e33]; exact zu_same _ _ _ _
          have hR34 : rgS σ32 := by rw [e33]; exact rzS_12 hτ (by omega) (by omega)
          refine zg_aload_n C dX1_findNew_147 rfl (lv_at hl 3 rfl) ?_
          refine zg_iload C dX1_findNew_148 (lv_at hl 8 rfl) ?_
          refine zg_iload C dX1_findNew_150 (lv_at hl 9 rfl) ?_
          refine zg_callV C X hP hS (kX1_levelOf l σ32 hR34 b k (by omega) (by omega) (by omega) (by omega)) (cwV 2 C.ts (zgV mlX1_30 imX1_levelOf slX1_levelOf iniX1 cdX1_levelOf) rfl rfl rfl (by decide +kernel) ⟨Nat.le_of_ble_eq_true rfl, Nat.le_of_ble_eq_true rfl⟩) (by decide) lyS_11 rfl rfl rfl hl.1 rfl (Nat.le_of_ble_eq_true rfl) dX1_findNew_152 ⟨Nat.zero_le _, Nat.zero_le _⟩ (fun r_37 σ36 H locs q38 hP hS => ?_)
          obtain ⟨rfl, q38⟩ := q38
          have b_39 := kLevel_rg hR34 b k
          rw [q38] at hP
          refine zg_aload_n C dX1_findNew_155 rfl (lv_at hl 3 rfl) ?_
          refine zg_get (j := 0) C X hP (by decide) lyS_11 rfl (zmem uwX1) (by decide) (C.tb flX1_9) (fun _ h9 => h9) rfl dX1_findNew_156 ?_
          refine zg_iload C dX1_findNew_159 (lv_at hl 0 rfl) ?_
          refine zg_iald (t0 := 0) C X hP (by decide) lyS_12 rfl (by decide) (by omega) (by omega) dX1_findNew_161 ?_
          have b_40 := rgS_12 hR34 ((((fr * 12) + k) - 1).toNat)
          refine zg_icmp_eq (tgt := 168) C (by omega) (by omega) (by omega) (by omega) dX1_findNew_162 (by decide) (fun c_41 => ?_) (fun c_41 => ?_)
          · refine zg_iinc (k := 9) (lv' := [(6, .int (jI (k + 1))), (9, .int (jI (((fr * 12) + k) - 1))), (8, .int (jI (kDigit (kLevel τ b k)))), (7, .int (jI (kDigit (kLevel τ be k)))), (0, .ref (a 11)), (1, .int (jI fr)), (2, .int (jI be)), (3, .int (jI bh)), (4, .ref (a (20 + 6 * r))), (5, .int (jI b))]) C dX1_findNew_168 hl rfl (by decide) rfl (fun ls hl => ?_)
            refine zg_goto (tgt := 6) C dX1_findNew_171 (by decide) ?_
            exact ih b (k + 1) σ32 _ _ _ (by omega) (by assumption) (by omega) (by omega) (by omega) (by omega) (by subst e33; rw [zu_ne (show 21 + 6 * r ≠ 12 by omega)]; exact hd) (by subst e33; first | exact hE.trans (kFind_keep (by omega) (by rw [hh]; omega) (by assumption)) | exact hE.trans (kFind_free (by omega) (by rw [hh]; omega) (by assumption))) hP hS (lv_sub hl [4, 5, 6, 7, 8, 9, 0] rfl)
          · refine zg_iconst C dX1_findNew_165 ?_
            refine zg_istore (lv' := [(5, .int (jI (-1))), (9, .int (jI (((fr * 12) + k) - 1))), (8, .int (jI (kDigit (kLevel τ b k)))), (7, .int (jI (kDigit (kLevel τ be k)))), (0, .ref (a 11)), (1, .int (jI fr)), (2, .int (jI be)), (3, .int (jI bh)), (4, .ref (a (20 + 6 * r))), (6, .int (jI k))]) C dX1_findNew_166 hl (by decide) rfl (fun ls hl => ?_)
            refine zg_iinc (k := 9) (lv' := [(6, .int (jI (k + 1))), (5, .int (jI (-1))), (9, .int (jI (((fr * 12) + k) - 1))), (8, .int (jI (kDigit (kLevel τ b k)))), (7, .int (jI (kDigit (kLevel τ be k)))), (0, .ref (a 11)), (1, .int (jI fr)), (2, .int (jI be)), (3, .int (jI bh)), (4, .ref (a (20 + 6 * r)))]) C dX1_findNew_168 hl rfl (by decide) rfl (fun ls hl => ?_)
            refine zg_goto (tgt := 6) C dX1_findNew_171 (by decide) ?_
            exact ih (-1) (k + 1) σ32 _ _ _ (by omega) (by assumption) (by omega) (by omega) (by omega) (by omega) (by subst e33; rw [zu_ne (show 21 + 6 * r ≠ 12 by omega)]; exact hd) (by subst e33; first | exact hE.trans (kFind_keep (by omega) (by rw [hh]; omega) (by assumption)) | exact hE.trans (kFind_free (by omega) (by rw [hh]; omega) (by assumption))) hP hS (lv_sub hl [5, 6, 7, 8, 9, 1, 0] rfl)
        · refine zg_iload C dX1_findNew_72 (lv_at hl 9 rfl) ?_
          refine zg_iload C dX1_findNew_74 (lv_at hl 2 rfl) ?_
          refine zg_iload C dX1_findNew_76 (lv_at hl 1 rfl) ?_
          refine zg_aload C dX1_findNew_78 (lv_at hl 7 rfl) ?_
          first | have hh := kHigh_no (σ := τ) (k := k) (b := b) (by assumption) | have hh := kHigh_b (σ := τ) (k := k) (b := b) (by assumption)
          refine zg_callV C X hP hS (kX2_throwCoin l τ hτ r hr) (cwV 0 C.ts (zgV mlX1_40 imX2_throwCoin slX2_throwCoin iniX2 cdX2_throwCoin) rfl rfl rfl (by decide +kernel) ⟨Nat.le_of_ble_eq_true rfl, Nat.le_of_ble_eq_true rfl⟩) (hkS_20 hr) (lyS_20 hr) rfl rfl rfl hl.1 rfl (Nat.le_of_ble_eq_true rfl) dX1_findNew_80 ⟨Nat.zero_le _, Nat.zero_le _⟩ (fun r_43 σ42 H locs q44 hP hS => ?_)
          obtain ⟨rfl, q44⟩ := q44
          have b_45 := kCoin_rg τ r
          have hR46 : rgS σ42 := by rw [q44]; exact rzS_20_3 hτ (by omega)
          refine zg_callS C X hP hS (kX1_lastDigit l σ42 hR46 k (kDigit (kLevel τ be k)) (kDigit (kLevel τ b k)) (kCoin τ r) (by omega) (by omega) (by omega) (by omega) (by omega) (by omega) (by omega)) (cwS 4 C.ts (zgS mlX1_46 stX1_lastDigit iniX1 cdX1_lastDigit) rfl rfl rfl (by decide +kernel) ⟨Nat.le_of_ble_eq_true rfl, Nat.le_of_ble_eq_true rfl⟩) rfl hl.1 rfl (Nat.le_of_ble_eq_true rfl) dX1_findNew_83 ⟨Nat.zero_le _, Nat.zero_le _⟩ (fun r_48 σ47 H locs q49 hP hS => ?_)
          obtain ⟨rfl, q49⟩ := q49
          have b_50 := kLastD_rg (k := k) (lo := (kDigit (kLevel τ be k))) (hi := (kDigit (kLevel τ b k))) (co := (kCoin τ r)) (by omega) (by omega) (by omega) (by omega)
          rw [q49] at hP
          refine zg_istore (lv' := [(10, .int (jI (kLastD k (kDigit (kLevel τ be k)) (kDigit (kLevel τ b k)) (kCoin τ r)))), (9, .int (jI (((fr * 12) + k) - 1))), (8, .int (jI (kDigit (kLevel τ b k)))), (7, .int (jI (kDigit (kLevel τ be k)))), (0, .ref (a 11)), (1, .int (jI fr)), (2, .int (jI be)), (3, .int (jI bh)), (4, .ref (a (20 + 6 * r))), (5, .int (jI b)), (6, .int (jI k))]) C dX1_findNew_86 hl (by decide) rfl (fun ls hl => ?_)
          refine zg_aload_n C dX1_findNew_88 rfl (lv_at hl 4 rfl) ?_
          refine zg_get (j := 0) C X hP (by decide) lyS_11 rfl (zmem uwX1) (by decide) (C.tb flX1_9) (fun _ h9 => h9) rfl dX1_findNew_89 ?_
          refine zg_iload C dX1_findNew_92 (lv_at hl 1 rfl) ?_
          refine zg_iload C dX1_findNew_94 (lv_at hl 0 rfl) ?_
          refine zg_aload C dX1_findNew_96 (lv_at hl 8 rfl) ?_
          refine zg_get (j := 0) C X hP (hkS_20 hr) (lyS_20 hr) rfl (zmem uwX2) (by decide) (C.tb flX1_50) (fun _ h9 => h9) rfl dX1_findNew_98 ?_
          have b_51 := rgS_20_0 hR46 hr
          refine zg_aload C dX1_findNew_101 (lv_at hl 8 rfl) ?_
          have b_w : σ42 (21 + 6 * r) r = τ (21 + 6 * r) r := by rw [q44]; exact congrFun (zu_ne (by omega)) _
          refine zg_callV C X hP hS (kX2_nextNumber l σ42 hR46 r hr) (cwV 0 C.ts (zgV mlX1_54 imX2_nextNumber slX2_nextNumber iniX2 cdX2_nextNumber) rfl rfl rfl (by decide +kernel) ⟨Nat.le_of_ble_eq_true rfl, Nat.le_of_ble_eq_true rfl⟩) (hkS_20 hr) (lyS_20 hr) rfl rfl rfl hl.1 rfl (Nat.le_of_ble_eq_true rfl) dX1_findNew_103 ⟨Nat.zero_le _, Nat.zero_le _⟩ (fun r_53 σ52 H locs q54 hP hS => ?_)
          obtain ⟨rfl, q54⟩ := q54
          rw [q54] at hP
          refine zg_callS C X hP hS (kX1_makeLevel l σ42 hR46 (kLastD k (kDigit (kLevel τ be k)) (kDigit (kLevel τ b k)) (kCoin τ r)) (σ42 (20 + 6 * r) 0) (σ42 (21 + 6 * r) r + 1) (by omega) (by omega) (by omega) (by omega) (by omega) (by omega)) (cwS 3 C.ts (zgS mlX1_57 stX1_makeLevel iniX1 cdX1_makeLevel) rfl rfl rfl (by decide +kernel) ⟨Nat.le_of_ble_eq_true rfl, Nat.le_of_ble_eq_true rfl⟩) rfl hl.1 rfl (Nat.le_of_ble_eq_true rfl) dX1_findNew_106 ⟨Nat.zero_le _, Nat.zero_le _⟩ (fun r_56 σ55 H locs q57 hP hS => ?_)
          obtain ⟨rfl, q57⟩ := q57
          have b_58 := kMake_rg (d := (kLastD k (kDigit (kLevel τ be k)) (kDigit (kLevel τ b k)) (kCoin τ r))) (q := (σ42 (20 + 6 * r) 0)) (n := (σ42 (21 + 6 * r) r + 1)) (by omega) (by omega) (by omega) (by omega) (by omega) (by omega)
          rw [q57] at hP
          refine zg_iast (t0 := 0) C X hP hS (by decide) (fun x => lyS_12) rfl (by decide) (by omega) (by omega) dX1_findNew_109 (fun H locs hP hS => ?_)
          obtain ⟨σ59, e60⟩ : ∃ z_ : Zt, z_ = zu σ42 12 (((fr * 12) + k) - 1).toNat (kMake (kLastD k (kDigit (kLevel τ be k)) (kDigit (kLevel τ b k)) (kCoin τ r)) (σ42 (20 + 6 * r) 0) (σ42 (21 + 6 * r) r + 1)) := ⟨_, rfl⟩
          rw [← e60] at hP
          have w_62 : σ59 12 (((fr * 12) + k) - 1).toNat = kMake (kLastD k (kDigit (kLevel τ be k)) (kDigit (kLevel τ b k)) (kCoin τ r)) (σ42 (20 + 6 * r) 0) (σ42 (21 + 6 * r) r + 1) := by rw [e60]; exact zu_same _ _ _ _
          have hR61 : rgS σ59 := by rw [e60]; exact rzS_12 hR46 (by omega) (by omega)
          refine zg_aload_n C dX1_findNew_110 rfl (lv_at hl 4 rfl) ?_
          refine zg_get (j := 1) C X hP (by decide) lyS_11 rfl (zmem uwX1) (by decide) (C.tb flX1_15) (fun _ h9 => h9) rfl dX1_findNew_111 ?_
          refine zg_iload_n C dX1_findNew_114 rfl (lv_at hl 5 rfl) ?_
          refine zg_iload C dX1_findNew_115 (lv_at hl 10 rfl) ?_
          refine zg_iast (t0 := 0) C X hP hS (by decide) (fun x => lyS_13) rfl (by decide) (by omega) (by omega) dX1_findNew_117 (fun H locs hP hS => ?_)
          obtain ⟨σ63, e64⟩ : ∃ z_ : Zt, z_ = zu σ59 13 (fr).toNat k := ⟨_, rfl⟩
          rw [← e64] at hP
          have w_66 : σ63 13 (fr).toNat = k := by rw [e64]; exact zu_same _ _ _ _
          have hR65 : rgS σ63 := by rw [e64]; exact rzS_13 hR61 (by omega) (by omega)
          refine zg_iconst C dX1_findNew_118 ?_
          refine zg_zret (b := true) C hP hS dX1_findNew_119 ?_
          subst q44 e60 e64
          have h7 : kCoinS τ r (20 + 6 * r) 0 = (r : Int) := by have := rgS_20_0 (kCoinS_rg hτ hr) hr; omega
          have h8 : kCoinS τ r (21 + 6 * r) = τ (21 + 6 * r) := zu_ne (by omega)
          have h9 := kFind_hit (r := r) (fr := fr) (be := be) (b := b) (k := k) (τ := τ) (by omega) (by rw [hh]; omega)
          rw [hh] at h9
          exact ⟨congrArg (fun b => jI (bI b)) (by rw [hE, h9]), by rw [hE, h9, h7, h8]⟩
      · refine zg_iload C dX1_findNew_31 (lv_at hl 7 rfl) ?_
        refine zg_callS C X hP hS (kX1_baseOf l τ hτ k (by omega) (by omega)) (cwS 1 C.ts (zgS mlX1_37 stX1_baseOf iniX1 cdX1_baseOf) rfl rfl rfl (by decide +kernel) ⟨Nat.le_of_ble_eq_true rfl, Nat.le_of_ble_eq_true rfl⟩) rfl hl.1 rfl (Nat.le_of_ble_eq_true rfl) dX1_findNew_33 ⟨Nat.zero_le _, Nat.zero_le _⟩ (fun r_68 σ67 H locs q69 hP hS => ?_)
        obtain ⟨rfl, q69⟩ := q69
        have b_70 := kBase_rg (k := k) (by omega) (by omega)
        rw [q69] at hP
        refine zg_goto (tgt := 50) C dX1_findNew_36 (by decide) ?_
        refine zg_istore (lv' := [(8, .int (jI (kBase k))), (7, .int (jI (kDigit (kLevel τ be k)))), (0, .ref (a 11)), (1, .int (jI fr)), (2, .int (jI be)), (3, .int (jI bh)), (4, .ref (a (20 + 6 * r))), (5, .int (jI b)), (6, .int (jI k))]) C dX1_findNew_50 hl (by decide) rfl (fun ls hl => ?_)
        refine zg_iload_n C dX1_findNew_52 rfl (lv_at hl 3 rfl) ?_
        refine zg_bipush C dX1_findNew_53 (by decide) ?_
        refine zg_imul C dX1_findNew_55 ?_
        refine zg_iload C dX1_findNew_56 (lv_at hl 8 rfl) ?_
        refine zg_iadd C dX1_findNew_58 ?_
        refine zg_iconst C dX1_findNew_59 ?_
        refine zg_isub C dX1_findNew_60 ?_
        refine zg_istore (lv' := [(9, .int (jI (((fr * 12) + k) - 1))), (8, .int (jI (kBase k))), (7, .int (jI (kDigit (kLevel τ be k)))), (0, .ref (a 11)), (1, .int (jI fr)), (2, .int (jI be)), (3, .int (jI bh)), (4, .ref (a (20 + 6 * r))), (5, .int (jI b)), (6, .int (jI k))]) C dX1_findNew_61 hl (by decide) rfl (fun ls hl => ?_)
        refine zg_iload C dX1_findNew_63 (lv_at hl 1 rfl) ?_
        refine zg_iload C dX1_findNew_65 (lv_at hl 2 rfl) ?_
        refine zg_isub C dX1_findNew_67 ?_
        refine zg_iconst C dX1_findNew_68 ?_
        refine zg_icmp_le (tgt := 120) C (by omega) (by omega) (by omega) (by omega) dX1_findNew_69 (by decide) (fun c_71 => ?_) (fun c_71 => ?_)
        · first | have hh := kHigh_no (σ := τ) (k := k) (b := b) (by assumption) | have hh := kHigh_b (σ := τ) (k := k) (b := b) (by assumption)
          refine zg_aload_n C dX1_findNew_120 rfl (lv_at hl 3 rfl) ?_
          refine zg_get (j := 0) C X hP (by decide) lyS_11 rfl (zmem uwX1) (by decide) (C.tb flX1_9) (fun _ h9 => h9) rfl dX1_findNew_121 ?_
          refine zg_iload C dX1_findNew_124 (lv_at hl 0 rfl) ?_
          refine zg_aload_n C dX1_findNew_126 rfl (lv_at hl 3 rfl) ?_
          refine zg_iload_n C dX1_findNew_127 rfl (lv_at hl 5 rfl) ?_
          refine zg_iload C dX1_findNew_128 (lv_at hl 9 rfl) ?_
          refine zg_callV C X hP hS (kX1_levelOf l τ hτ be k (by omega) (by omega) (by omega) (by omega)) (cwV 2 C.ts (zgV mlX1_30 imX1_levelOf slX1_levelOf iniX1 cdX1_levelOf) rfl rfl rfl (by decide +kernel) ⟨Nat.le_of_ble_eq_true rfl, Nat.le_of_ble_eq_true rfl⟩) (by decide) lyS_11 rfl rfl rfl hl.1 rfl (Nat.le_of_ble_eq_true rfl) dX1_findNew_130 ⟨Nat.zero_le _, Nat.zero_le _⟩ (fun r_73 σ72 H locs q74 hP hS => ?_)
          obtain ⟨rfl, q74⟩ := q74
          have b_75 := kLevel_rg hτ be k
          rw [q74] at hP
          refine zg_aload_n C dX1_findNew_133 rfl (lv_at hl 3 rfl) ?_
          refine zg_iload C dX1_findNew_134 (lv_at hl 8 rfl) ?_
          refine zg_iload C dX1_findNew_136 (lv_at hl 9 rfl) ?_
          refine zg_callV C X hP hS (kX1_levelOf l τ hτ b k (by omega) (by omega) (by omega) (by omega)) (cwV 2 C.ts (zgV mlX1_30 imX1_levelOf slX1_levelOf iniX1 cdX1_levelOf) rfl rfl rfl (by decide +kernel) ⟨Nat.le_of_ble_eq_true rfl, Nat.le_of_ble_eq_true rfl⟩) (by decide) lyS_11 rfl rfl rfl hl.1 rfl (Nat.le_of_ble_eq_true rfl) dX1_findNew_138 ⟨Nat.zero_le _, Nat.zero_le _⟩ (fun r_77 σ76 H locs q78 hP hS => ?_)
          obtain ⟨rfl, q78⟩ := q78
          have b_79 := kLevel_rg hτ b k
          rw [q78] at hP
          refine zg_aload C dX1_findNew_141 (lv_at hl 7 rfl) ?_
          refine zg_callS C X hP hS (kX1_innerLevel l τ hτ r hr (kLevel τ be k) (kLevel τ b k) (by omega) (by omega) (by omega) (by omega) (by omega)) (cwS 3 C.ts (zgS mlX1_61 stX1_innerLevel iniX1 cdX1_innerLevel) rfl rfl rfl (by decide +kernel) ⟨Nat.le_of_ble_eq_true rfl, Nat.le_of_ble_eq_true rfl⟩) rfl hl.1 rfl (Nat.le_of_ble_eq_true rfl) dX1_findNew_143 ⟨Nat.zero_le _, Nat.zero_le _⟩ (fun r_81 σ80 H locs q82 hP hS => ?_)
          obtain ⟨rfl, q82⟩ := q82
          have b_83 := kInner_rg (x := (kLevel τ be k)) (y := (kLevel τ b k)) (r := r) (n := τ (21 + 6 * r) r + 1) (by omega) (by omega) (by omega) (by omega) (by omega) (by have := rgS_21 hτ (r := r) (by omega) r; omega) (by omega)
          rw [q82] at hP
          refine zg_iast (t0 := 0) C X hP hS (by decide) (fun x => lyS_12) rfl (by decide) (by omega) (by omega) dX1_findNew_146 (fun H locs hP hS => ?_)
          obtain ⟨σ84, e85⟩ : ∃ z_ : Zt, z_ = zu τ 12 (((fr * 12) + k) - 1).toNat (kInner (kLevel τ be k) (kLevel τ b k) r (τ (21 + 6 * r) r + 1)) := ⟨_, rfl⟩
          rw [← e85] at hP
          have w_87 : σ84 12 (((fr * 12) + k) - 1).toNat = kInner (kLevel τ be k) (kLevel τ b k) r (τ (21 + 6 * r) r + 1) := by rw [e85]; exact zu_same _ _ _ _
          have hR86 : rgS σ84 := by rw [e85]; exact rzS_12 hτ (by omega) (by omega)
          refine zg_aload_n C dX1_findNew_147 rfl (lv_at hl 3 rfl) ?_
          refine zg_iload C dX1_findNew_148 (lv_at hl 8 rfl) ?_
          refine zg_iload C dX1_findNew_150 (lv_at hl 9 rfl) ?_
          refine zg_callV C X hP hS (kX1_levelOf l σ84 hR86 b k (by omega) (by omega) (by omega) (by omega)) (cwV 2 C.ts (zgV mlX1_30 imX1_levelOf slX1_levelOf iniX1 cdX1_levelOf) rfl rfl rfl (by decide +kernel) ⟨Nat.le_of_ble_eq_true rfl, Nat.le_of_ble_eq_true rfl⟩) (by decide) lyS_11 rfl rfl rfl hl.1 rfl (Nat.le_of_ble_eq_true rfl) dX1_findNew_152 ⟨Nat.zero_le _, Nat.zero_le _⟩ (fun r_89 σ88 H locs q90 hP hS => ?_)
          obtain ⟨rfl, q90⟩ := q90
          have b_91 := kLevel_rg hR86 b k
          rw [q90] at hP
          refine zg_aload_n C dX1_findNew_155 rfl (lv_at hl 3 rfl) ?_
          refine zg_get (j := 0) C X hP (by decide) lyS_11 rfl (zmem uwX1) (by decide) (C.tb flX1_9) (fun _ h9 => h9) rfl dX1_findNew_156 ?_
          refine zg_iload C dX1_findNew_159 (lv_at hl 0 rfl) ?_
          refine zg_iald (t0 := 0) C X hP (by decide) lyS_12 rfl (by decide) (by omega) (by omega) dX1_findNew_161 ?_
          have b_92 := rgS_12 hR86 ((((fr * 12) + k) - 1).toNat)
          refine zg_icmp_eq (tgt := 168) C (by omega) (by omega) (by omega) (by omega) dX1_findNew_162 (by decide) (fun c_93 => ?_) (fun c_93 => ?_)
          · refine zg_iinc (k := 9) (lv' := [(6, .int (jI (k + 1))), (9, .int (jI (((fr * 12) + k) - 1))), (8, .int (jI (kBase k))), (7, .int (jI (kDigit (kLevel τ be k)))), (0, .ref (a 11)), (1, .int (jI fr)), (2, .int (jI be)), (3, .int (jI bh)), (4, .ref (a (20 + 6 * r))), (5, .int (jI b))]) C dX1_findNew_168 hl rfl (by decide) rfl (fun ls hl => ?_)
            refine zg_goto (tgt := 6) C dX1_findNew_171 (by decide) ?_
            exact ih b (k + 1) σ84 _ _ _ (by omega) (by assumption) (by omega) (by omega) (by omega) (by omega) (by subst e85; rw [zu_ne (show 21 + 6 * r ≠ 12 by omega)]; exact hd) (by subst e85; first | exact hE.trans (kFind_keep (by omega) (by rw [hh]; omega) (by assumption)) | exact hE.trans (kFind_free (by omega) (by rw [hh]; omega) (by assumption))) hP hS (lv_sub hl [4, 5, 6, 7, 8, 9, 0] rfl)
          · refine zg_iconst C dX1_findNew_165 ?_
            refine zg_istore (lv' := [(5, .int (jI (-1))), (9, .int (jI (((fr * 12) + k) - 1))), (8, .int (jI (kBase k))), (7, .int (jI (kDigit (kLevel τ be k)))), (0, .ref (a 11)), (1, .int (jI fr)), (2, .int (jI be)), (3, .int (jI bh)), (4, .ref (a (20 + 6 * r))), (6, .int (jI k))]) C dX1_findNew_166 hl (by decide) rfl (fun ls hl => ?_)
            refine zg_iinc (k := 9) (lv' := [(6, .int (jI (k + 1))), (5, .int (jI (-1))), (9, .int (jI (((fr * 12) + k) - 1))), (8, .int (jI (kBase k))), (7, .int (jI (kDigit (kLevel τ be k)))), (0, .ref (a 11)), (1, .int (jI fr)), (2, .int (jI be)), (3, .int (jI bh)), (4, .ref (a (20 + 6 * r)))]) C dX1_findNew_168 hl rfl (by decide) rfl (fun ls hl => ?_)
            refine zg_goto (tgt := 6) C dX1_findNew_171 (by decide) ?_
            exact ih (-1) (k + 1) σ84 _ _ _ (by omega) (by assumption) (by omega) (by omega) (by omega) (by omega) (by subst e85; rw [zu_ne (show 21 + 6 * r ≠ 12 by omega)]; exact hd) (by subst e85; first | exact hE.trans (kFind_keep (by omega) (by rw [hh]; omega) (by assumption)) | exact hE.trans (kFind_free (by omega) (by rw [hh]; omega) (by assumption))) hP hS (lv_sub hl [5, 6, 7, 8, 9, 1, 0] rfl)
        · refine zg_iload C dX1_findNew_72 (lv_at hl 9 rfl) ?_
          refine zg_iload C dX1_findNew_74 (lv_at hl 2 rfl) ?_
          refine zg_iload C dX1_findNew_76 (lv_at hl 1 rfl) ?_
          refine zg_aload C dX1_findNew_78 (lv_at hl 7 rfl) ?_
          first | have hh := kHigh_no (σ := τ) (k := k) (b := b) (by assumption) | have hh := kHigh_b (σ := τ) (k := k) (b := b) (by assumption)
          refine zg_callV C X hP hS (kX2_throwCoin l τ hτ r hr) (cwV 0 C.ts (zgV mlX1_40 imX2_throwCoin slX2_throwCoin iniX2 cdX2_throwCoin) rfl rfl rfl (by decide +kernel) ⟨Nat.le_of_ble_eq_true rfl, Nat.le_of_ble_eq_true rfl⟩) (hkS_20 hr) (lyS_20 hr) rfl rfl rfl hl.1 rfl (Nat.le_of_ble_eq_true rfl) dX1_findNew_80 ⟨Nat.zero_le _, Nat.zero_le _⟩ (fun r_95 σ94 H locs q96 hP hS => ?_)
          obtain ⟨rfl, q96⟩ := q96
          have b_97 := kCoin_rg τ r
          have hR98 : rgS σ94 := by rw [q96]; exact rzS_20_3 hτ (by omega)
          refine zg_callS C X hP hS (kX1_lastDigit l σ94 hR98 k (kDigit (kLevel τ be k)) (kBase k) (kCoin τ r) (by omega) (by omega) (by omega) (by omega) (by omega) (by omega) (by omega)) (cwS 4 C.ts (zgS mlX1_46 stX1_lastDigit iniX1 cdX1_lastDigit) rfl rfl rfl (by decide +kernel) ⟨Nat.le_of_ble_eq_true rfl, Nat.le_of_ble_eq_true rfl⟩) rfl hl.1 rfl (Nat.le_of_ble_eq_true rfl) dX1_findNew_83 ⟨Nat.zero_le _, Nat.zero_le _⟩ (fun r_100 σ99 H locs q101 hP hS => ?_)
          obtain ⟨rfl, q101⟩ := q101
          have b_102 := kLastD_rg (k := k) (lo := (kDigit (kLevel τ be k))) (hi := (kBase k)) (co := (kCoin τ r)) (by omega) (by omega) (by omega) (by omega)
          rw [q101] at hP
          refine zg_istore (lv' := [(10, .int (jI (kLastD k (kDigit (kLevel τ be k)) (kBase k) (kCoin τ r)))), (9, .int (jI (((fr * 12) + k) - 1))), (8, .int (jI (kBase k))), (7, .int (jI (kDigit (kLevel τ be k)))), (0, .ref (a 11)), (1, .int (jI fr)), (2, .int (jI be)), (3, .int (jI bh)), (4, .ref (a (20 + 6 * r))), (5, .int (jI b)), (6, .int (jI k))]) C dX1_findNew_86 hl (by decide) rfl (fun ls hl => ?_)
          refine zg_aload_n C dX1_findNew_88 rfl (lv_at hl 4 rfl) ?_
          refine zg_get (j := 0) C X hP (by decide) lyS_11 rfl (zmem uwX1) (by decide) (C.tb flX1_9) (fun _ h9 => h9) rfl dX1_findNew_89 ?_
          refine zg_iload C dX1_findNew_92 (lv_at hl 1 rfl) ?_
          refine zg_iload C dX1_findNew_94 (lv_at hl 0 rfl) ?_
          refine zg_aload C dX1_findNew_96 (lv_at hl 8 rfl) ?_
          refine zg_get (j := 0) C X hP (hkS_20 hr) (lyS_20 hr) rfl (zmem uwX2) (by decide) (C.tb flX1_50) (fun _ h9 => h9) rfl dX1_findNew_98 ?_
          have b_103 := rgS_20_0 hR98 hr
          refine zg_aload C dX1_findNew_101 (lv_at hl 8 rfl) ?_
          have b_w : σ94 (21 + 6 * r) r = τ (21 + 6 * r) r := by rw [q96]; exact congrFun (zu_ne (by omega)) _
          refine zg_callV C X hP hS (kX2_nextNumber l σ94 hR98 r hr) (cwV 0 C.ts (zgV mlX1_54 imX2_nextNumber slX2_nextNumber iniX2 cdX2_nextNumber) rfl rfl rfl (by decide +kernel) ⟨Nat.le_of_ble_eq_true rfl, Nat.le_of_ble_eq_true rfl⟩) (hkS_20 hr) (lyS_20 hr) rfl rfl rfl hl.1 rfl (Nat.le_of_ble_eq_true rfl) dX1_findNew_103 ⟨Nat.zero_le _, Nat.zero_le _⟩ (fun r_105 σ104 H locs q106 hP hS => ?_)
          obtain ⟨rfl, q106⟩ := q106
          rw [q106] at hP
          refine zg_callS C X hP hS (kX1_makeLevel l σ94 hR98 (kLastD k (kDigit (kLevel τ be k)) (kBase k) (kCoin τ r)) (σ94 (20 + 6 * r) 0) (σ94 (21 + 6 * r) r + 1) (by omega) (by omega) (by omega) (by omega) (by omega) (by omega)) (cwS 3 C.ts (zgS mlX1_57 stX1_makeLevel iniX1 cdX1_makeLevel) rfl rfl rfl (by decide +kernel) ⟨Nat.le_of_ble_eq_true rfl, Nat.le_of_ble_eq_true rfl⟩) rfl hl.1 rfl (Nat.le_of_ble_eq_true rfl) dX1_findNew_106 ⟨Nat.zero_le _, Nat.zero_le _⟩ (fun r_108 σ107 H locs q109 hP hS => ?_)
          obtain ⟨rfl, q109⟩ := q109
          have b_110 := kMake_rg (d := (kLastD k (kDigit (kLevel τ be k)) (kBase k) (kCoin τ r))) (q := (σ94 (20 + 6 * r) 0)) (n := (σ94 (21 + 6 * r) r + 1)) (by omega) (by omega) (by omega) (by omega) (by omega) (by omega)
          rw [q109] at hP
          refine zg_iast (t0 := 0) C X hP hS (by decide) (fun x => lyS_12) rfl (by decide) (by omega) (by omega) dX1_findNew_109 (fun H locs hP hS => ?_)
          obtain ⟨σ111, e112⟩ : ∃ z_ : Zt, z_ = zu σ94 12 (((fr * 12) + k) - 1).toNat (kMake (kLastD k (kDigit (kLevel τ be k)) (kBase k) (kCoin τ r)) (σ94 (20 + 6 * r) 0) (σ94 (21 + 6 * r) r + 1)) := ⟨_, rfl⟩
          rw [← e112] at hP
          have w_114 : σ111 12 (((fr * 12) + k) - 1).toNat = kMake (kLastD k (kDigit (kLevel τ be k)) (kBase k) (kCoin τ r)) (σ94 (20 + 6 * r) 0) (σ94 (21 + 6 * r) r + 1) := by rw [e112]; exact zu_same _ _ _ _
          have hR113 : rgS σ111 := by rw [e112]; exact rzS_12 hR98 (by omega) (by omega)
          refine zg_aload_n C dX1_findNew_110 rfl (lv_at hl 4 rfl) ?_
          refine zg_get (j := 1) C X hP (by decide) lyS_11 rfl (zmem uwX1) (by decide) (C.tb flX1_15) (fun _ h9 => h9) rfl dX1_findNew_111 ?_
          refine zg_iload_n C dX1_findNew_114 rfl (lv_at hl 5 rfl) ?_
          refine zg_iload C dX1_findNew_115 (lv_at hl 10 rfl) ?_
          refine zg_iast (t0 := 0) C X hP hS (by decide) (fun x => lyS_13) rfl (by decide) (by omega) (by omega) dX1_findNew_117 (fun H locs hP hS => ?_)
          obtain ⟨σ115, e116⟩ : ∃ z_ : Zt, z_ = zu σ111 13 (fr).toNat k := ⟨_, rfl⟩
          rw [← e116] at hP
          have w_118 : σ115 13 (fr).toNat = k := by rw [e116]; exact zu_same _ _ _ _
          have hR117 : rgS σ115 := by rw [e116]; exact rzS_13 hR113 (by omega) (by omega)
          refine zg_iconst C dX1_findNew_118 ?_
          refine zg_zret (b := true) C hP hS dX1_findNew_119 ?_
          subst q96 e112 e116
          have h7 : kCoinS τ r (20 + 6 * r) 0 = (r : Int) := by have := rgS_20_0 (kCoinS_rg hτ hr) hr; omega
          have h8 : kCoinS τ r (21 + 6 * r) = τ (21 + 6 * r) := zu_ne (by omega)
          have h9 := kFind_hit (r := r) (fr := fr) (be := be) (b := b) (k := k) (τ := τ) (by omega) (by rw [hh]; omega)
          rw [hh] at h9
          exact ⟨congrArg (fun b => jI (bI b)) (by rw [hE, h9]), by rw [hE, h9, h7, h8]⟩
set_option maxHeartbeats 4000000 in
set_option maxRecDepth 100000 in
theorem kX1_findNew (l : Launch) {D : va_G} {a : Nat → Nat} {cI cZ cR : ClassId} (σ : Zt) (hR : rgS σ) (r : Nat) (hr : r < 6) (fr : Int) (be : Int) (bh : Int) (fr0 : 0 ≤ fr) (fr1 : fr < 400) (be0 : -1 ≤ be) (be1 : be < 400) (bh0 : -1 ≤ bh) (bh1 : bh < 400) (dn : σ (21 + 6 * r) r < 400) : zc l D vwCl (tyS cI cZ cR) 56 (layS cI cZ cR a) a yX1_findNew wsX1_findNew ({ frames := 2, cells := 0, slots := 0, locals := 45 }) [.ref (a 11), .int (jI fr), .int (jI be), .int (jI bh), .ref (a (20 + 6 * r))] σ (fun r_ u_ => r_ = jI (bI ((kFind r fr be 12 1 bh σ).1)) ∧ u_ = (kFind r fr be 12 1 bh σ).2) := by
  refine zc_of (cc := cX1_findNew) (maxL := 11) (ret := some .boolean) (own := RX1) (by decide) rfl rfl (Nat.le_of_ble_eq_true rfl) rfl ?_
  intro p e s m below meth c A ls C X hP hS hl
  refine zg_iload_n C dX1_findNew_0 rfl (lv_at hl 3 rfl) ?_
  refine zg_istore (lv' := [(5, .int (jI bh)), (0, .ref (a 11)), (1, .int (jI fr)), (2, .int (jI be)), (3, .int (jI bh)), (4, .ref (a (20 + 6 * r)))]) C dX1_findNew_1 hl (by decide) rfl (fun ls hl => ?_)
  refine zg_iconst C dX1_findNew_3 ?_
  refine zg_istore (lv' := [(6, .int (jI 1)), (5, .int (jI bh)), (0, .ref (a 11)), (1, .int (jI fr)), (2, .int (jI be)), (3, .int (jI bh)), (4, .ref (a (20 + 6 * r)))]) C dX1_findNew_4 hl (by decide) rfl (fun ls hl => ?_)
  exact lpX1_findNew_6 σ hR r hr fr be bh fr0 fr1 be0 be1 bh0 bh1 dn C X 14 bh 1 σ _ _ _ (by omega) hR (by omega) (by omega) (by omega) (by omega) dn rfl hP hS (lv_sub hl [2, 3, 4, 5, 6, 1, 0] rfl)
set_option maxHeartbeats 4000000 in
set_option maxRecDepth 100000 in
theorem lpX1_insert_52 {l : Launch} {D : va_G} {a : Nat → Nat} {cI cZ cR : ClassId} {p : Program} {e : Env} {s : State} {m : MethodId} {below : List Frame} {meth : Method} {c : Code} {A : Nat → Prop} (σ : Zt) (hR : rgS σ) (fr : Int) (be : Int) (fr0 : 0 ≤ fr) (fr1 : fr < 400) (be0 : -1 ≤ be) (be1 : be < 400) (pp : σ 11 4 < 400) (bk : be = -1 ∨ σ 15 be.toNat < σ 11 4)  (C : zk p s m ([.ref (a 11), .int (jI fr), .int (jI be)] : List Value).toArray meth c cX1_insert 5 (none) wsX1_insert RX1) (X : zx D vwCl (tyS cI cZ cR) A a 56 s) :
    ∀ (n : Nat) (g i : Int) (τ : Zt) (H : Heap) (locs : List Loc) (ls : Array Slot), (i.toNat < n) → (rgS τ) → (0 ≤ g) → (g ≤ i) → (i < 400) → (g = kGoalOf σ fr be) → (τ 11 4 = σ 11 4) → (kShift (σ 11 4 - g).toNat (σ 11 4) σ = kShift (i - g).toNat i τ) → va_P D vwCl (zw 56 (layS cI cZ cR a) a τ) H → va_S A s.heap H locs → lv_has ls 5 [(0, .ref (a 11)), (1, .int (jI fr)), (2, .int (jI be)), (3, .int (jI g)), (4, .int (jI i))] →
      W p l e ({ frames := 2, cells := 0, slots := 0, locals := 47 }) s m ([.ref (a 11), .int (jI fr), .int (jI be)] : List Value).toArray below meth c H locs 0 0 (MQ below (va_Qv (fun u_ => u_ = kInsert σ fr be) (fun (u : Zt) t => va_P D vwCl (zw 56 (layS cI cZ cR a) a u) t.heap) A) ([.ref (a 11), .int (jI fr), .int (jI be)] : List Value).toArray s 0 0 A) (F0 m 52 ls []) := by
  intro n
  induction n with
  | zero =>
    intro g i τ H locs ls hn hτ g0 gi i1 hg ht hE hP hS hl
    exact absurd hn (by omega)
  | succ n ih =>
    intro g i τ H locs ls hn hτ g0 gi i1 hg ht hE hP hS hl
    refine zg_iload C dX1_insert_52 (lv_at hl 4 rfl) ?_
    refine zg_iload_n C dX1_insert_54 rfl (lv_at hl 3 rfl) ?_
    refine zg_icmp_le (tgt := 94) C (by omega) (by omega) (by omega) (by omega) dX1_insert_55 (by decide) (fun c_1 => ?_) (fun c_1 => ?_)
    · refine zg_aload_n C dX1_insert_94 rfl (lv_at hl 0 rfl) ?_
      refine zg_get (j := 2) C X hP (by decide) lyS_11 rfl (zmem uwX1) (by decide) (C.tb flX1_18) (fun _ h9 => h9) rfl dX1_insert_95 ?_
      refine zg_iload_n C dX1_insert_98 rfl (lv_at hl 3 rfl) ?_
      refine zg_iload_n C dX1_insert_99 rfl (lv_at hl 1 rfl) ?_
      refine zg_iast (t0 := 0) C X hP hS (by decide) (fun x => lyS_14) rfl (by decide) (by omega) (by omega) dX1_insert_100 (fun H locs hP hS => ?_)
      obtain ⟨σ2, e3⟩ : ∃ z_ : Zt, z_ = zu τ 14 (g).toNat fr := ⟨_, rfl⟩
      rw [← e3] at hP
      have w_5 : σ2 14 (g).toNat = fr := by rw [e3]; exact zu_same _ _ _ _
      have w_6 : σ2 11 4 = τ 11 4 := by rw [e3]; first | exact congrFun (zu_ne (by omega)) _ | exact zu_nj (by omega)
      have hR4 : rgS σ2 := by rw [e3]; exact rzS_14 hτ (by omega) (by omega)
      refine zg_aload_n C dX1_insert_101 rfl (lv_at hl 0 rfl) ?_
      refine zg_get (j := 3) C X hP (by decide) lyS_11 rfl (zmem uwX1) (by decide) (C.tb flX1_21) (fun _ h9 => h9) rfl dX1_insert_102 ?_
      refine zg_iload_n C dX1_insert_105 rfl (lv_at hl 1 rfl) ?_
      refine zg_iload_n C dX1_insert_106 rfl (lv_at hl 3 rfl) ?_
      refine zg_iast (t0 := 0) C X hP hS (by decide) (fun x => lyS_15) rfl (by decide) (by omega) (by omega) dX1_insert_107 (fun H locs hP hS => ?_)
      obtain ⟨σ7, e8⟩ : ∃ z_ : Zt, z_ = zu σ2 15 (fr).toNat g := ⟨_, rfl⟩
      rw [← e8] at hP
      have w_10 : σ7 15 (fr).toNat = g := by rw [e8]; exact zu_same _ _ _ _
      have w_11 : σ7 11 4 = σ2 11 4 := by rw [e8]; first | exact congrFun (zu_ne (by omega)) _ | exact zu_nj (by omega)
      have hR9 : rgS σ7 := by rw [e8]; exact rzS_15 hR4 (by omega) (by omega)
      refine zg_aload_n C dX1_insert_108 rfl (lv_at hl 0 rfl) ?_
      refine zg_dup C dX1_insert_109 rfl ?_
      refine zg_get (j := 4) C X hP (by decide) lyS_11 rfl (zmem uwX1) (by decide) (C.tb flX1_65) (fun _ h9 => h9) rfl dX1_insert_110 ?_
      have b_12 := rgS_11_4 hR9
      refine zg_iconst C dX1_insert_113 ?_
      refine zg_iadd C dX1_insert_114 ?_
      refine zg_put (j := 4) (v := (σ7 11 4) + 1) C X hP hS (by decide) lyS_11 rfl (zmem uwX1) tyX1 tyX1_ok nmX1 (by decide) (C.tb flX1_65) (fun _ h9 => h9) rfl (by decide +kernel) (Nat.le_of_ble_eq_true rfl) (by rw [lyS_11]; rfl) dX1_insert_115 (fun H locs hP hS => ?_)
      obtain ⟨σ13, e14⟩ : ∃ z_ : Zt, z_ = zu σ7 11 4 ((σ7 11 4) + 1) := ⟨_, rfl⟩
      rw [← e14] at hP
      have w_16 : σ13 11 4 = (σ7 11 4) + 1 := by rw [e14]; exact zu_same _ _ _ _
      have hR15 : rgS σ13 := by rw [e14]; exact rzS_11_4 hR9 (by omega) (by omega)
      refine zg_vret C hP hS dX1_insert_118 ?_
      subst e3 e8 e14
      rw [kInsert, ← hg, hE, kShift_end (by omega), ← ht]
      rfl
    · refine zg_aload_n C dX1_insert_58 rfl (lv_at hl 0 rfl) ?_
      refine zg_get (j := 2) C X hP (by decide) lyS_11 rfl (zmem uwX1) (by decide) (C.tb flX1_18) (fun _ h9 => h9) rfl dX1_insert_59 ?_
      refine zg_iload C dX1_insert_62 (lv_at hl 4 rfl) ?_
      refine zg_aload_n C dX1_insert_64 rfl (lv_at hl 0 rfl) ?_
      refine zg_get (j := 2) C X hP (by decide) lyS_11 rfl (zmem uwX1) (by decide) (C.tb flX1_18) (fun _ h9 => h9) rfl dX1_insert_65 ?_
      refine zg_iload C dX1_insert_68 (lv_at hl 4 rfl) ?_
      refine zg_iconst C dX1_insert_70 ?_
      refine zg_isub C dX1_insert_71 ?_
      refine zg_iald (t0 := 0) C X hP (by decide) lyS_14 rfl (by decide) (by omega) (by omega) dX1_insert_72 ?_
      have b_17 := rgS_14 hτ ((i - 1).toNat)
      refine zg_iast (t0 := 0) C X hP hS (by decide) (fun x => lyS_14) rfl (by decide) (by omega) (by omega) dX1_insert_73 (fun H locs hP hS => ?_)
      obtain ⟨σ18, e19⟩ : ∃ z_ : Zt, z_ = zu τ 14 (i).toNat (τ 14 (i - 1).toNat) := ⟨_, rfl⟩
      rw [← e19] at hP
      have w_21 : σ18 14 (i).toNat = τ 14 (i - 1).toNat := by rw [e19]; exact zu_same _ _ _ _
      have w_22 : σ18 11 4 = τ 11 4 := by rw [e19]; first | exact congrFun (zu_ne (by omega)) _ | exact zu_nj (by omega)
      have hR20 : rgS σ18 := by rw [e19]; exact rzS_14 hτ (by omega) (by omega)
      refine zg_aload_n C dX1_insert_74 rfl (lv_at hl 0 rfl) ?_
      refine zg_get (j := 3) C X hP (by decide) lyS_11 rfl (zmem uwX1) (by decide) (C.tb flX1_21) (fun _ h9 => h9) rfl dX1_insert_75 ?_
      refine zg_aload_n C dX1_insert_78 rfl (lv_at hl 0 rfl) ?_
      refine zg_get (j := 2) C X hP (by decide) lyS_11 rfl (zmem uwX1) (by decide) (C.tb flX1_18) (fun _ h9 => h9) rfl dX1_insert_79 ?_
      refine zg_iload C dX1_insert_82 (lv_at hl 4 rfl) ?_
      refine zg_iald (t0 := 0) C X hP (by decide) lyS_14 rfl (by decide) (by omega) (by omega) dX1_insert_84 ?_
      have b_23 := rgS_14 hR20 ((i).toNat)
      refine zg_iload C dX1_insert_85 (lv_at hl 4 rfl) ?_
      refine zg_iast (t0 := 0) C X hP hS (by decide) (fun x => lyS_15) rfl (by decide) (by omega) (by omega) dX1_insert_87 (fun H locs hP hS => ?_)
      obtain ⟨σ24, e25⟩ : ∃ z_ : Zt, z_ = zu σ18 15 (σ18 14 (i).toNat).toNat i := ⟨_, rfl⟩
      rw [← e25] at hP
      have w_27 : σ24 15 (σ18 14 (i).toNat).toNat = i := by rw [e25]; exact zu_same _ _ _ _
      have w_28 : σ24 11 4 = σ18 11 4 := by rw [e25]; first | exact congrFun (zu_ne (by omega)) _ | exact zu_nj (by omega)
      have hR26 : rgS σ24 := by rw [e25]; exact rzS_15 hR20 (by omega) (by omega)
      refine zg_iinc (k := 4) (lv' := [(4, .int (jI (i + -1))), (0, .ref (a 11)), (1, .int (jI fr)), (2, .int (jI be)), (3, .int (jI g))]) C dX1_insert_88 hl rfl (by decide) rfl (fun ls hl => ?_)
      refine zg_goto (tgt := 52) C dX1_insert_91 (by decide) ?_
      exact ih g (i + -1) σ24 _ _ _ (by omega) (by assumption) (by omega) (by omega) (by omega) hg (by omega) (by subst e19 e25; rw [hE, kShift_step (by omega), zu_same]) hP hS (lv_sub hl [1, 2, 3, 4, 0] rfl)
set_option maxHeartbeats 4000000 in
set_option maxRecDepth 100000 in
theorem lpX1_insert_18 {l : Launch} {D : va_G} {a : Nat → Nat} {cI cZ cR : ClassId} {p : Program} {e : Env} {s : State} {m : MethodId} {below : List Frame} {meth : Method} {c : Code} {A : Nat → Prop} (σ : Zt) (hR : rgS σ) (fr : Int) (be : Int) (fr0 : 0 ≤ fr) (fr1 : fr < 400) (be0 : -1 ≤ be) (be1 : be < 400) (pp : σ 11 4 < 400) (bk : be = -1 ∨ σ 15 be.toNat < σ 11 4)  (C : zk p s m ([.ref (a 11), .int (jI fr), .int (jI be)] : List Value).toArray meth c cX1_insert 5 (none) wsX1_insert RX1) (X : zx D vwCl (tyS cI cZ cR) A a 56 s) :
    ∀ (n : Nat) (g : Int) (H : Heap) (locs : List Loc) (ls : Array Slot), ((401 - g).toNat < n) → (0 ≤ g) → (g ≤ σ 11 4) → (kGoalOf σ fr be = kGoal σ fr (σ 11 4 - g).toNat g) → va_P D vwCl (zw 56 (layS cI cZ cR a) a σ) H → va_S A s.heap H locs → lv_has ls 5 [(0, .ref (a 11)), (1, .int (jI fr)), (2, .int (jI be)), (3, .int (jI g))] →
      W p l e ({ frames := 2, cells := 0, slots := 0, locals := 47 }) s m ([.ref (a 11), .int (jI fr), .int (jI be)] : List Value).toArray below meth c H locs 0 0 (MQ below (va_Qv (fun u_ => u_ = kInsert σ fr be) (fun (u : Zt) t => va_P D vwCl (zw 56 (layS cI cZ cR a) a u) t.heap) A) ([.ref (a 11), .int (jI fr), .int (jI be)] : List Value).toArray s 0 0 A) (F0 m 18 ls []) := by
  intro n
  induction n with
  | zero =>
    intro g  H locs ls hn g0 g1 hE hP hS hl
    exact absurd hn (by omega)
  | succ n ih =>
    intro g  H locs ls hn g0 g1 hE hP hS hl
    refine zg_iload_n C dX1_insert_18 rfl (lv_at hl 3 rfl) ?_
    refine zg_aload_n C dX1_insert_19 rfl (lv_at hl 0 rfl) ?_
    refine zg_get (j := 4) C X hP (by decide) lyS_11 rfl (zmem uwX1) (by decide) (C.tb flX1_65) (fun _ h9 => h9) rfl dX1_insert_20 ?_
    have b_29 := rgS_11_4 hR
    refine zg_icmp_ge (tgt := 46) C (by omega) (by omega) (by omega) (by omega) dX1_insert_23 (by decide) (fun c_30 => ?_) (fun c_30 => ?_)
    · refine zg_aload_n C dX1_insert_46 rfl (lv_at hl 0 rfl) ?_
      refine zg_get (j := 4) C X hP (by decide) lyS_11 rfl (zmem uwX1) (by decide) (C.tb flX1_65) (fun _ h9 => h9) rfl dX1_insert_47 ?_
      have b_31 := rgS_11_4 hR
      refine zg_istore (lv' := [(4, .int (jI (σ 11 4))), (0, .ref (a 11)), (1, .int (jI fr)), (2, .int (jI be)), (3, .int (jI g))]) C dX1_insert_50 hl (by decide) rfl (fun ls hl => ?_)
      exact lpX1_insert_52 σ hR fr be fr0 fr1 be0 be1 pp bk C X 401 g (σ 11 4) σ _ _ _ (by omega) hR (by omega) (by omega) (by omega) (by rw [hE]; first | rw [kGoal_end (by omega)] | rw [kGoal_stop (by omega) (by assumption)]) rfl rfl hP hS (lv_sub hl [1, 2, 3, 4, 0] rfl)
    · refine zg_aload_n C dX1_insert_26 rfl (lv_at hl 0 rfl) ?_
      refine zg_aload_n C dX1_insert_27 rfl (lv_at hl 0 rfl) ?_
      refine zg_get (j := 2) C X hP (by decide) lyS_11 rfl (zmem uwX1) (by decide) (C.tb flX1_18) (fun _ h9 => h9) rfl dX1_insert_28 ?_
      refine zg_iload_n C dX1_insert_31 rfl (lv_at hl 3 rfl) ?_
      refine zg_iald (t0 := 0) C X hP (by decide) lyS_14 rfl (by decide) (by omega) (by omega) dX1_insert_32 ?_
      have b_32 := rgS_14 hR ((g).toNat)
      refine zg_iload_n C dX1_insert_33 rfl (lv_at hl 1 rfl) ?_
      refine zg_callV C X hP hS (kX1_isBefore l σ hR (σ 14 (g).toNat) fr (by omega) (by omega) (by omega) (by omega)) (cwV 2 C.ts (zgV mlX1_68 imX1_isBefore slX1_isBefore iniX1 cdX1_isBefore) rfl rfl rfl (by decide +kernel) ⟨Nat.le_of_ble_eq_true rfl, Nat.le_of_ble_eq_true rfl⟩) (by decide) lyS_11 rfl rfl rfl hl.1 rfl (Nat.le_of_ble_eq_true rfl) dX1_insert_34 ⟨Nat.zero_le _, Nat.zero_le _⟩ (fun r_34 σ33 H locs q35 hP hS => ?_)
      obtain ⟨rfl, q35⟩ := q35
      rw [q35] at hP
      refine zg_ifeqB (tgt := 46) C dX1_insert_37 (by decide) (fun c_36 => ?_) (fun c_36 => ?_)
      · refine zg_aload_n C dX1_insert_46 rfl (lv_at hl 0 rfl) ?_
        refine zg_get (j := 4) C X hP (by decide) lyS_11 rfl (zmem uwX1) (by decide) (C.tb flX1_65) (fun _ h9 => h9) rfl dX1_insert_47 ?_
        have b_37 := rgS_11_4 hR
        refine zg_istore (lv' := [(4, .int (jI (σ 11 4))), (0, .ref (a 11)), (1, .int (jI fr)), (2, .int (jI be)), (3, .int (jI g))]) C dX1_insert_50 hl (by decide) rfl (fun ls hl => ?_)
        exact lpX1_insert_52 σ hR fr be fr0 fr1 be0 be1 pp bk C X 401 g (σ 11 4) σ _ _ _ (by omega) hR (by omega) (by omega) (by omega) (by rw [hE]; first | rw [kGoal_end (by omega)] | rw [kGoal_stop (by omega) (by assumption)]) rfl rfl hP hS (lv_sub hl [1, 2, 3, 4, 0] rfl)
      · refine zg_iinc (k := 3) (lv' := [(3, .int (jI (g + 1))), (0, .ref (a 11)), (1, .int (jI fr)), (2, .int (jI be))]) C dX1_insert_40 hl rfl (by decide) rfl (fun ls hl => ?_)
        refine zg_goto (tgt := 18) C dX1_insert_43 (by decide) ?_
        exact ih (g + 1) _ _ _ (by omega) (by omega) (by omega) (hE.trans (kGoal_step (by omega) (by assumption))) hP hS (lv_sub hl [1, 2, 3, 0] rfl)
set_option maxHeartbeats 4000000 in
set_option maxRecDepth 100000 in
theorem kX1_insert (l : Launch) {D : va_G} {a : Nat → Nat} {cI cZ cR : ClassId} (σ : Zt) (hR : rgS σ) (fr : Int) (be : Int) (fr0 : 0 ≤ fr) (fr1 : fr < 400) (be0 : -1 ≤ be) (be1 : be < 400) (pp : σ 11 4 < 400) (bk : be = -1 ∨ σ 15 be.toNat < σ 11 4) : zv l D vwCl (tyS cI cZ cR) 56 (layS cI cZ cR a) a yX1_insert wsX1_insert ({ frames := 2, cells := 0, slots := 0, locals := 47 }) [.ref (a 11), .int (jI fr), .int (jI be)] σ (fun u_ => u_ = kInsert σ fr be) := by
  refine zv_of (cc := cX1_insert) (maxL := 5) (own := RX1) (by decide) rfl rfl (Nat.le_of_ble_eq_true rfl) rfl ?_
  intro p e s m below meth c A ls C X hP hS hl
  have b_0 := rgS_11_4 hR
  refine zg_iload_n C dX1_insert_0 rfl (lv_at hl 2 rfl) ?_
  refine zg_iconst C dX1_insert_1 ?_
  refine zg_icmp_ne (tgt := 9) C (by omega) (by omega) (by omega) (by omega) dX1_insert_2 (by decide) (fun c_38 => ?_) (fun c_38 => ?_)
  · refine zg_aload_n C dX1_insert_9 rfl (lv_at hl 0 rfl) ?_
    refine zg_get (j := 3) C X hP (by decide) lyS_11 rfl (zmem uwX1) (by decide) (C.tb flX1_21) (fun _ h9 => h9) rfl dX1_insert_10 ?_
    refine zg_iload_n C dX1_insert_13 rfl (lv_at hl 2 rfl) ?_
    refine zg_iald (t0 := 0) C X hP (by decide) lyS_15 rfl (by decide) (by omega) (by omega) dX1_insert_14 ?_
    have b_39 := rgS_15 hR ((be).toNat)
    refine zg_iconst C dX1_insert_15 ?_
    refine zg_iadd C dX1_insert_16 ?_
    refine zg_istore_n (lv' := [(3, .int (jI ((σ 15 (be).toNat) + 1))), (0, .ref (a 11)), (1, .int (jI fr)), (2, .int (jI be))]) C dX1_insert_17 rfl hl (by decide) rfl (fun ls hl => ?_)
    exact lpX1_insert_18 σ hR fr be fr0 fr1 be0 be1 pp bk C X 402 ((σ 15 (be).toNat) + 1) _ _ _ (by omega) (by omega) (by omega) (by unfold kGoalOf; first | rw [if_pos (by assumption), Int.sub_zero] | rw [if_neg (by assumption)]) hP hS (lv_sub hl [1, 2, 3, 0] rfl)
  · refine zg_iconst C dX1_insert_5 ?_
    refine zg_goto (tgt := 17) C dX1_insert_6 (by decide) ?_
    refine zg_istore_n (lv' := [(3, .int (jI 0)), (0, .ref (a 11)), (1, .int (jI fr)), (2, .int (jI be))]) C dX1_insert_17 rfl hl (by decide) rfl (fun ls hl => ?_)
    exact lpX1_insert_18 σ hR fr be fr0 fr1 be0 be1 pp bk C X 402 0 _ _ _ (by omega) (by omega) (by omega) (by unfold kGoalOf; first | rw [if_pos (by assumption), Int.sub_zero] | rw [if_neg (by assumption)]) hP hS (lv_sub hl [1, 2, 3, 0] rfl)
