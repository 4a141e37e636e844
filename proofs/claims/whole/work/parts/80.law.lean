/-! THE LAW'S LOOP AND START. Laid by program. -/
set_option maxHeartbeats 4000000 in
set_option maxRecDepth 100000 in
theorem lw_loop {p : Program} {l : Launch} {e : Env} {s : State} {m : MethodId} {below : List Frame} {meth : Method} {c : Code} {D : va_G} {cI cZ cR cJ : ClassId} {b L d : Nat} {xs : Nat → Int32} (F : lwE p l s m #[Value.ref b] below meth c D cI cZ cR cJ b L d xs) (hL0 : L ≤ 4000) :
    ∀ (n : Nat) (i : Int) (κ μ : Zt) (H : Heap) (locs : List Loc) (ls : Array Slot) (cells slots : Nat), (L - i).toNat < n → 0 ≤ i → (cells : Int) + (6000 - i) ≤ 20000 → (slots : Int) + 6 * (6000 - i) ≤ 200000 → i ≤ 4006 → lwI D cI cZ cR cJ d s κ μ H locs → lv_has ls 7 [(0, .ref b), (1, .ref (aS d 0)), (2, .ref (aM d 0)), (3, .ref (d + 84)), (4, .int (jI i))] →
      W p l e lwR s m #[Value.ref b] below meth c H locs cells slots (lw_Z below #[Value.ref b] s) (F0 m 23 ls []) := by
  intro n
  induction n with
  | zero => intro i κ μ H locs ls cells slots hn; exact absurd hn (by omega)
  | succ n ih =>
    intro i κ μ H locs ls cells slots hn i0 hc hs i4 hI hl
    have F0' := F
    obtain ⟨C, X1, X2, KJ, hz, hX, hb, hL, hds, hcw_sign, hcw_path, hcw_kinds, hl0⟩ := F0'
    have hbA : ¬ d ≤ b := by omega
    have hS := hI.2.2.2.2.2.2
    refine zg_iload C dL_law_23 (lv_at hl 4 rfl) ?_
    refine zg_aload_n C dL_law_25 rfl (lv_at hl 0 rfl) ?_
    refine zj_slen C hX hb hbA hS dL_law_26 ?_
    refine zg_bipush C dL_law_27 (by decide) ?_
    refine zg_isub C dL_law_29 ?_
    refine zg_icmp_gt (tgt := 1080) C (by omega) (by omega) (by omega) (by omega) dL_law_30 (by decide) (fun c1 => ?_) (fun c1 => ?_)
    · refine zg_iconst C dL_law_1080 ?_
      refine W.widen (k := 601024) (n := 7293034) (by omega) (by omega) ?_
      refine va_forget (fun q hq => by have h9 := hS.2.2 q hq; rw [← hds]; exact h9) ?_
      exact lw_ret C.1.1 C.1.2.1 C.2.1 C.2.2 dL_law_1081
    · refine zg_aload_n C dL_law_33 rfl (lv_at hl 0 rfl) ?_
      refine zg_iload C dL_law_34 (lv_at hl 4 rfl) ?_
      refine zj_sld C hX hb hbA hS hL (by omega) (by omega) dL_law_36 ?_
      refine zg_bipush C dL_law_37 (by decide) ?_
      refine zj_iand C dL_law_39 (fun w w1 w2 => ?_)
      have hcs : cells + 1 ≤ lwR.cells ∧ slots + 6 ≤ lwR.slots := ⟨by show cells + 1 ≤ 601024; omega, by show slots + 6 ≤ 7293034; omega⟩
      have kk : lwK p l e s m #[Value.ref b] below meth c D cI cZ cR cJ b d i cells slots (lw_Z below #[Value.ref b] s) := by
        intro κ μ H locs ls c1 s1 h1 h2 hI hl
        refine zg_iinc (k := 4) (lv' := [(4, .int (jI (i + 6))), (0, .ref b), (1, .ref (aS d 0)), (2, .ref (aM d 0)), (3, .ref (d + 84))]) C dL_law_1074 hl rfl (by decide) rfl (fun ls hl => ?_)
        refine zg_goto (tgt := 23) C dL_law_1077 (by decide) ?_
        exact ih (i + 6) κ μ H locs ls c1 s1 (by omega) (by omega) (by omega) (by omega) (by omega) hI (lv_sub hl [1, 2, 3, 4, 0] rfl)
      rcases (show (w < 0 ∨ 20 < w) ∨ w = 0 ∨ w = 1 ∨ w = 2 ∨ w = 3 ∨ w = 4 ∨ w = 5 ∨ w = 6 ∨ w = 7 ∨ w = 8 ∨ w = 9 ∨ w = 10 ∨ w = 11 ∨ w = 12 ∨ w = 13 ∨ w = 14 ∨ w = 15 ∨ w = 16 ∨ w = 17 ∨ w = 18 ∨ w = 19 ∨ w = 20 by omega) with hw | hw | hw | hw | hw | hw | hw | hw | hw | hw | hw | hw | hw | hw | hw | hw | hw | hw | hw | hw | hw | hw
      · exact zg_tswO (tgt := 1074) C w1 w2 dL_law_40 hw (by decide) (kk κ μ H locs ls cells slots (by omega) (by omega) hI hl)
      · exact zg_tswI (v := 0) (tgt := 140) (off := 100) C hw (by decide) (by decide) dL_law_40 (by decide) (by decide) (by decide) (by decide) (lwc_0 F i0 (by omega) hI hl hcs kk)
      · exact zg_tswI (v := 1) (tgt := 177) (off := 137) C hw (by decide) (by decide) dL_law_40 (by decide) (by decide) (by decide) (by decide) (lwc_1 F i0 (by omega) hI hl hcs kk)
      · exact zg_tswI (v := 2) (tgt := 226) (off := 186) C hw (by decide) (by decide) dL_law_40 (by decide) (by decide) (by decide) (by decide) (lwc_2 F i0 (by omega) hI hl hcs kk)
      · exact zg_tswI (v := 3) (tgt := 287) (off := 247) C hw (by decide) (by decide) dL_law_40 (by decide) (by decide) (by decide) (by decide) (lwc_3 F i0 (by omega) hI hl hcs kk)
      · exact zg_tswI (v := 4) (tgt := 324) (off := 284) C hw (by decide) (by decide) dL_law_40 (by decide) (by decide) (by decide) (by decide) (lwc_4 F i0 (by omega) hI hl hcs kk)
      · exact zg_tswI (v := 5) (tgt := 349) (off := 309) C hw (by decide) (by decide) dL_law_40 (by decide) (by decide) (by decide) (by decide) (lwc_5 F i0 (by omega) hI hl hcs kk)
      · exact zg_tswI (v := 6) (tgt := 438) (off := 398) C hw (by decide) (by decide) dL_law_40 (by decide) (by decide) (by decide) (by decide) (lwc_6 F i0 (by omega) hI hl hcs kk)
      · exact zg_tswI (v := 7) (tgt := 463) (off := 423) C hw (by decide) (by decide) dL_law_40 (by decide) (by decide) (by decide) (by decide) (lwc_7 F i0 (by omega) hI hl hcs kk)
      · exact zg_tswI (v := 8) (tgt := 488) (off := 448) C hw (by decide) (by decide) dL_law_40 (by decide) (by decide) (by decide) (by decide) (lwc_8 F i0 (by omega) hI hl hcs kk)
      · exact zg_tswI (v := 9) (tgt := 513) (off := 473) C hw (by decide) (by decide) dL_law_40 (by decide) (by decide) (by decide) (by decide) (lwc_9 F i0 (by omega) hI hl hcs kk)
      · exact zg_tswI (v := 10) (tgt := 550) (off := 510) C hw (by decide) (by decide) dL_law_40 (by decide) (by decide) (by decide) (by decide) (lwc_10 F i0 (by omega) hI hl hcs kk)
      · exact zg_tswI (v := 11) (tgt := 575) (off := 535) C hw (by decide) (by decide) dL_law_40 (by decide) (by decide) (by decide) (by decide) (lwc_11 F i0 (by omega) hI hl hcs kk)
      · exact zg_tswI (v := 12) (tgt := 643) (off := 603) C hw (by decide) (by decide) dL_law_40 (by decide) (by decide) (by decide) (by decide) (lwc_12 F i0 (by omega) hI hl hcs kk)
      · exact zg_tswI (v := 13) (tgt := 735) (off := 695) C hw (by decide) (by decide) dL_law_40 (by decide) (by decide) (by decide) (by decide) (lwc_13 F i0 (by omega) hI hl hcs kk)
      · exact zg_tswI (v := 14) (tgt := 803) (off := 763) C hw (by decide) (by decide) dL_law_40 (by decide) (by decide) (by decide) (by decide) (lwc_14 F i0 (by omega) hI hl hcs kk)
      · exact zg_tswI (v := 15) (tgt := 852) (off := 812) C hw (by decide) (by decide) dL_law_40 (by decide) (by decide) (by decide) (by decide) (lwc_15 F i0 (by omega) hI hl hcs kk)
      · exact zg_tswI (v := 16) (tgt := 889) (off := 849) C hw (by decide) (by decide) dL_law_40 (by decide) (by decide) (by decide) (by decide) (lwc_16 F i0 (by omega) hI hl hcs kk)
      · exact zg_tswI (v := 17) (tgt := 938) (off := 898) C hw (by decide) (by decide) dL_law_40 (by decide) (by decide) (by decide) (by decide) (lwc_17 F i0 (by omega) hI hl hcs kk)
      · exact zg_tswI (v := 18) (tgt := 975) (off := 935) C hw (by decide) (by decide) dL_law_40 (by decide) (by decide) (by decide) (by decide) (lwc_18 F i0 (by omega) hI hl hcs kk)
      · exact zg_tswI (v := 19) (tgt := 1012) (off := 972) C hw (by decide) (by decide) dL_law_40 (by decide) (by decide) (by decide) (by decide) (lwc_19 F i0 (by omega) hI hl hcs kk)
      · exact zg_tswI (v := 20) (tgt := 1049) (off := 1009) C hw (by decide) (by decide) dL_law_40 (by decide) (by decide) (by decide) (by decide) (lwc_20 F i0 (by omega) hI hl hcs kk)
def esM (cI cZ : ClassId) (d : Nat) : List va_E := [.inr (5, [.int 0, .int 0, .ref (d + 1), .ref (d + 2), .ref (d + 3), .ref (d + 4), .ref (d + 5), .ref (d + 6), .ref (d + 7), .ref (d + 8), .ref (d + 9), .ref (d + 10), .ref (d + 11), .ref (d + 12), .ref (d + 13), .int 0, .ref (d + 14), .ref (d + 15), .ref (d + 16), .ref (d + 17), .ref (d + 18), .ref (d + 19), .ref (d + 20), .ref (d + 21), .ref (d + 22), .int 0, .ref (d + 23), .ref (d + 24), .int 0, .ref (d + 25), .ref (d + 26), .ref (d + 27), .int 0]), aI cI 400, aI cI 400, aI cI 400, aI cI 400, aI cI 400, aI cI 400, aI cI 400, aI cZ 400, aI cZ 400, aI cI 400, aI cI 4800, aI cI 4800, aI cI 4800, aI cI 400, aI cI 400, aI cZ 2400, aI cZ 2400, .inl (cI, 2400, .inl (fun _ => jI (-1))), aI cI 36, aI cI 6, .inl (cI, 6, .inl (fun j => jI (if j < 6 then (j : Int) else 0))), .inl (cI, 24, .inl (fun _ => jI (-1))), aI cI 300, aI cI 300, aI cI 12, aI cI 12, aI cI 12]
set_option maxRecDepth 100000 in
theorem esM_lay {cI cZ : ClassId} {d : Nat} : esM cI cZ (d + 56) = (List.range 28).map (fun k => layM cI cZ (aM d) k (mu0 k)) := rfl
set_option maxHeartbeats 4000000 in
set_option maxRecDepth 100000 in
theorem lw_start {p : Program} {l : Launch} {e : Env} {s : State} {m : MethodId} {below : List Frame} {meth : Method} {c : Code} {D : va_G} {cI cZ cR cJ : ClassId} {b L d : Nat} {xs : Nat → Int32} {ls : Array Slot} (F : lwE p l s m #[Value.ref b] below meth c D cI cZ cR cJ b L d xs) (hL0 : L ≤ 4000) (hE : ∀ U : State, s.WarmedH U.vm → eS U) (hl : lv_has ls 7 [(0, .ref b)]) :
    W p l e lwR s m #[Value.ref b] below meth c s.heap [] 0 0 (lw_Z below #[Value.ref b] s) (F0 m 0 ls []) := by
  have F0' := F
  obtain ⟨C, X1, X2, KJ, hz, hX, hb, hL, hds, hcw_sign, hcw_path, hcw_kinds, hl0⟩ := F0'
  have K := X1.1
  have hZ : zn D vwCl d [] s.heap := ⟨by rw [hds]; rfl, fun k q h => by simp [zl] at h⟩
  have hS : va_S (fun q => d ≤ q) s.heap s.heap [] := va_S.rf
  refine zn_newo (ci := 4) (fs := [.null, .null, .null, .null]) C K hZ hS (zmem uwX4) tyX4 tyX4_ok clL_8 insX4 iniX4 rfl frX4 (Nat.le_of_ble_eq_true rfl) (Nat.le_of_ble_eq_true rfl) dL_law_0 (fun H hZ hS => ?_)
  refine zg_dup C dL_law_3 rfl ?_
  refine zn_cont (av := #[]) (es := []) (b := d) rfl hZ hS (by rw [esR_len]; decide) (va_runI C.1 (kX4_init l (cI := cI) (cZ := cZ) (cR := cR) d) (cwI 0 C.ts (zgI cdX4_init) rfl rfl rfl (C.tb iniX4) (C.tb mlL_22) (C.tb imX4_init) rfl (by decide +kernel) ⟨Nat.le_of_ble_eq_true rfl, Nat.le_of_ble_eq_true rfl⟩) (zn_pre (es := []) rfl K hZ hE (fun U g mk b h => eS_calling h)) rfl rfl hl.1 rfl (lv_room (Nat.le_of_ble_eq_true rfl)) dL_law_4 ⟨Nat.le_of_ble_eq_true rfl, Nat.le_of_ble_eq_true rfl⟩) (fun H locs hZ hS => ?_)
  refine zg_astore_n (lv' := [(1, .ref (aS d 0)), (0, .ref b)]) C dL_law_7 rfl hl (by decide) rfl (fun ls hl => ?_)
  have hZ : zn D vwCl d (esR cI cZ cR d 6) H := hZ
  refine zn_newo (ci := 5) (fs := [.int 0, .int 0, .null, .null, .null, .null, .null, .null, .null, .null, .null, .null, .null, .null, .null, .int 0, .null, .null, .null, .null, .null, .null, .null, .null, .null, .int 0, .null, .null, .int 0, .null, .null, .null, .int 0]) C K hZ hS (zmem uwX5) tyX5 tyX5_ok clL_23 insX5 iniX5 rfl frX5 (Nat.le_of_ble_eq_true rfl) (Nat.le_of_ble_eq_true rfl) dL_law_8 (fun H hZ hS => ?_)
  rw [esR_len]
  refine zg_dup C dL_law_11 rfl ?_
  refine zn_cont (av := #[]) (es := esR cI cZ cR d 6) (b := d + 56) (by rw [esR_len]) hZ hS (Nat.le_of_ble_eq_true rfl) (va_runI C.1 (kX5_init l (cI := cI) (cZ := cZ) (cR := cR) (d + 56)) (cwI 0 C.ts (zgI cdX5_init) rfl rfl rfl (C.tb iniX5) (C.tb mlL_25) (C.tb imX5_init) rfl (by decide +kernel) ⟨Nat.le_of_ble_eq_true rfl, Nat.le_of_ble_eq_true rfl⟩) (zn_pre (es := esR cI cZ cR d 6) (by rw [esR_len]) K hZ (fun _ _ => trivial) (fun _ _ _ _ _ => trivial)) rfl rfl hl.1 rfl (lv_room (Nat.le_of_ble_eq_true rfl)) dL_law_12 ⟨Nat.le_of_ble_eq_true rfl, Nat.le_of_ble_eq_true rfl⟩) (fun H locs hZ hS => ?_)
  refine zg_astore_n (lv' := [(2, .ref (aM d 0)), (1, .ref (aS d 0)), (0, .ref b)]) C dL_law_15 rfl hl (by decide) rfl (fun ls hl => ?_)
  have hZ : zn D vwCl d (esR cI cZ cR d 6 ++ esM cI cZ (d + 56)) H := hZ
  refine zg_iconst C dL_law_16 ?_
  refine zn_newa (n := 1) (t0 := 0) (ty := .long) (cA := cJ) (a0 := (1, .inr (.inl (fun _ => 0)))) C KJ hZ hS acJ rfl rfl (fun h => h) rfl (by decide) (by decide) (Nat.le_of_ble_eq_true rfl) (Nat.le_of_ble_eq_true rfl) rfl dL_law_17 (fun H hZ hS => ?_)
  have e84 : d + (esR cI cZ cR d 6 ++ esM cI cZ (d + 56)).length = d + 84 := by rw [List.length_append, esR_len]; rfl
  rw [e84]
  refine zg_astore_n (lv' := [(3, .ref (d + 84)), (2, .ref (aM d 0)), (1, .ref (aS d 0)), (0, .ref b)]) C dL_law_19 rfl hl (by decide) rfl (fun ls hl => ?_)
  refine zg_iconst C dL_law_20 ?_
  refine zg_istore (lv' := [(4, .int (jI 0)), (3, .ref (d + 84)), (2, .ref (aM d 0)), (1, .ref (aS d 0)), (0, .ref b)]) C dL_law_21 hl (by decide) rfl (fun ls hl => ?_)
  have hO : va_at D vwCl (d + 84, zO cJ 0) H := by
    have h1 := hZ.2 84 (d + 84, .inl (cJ, 1, .inr (.inl (fun _ => 0)))) (zl_get (by rw [List.getElem?_append_right (by rw [List.length_append, esR_len]; exact Nat.le_of_ble_eq_true rfl), List.length_append, esR_len]; rfl))
    have h2 : H[d + 84]? = some (vp_cell cJ (1, .inr (.inl (fun _ => 0)))) := h1
    show H[d + 84]? = some (vp_cell cJ (1, .inr (.inl (fun _ => jL 0))))
    rw [h2]
    exact congrArg some (zO_cell rfl)
  have hZ2 := zn_congq (k := 19) (n := 6) (g := fun j => some (aS d (20 + 6 * j))) hZ rfl (fun j hj => by simp [hj])
  have hZ3 : zn D vwCl d ([] ++ ((preB cI cZ cR d (fun j => some (aS d (20 + 6 * j))) ++ flB cI cZ d 6) ++ (esM cI cZ (d + 56) ++ [.inl (cJ, 1, .inr (.inl (fun _ => 0)))]))) H := by
    have e : (esR cI cZ cR d 6 ++ esM cI cZ (d + 56) ++ [(.inl (cJ, 1, .inr (.inl (fun _ => 0))) : va_E)]).set 19 (.inl (cR, 6, .inr (.inr (.inr (.inr (fun j => some (aS d (20 + 6 * j)))))))) = [] ++ ((preB cI cZ cR d (fun j => some (aS d (20 + 6 * j))) ++ flB cI cZ d 6) ++ (esM cI cZ (d + 56) ++ [.inl (cJ, 1, .inr (.inl (fun _ => 0)))])) := by
      simp only [esR, List.append_assoc, preB_set, List.nil_append]
    rw [e] at hZ2
    exact hZ2
  have hP1 : va_P D vwCl (zw 56 (layS cI cZ cR (aS d)) (aS d) kap0) H := zn_zw (es0 := []) hZ3 rfl esS_lay (fun k => rfl)
  have hZ4 : zn D vwCl d ((preB cI cZ cR d (fun j => some (aS d (20 + 6 * j))) ++ flB cI cZ d 6) ++ (esM cI cZ (d + 56) ++ [.inl (cJ, 1, .inr (.inl (fun _ => 0)))])) H := hZ3
  have hP2 : va_P D vwCl (zw 28 (layM cI cZ (aM d)) (aM d) mu0) H := zn_zw hZ4 (b := d + 56) (by rw [List.length_append, flB_len]; rfl) esM_lay (fun k => rfl)
  exact lw_loop F hL0 (L + 1) 0 kap0 mu0 H _ _ _ _ (by omega) (by omega) (by decide) (by decide) (by omega) ⟨kGood_0, RR_0, rgM_0, hP1, hP2, ⟨0, hO⟩, hS⟩ (lv_sub hl [4, 3, 2, 1, 0] rfl)
