set_option maxHeartbeats 4000000 in
set_option maxRecDepth 100000 in
theorem kX5_isLater (l : Launch) {D : va_G} {a : Nat → Nat} {cI cZ : ClassId} (σ : Zt) (hR : rgM σ) (d : Int) (f : Int) (d0 : 0 ≤ d) (d1 : d < 400) (f0 : -1 ≤ f) (f1 : f < 400) : zc l D vwCl (tyM cI cZ) 28 (layM cI cZ a) a yX5_isLater wsX5_isLater ({ frames := 0, cells := 0, slots := 0, locals := 0 }) [.ref (a 0), .int (jI d), .int (jI f)] σ (fun r_ u_ => r_ = jI (bI (mLater σ d f)) ∧ u_ = σ) := by
  refine zc_of (cc := cX5_isLater) (maxL := 3) (ret := some .boolean) (own := RX5) (by decide) rfl rfl (Nat.le_of_ble_eq_true rfl) rfl ?_
  intro p e s m below meth c A ls C X hP hS hl
  refine zg_iload_n C dX5_isLater_0 rfl (lv_at hl 2 rfl) ?_
  refine zg_iconst C dX5_isLater_1 ?_
  refine zg_icmp_eq (tgt := 50) C (by omega) (by omega) (by omega) (by omega) dX5_isLater_2 (by decide) (fun c_1 => ?_) (fun c_1 => ?_)
  · refine zg_iconst C dX5_isLater_50 ?_
    refine zg_goto (tgt := 55) C dX5_isLater_51 (by decide) ?_
    refine zg_zret (b := true) C hP hS dX5_isLater_55 ?_
    exact ⟨congrArg (fun b => jI (bI b)) (by grind [mLater]), rfl⟩
  · refine zg_aload_n C dX5_isLater_5 rfl (lv_at hl 0 rfl) ?_
    refine zg_get (j := 4) C X hP (by decide) lyM_0 rfl (zmem uwX5) (by decide) (C.tb flX5_20) (fun _ h9 => h9) rfl dX5_isLater_6 ?_
    refine zg_iload_n C dX5_isLater_9 rfl (lv_at hl 1 rfl) ?_
    refine zg_iald (t0 := 0) C X hP (by decide) lyM_3 rfl (by decide) (by omega) (by omega) dX5_isLater_10 ?_
    have b_2 := rgM_3 hR ((d).toNat)
    refine zg_aload_n C dX5_isLater_11 rfl (lv_at hl 0 rfl) ?_
    refine zg_get (j := 4) C X hP (by decide) lyM_0 rfl (zmem uwX5) (by decide) (C.tb flX5_20) (fun _ h9 => h9) rfl dX5_isLater_12 ?_
    refine zg_iload_n C dX5_isLater_15 rfl (lv_at hl 2 rfl) ?_
    refine zg_iald (t0 := 0) C X hP (by decide) lyM_3 rfl (by decide) (by omega) (by omega) dX5_isLater_16 ?_
    have b_3 := rgM_3 hR ((f).toNat)
    refine zg_icmp_gt (tgt := 50) C (by omega) (by omega) (by omega) (by omega) dX5_isLater_17 (by decide) (fun c_4 => ?_) (fun c_4 => ?_)
    · refine zg_iconst C dX5_isLater_50 ?_
      refine zg_goto (tgt := 55) C dX5_isLater_51 (by decide) ?_
      refine zg_zret (b := true) C hP hS dX5_isLater_55 ?_
      exact ⟨congrArg (fun b => jI (bI b)) (by grind [mLater]), rfl⟩
    · refine zg_aload_n C dX5_isLater_20 rfl (lv_at hl 0 rfl) ?_
      refine zg_get (j := 4) C X hP (by decide) lyM_0 rfl (zmem uwX5) (by decide) (C.tb flX5_20) (fun _ h9 => h9) rfl dX5_isLater_21 ?_
      refine zg_iload_n C dX5_isLater_24 rfl (lv_at hl 1 rfl) ?_
      refine zg_iald (t0 := 0) C X hP (by decide) lyM_3 rfl (by decide) (by omega) (by omega) dX5_isLater_25 ?_
      have b_5 := rgM_3 hR ((d).toNat)
      refine zg_aload_n C dX5_isLater_26 rfl (lv_at hl 0 rfl) ?_
      refine zg_get (j := 4) C X hP (by decide) lyM_0 rfl (zmem uwX5) (by decide) (C.tb flX5_20) (fun _ h9 => h9) rfl dX5_isLater_27 ?_
      refine zg_iload_n C dX5_isLater_30 rfl (lv_at hl 2 rfl) ?_
      refine zg_iald (t0 := 0) C X hP (by decide) lyM_3 rfl (by decide) (by omega) (by omega) dX5_isLater_31 ?_
      have b_6 := rgM_3 hR ((f).toNat)
      refine zg_icmp_ne (tgt := 54) C (by omega) (by omega) (by omega) (by omega) dX5_isLater_32 (by decide) (fun c_7 => ?_) (fun c_7 => ?_)
      · refine zg_iconst C dX5_isLater_54 ?_
        refine zg_zret (b := false) C hP hS dX5_isLater_55 ?_
        exact ⟨congrArg (fun b => jI (bI b)) (by grind [mLater]), rfl⟩
      · refine zg_aload_n C dX5_isLater_35 rfl (lv_at hl 0 rfl) ?_
        refine zg_get (j := 2) C X hP (by decide) lyM_0 rfl (zmem uwX5) (by decide) (C.tb flX5_13) (fun _ h9 => h9) rfl dX5_isLater_36 ?_
        refine zg_iload_n C dX5_isLater_39 rfl (lv_at hl 1 rfl) ?_
        refine zg_iald (t0 := 0) C X hP (by decide) lyM_1 rfl (by decide) (by omega) (by omega) dX5_isLater_40 ?_
        have b_8 := rgM_1 hR ((d).toNat)
        refine zg_aload_n C dX5_isLater_41 rfl (lv_at hl 0 rfl) ?_
        refine zg_get (j := 2) C X hP (by decide) lyM_0 rfl (zmem uwX5) (by decide) (C.tb flX5_13) (fun _ h9 => h9) rfl dX5_isLater_42 ?_
        refine zg_iload_n C dX5_isLater_45 rfl (lv_at hl 2 rfl) ?_
        refine zg_iald (t0 := 0) C X hP (by decide) lyM_1 rfl (by decide) (by omega) (by omega) dX5_isLater_46 ?_
        have b_9 := rgM_1 hR ((f).toNat)
        refine zg_icmp_le (tgt := 54) C (by omega) (by omega) (by omega) (by omega) dX5_isLater_47 (by decide) (fun c_10 => ?_) (fun c_10 => ?_)
        · refine zg_iconst C dX5_isLater_54 ?_
          refine zg_zret (b := false) C hP hS dX5_isLater_55 ?_
          exact ⟨congrArg (fun b => jI (bI b)) (by grind [mLater]), rfl⟩
        · refine zg_iconst C dX5_isLater_50 ?_
          refine zg_goto (tgt := 55) C dX5_isLater_51 (by decide) ?_
          refine zg_zret (b := true) C hP hS dX5_isLater_55 ?_
          exact ⟨congrArg (fun b => jI (bI b)) (by grind [mLater]), rfl⟩
set_option maxHeartbeats 4000000 in
set_option maxRecDepth 100000 in
theorem kX5_send (l : Launch) {D : va_G} {a : Nat → Nat} {cI cZ : ClassId} (σ : Zt) (hR : rgM σ) (d : Int) (q : Int) (d0 : 0 ≤ d) (d1 : d < 400) (q0 : 0 ≤ q) (q1 : q < 6) : zv l D vwCl (tyM cI cZ) 28 (layM cI cZ a) a yX5_send wsX5_send ({ frames := 0, cells := 0, slots := 0, locals := 0 }) [.ref (a 0), .int (jI d), .int (jI q)] σ (fun u_ => u_ = mSend σ d q) := by
  refine zv_of (cc := cX5_send) (maxL := 3) (own := RX5) (by decide) rfl rfl (Nat.le_of_ble_eq_true rfl) rfl ?_
  intro p e s m below meth c A ls C X hP hS hl
  have b_0 := rgM_0_25 hR
  refine zg_aload_n C dX5_send_0 rfl (lv_at hl 0 rfl) ?_
  refine zg_get (j := 25) C X hP (by decide) lyM_0 rfl (zmem uwX5) (by decide) (C.tb flX5_145) (fun _ h9 => h9) rfl dX5_send_1 ?_
  have b_1 := rgM_0_25 hR
  refine zg_sipush C dX5_send_4 (by decide) ?_
  refine zg_icmp_ne (tgt := 21) C (by omega) (by omega) (by omega) (by omega) dX5_send_7 (by decide) (fun c_2 => ?_) (fun c_2 => ?_)
  · refine zg_aload_n C dX5_send_21 rfl (lv_at hl 0 rfl) ?_
    refine zg_get (j := 26) C X hP (by decide) lyM_0 rfl (zmem uwX5) (by decide) (C.tb flX5_81) (fun _ h9 => h9) rfl dX5_send_22 ?_
    refine zg_aload_n C dX5_send_25 rfl (lv_at hl 0 rfl) ?_
    refine zg_get (j := 25) C X hP (by decide) lyM_0 rfl (zmem uwX5) (by decide) (C.tb flX5_145) (fun _ h9 => h9) rfl dX5_send_26 ?_
    have b_3 := rgM_0_25 hR
    refine zg_iload_n C dX5_send_29 rfl (lv_at hl 1 rfl) ?_
    refine zg_iast (t0 := 0) C X hP hS (by decide) (fun x => lyM_23) rfl (by decide) (by omega) (by omega) dX5_send_30 (fun H locs hP hS => ?_)
    obtain ⟨σ4, e5⟩ : ∃ z_ : Zt, z_ = zu σ 23 (σ 0 25).toNat d := ⟨_, rfl⟩
    rw [← e5] at hP
    have w_7 : σ4 23 (σ 0 25).toNat = d := by rw [e5]; exact zu_same _ _ _ _
    have w_8 : σ4 0 25 = σ 0 25 := by rw [e5]; first | exact congrFun (zu_ne (by omega)) _ | exact zu_nj (by omega)
    have hR6 : rgM σ4 := by rw [e5]; exact rzM_23 hR (by omega) (by omega)
    refine zg_aload_n C dX5_send_31 rfl (lv_at hl 0 rfl) ?_
    refine zg_get (j := 27) C X hP (by decide) lyM_0 rfl (zmem uwX5) (by decide) (C.tb flX5_84) (fun _ h9 => h9) rfl dX5_send_32 ?_
    refine zg_aload_n C dX5_send_35 rfl (lv_at hl 0 rfl) ?_
    refine zg_get (j := 25) C X hP (by decide) lyM_0 rfl (zmem uwX5) (by decide) (C.tb flX5_145) (fun _ h9 => h9) rfl dX5_send_36 ?_
    have b_9 := rgM_0_25 hR6
    refine zg_iload_n C dX5_send_39 rfl (lv_at hl 2 rfl) ?_
    refine zg_iast (t0 := 0) C X hP hS (by decide) (fun x => lyM_24) rfl (by decide) (by omega) (by omega) dX5_send_40 (fun H locs hP hS => ?_)
    obtain ⟨σ10, e11⟩ : ∃ z_ : Zt, z_ = zu σ4 24 (σ4 0 25).toNat q := ⟨_, rfl⟩
    rw [← e11] at hP
    have w_13 : σ10 24 (σ4 0 25).toNat = q := by rw [e11]; exact zu_same _ _ _ _
    have w_14 : σ10 0 25 = σ4 0 25 := by rw [e11]; first | exact congrFun (zu_ne (by omega)) _ | exact zu_nj (by omega)
    have hR12 : rgM σ10 := by rw [e11]; exact rzM_24 hR6 (by omega) (by omega)
    refine zg_aload_n C dX5_send_41 rfl (lv_at hl 0 rfl) ?_
    refine zg_dup C dX5_send_42 rfl ?_
    refine zg_get (j := 25) C X hP (by decide) lyM_0 rfl (zmem uwX5) (by decide) (C.tb flX5_145) (fun _ h9 => h9) rfl dX5_send_43 ?_
    have b_15 := rgM_0_25 hR12
    refine zg_iconst C dX5_send_46 ?_
    refine zg_iadd C dX5_send_47 ?_
    refine zg_put (j := 25) (v := (σ10 0 25) + 1) C X hP hS (by decide) lyM_0 rfl (zmem uwX5) tyX5 tyX5_ok nmX5 (by decide) (C.tb flX5_145) (fun _ h9 => h9) rfl (by decide +kernel) (Nat.le_of_ble_eq_true rfl) (by rw [lyM_0]; rfl) dX5_send_48 (fun H locs hP hS => ?_)
    obtain ⟨σ16, e17⟩ : ∃ z_ : Zt, z_ = zu σ10 0 25 ((σ10 0 25) + 1) := ⟨_, rfl⟩
    rw [← e17] at hP
    have w_19 : σ16 0 25 = (σ10 0 25) + 1 := by rw [e17]; exact zu_same _ _ _ _
    have hR18 : rgM σ16 := by rw [e17]; exact rzM_0_25 hR12 (by omega) (by omega)
    refine zg_vret C hP hS dX5_send_51 ?_
    subst e5 e11 e17
    rw [mSend, if_neg (by assumption)]
    rfl
  · refine zg_aload_n C dX5_send_10 rfl (lv_at hl 0 rfl) ?_
    refine zg_dup C dX5_send_11 rfl ?_
    refine zg_get (j := 28) C X hP (by decide) lyM_0 rfl (zmem uwX5) (by decide) (C.tb flX5_148) (fun _ h9 => h9) rfl dX5_send_12 ?_
    refine zg_iconst C dX5_send_15 ?_
    refine zg_iadd C dX5_send_16 ?_
    refine zg_put (j := 28) (v := (σ 0 28) + 1) C X hP hS (by decide) lyM_0 rfl (zmem uwX5) tyX5 tyX5_ok nmX5 (by decide) (C.tb flX5_148) (fun _ h9 => h9) rfl (by decide +kernel) (Nat.le_of_ble_eq_true rfl) (by rw [lyM_0]; rfl) dX5_send_17 (fun H locs hP hS => ?_)
    obtain ⟨σ20, e21⟩ : ∃ z_ : Zt, z_ = zu σ 0 28 ((σ 0 28) + 1) := ⟨_, rfl⟩
    rw [← e21] at hP
    have w_23 : σ20 0 28 = (σ 0 28) + 1 := by rw [e21]; exact zu_same _ _ _ _
    have w_24 : σ20 0 25 = σ 0 25 := by rw [e21]; first | exact congrFun (zu_ne (by omega)) _ | exact zu_nj (by omega)
    have hR22 : rgM σ20 := by rw [e21]; exact rzM_0_28 hR
    refine zg_vret C hP hS dX5_send_20 ?_
    subst e21
    rw [mSend, if_pos (by assumption)]
set_option maxHeartbeats 4000000 in
set_option maxRecDepth 100000 in
theorem lpX5_drop_12 {l : Launch} {D : va_G} {a : Nat → Nat} {cI cZ : ClassId} {p : Program} {e : Env} {s : State} {m : MethodId} {below : List Frame} {meth : Method} {c : Code} {A : Nat → Prop} (σ : Zt) (hR : rgM σ) (i : Int) (i0 : 0 ≤ i) (i1 : i < σ 0 25)  (C : zk p s m ([.ref (a 0), .int (jI i)] : List Value).toArray meth c cX5_drop 3 (none) wsX5_drop RX5) (X : zx D vwCl (tyM cI cZ) A a 28 s) :
    ∀ (n : Nat) (j : Int) (τ : Zt) (H : Heap) (locs : List Loc) (ls : Array Slot), ((τ 0 25 - j).toNat < n) → (rgM τ) → (0 ≤ j) → (j ≤ 300) → (τ 0 25 < 300) → (mDropS σ i = mDrop (τ 0 25 - j).toNat j.toNat τ) → va_P D vwCl (zw 28 (layM cI cZ a) a τ) H → va_S A s.heap H locs → lv_has ls 3 [(0, .ref (a 0)), (1, .int (jI i)), (2, .int (jI j))] →
      W p l e ({ frames := 0, cells := 0, slots := 0, locals := 0 }) s m ([.ref (a 0), .int (jI i)] : List Value).toArray below meth c H locs 0 0 (MQ below (va_Qv (fun u_ => u_ = mDropS σ i) (fun (u : Zt) t => va_P D vwCl (zw 28 (layM cI cZ a) a u) t.heap) A) ([.ref (a 0), .int (jI i)] : List Value).toArray s 0 0 A) (F0 m 12 ls []) := by
  intro n
  induction n with
  | zero =>
    intro j τ H locs ls hn hτ j0 j1 ht hE hP hS hl
    exact absurd hn (by omega)
  | succ n ih =>
    intro j τ H locs ls hn hτ j0 j1 ht hE hP hS hl
    refine zg_iload_n C dX5_drop_12 rfl (lv_at hl 2 rfl) ?_
    refine zg_aload_n C dX5_drop_13 rfl (lv_at hl 0 rfl) ?_
    refine zg_get (j := 25) C X hP (by decide) lyM_0 rfl (zmem uwX5) (by decide) (C.tb flX5_145) (fun _ h9 => h9) rfl dX5_drop_14 ?_
    have b_1 := rgM_0_25 hτ
    refine zg_icmp_ge (tgt := 54) C (by omega) (by omega) (by omega) (by omega) dX5_drop_17 (by decide) (fun c_2 => ?_) (fun c_2 => ?_)
    · refine zg_vret C hP hS dX5_drop_54 ?_
      rw [hE, mDrop_end (by omega)]
    · refine zg_aload_n C dX5_drop_20 rfl (lv_at hl 0 rfl) ?_
      refine zg_get (j := 26) C X hP (by decide) lyM_0 rfl (zmem uwX5) (by decide) (C.tb flX5_81) (fun _ h9 => h9) rfl dX5_drop_21 ?_
      refine zg_iload_n C dX5_drop_24 rfl (lv_at hl 2 rfl) ?_
      refine zg_aload_n C dX5_drop_25 rfl (lv_at hl 0 rfl) ?_
      refine zg_get (j := 26) C X hP (by decide) lyM_0 rfl (zmem uwX5) (by decide) (C.tb flX5_81) (fun _ h9 => h9) rfl dX5_drop_26 ?_
      refine zg_iload_n C dX5_drop_29 rfl (lv_at hl 2 rfl) ?_
      refine zg_iconst C dX5_drop_30 ?_
      refine zg_iadd C dX5_drop_31 ?_
      refine zg_iald (t0 := 0) C X hP (by decide) lyM_23 rfl (by decide) (by omega) (by omega) dX5_drop_32 ?_
      have b_3 := rgM_23 hτ ((j + 1).toNat)
      refine zg_iast (t0 := 0) C X hP hS (by decide) (fun x => lyM_23) rfl (by decide) (by omega) (by omega) dX5_drop_33 (fun H locs hP hS => ?_)
      obtain ⟨σ4, e5⟩ : ∃ z_ : Zt, z_ = zu τ 23 (j).toNat (τ 23 (j + 1).toNat) := ⟨_, rfl⟩
      rw [← e5] at hP
      have w_7 : σ4 23 (j).toNat = τ 23 (j + 1).toNat := by rw [e5]; exact zu_same _ _ _ _
      have w_8 : σ4 0 25 = τ 0 25 := by rw [e5]; first | exact congrFun (zu_ne (by omega)) _ | exact zu_nj (by omega)
      have hR6 : rgM σ4 := by rw [e5]; exact rzM_23 hτ (by omega) (by omega)
      refine zg_aload_n C dX5_drop_34 rfl (lv_at hl 0 rfl) ?_
      refine zg_get (j := 27) C X hP (by decide) lyM_0 rfl (zmem uwX5) (by decide) (C.tb flX5_84) (fun _ h9 => h9) rfl dX5_drop_35 ?_
      refine zg_iload_n C dX5_drop_38 rfl (lv_at hl 2 rfl) ?_
      refine zg_aload_n C dX5_drop_39 rfl (lv_at hl 0 rfl) ?_
      refine zg_get (j := 27) C X hP (by decide) lyM_0 rfl (zmem uwX5) (by decide) (C.tb flX5_84) (fun _ h9 => h9) rfl dX5_drop_40 ?_
      refine zg_iload_n C dX5_drop_43 rfl (lv_at hl 2 rfl) ?_
      refine zg_iconst C dX5_drop_44 ?_
      refine zg_iadd C dX5_drop_45 ?_
      refine zg_iald (t0 := 0) C X hP (by decide) lyM_24 rfl (by decide) (by omega) (by omega) dX5_drop_46 ?_
      have b_9 := rgM_24 hR6 ((j + 1).toNat)
      refine zg_iast (t0 := 0) C X hP hS (by decide) (fun x => lyM_24) rfl (by decide) (by omega) (by omega) dX5_drop_47 (fun H locs hP hS => ?_)
      obtain ⟨σ10, e11⟩ : ∃ z_ : Zt, z_ = zu σ4 24 (j).toNat (σ4 24 (j + 1).toNat) := ⟨_, rfl⟩
      rw [← e11] at hP
      have w_13 : σ10 24 (j).toNat = σ4 24 (j + 1).toNat := by rw [e11]; exact zu_same _ _ _ _
      have w_14 : σ10 0 25 = σ4 0 25 := by rw [e11]; first | exact congrFun (zu_ne (by omega)) _ | exact zu_nj (by omega)
      have hR12 : rgM σ10 := by rw [e11]; exact rzM_24 hR6 (by omega) (by omega)
      refine zg_iinc (k := 2) (lv' := [(2, .int (jI (j + 1))), (0, .ref (a 0)), (1, .int (jI i))]) C dX5_drop_48 hl rfl (by decide) rfl (fun ls hl => ?_)
      refine zg_goto (tgt := 12) C dX5_drop_51 (by decide) ?_
      exact ih (j + 1) σ10 _ _ _ (by omega) (by assumption) (by omega) (by omega) (by omega) (by subst e5 e11; exact hE.trans (mDrop_step (by omega) (by omega))) hP hS (lv_sub hl [1, 2, 0] rfl)
set_option maxHeartbeats 4000000 in
set_option maxRecDepth 100000 in
theorem kX5_drop (l : Launch) {D : va_G} {a : Nat → Nat} {cI cZ : ClassId} (σ : Zt) (hR : rgM σ) (i : Int) (i0 : 0 ≤ i) (i1 : i < σ 0 25) : zv l D vwCl (tyM cI cZ) 28 (layM cI cZ a) a yX5_drop wsX5_drop ({ frames := 0, cells := 0, slots := 0, locals := 0 }) [.ref (a 0), .int (jI i)] σ (fun u_ => u_ = mDropS σ i) := by
  refine zv_of (cc := cX5_drop) (maxL := 3) (own := RX5) (by decide) rfl rfl (Nat.le_of_ble_eq_true rfl) rfl ?_
  intro p e s m below meth c A ls C X hP hS hl
  refine zg_aload_n C dX5_drop_0 rfl (lv_at hl 0 rfl) ?_
  refine zg_dup C dX5_drop_1 rfl ?_
  refine zg_get (j := 25) C X hP (by decide) lyM_0 rfl (zmem uwX5) (by decide) (C.tb flX5_145) (fun _ h9 => h9) rfl dX5_drop_2 ?_
  have b_15 := rgM_0_25 hR
  refine zg_iconst C dX5_drop_5 ?_
  refine zg_isub C dX5_drop_6 ?_
  refine zg_put (j := 25) (v := (σ 0 25) - 1) C X hP hS (by decide) lyM_0 rfl (zmem uwX5) tyX5 tyX5_ok nmX5 (by decide) (C.tb flX5_145) (fun _ h9 => h9) rfl (by decide +kernel) (Nat.le_of_ble_eq_true rfl) (by rw [lyM_0]; rfl) dX5_drop_7 (fun H locs hP hS => ?_)
  obtain ⟨σ16, e17⟩ : ∃ z_ : Zt, z_ = zu σ 0 25 ((σ 0 25) - 1) := ⟨_, rfl⟩
  rw [← e17] at hP
  have w_19 : σ16 0 25 = (σ 0 25) - 1 := by rw [e17]; exact zu_same _ _ _ _
  have hR18 : rgM σ16 := by rw [e17]; exact rzM_0_25 hR (by omega) (by omega)
  refine zg_iload_n C dX5_drop_10 rfl (lv_at hl 1 rfl) ?_
  refine zg_istore_n (lv' := [(2, .int (jI i)), (0, .ref (a 0)), (1, .int (jI i))]) C dX5_drop_11 rfl hl (by decide) rfl (fun ls hl => ?_)
  exact lpX5_drop_12 σ hR i i0 i1 C X 301 i σ16 _ _ _ (by omega) (by assumption) (by omega) (by omega) (by omega) (by subst e17; rfl) hP hS (lv_sub hl [1, 2, 0] rfl)
set_option maxHeartbeats 4000000 in
set_option maxRecDepth 100000 in
theorem kX5_isDone (l : Launch) {D : va_G} {a : Nat → Nat} {cI cZ : ClassId} (σ : Zt) (hR : rgM σ) (x : Int) (d : Int) (x0 : 0 ≤ x) (x1 : x < 6) (d0 : 0 ≤ d) (d1 : d < 400) (dn : σ 19 (6 * x + σ 1 d.toNat).toNat < 400) : zv l D vwCl (tyM cI cZ) 28 (layM cI cZ a) a yX5_isDone wsX5_isDone ({ frames := 1, cells := 0, slots := 0, locals := 22 }) [.ref (a 0), .int (jI x), .int (jI d)] σ (fun u_ => u_ = mDone σ x d) := by
  refine zv_of (cc := cX5_isDone) (maxL := 4) (own := RX5) (by decide) rfl rfl (Nat.le_of_ble_eq_true rfl) rfl ?_
  intro p e s m below meth c A ls C X hP hS hl
  have b_0 := rgM_1 hR d.toNat
  refine zg_aload_n C dX5_isDone_0 rfl (lv_at hl 0 rfl) ?_
  refine zg_get (j := 18) C X hP (by decide) lyM_0 rfl (zmem uwX5) (by decide) (C.tb flX5_60) (fun _ h9 => h9) rfl dX5_isDone_1 ?_
  refine zg_sipush C dX5_isDone_4 (by decide) ?_
  refine zg_iload_n C dX5_isDone_7 rfl (lv_at hl 1 rfl) ?_
  refine zg_imul C dX5_isDone_8 ?_
  refine zg_iload_n C dX5_isDone_9 rfl (lv_at hl 2 rfl) ?_
  refine zg_iadd C dX5_isDone_10 ?_
  refine zg_iconst C dX5_isDone_11 ?_
  refine zg_zast (t0 := 1) (b := true) C X hP hS (by decide) (fun x => lyM_16) rfl (by decide) (by omega) (by omega) dX5_isDone_12 (fun H locs hP hS => ?_)
  have b_1 := bI_01 true
  obtain ⟨σ2, e3⟩ : ∃ z_ : Zt, z_ = zu σ 16 ((400 * x) + d).toNat (bI true) := ⟨_, rfl⟩
  rw [← e3] at hP
  have w_5 : σ2 16 ((400 * x) + d).toNat = bI true := by rw [e3]; exact zu_same _ _ _ _
  have hR4 : rgM σ2 := by rw [e3]; exact rzM_16 hR (by omega) (by omega)
  refine zg_aload_n C dX5_isDone_13 rfl (lv_at hl 0 rfl) ?_
  refine zg_get (j := 19) C X hP (by decide) lyM_0 rfl (zmem uwX5) (by decide) (C.tb flX5_63) (fun _ h9 => h9) rfl dX5_isDone_14 ?_
  refine zg_sipush C dX5_isDone_17 (by decide) ?_
  refine zg_iload_n C dX5_isDone_20 rfl (lv_at hl 1 rfl) ?_
  refine zg_imul C dX5_isDone_21 ?_
  refine zg_iload_n C dX5_isDone_22 rfl (lv_at hl 2 rfl) ?_
  refine zg_iadd C dX5_isDone_23 ?_
  refine zg_iconst C dX5_isDone_24 ?_
  refine zg_zast (t0 := 1) (b := false) C X hP hS (by decide) (fun x => lyM_17) rfl (by decide) (by omega) (by omega) dX5_isDone_25 (fun H locs hP hS => ?_)
  have b_6 := bI_01 false
  obtain ⟨σ7, e8⟩ : ∃ z_ : Zt, z_ = zu σ2 17 ((400 * x) + d).toNat (bI false) := ⟨_, rfl⟩
  rw [← e8] at hP
  have w_10 : σ7 17 ((400 * x) + d).toNat = bI false := by rw [e8]; exact zu_same _ _ _ _
  have hR9 : rgM σ7 := by rw [e8]; exact rzM_17 hR4 (by omega) (by omega)
  have w1 : σ7 1 = σ 1 := by rw [e8, e3]; rfl
  have w19 : σ7 19 = σ 19 := by rw [e8, e3]; rfl
  have w2 : σ7 19 (6 * x + σ7 1 d.toNat).toNat < 400 := by rw [w1, w19]; exact dn
  refine zg_aload_n C dX5_isDone_26 rfl (lv_at hl 0 rfl) ?_
  refine zg_get (j := 21) C X hP (by decide) lyM_0 rfl (zmem uwX5) (by decide) (C.tb flX5_69) (fun _ h9 => h9) rfl dX5_isDone_27 ?_
  refine zg_bipush C dX5_isDone_30 (by decide) ?_
  refine zg_iload_n C dX5_isDone_32 rfl (lv_at hl 1 rfl) ?_
  refine zg_imul C dX5_isDone_33 ?_
  refine zg_aload_n C dX5_isDone_34 rfl (lv_at hl 0 rfl) ?_
  refine zg_get (j := 2) C X hP (by decide) lyM_0 rfl (zmem uwX5) (by decide) (C.tb flX5_13) (fun _ h9 => h9) rfl dX5_isDone_35 ?_
  refine zg_iload_n C dX5_isDone_38 rfl (lv_at hl 2 rfl) ?_
  refine zg_iald (t0 := 0) C X hP (by decide) lyM_1 rfl (by decide) (by omega) (by omega) dX5_isDone_39 ?_
  have b_11 := rgM_1 hR9 ((d).toNat)
  refine zg_iadd C dX5_isDone_40 ?_
  refine zg_dup2 C dX5_isDone_41 rfl rfl ?_
  refine zg_iald (t0 := 0) C X hP (by decide) lyM_19 rfl (by decide) (by omega) (by omega) dX5_isDone_42 ?_
  have b_12 := rgM_19 hR9 (((6 * x) + (σ7 1 (d).toNat)).toNat)
  refine zg_iconst C dX5_isDone_43 ?_
  refine zg_iadd C dX5_isDone_44 ?_
  refine zg_iast (t0 := 0) C X hP hS (by decide) (fun x => lyM_19) rfl (by decide) (by omega) (by omega) dX5_isDone_45 (fun H locs hP hS => ?_)
  obtain ⟨σ13, e14⟩ : ∃ z_ : Zt, z_ = zu σ7 19 ((6 * x) + (σ7 1 (d).toNat)).toNat ((σ7 19 ((6 * x) + (σ7 1 (d).toNat)).toNat) + 1) := ⟨_, rfl⟩
  rw [← e14] at hP
  have w_16 : σ13 19 ((6 * x) + (σ7 1 (d).toNat)).toNat = (σ7 19 ((6 * x) + (σ7 1 (d).toNat)).toNat) + 1 := by rw [e14]; exact zu_same _ _ _ _
  have hR15 : rgM σ13 := by rw [e14]; exact rzM_19 hR9 (by omega) (by omega)
  refine zg_aload_n C dX5_isDone_46 rfl (lv_at hl 0 rfl) ?_
  refine zg_get (j := 22) C X hP (by decide) lyM_0 rfl (zmem uwX5) (by decide) (C.tb flX5_72) (fun _ h9 => h9) rfl dX5_isDone_47 ?_
  refine zg_iload_n C dX5_isDone_50 rfl (lv_at hl 1 rfl) ?_
  refine zg_aload_n C dX5_isDone_51 rfl (lv_at hl 0 rfl) ?_
  refine zg_get (j := 4) C X hP (by decide) lyM_0 rfl (zmem uwX5) (by decide) (C.tb flX5_20) (fun _ h9 => h9) rfl dX5_isDone_52 ?_
  refine zg_iload_n C dX5_isDone_55 rfl (lv_at hl 2 rfl) ?_
  refine zg_iald (t0 := 0) C X hP (by decide) lyM_3 rfl (by decide) (by omega) (by omega) dX5_isDone_56 ?_
  have b_17 := rgM_3 hR15 ((d).toNat)
  refine zg_aload_n C dX5_isDone_57 rfl (lv_at hl 0 rfl) ?_
  refine zg_get (j := 22) C X hP (by decide) lyM_0 rfl (zmem uwX5) (by decide) (C.tb flX5_72) (fun _ h9 => h9) rfl dX5_isDone_58 ?_
  refine zg_iload_n C dX5_isDone_61 rfl (lv_at hl 1 rfl) ?_
  refine zg_iald (t0 := 0) C X hP (by decide) lyM_20 rfl (by decide) (by omega) (by omega) dX5_isDone_62 ?_
  have b_18 := rgM_20 hR15 ((x).toNat)
  refine zg_icmp_le (tgt := 75) C (by omega) (by omega) (by omega) (by omega) dX5_isDone_63 (by decide) (fun c_19 => ?_) (fun c_19 => ?_)
  · refine zg_aload_n C dX5_isDone_75 rfl (lv_at hl 0 rfl) ?_
    refine zg_get (j := 22) C X hP (by decide) lyM_0 rfl (zmem uwX5) (by decide) (C.tb flX5_72) (fun _ h9 => h9) rfl dX5_isDone_76 ?_
    refine zg_iload_n C dX5_isDone_79 rfl (lv_at hl 1 rfl) ?_
    refine zg_iald (t0 := 0) C X hP (by decide) lyM_20 rfl (by decide) (by omega) (by omega) dX5_isDone_80 ?_
    have b_20 := rgM_20 hR15 ((x).toNat)
    refine zg_iast (t0 := 0) C X hP hS (by decide) (fun x => lyM_20) rfl (by decide) (by omega) (by omega) dX5_isDone_81 (fun H locs hP hS => ?_)
    obtain ⟨σ21, e22⟩ : ∃ z_ : Zt, z_ = zu σ13 20 (x).toNat (σ13 20 (x).toNat) := ⟨_, rfl⟩
    rw [← e22] at hP
    have w_24 : σ21 20 (x).toNat = σ13 20 (x).toNat := by rw [e22]; exact zu_same _ _ _ _
    have hR23 : rgM σ21 := by rw [e22]; exact rzM_20 hR15 (by omega) (by omega)
    refine zg_aload_n C dX5_isDone_82 rfl (lv_at hl 0 rfl) ?_
    refine zg_get (j := 5) C X hP (by decide) lyM_0 rfl (zmem uwX5) (by decide) (C.tb flX5_23) (fun _ h9 => h9) rfl dX5_isDone_83 ?_
    refine zg_iload_n C dX5_isDone_86 rfl (lv_at hl 2 rfl) ?_
    refine zg_iald (t0 := 0) C X hP (by decide) lyM_4 rfl (by decide) (by omega) (by omega) dX5_isDone_87 ?_
    have b_25 := rgM_4 hR23 ((d).toNat)
    refine zg_iconst C dX5_isDone_88 ?_
    refine zg_icmp_eq (tgt := 102) C (by omega) (by omega) (by omega) (by omega) dX5_isDone_89 (by decide) (fun c_26 => ?_) (fun c_26 => ?_)
    · refine zg_sipush C dX5_isDone_102 (by decide) ?_
      refine zg_iload_n C dX5_isDone_105 rfl (lv_at hl 1 rfl) ?_
      refine zg_imul C dX5_isDone_106 ?_
      refine zg_aload_n C dX5_isDone_107 rfl (lv_at hl 0 rfl) ?_
      refine zg_get (j := 7) C X hP (by decide) lyM_0 rfl (zmem uwX5) (by decide) (C.tb flX5_29) (fun _ h9 => h9) rfl dX5_isDone_108 ?_
      refine zg_iload_n C dX5_isDone_111 rfl (lv_at hl 2 rfl) ?_
      refine zg_iald (t0 := 0) C X hP (by decide) lyM_6 rfl (by decide) (by omega) (by omega) dX5_isDone_112 ?_
      have b_27 := rgM_6 hR23 ((d).toNat)
      refine zg_iadd C dX5_isDone_113 ?_
      refine zg_istore_n (lv' := [(3, .int (jI ((400 * x) + (σ21 6 (d).toNat)))), (0, .ref (a 0)), (1, .int (jI x)), (2, .int (jI d))]) C dX5_isDone_114 rfl hl (by decide) rfl (fun ls hl => ?_)
      refine zg_aload_n C dX5_isDone_115 rfl (lv_at hl 1 rfl) ?_
      refine zg_get (j := 20) C X hP (by decide) lyM_0 rfl (zmem uwX5) (by decide) (C.tb flX5_66) (fun _ h9 => h9) rfl dX5_isDone_116 ?_
      refine zg_iload_n C dX5_isDone_119 rfl (lv_at hl 0 rfl) ?_
      refine zg_aload_n C dX5_isDone_120 rfl (lv_at hl 1 rfl) ?_
      refine zg_iload_n C dX5_isDone_121 rfl (lv_at hl 3 rfl) ?_
      refine zg_aload_n C dX5_isDone_122 rfl (lv_at hl 1 rfl) ?_
      refine zg_get (j := 20) C X hP (by decide) lyM_0 rfl (zmem uwX5) (by decide) (C.tb flX5_66) (fun _ h9 => h9) rfl dX5_isDone_123 ?_
      refine zg_iload_n C dX5_isDone_126 rfl (lv_at hl 0 rfl) ?_
      refine zg_iald (t0 := 0) C X hP (by decide) lyM_18 rfl (by decide) (by omega) (by omega) dX5_isDone_127 ?_
      have b_28 := rgM_18 hR23 (((400 * x) + (σ21 6 (d).toNat)).toNat)
      refine zg_callV C X hP hS (kX5_isLater l σ21 hR23 d (σ21 18 ((400 * x) + (σ21 6 (d).toNat)).toNat) (by omega) (by omega) (by omega) (by omega)) (cwV 2 C.ts (zgV mlX5_132 imX5_isLater slX5_isLater iniX5 cdX5_isLater) rfl rfl rfl (by decide +kernel) ⟨Nat.le_of_ble_eq_true rfl, Nat.le_of_ble_eq_true rfl⟩) (by decide) lyM_0 rfl rfl rfl hl.1 rfl (Nat.le_of_ble_eq_true rfl) dX5_isDone_128 ⟨Nat.zero_le _, Nat.zero_le _⟩ (fun r_30 σ29 H locs q31 hP hS => ?_)
      obtain ⟨rfl, q31⟩ := q31
      rw [q31] at hP
      refine zg_ifeqB (tgt := 138) C dX5_isDone_131 (by decide) (fun c_32 => ?_) (fun c_32 => ?_)
      · refine zg_aload_n C dX5_isDone_138 rfl (lv_at hl 1 rfl) ?_
        refine zg_get (j := 20) C X hP (by decide) lyM_0 rfl (zmem uwX5) (by decide) (C.tb flX5_66) (fun _ h9 => h9) rfl dX5_isDone_139 ?_
        refine zg_iload_n C dX5_isDone_142 rfl (lv_at hl 0 rfl) ?_
        refine zg_iald (t0 := 0) C X hP (by decide) lyM_18 rfl (by decide) (by omega) (by omega) dX5_isDone_143 ?_
        have b_33 := rgM_18 hR23 (((400 * x) + (σ21 6 (d).toNat)).toNat)
        refine zg_iast (t0 := 0) C X hP hS (by decide) (fun x => lyM_18) rfl (by decide) (by omega) (by omega) dX5_isDone_144 (fun H locs hP hS => ?_)
        obtain ⟨σ34, e35⟩ : ∃ z_ : Zt, z_ = zu σ21 18 ((400 * x) + (σ21 6 (d).toNat)).toNat (σ21 18 ((400 * x) + (σ21 6 (d).toNat)).toNat) := ⟨_, rfl⟩
        rw [← e35] at hP
        have w_37 : σ34 18 ((400 * x) + (σ21 6 (d).toNat)).toNat = σ21 18 ((400 * x) + (σ21 6 (d).toNat)).toNat := by rw [e35]; exact zu_same _ _ _ _
        have hR36 : rgM σ34 := by rw [e35]; exact rzM_18 hR23 (by omega) (by omega)
        refine zg_vret C hP hS dX5_isDone_145 ?_
        subst e3 e8 e14 e22 e35
        try simp (disch := omega) only [zu_ne, zu_nj, zu_same] at c_19
        try simp (disch := omega) only [zu_ne, zu_nj, zu_same] at c_26
        try simp (disch := omega) only [zu_ne, zu_nj, zu_same] at c_32
        have hL : ∀ (τ : Zt) (f : Int), τ 1 = σ 1 → τ 3 = σ 3 → mLater τ d f = mLater σ d f := fun τ f h1 h3 => by unfold mLater; rw [h1, h3]
        try rw [hL _ _ rfl rfl] at c_32
        unfold mDone mDone0
        first | rw [if_pos (show σ 4 d.toNat = 1 ∨ σ 4 d.toNat = 2 from Or.inl (by assumption))] | rw [if_pos (show σ 4 d.toNat = 1 ∨ σ 4 d.toNat = 2 from Or.inr (by assumption))] | rw [if_neg (show ¬ (σ 4 d.toNat = 1 ∨ σ 4 d.toNat = 2) from fun q => q.elim (by assumption) (by assumption))]
        first | rw [if_pos (show σ 20 x.toNat < σ 3 d.toNat by assumption)] | rw [if_neg (show ¬ σ 20 x.toNat < σ 3 d.toNat from Int.not_lt.mpr (by assumption))]
        first | rw [if_pos (show mLater σ d (σ 18 (400 * x + σ 6 d.toNat).toNat) = true by assumption)] | rw [if_neg (show ¬ mLater σ d (σ 18 (400 * x + σ 6 d.toNat).toNat) = true by rw [show mLater σ d (σ 18 (400 * x + σ 6 d.toNat).toNat) = false by assumption]; decide)] | skip
        rfl
      · refine zg_iload_n C dX5_isDone_134 rfl (lv_at hl 3 rfl) ?_
        refine zg_goto (tgt := 144) C dX5_isDone_135 (by decide) ?_
        refine zg_iast (t0 := 0) C X hP hS (by decide) (fun x => lyM_18) rfl (by decide) (by omega) (by omega) dX5_isDone_144 (fun H locs hP hS => ?_)
        obtain ⟨σ38, e39⟩ : ∃ z_ : Zt, z_ = zu σ21 18 ((400 * x) + (σ21 6 (d).toNat)).toNat d := ⟨_, rfl⟩
        rw [← e39] at hP
        have w_41 : σ38 18 ((400 * x) + (σ21 6 (d).toNat)).toNat = d := by rw [e39]; exact zu_same _ _ _ _
        have hR40 : rgM σ38 := by rw [e39]; exact rzM_18 hR23 (by omega) (by omega)
        refine zg_vret C hP hS dX5_isDone_145 ?_
        subst e3 e8 e14 e22 e39
        try simp (disch := omega) only [zu_ne, zu_nj, zu_same] at c_19
        try simp (disch := omega) only [zu_ne, zu_nj, zu_same] at c_26
        try simp (disch := omega) only [zu_ne, zu_nj, zu_same] at c_32
        have hL : ∀ (τ : Zt) (f : Int), τ 1 = σ 1 → τ 3 = σ 3 → mLater τ d f = mLater σ d f := fun τ f h1 h3 => by unfold mLater; rw [h1, h3]
        try rw [hL _ _ rfl rfl] at c_32
        unfold mDone mDone0
        first | rw [if_pos (show σ 4 d.toNat = 1 ∨ σ 4 d.toNat = 2 from Or.inl (by assumption))] | rw [if_pos (show σ 4 d.toNat = 1 ∨ σ 4 d.toNat = 2 from Or.inr (by assumption))] | rw [if_neg (show ¬ (σ 4 d.toNat = 1 ∨ σ 4 d.toNat = 2) from fun q => q.elim (by assumption) (by assumption))]
        first | rw [if_pos (show σ 20 x.toNat < σ 3 d.toNat by assumption)] | rw [if_neg (show ¬ σ 20 x.toNat < σ 3 d.toNat from Int.not_lt.mpr (by assumption))]
        first | rw [if_pos (show mLater σ d (σ 18 (400 * x + σ 6 d.toNat).toNat) = true by assumption)] | rw [if_neg (show ¬ mLater σ d (σ 18 (400 * x + σ 6 d.toNat).toNat) = true by rw [show mLater σ d (σ 18 (400 * x + σ 6 d.toNat).toNat) = false by assumption]; decide)] | skip
        rfl
    · refine zg_aload_n C dX5_isDone_92 rfl (lv_at hl 0 rfl) ?_
      refine zg_get (j := 5) C X hP (by decide) lyM_0 rfl (zmem uwX5) (by decide) (C.tb flX5_23) (fun _ h9 => h9) rfl dX5_isDone_93 ?_
      refine zg_iload_n C dX5_isDone_96 rfl (lv_at hl 2 rfl) ?_
      refine zg_iald (t0 := 0) C X hP (by decide) lyM_4 rfl (by decide) (by omega) (by omega) dX5_isDone_97 ?_
      have b_42 := rgM_4 hR23 ((d).toNat)
      refine zg_iconst C dX5_isDone_98 ?_
      refine zg_icmp_ne (tgt := 145) C (by omega) (by omega) (by omega) (by omega) dX5_isDone_99 (by decide) (fun c_43 => ?_) (fun c_43 => ?_)
      · refine zg_vret C hP hS dX5_isDone_145 ?_
        subst e3 e8 e14 e22
        try simp (disch := omega) only [zu_ne, zu_nj, zu_same] at c_19
        try simp (disch := omega) only [zu_ne, zu_nj, zu_same] at c_26
        try simp (disch := omega) only [zu_ne, zu_nj, zu_same] at c_43
        have hL : ∀ (τ : Zt) (f : Int), τ 1 = σ 1 → τ 3 = σ 3 → mLater τ d f = mLater σ d f := fun τ f h1 h3 => by unfold mLater; rw [h1, h3]
        try rw [hL _ _ rfl rfl] at c_43
        unfold mDone mDone0
        first | rw [if_pos (show σ 4 d.toNat = 1 ∨ σ 4 d.toNat = 2 from Or.inl (by assumption))] | rw [if_pos (show σ 4 d.toNat = 1 ∨ σ 4 d.toNat = 2 from Or.inr (by assumption))] | rw [if_neg (show ¬ (σ 4 d.toNat = 1 ∨ σ 4 d.toNat = 2) from fun q => q.elim (by assumption) (by assumption))]
        first | rw [if_pos (show σ 20 x.toNat < σ 3 d.toNat by assumption)] | rw [if_neg (show ¬ σ 20 x.toNat < σ 3 d.toNat from Int.not_lt.mpr (by assumption))]
        first | rw [if_pos (show mLater σ d (σ 18 (400 * x + σ 6 d.toNat).toNat) = true by assumption)] | rw [if_neg (show ¬ mLater σ d (σ 18 (400 * x + σ 6 d.toNat).toNat) = true by rw [show mLater σ d (σ 18 (400 * x + σ 6 d.toNat).toNat) = false by assumption]; decide)] | skip
        rfl
      · refine zg_sipush C dX5_isDone_102 (by decide) ?_
        refine zg_iload_n C dX5_isDone_105 rfl (lv_at hl 1 rfl) ?_
        refine zg_imul C dX5_isDone_106 ?_
        refine zg_aload_n C dX5_isDone_107 rfl (lv_at hl 0 rfl) ?_
        refine zg_get (j := 7) C X hP (by decide) lyM_0 rfl (zmem uwX5) (by decide) (C.tb flX5_29) (fun _ h9 => h9) rfl dX5_isDone_108 ?_
        refine zg_iload_n C dX5_isDone_111 rfl (lv_at hl 2 rfl) ?_
        refine zg_iald (t0 := 0) C X hP (by decide) lyM_6 rfl (by decide) (by omega) (by omega) dX5_isDone_112 ?_
        have b_44 := rgM_6 hR23 ((d).toNat)
        refine zg_iadd C dX5_isDone_113 ?_
        refine zg_istore_n (lv' := [(3, .int (jI ((400 * x) + (σ21 6 (d).toNat)))), (0, .ref (a 0)), (1, .int (jI x)), (2, .int (jI d))]) C dX5_isDone_114 rfl hl (by decide) rfl (fun ls hl => ?_)
        refine zg_aload_n C dX5_isDone_115 rfl (lv_at hl 1 rfl) ?_
        refine zg_get (j := 20) C X hP (by decide) lyM_0 rfl (zmem uwX5) (by decide) (C.tb flX5_66) (fun _ h9 => h9) rfl dX5_isDone_116 ?_
        refine zg_iload_n C dX5_isDone_119 rfl (lv_at hl 0 rfl) ?_
        refine zg_aload_n C dX5_isDone_120 rfl (lv_at hl 1 rfl) ?_
        refine zg_iload_n C dX5_isDone_121 rfl (lv_at hl 3 rfl) ?_
        refine zg_aload_n C dX5_isDone_122 rfl (lv_at hl 1 rfl) ?_
        refine zg_get (j := 20) C X hP (by decide) lyM_0 rfl (zmem uwX5) (by decide) (C.tb flX5_66) (fun _ h9 => h9) rfl dX5_isDone_123 ?_
        refine zg_iload_n C dX5_isDone_126 rfl (lv_at hl 0 rfl) ?_
        refine zg_iald (t0 := 0) C X hP (by decide) lyM_18 rfl (by decide) (by omega) (by omega) dX5_isDone_127 ?_
        have b_45 := rgM_18 hR23 (((400 * x) + (σ21 6 (d).toNat)).toNat)
        refine zg_callV C X hP hS (kX5_isLater l σ21 hR23 d (σ21 18 ((400 * x) + (σ21 6 (d).toNat)).toNat) (by omega) (by omega) (by omega) (by omega)) (cwV 2 C.ts (zgV mlX5_132 imX5_isLater slX5_isLater iniX5 cdX5_isLater) rfl rfl rfl (by decide +kernel) ⟨Nat.le_of_ble_eq_true rfl, Nat.le_of_ble_eq_true rfl⟩) (by decide) lyM_0 rfl rfl rfl hl.1 rfl (Nat.le_of_ble_eq_true rfl) dX5_isDone_128 ⟨Nat.zero_le _, Nat.zero_le _⟩ (fun r_47 σ46 H locs q48 hP hS => ?_)
        obtain ⟨rfl, q48⟩ := q48
        rw [q48] at hP
        refine zg_ifeqB (tgt := 138) C dX5_isDone_131 (by decide) (fun c_49 => ?_) (fun c_49 => ?_)
        · refine zg_aload_n C dX5_isDone_138 rfl (lv_at hl 1 rfl) ?_
          refine zg_get (j := 20) C X hP (by decide) lyM_0 rfl (zmem uwX5) (by decide) (C.tb flX5_66) (fun _ h9 => h9) rfl dX5_isDone_139 ?_
          refine zg_iload_n C dX5_isDone_142 rfl (lv_at hl 0 rfl) ?_
          refine zg_iald (t0 := 0) C X hP (by decide) lyM_18 rfl (by decide) (by omega) (by omega) dX5_isDone_143 ?_
          have b_50 := rgM_18 hR23 (((400 * x) + (σ21 6 (d).toNat)).toNat)
          refine zg_iast (t0 := 0) C X hP hS (by decide) (fun x => lyM_18) rfl (by decide) (by omega) (by omega) dX5_isDone_144 (fun H locs hP hS => ?_)
          obtain ⟨σ51, e52⟩ : ∃ z_ : Zt, z_ = zu σ21 18 ((400 * x) + (σ21 6 (d).toNat)).toNat (σ21 18 ((400 * x) + (σ21 6 (d).toNat)).toNat) := ⟨_, rfl⟩
          rw [← e52] at hP
          have w_54 : σ51 18 ((400 * x) + (σ21 6 (d).toNat)).toNat = σ21 18 ((400 * x) + (σ21 6 (d).toNat)).toNat := by rw [e52]; exact zu_same _ _ _ _
          have hR53 : rgM σ51 := by rw [e52]; exact rzM_18 hR23 (by omega) (by omega)
          refine zg_vret C hP hS dX5_isDone_145 ?_
          subst e3 e8 e14 e22 e52
          try simp (disch := omega) only [zu_ne, zu_nj, zu_same] at c_19
          try simp (disch := omega) only [zu_ne, zu_nj, zu_same] at c_26
          try simp (disch := omega) only [zu_ne, zu_nj, zu_same] at c_43
          try simp (disch := omega) only [zu_ne, zu_nj, zu_same] at c_49
          have hL : ∀ (τ : Zt) (f : Int), τ 1 = σ 1 → τ 3 = σ 3 → mLater τ d f = mLater σ d f := fun τ f h1 h3 => by unfold mLater; rw [h1, h3]
          try rw [hL _ _ rfl rfl] at c_49
          unfold mDone mDone0
          first | rw [if_pos (show σ 4 d.toNat = 1 ∨ σ 4 d.toNat = 2 from Or.inl (by assumption))] | rw [if_pos (show σ 4 d.toNat = 1 ∨ σ 4 d.toNat = 2 from Or.inr (by assumption))] | rw [if_neg (show ¬ (σ 4 d.toNat = 1 ∨ σ 4 d.toNat = 2) from fun q => q.elim (by assumption) (by assumption))]
          first | rw [if_pos (show σ 20 x.toNat < σ 3 d.toNat by assumption)] | rw [if_neg (show ¬ σ 20 x.toNat < σ 3 d.toNat from Int.not_lt.mpr (by assumption))]
          first | rw [if_pos (show mLater σ d (σ 18 (400 * x + σ 6 d.toNat).toNat) = true by assumption)] | rw [if_neg (show ¬ mLater σ d (σ 18 (400 * x + σ 6 d.toNat).toNat) = true by rw [show mLater σ d (σ 18 (400 * x + σ 6 d.toNat).toNat) = false by assumption]; decide)] | skip
          rfl
        · refine zg_iload_n C dX5_isDone_134 rfl (lv_at hl 3 rfl) ?_
          refine zg_goto (tgt := 144) C dX5_isDone_135 (by decide) ?_
          refine zg_iast (t0 := 0) C X hP hS (by decide) (fun x => lyM_18) rfl (by decide) (by omega) (by omega) dX5_isDone_144 (fun H locs hP hS => ?_)
          obtain ⟨σ55, e56⟩ : ∃ z_ : Zt, z_ = zu σ21 18 ((400 * x) + (σ21 6 (d).toNat)).toNat d := ⟨_, rfl⟩
          rw [← e56] at hP
          have w_58 : σ55 18 ((400 * x) + (σ21 6 (d).toNat)).toNat = d := by rw [e56]; exact zu_same _ _ _ _
          have hR57 : rgM σ55 := by rw [e56]; exact rzM_18 hR23 (by omega) (by omega)
          refine zg_vret C hP hS dX5_isDone_145 ?_
          subst e3 e8 e14 e22 e56
          try simp (disch := omega) only [zu_ne, zu_nj, zu_same] at c_19
          try simp (disch := omega) only [zu_ne, zu_nj, zu_same] at c_26
          try simp (disch := omega) only [zu_ne, zu_nj, zu_same] at c_43
          try simp (disch := omega) only [zu_ne, zu_nj, zu_same] at c_49
          have hL : ∀ (τ : Zt) (f : Int), τ 1 = σ 1 → τ 3 = σ 3 → mLater τ d f = mLater σ d f := fun τ f h1 h3 => by unfold mLater; rw [h1, h3]
          try rw [hL _ _ rfl rfl] at c_49
          unfold mDone mDone0
          first | rw [if_pos (show σ 4 d.toNat = 1 ∨ σ 4 d.toNat = 2 from Or.inl (by assumption))] | rw [if_pos (show σ 4 d.toNat = 1 ∨ σ 4 d.toNat = 2 from Or.inr (by assumption))] | rw [if_neg (show ¬ (σ 4 d.toNat = 1 ∨ σ 4 d.toNat = 2) from fun q => q.elim (by assumption) (by assumption))]
          first | rw [if_pos (show σ 20 x.toNat < σ 3 d.toNat by assumption)] | rw [if_neg (show ¬ σ 20 x.toNat < σ 3 d.toNat from Int.not_lt.mpr (by assumption))]
          first | rw [if_pos (show mLater σ d (σ 18 (400 * x + σ 6 d.toNat).toNat) = true by assumption)] | rw [if_neg (show ¬ mLater σ d (σ 18 (400 * x + σ 6 d.toNat).toNat) = true by rw [show mLater σ d (σ 18 (400 * x + σ 6 d.toNat).toNat) = false by assumption]; decide)] | skip
          rfl
  · refine zg_aload_n C dX5_isDone_66 rfl (lv_at hl 0 rfl) ?_
    refine zg_get (j := 4) C X hP (by decide) lyM_0 rfl (zmem uwX5) (by decide) (C.tb flX5_20) (fun _ h9 => h9) rfl dX5_isDone_67 ?_
    refine zg_iload_n C dX5_isDone_70 rfl (lv_at hl 2 rfl) ?_
    refine zg_iald (t0 := 0) C X hP (by decide) lyM_3 rfl (by decide) (by omega) (by omega) dX5_isDone_71 ?_
    have b_59 := rgM_3 hR15 ((d).toNat)
    refine zg_goto (tgt := 81) C dX5_isDone_72 (by decide) ?_
    refine zg_iast (t0 := 0) C X hP hS (by decide) (fun x => lyM_20) rfl (by decide) (by omega) (by omega) dX5_isDone_81 (fun H locs hP hS => ?_)
    obtain ⟨σ60, e61⟩ : ∃ z_ : Zt, z_ = zu σ13 20 (x).toNat (σ13 3 (d).toNat) := ⟨_, rfl⟩
    rw [← e61] at hP
    have w_63 : σ60 20 (x).toNat = σ13 3 (d).toNat := by rw [e61]; exact zu_same _ _ _ _
    have hR62 : rgM σ60 := by rw [e61]; exact rzM_20 hR15 (by omega) (by omega)
    refine zg_aload_n C dX5_isDone_82 rfl (lv_at hl 0 rfl) ?_
    refine zg_get (j := 5) C X hP (by decide) lyM_0 rfl (zmem uwX5) (by decide) (C.tb flX5_23) (fun _ h9 => h9) rfl dX5_isDone_83 ?_
    refine zg_iload_n C dX5_isDone_86 rfl (lv_at hl 2 rfl) ?_
    refine zg_iald (t0 := 0) C X hP (by decide) lyM_4 rfl (by decide) (by omega) (by omega) dX5_isDone_87 ?_
    have b_64 := rgM_4 hR62 ((d).toNat)
    refine zg_iconst C dX5_isDone_88 ?_
    refine zg_icmp_eq (tgt := 102) C (by omega) (by omega) (by omega) (by omega) dX5_isDone_89 (by decide) (fun c_65 => ?_) (fun c_65 => ?_)
    · refine zg_sipush C dX5_isDone_102 (by decide) ?_
      refine zg_iload_n C dX5_isDone_105 rfl (lv_at hl 1 rfl) ?_
      refine zg_imul C dX5_isDone_106 ?_
      refine zg_aload_n C dX5_isDone_107 rfl (lv_at hl 0 rfl) ?_
      refine zg_get (j := 7) C X hP (by decide) lyM_0 rfl (zmem uwX5) (by decide) (C.tb flX5_29) (fun _ h9 => h9) rfl dX5_isDone_108 ?_
      refine zg_iload_n C dX5_isDone_111 rfl (lv_at hl 2 rfl) ?_
      refine zg_iald (t0 := 0) C X hP (by decide) lyM_6 rfl (by decide) (by omega) (by omega) dX5_isDone_112 ?_
      have b_66 := rgM_6 hR62 ((d).toNat)
      refine zg_iadd C dX5_isDone_113 ?_
      refine zg_istore_n (lv' := [(3, .int (jI ((400 * x) + (σ60 6 (d).toNat)))), (0, .ref (a 0)), (1, .int (jI x)), (2, .int (jI d))]) C dX5_isDone_114 rfl hl (by decide) rfl (fun ls hl => ?_)
      refine zg_aload_n C dX5_isDone_115 rfl (lv_at hl 1 rfl) ?_
      refine zg_get (j := 20) C X hP (by decide) lyM_0 rfl (zmem uwX5) (by decide) (C.tb flX5_66) (fun _ h9 => h9) rfl dX5_isDone_116 ?_
      refine zg_iload_n C dX5_isDone_119 rfl (lv_at hl 0 rfl) ?_
      refine zg_aload_n C dX5_isDone_120 rfl (lv_at hl 1 rfl) ?_
      refine zg_iload_n C dX5_isDone_121 rfl (lv_at hl 3 rfl) ?_
      refine zg_aload_n C dX5_isDone_122 rfl (lv_at hl 1 rfl) ?_
      refine zg_get (j := 20) C X hP (by decide) lyM_0 rfl (zmem uwX5) (by decide) (C.tb flX5_66) (fun _ h9 => h9) rfl dX5_isDone_123 ?_
      refine zg_iload_n C dX5_isDone_126 rfl (lv_at hl 0 rfl) ?_
      refine zg_iald (t0 := 0) C X hP (by decide) lyM_18 rfl (by decide) (by omega) (by omega) dX5_isDone_127 ?_
      have b_67 := rgM_18 hR62 (((400 * x) + (σ60 6 (d).toNat)).toNat)
      refine zg_callV C X hP hS (kX5_isLater l σ60 hR62 d (σ60 18 ((400 * x) + (σ60 6 (d).toNat)).toNat) (by omega) (by omega) (by omega) (by omega)) (cwV 2 C.ts (zgV mlX5_132 imX5_isLater slX5_isLater iniX5 cdX5_isLater) rfl rfl rfl (by decide +kernel) ⟨Nat.le_of_ble_eq_true rfl, Nat.le_of_ble_eq_true rfl⟩) (by decide) lyM_0 rfl rfl rfl hl.1 rfl (Nat.le_of_ble_eq_true rfl) dX5_isDone_128 ⟨Nat.zero_le _, Nat.zero_le _⟩ (fun r_69 σ68 H locs q70 hP hS => ?_)
      obtain ⟨rfl, q70⟩ := q70
      rw [q70] at hP
      refine zg_ifeqB (tgt := 138) C dX5_isDone_131 (by decide) (fun c_71 => ?_) (fun c_71 => ?_)
      · refine zg_aload_n C dX5_isDone_138 rfl (lv_at hl 1 rfl) ?_
        refine zg_get (j := 20) C X hP (by decide) lyM_0 rfl (zmem uwX5) (by decide) (C.tb flX5_66) (fun _ h9 => h9) rfl dX5_isDone_139 ?_
        refine zg_iload_n C dX5_isDone_142 rfl (lv_at hl 0 rfl) ?_
        refine zg_iald (t0 := 0) C X hP (by decide) lyM_18 rfl (by decide) (by omega) (by omega) dX5_isDone_143 ?_
        have b_72 := rgM_18 hR62 (((400 * x) + (σ60 6 (d).toNat)).toNat)
        refine zg_iast (t0 := 0) C X hP hS (by decide) (fun x => lyM_18) rfl (by decide) (by omega) (by omega) dX5_isDone_144 (fun H locs hP hS => ?_)
        obtain ⟨σ73, e74⟩ : ∃ z_ : Zt, z_ = zu σ60 18 ((400 * x) + (σ60 6 (d).toNat)).toNat (σ60 18 ((400 * x) + (σ60 6 (d).toNat)).toNat) := ⟨_, rfl⟩
        rw [← e74] at hP
        have w_76 : σ73 18 ((400 * x) + (σ60 6 (d).toNat)).toNat = σ60 18 ((400 * x) + (σ60 6 (d).toNat)).toNat := by rw [e74]; exact zu_same _ _ _ _
        have hR75 : rgM σ73 := by rw [e74]; exact rzM_18 hR62 (by omega) (by omega)
        refine zg_vret C hP hS dX5_isDone_145 ?_
        subst e3 e8 e14 e61 e74
        try simp (disch := omega) only [zu_ne, zu_nj, zu_same] at c_19
        try simp (disch := omega) only [zu_ne, zu_nj, zu_same] at c_65
        try simp (disch := omega) only [zu_ne, zu_nj, zu_same] at c_71
        have hL : ∀ (τ : Zt) (f : Int), τ 1 = σ 1 → τ 3 = σ 3 → mLater τ d f = mLater σ d f := fun τ f h1 h3 => by unfold mLater; rw [h1, h3]
        try rw [hL _ _ rfl rfl] at c_71
        unfold mDone mDone0
        first | rw [if_pos (show σ 4 d.toNat = 1 ∨ σ 4 d.toNat = 2 from Or.inl (by assumption))] | rw [if_pos (show σ 4 d.toNat = 1 ∨ σ 4 d.toNat = 2 from Or.inr (by assumption))] | rw [if_neg (show ¬ (σ 4 d.toNat = 1 ∨ σ 4 d.toNat = 2) from fun q => q.elim (by assumption) (by assumption))]
        first | rw [if_pos (show σ 20 x.toNat < σ 3 d.toNat by assumption)] | rw [if_neg (show ¬ σ 20 x.toNat < σ 3 d.toNat from Int.not_lt.mpr (by assumption))]
        first | rw [if_pos (show mLater σ d (σ 18 (400 * x + σ 6 d.toNat).toNat) = true by assumption)] | rw [if_neg (show ¬ mLater σ d (σ 18 (400 * x + σ 6 d.toNat).toNat) = true by rw [show mLater σ d (σ 18 (400 * x + σ 6 d.toNat).toNat) = false by assumption]; decide)] | skip
        rfl
      · refine zg_iload_n C dX5_isDone_134 rfl (lv_at hl 3 rfl) ?_
        refine zg_goto (tgt := 144) C dX5_isDone_135 (by decide) ?_
        refine zg_iast (t0 := 0) C X hP hS (by decide) (fun x => lyM_18) rfl (by decide) (by omega) (by omega) dX5_isDone_144 (fun H locs hP hS => ?_)
        obtain ⟨σ77, e78⟩ : ∃ z_ : Zt, z_ = zu σ60 18 ((400 * x) + (σ60 6 (d).toNat)).toNat d := ⟨_, rfl⟩
        rw [← e78] at hP
        have w_80 : σ77 18 ((400 * x) + (σ60 6 (d).toNat)).toNat = d := by rw [e78]; exact zu_same _ _ _ _
        have hR79 : rgM σ77 := by rw [e78]; exact rzM_18 hR62 (by omega) (by omega)
        refine zg_vret C hP hS dX5_isDone_145 ?_
        subst e3 e8 e14 e61 e78
        try simp (disch := omega) only [zu_ne, zu_nj, zu_same] at c_19
        try simp (disch := omega) only [zu_ne, zu_nj, zu_same] at c_65
        try simp (disch := omega) only [zu_ne, zu_nj, zu_same] at c_71
        have hL : ∀ (τ : Zt) (f : Int), τ 1 = σ 1 → τ 3 = σ 3 → mLater τ d f = mLater σ d f := fun τ f h1 h3 => by unfold mLater; rw [h1, h3]
        try rw [hL _ _ rfl rfl] at c_71
        unfold mDone mDone0
        first | rw [if_pos (show σ 4 d.toNat = 1 ∨ σ 4 d.toNat = 2 from Or.inl (by assumption))] | rw [if_pos (show σ 4 d.toNat = 1 ∨ σ 4 d.toNat = 2 from Or.inr (by assumption))] | rw [if_neg (show ¬ (σ 4 d.toNat = 1 ∨ σ 4 d.toNat = 2) from fun q => q.elim (by assumption) (by assumption))]
        first | rw [if_pos (show σ 20 x.toNat < σ 3 d.toNat by assumption)] | rw [if_neg (show ¬ σ 20 x.toNat < σ 3 d.toNat from Int.not_lt.mpr (by assumption))]
        first | rw [if_pos (show mLater σ d (σ 18 (400 * x + σ 6 d.toNat).toNat) = true by assumption)] | rw [if_neg (show ¬ mLater σ d (σ 18 (400 * x + σ 6 d.toNat).toNat) = true by rw [show mLater σ d (σ 18 (400 * x + σ 6 d.toNat).toNat) = false by assumption]; decide)] | skip
        rfl
    · refine zg_aload_n C dX5_isDone_92 rfl (lv_at hl 0 rfl) ?_
      refine zg_get (j := 5) C X hP (by decide) lyM_0 rfl (zmem uwX5) (by decide) (C.tb flX5_23) (fun _ h9 => h9) rfl dX5_isDone_93 ?_
      refine zg_iload_n C dX5_isDone_96 rfl (lv_at hl 2 rfl) ?_
      refine zg_iald (t0 := 0) C X hP (by decide) lyM_4 rfl (by decide) (by omega) (by omega) dX5_isDone_97 ?_
      have b_81 := rgM_4 hR62 ((d).toNat)
      refine zg_iconst C dX5_isDone_98 ?_
      refine zg_icmp_ne (tgt := 145) C (by omega) (by omega) (by omega) (by omega) dX5_isDone_99 (by decide) (fun c_82 => ?_) (fun c_82 => ?_)
      · refine zg_vret C hP hS dX5_isDone_145 ?_
        subst e3 e8 e14 e61
        try simp (disch := omega) only [zu_ne, zu_nj, zu_same] at c_19
        try simp (disch := omega) only [zu_ne, zu_nj, zu_same] at c_65
        try simp (disch := omega) only [zu_ne, zu_nj, zu_same] at c_82
        have hL : ∀ (τ : Zt) (f : Int), τ 1 = σ 1 → τ 3 = σ 3 → mLater τ d f = mLater σ d f := fun τ f h1 h3 => by unfold mLater; rw [h1, h3]
        try rw [hL _ _ rfl rfl] at c_82
        unfold mDone mDone0
        first | rw [if_pos (show σ 4 d.toNat = 1 ∨ σ 4 d.toNat = 2 from Or.inl (by assumption))] | rw [if_pos (show σ 4 d.toNat = 1 ∨ σ 4 d.toNat = 2 from Or.inr (by assumption))] | rw [if_neg (show ¬ (σ 4 d.toNat = 1 ∨ σ 4 d.toNat = 2) from fun q => q.elim (by assumption) (by assumption))]
        first | rw [if_pos (show σ 20 x.toNat < σ 3 d.toNat by assumption)] | rw [if_neg (show ¬ σ 20 x.toNat < σ 3 d.toNat from Int.not_lt.mpr (by assumption))]
        first | rw [if_pos (show mLater σ d (σ 18 (400 * x + σ 6 d.toNat).toNat) = true by assumption)] | rw [if_neg (show ¬ mLater σ d (σ 18 (400 * x + σ 6 d.toNat).toNat) = true by rw [show mLater σ d (σ 18 (400 * x + σ 6 d.toNat).toNat) = false by assumption]; decide)] | skip
        rfl
      · refine zg_sipush C dX5_isDone_102 (by decide) ?_
        refine zg_iload_n C dX5_isDone_105 rfl (lv_at hl 1 rfl) ?_
        refine zg_imul C dX5_isDone_106 ?_
        refine zg_aload_n C dX5_isDone_107 rfl (lv_at hl 0 rfl) ?_
        refine zg_get (j := 7) C X hP (by decide) lyM_0 rfl (zmem uwX5) (by decide) (C.tb flX5_29) (fun _ h9 => h9) rfl dX5_isDone_108 ?_
        refine zg_iload_n C dX5_isDone_111 rfl (lv_at hl 2 rfl) ?_
        refine zg_iald (t0 := 0) C X hP (by decide) lyM_6 rfl (by decide) (by omega) (by omega) dX5_isDone_112 ?_
        have b_83 := rgM_6 hR62 ((d).toNat)
        refine zg_iadd C dX5_isDone_113 ?_
        refine zg_istore_n (lv' := [(3, .int (jI ((400 * x) + (σ60 6 (d).toNat)))), (0, .ref (a 0)), (1, .int (jI x)), (2, .int (jI d))]) C dX5_isDone_114 rfl hl (by decide) rfl (fun ls hl => ?_)
        refine zg_aload_n C dX5_isDone_115 rfl (lv_at hl 1 rfl) ?_
        refine zg_get (j := 20) C X hP (by decide) lyM_0 rfl (zmem uwX5) (by decide) (C.tb flX5_66) (fun _ h9 => h9) rfl dX5_isDone_116 ?_
        refine zg_iload_n C dX5_isDone_119 rfl (lv_at hl 0 rfl) ?_
        refine zg_aload_n C dX5_isDone_120 rfl (lv_at hl 1 rfl) ?_
        refine zg_iload_n C dX5_isDone_121 rfl (lv_at hl 3 rfl) ?_
        refine zg_aload_n C dX5_isDone_122 rfl (lv_at hl 1 rfl) ?_
        refine zg_get (j := 20) C X hP (by decide) lyM_0 rfl (zmem uwX5) (by decide) (C.tb flX5_66) (fun _ h9 => h9) rfl dX5_isDone_123 ?_
        refine zg_iload_n C dX5_isDone_126 rfl (lv_at hl 0 rfl) ?_
        refine zg_iald (t0 := 0) C X hP (by decide) lyM_18 rfl (by decide) (by omega) (by omega) dX5_isDone_127 ?_
        have b_84 := rgM_18 hR62 (((400 * x) + (σ60 6 (d).toNat)).toNat)
        refine zg_callV C X hP hS (kX5_isLater l σ60 hR62 d (σ60 18 ((400 * x) + (σ60 6 (d).toNat)).toNat) (by omega) (by omega) (by omega) (by omega)) (cwV 2 C.ts (zgV mlX5_132 imX5_isLater slX5_isLater iniX5 cdX5_isLater) rfl rfl rfl (by decide +kernel) ⟨Nat.le_of_ble_eq_true rfl, Nat.le_of_ble_eq_true rfl⟩) (by decide) lyM_0 rfl rfl rfl hl.1 rfl (Nat.le_of_ble_eq_true rfl) dX5_isDone_128 ⟨Nat.zero_le _, Nat.zero_le _⟩ (fun r_86 σ85 H locs q87 hP hS => ?_)
        obtain ⟨rfl, q87⟩ := q87
        rw [q87] at hP
        refine zg_ifeqB (tgt := 138) C dX5_isDone_131 (by decide) (fun c_88 => ?_) (fun c_88 => ?_)
        · refine zg_aload_n C dX5_isDone_138 rfl (lv_at hl 1 rfl) ?_
          refine zg_get (j := 20) C X hP (by decide) lyM_0 rfl (zmem uwX5) (by decide) (C.tb flX5_66) (fun _ h9 => h9) rfl dX5_isDone_139 ?_
          refine zg_iload_n C dX5_isDone_142 rfl (lv_at hl 0 rfl) ?_
          refine zg_iald (t0 := 0) C X hP (by decide) lyM_18 rfl (by decide) (by omega) (by omega) dX5_isDone_143 ?_
          have b_89 := rgM_18 hR62 (((400 * x) + (σ60 6 (d).toNat)).toNat)
          refine zg_iast (t0 := 0) C X hP hS (by decide) (fun x => lyM_18) rfl (by decide) (by omega) (by omega) dX5_isDone_144 (fun H locs hP hS => ?_)
          obtain ⟨σ90, e91⟩ : ∃ z_ : Zt, z_ = zu σ60 18 ((400 * x) + (σ60 6 (d).toNat)).toNat (σ60 18 ((400 * x) + (σ60 6 (d).toNat)).toNat) := ⟨_, rfl⟩
          rw [← e91] at hP
          have w_93 : σ90 18 ((400 * x) + (σ60 6 (d).toNat)).toNat = σ60 18 ((400 * x) + (σ60 6 (d).toNat)).toNat := by rw [e91]; exact zu_same _ _ _ _
          have hR92 : rgM σ90 := by rw [e91]; exact rzM_18 hR62 (by omega) (by omega)
          refine zg_vret C hP hS dX5_isDone_145 ?_
          subst e3 e8 e14 e61 e91
          try simp (disch := omega) only [zu_ne, zu_nj, zu_same] at c_19
          try simp (disch := omega) only [zu_ne, zu_nj, zu_same] at c_65
          try simp (disch := omega) only [zu_ne, zu_nj, zu_same] at c_82
          try simp (disch := omega) only [zu_ne, zu_nj, zu_same] at c_88
          have hL : ∀ (τ : Zt) (f : Int), τ 1 = σ 1 → τ 3 = σ 3 → mLater τ d f = mLater σ d f := fun τ f h1 h3 => by unfold mLater; rw [h1, h3]
          try rw [hL _ _ rfl rfl] at c_88
          unfold mDone mDone0
          first | rw [if_pos (show σ 4 d.toNat = 1 ∨ σ 4 d.toNat = 2 from Or.inl (by assumption))] | rw [if_pos (show σ 4 d.toNat = 1 ∨ σ 4 d.toNat = 2 from Or.inr (by assumption))] | rw [if_neg (show ¬ (σ 4 d.toNat = 1 ∨ σ 4 d.toNat = 2) from fun q => q.elim (by assumption) (by assumption))]
          first | rw [if_pos (show σ 20 x.toNat < σ 3 d.toNat by assumption)] | rw [if_neg (show ¬ σ 20 x.toNat < σ 3 d.toNat from Int.not_lt.mpr (by assumption))]
          first | rw [if_pos (show mLater σ d (σ 18 (400 * x + σ 6 d.toNat).toNat) = true by assumption)] | rw [if_neg (show ¬ mLater σ d (σ 18 (400 * x + σ 6 d.toNat).toNat) = true by rw [show mLater σ d (σ 18 (400 * x + σ 6 d.toNat).toNat) = false by assumption]; decide)] | skip
          rfl
        · refine zg_iload_n C dX5_isDone_134 rfl (lv_at hl 3 rfl) ?_
          refine zg_goto (tgt := 144) C dX5_isDone_135 (by decide) ?_
          refine zg_iast (t0 := 0) C X hP hS (by decide) (fun x => lyM_18) rfl (by decide) (by omega) (by omega) dX5_isDone_144 (fun H locs hP hS => ?_)
          obtain ⟨σ94, e95⟩ : ∃ z_ : Zt, z_ = zu σ60 18 ((400 * x) + (σ60 6 (d).toNat)).toNat d := ⟨_, rfl⟩
          rw [← e95] at hP
          have w_97 : σ94 18 ((400 * x) + (σ60 6 (d).toNat)).toNat = d := by rw [e95]; exact zu_same _ _ _ _
          have hR96 : rgM σ94 := by rw [e95]; exact rzM_18 hR62 (by omega) (by omega)
          refine zg_vret C hP hS dX5_isDone_145 ?_
          subst e3 e8 e14 e61 e95
          try simp (disch := omega) only [zu_ne, zu_nj, zu_same] at c_19
          try simp (disch := omega) only [zu_ne, zu_nj, zu_same] at c_65
          try simp (disch := omega) only [zu_ne, zu_nj, zu_same] at c_82
          try simp (disch := omega) only [zu_ne, zu_nj, zu_same] at c_88
          have hL : ∀ (τ : Zt) (f : Int), τ 1 = σ 1 → τ 3 = σ 3 → mLater τ d f = mLater σ d f := fun τ f h1 h3 => by unfold mLater; rw [h1, h3]
          try rw [hL _ _ rfl rfl] at c_88
          unfold mDone mDone0
          first | rw [if_pos (show σ 4 d.toNat = 1 ∨ σ 4 d.toNat = 2 from Or.inl (by assumption))] | rw [if_pos (show σ 4 d.toNat = 1 ∨ σ 4 d.toNat = 2 from Or.inr (by assumption))] | rw [if_neg (show ¬ (σ 4 d.toNat = 1 ∨ σ 4 d.toNat = 2) from fun q => q.elim (by assumption) (by assumption))]
          first | rw [if_pos (show σ 20 x.toNat < σ 3 d.toNat by assumption)] | rw [if_neg (show ¬ σ 20 x.toNat < σ 3 d.toNat from Int.not_lt.mpr (by assumption))]
          first | rw [if_pos (show mLater σ d (σ 18 (400 * x + σ 6 d.toNat).toNat) = true by assumption)] | rw [if_neg (show ¬ mLater σ d (σ 18 (400 * x + σ 6 d.toNat).toNat) = true by rw [show mLater σ d (σ 18 (400 * x + σ 6 d.toNat).toNat) = false by assumption]; decide)] | skip
          rfl
set_option maxHeartbeats 4000000 in
set_option maxRecDepth 100000 in
theorem kX5_level (l : Launch) {D : va_G} {a : Nat → Nat} {cI cZ : ClassId} (σ : Zt) (hR : rgM σ) (u : Int) (q : Int) (t : Int) (dp : σ 0 32 < 12) (u0 : 0 ≤ u) (u1 : u < 4096) (q0 : 0 ≤ q) (q1 : q < 6) (t0 : 0 ≤ t) (t1 : t < 512) : zv l D vwCl (tyM cI cZ) 28 (layM cI cZ a) a yX5_level wsX5_level ({ frames := 0, cells := 0, slots := 0, locals := 0 }) [.ref (a 0), .int (jI u), .int (jI q), .int (jI t)] σ (fun u_ => u_ = mLev σ u q t) := by
  refine zv_of (cc := cX5_level) (maxL := 4) (own := RX5) (by decide) rfl rfl (Nat.le_of_ble_eq_true rfl) rfl ?_
  intro p e s m below meth c A ls C X hP hS hl
  refine zg_aload_n C dX5_level_0 rfl (lv_at hl 0 rfl) ?_
  refine zg_get (j := 29) C X hP (by decide) lyM_0 rfl (zmem uwX5) (by decide) (C.tb flX5_87) (fun _ h9 => h9) rfl dX5_level_1 ?_
  refine zg_aload_n C dX5_level_4 rfl (lv_at hl 0 rfl) ?_
  refine zg_get (j := 32) C X hP (by decide) lyM_0 rfl (zmem uwX5) (by decide) (C.tb flX5_116) (fun _ h9 => h9) rfl dX5_level_5 ?_
  have b_1 := rgM_0_32 hR
  refine zg_iload_n C dX5_level_8 rfl (lv_at hl 1 rfl) ?_
  refine zg_iast (t0 := 0) C X hP hS (by decide) (fun x => lyM_25) rfl (by decide) (by omega) (by omega) dX5_level_9 (fun H locs hP hS => ?_)
  obtain ⟨σ2, e3⟩ : ∃ z_ : Zt, z_ = zu σ 25 (σ 0 32).toNat u := ⟨_, rfl⟩
  rw [← e3] at hP
  have w_5 : σ2 25 (σ 0 32).toNat = u := by rw [e3]; exact zu_same _ _ _ _
  have w_6 : σ2 0 32 = σ 0 32 := by rw [e3]; first | exact congrFun (zu_ne (by omega)) _ | exact zu_nj (by omega)
  have hR4 : rgM σ2 := by rw [e3]; exact rzM_25 hR (by omega) (by omega)
  refine zg_aload_n C dX5_level_10 rfl (lv_at hl 0 rfl) ?_
  refine zg_get (j := 30) C X hP (by decide) lyM_0 rfl (zmem uwX5) (by decide) (C.tb flX5_90) (fun _ h9 => h9) rfl dX5_level_11 ?_
  refine zg_aload_n C dX5_level_14 rfl (lv_at hl 0 rfl) ?_
  refine zg_get (j := 32) C X hP (by decide) lyM_0 rfl (zmem uwX5) (by decide) (C.tb flX5_116) (fun _ h9 => h9) rfl dX5_level_15 ?_
  have b_7 := rgM_0_32 hR4
  refine zg_iload_n C dX5_level_18 rfl (lv_at hl 2 rfl) ?_
  refine zg_iast (t0 := 0) C X hP hS (by decide) (fun x => lyM_26) rfl (by decide) (by omega) (by omega) dX5_level_19 (fun H locs hP hS => ?_)
  obtain ⟨σ8, e9⟩ : ∃ z_ : Zt, z_ = zu σ2 26 (σ2 0 32).toNat q := ⟨_, rfl⟩
  rw [← e9] at hP
  have w_11 : σ8 26 (σ2 0 32).toNat = q := by rw [e9]; exact zu_same _ _ _ _
  have w_12 : σ8 0 32 = σ2 0 32 := by rw [e9]; first | exact congrFun (zu_ne (by omega)) _ | exact zu_nj (by omega)
  have hR10 : rgM σ8 := by rw [e9]; exact rzM_26 hR4 (by omega) (by omega)
  refine zg_aload_n C dX5_level_20 rfl (lv_at hl 0 rfl) ?_
  refine zg_get (j := 31) C X hP (by decide) lyM_0 rfl (zmem uwX5) (by decide) (C.tb flX5_93) (fun _ h9 => h9) rfl dX5_level_21 ?_
  refine zg_aload_n C dX5_level_24 rfl (lv_at hl 0 rfl) ?_
  refine zg_get (j := 32) C X hP (by decide) lyM_0 rfl (zmem uwX5) (by decide) (C.tb flX5_116) (fun _ h9 => h9) rfl dX5_level_25 ?_
  have b_13 := rgM_0_32 hR10
  refine zg_iload_n C dX5_level_28 rfl (lv_at hl 3 rfl) ?_
  refine zg_iast (t0 := 0) C X hP hS (by decide) (fun x => lyM_27) rfl (by decide) (by omega) (by omega) dX5_level_29 (fun H locs hP hS => ?_)
  obtain ⟨σ14, e15⟩ : ∃ z_ : Zt, z_ = zu σ8 27 (σ8 0 32).toNat t := ⟨_, rfl⟩
  rw [← e15] at hP
  have w_17 : σ14 27 (σ8 0 32).toNat = t := by rw [e15]; exact zu_same _ _ _ _
  have w_18 : σ14 0 32 = σ8 0 32 := by rw [e15]; first | exact congrFun (zu_ne (by omega)) _ | exact zu_nj (by omega)
  have hR16 : rgM σ14 := by rw [e15]; exact rzM_27 hR10 (by omega) (by omega)
  refine zg_aload_n C dX5_level_30 rfl (lv_at hl 0 rfl) ?_
  refine zg_dup C dX5_level_31 rfl ?_
  refine zg_get (j := 32) C X hP (by decide) lyM_0 rfl (zmem uwX5) (by decide) (C.tb flX5_116) (fun _ h9 => h9) rfl dX5_level_32 ?_
  have b_19 := rgM_0_32 hR16
  refine zg_iconst C dX5_level_35 ?_
  refine zg_iadd C dX5_level_36 ?_
  refine zg_put (j := 32) (v := (σ14 0 32) + 1) C X hP hS (by decide) lyM_0 rfl (zmem uwX5) tyX5 tyX5_ok nmX5 (by decide) (C.tb flX5_116) (fun _ h9 => h9) rfl (by decide +kernel) (Nat.le_of_ble_eq_true rfl) (by rw [lyM_0]; rfl) dX5_level_37 (fun H locs hP hS => ?_)
  obtain ⟨σ20, e21⟩ : ∃ z_ : Zt, z_ = zu σ14 0 32 ((σ14 0 32) + 1) := ⟨_, rfl⟩
  rw [← e21] at hP
  have w_23 : σ20 0 32 = (σ14 0 32) + 1 := by rw [e21]; exact zu_same _ _ _ _
  have hR22 : rgM σ20 := by rw [e21]; exact rzM_0_32 hR16 (by omega) (by omega)
  refine zg_vret C hP hS dX5_level_40 ?_
  subst e3 e9 e15 e21
  rfl
set_option maxHeartbeats 4000000 in
set_option maxRecDepth 100000 in
theorem kX5_isLevel (l : Launch) {D : va_G} {a : Nat → Nat} {cI cZ : ClassId} (σ : Zt) (hR : rgM σ) (d : Int) (k : Int) (f : Int) (d0 : 0 ≤ d) (d1 : d < 400) (k0 : 1 ≤ k) (k1 : k ≤ 12) (f0 : 0 ≤ f) (f1 : f < 400) : zc l D vwCl (tyM cI cZ) 28 (layM cI cZ a) a yX5_isLevel wsX5_isLevel ({ frames := 0, cells := 0, slots := 0, locals := 0 }) [.ref (a 0), .int (jI d), .int (jI k), .int (jI f)] σ (fun r_ u_ => r_ = jI (bI (mIsLev σ d k f)) ∧ u_ = σ) := by
  refine zc_of (cc := cX5_isLevel) (maxL := 6) (ret := some .boolean) (own := RX5) (by decide) rfl rfl (Nat.le_of_ble_eq_true rfl) rfl ?_
  intro p e s m below meth c A ls C X hP hS hl
  refine zg_bipush C dX5_isLevel_0 (by decide) ?_
  refine zg_iload_n C dX5_isLevel_2 rfl (lv_at hl 1 rfl) ?_
  refine zg_imul C dX5_isLevel_3 ?_
  refine zg_iload_n C dX5_isLevel_4 rfl (lv_at hl 2 rfl) ?_
  refine zg_iadd C dX5_isLevel_5 ?_
  refine zg_iconst C dX5_isLevel_6 ?_
  refine zg_isub C dX5_isLevel_7 ?_
  refine zg_istore (lv' := [(4, .int (jI (((12 * d) + k) - 1))), (0, .ref (a 0)), (1, .int (jI d)), (2, .int (jI k)), (3, .int (jI f))]) C dX5_isLevel_8 hl (by decide) rfl (fun ls hl => ?_)
  refine zg_bipush C dX5_isLevel_10 (by decide) ?_
  refine zg_iload_n C dX5_isLevel_12 rfl (lv_at hl 4 rfl) ?_
  refine zg_imul C dX5_isLevel_13 ?_
  refine zg_iload_n C dX5_isLevel_14 rfl (lv_at hl 3 rfl) ?_
  refine zg_iadd C dX5_isLevel_15 ?_
  refine zg_iconst C dX5_isLevel_16 ?_
  refine zg_isub C dX5_isLevel_17 ?_
  refine zg_istore (lv' := [(5, .int (jI (((12 * f) + k) - 1))), (4, .int (jI (((12 * d) + k) - 1))), (0, .ref (a 0)), (1, .int (jI d)), (2, .int (jI k)), (3, .int (jI f))]) C dX5_isLevel_18 hl (by decide) rfl (fun ls hl => ?_)
  refine zg_aload_n C dX5_isLevel_20 rfl (lv_at hl 2 rfl) ?_
  refine zg_get (j := 12) C X hP (by decide) lyM_0 rfl (zmem uwX5) (by decide) (C.tb flX5_45) (fun _ h9 => h9) rfl dX5_isLevel_21 ?_
  refine zg_iload C dX5_isLevel_24 (lv_at hl 1 rfl) ?_
  refine zg_iald (t0 := 0) C X hP (by decide) lyM_11 rfl (by decide) (by omega) (by omega) dX5_isLevel_26 ?_
  have b_1 := rgM_11 hR ((((12 * d) + k) - 1).toNat)
  refine zg_aload_n C dX5_isLevel_27 rfl (lv_at hl 2 rfl) ?_
  refine zg_get (j := 12) C X hP (by decide) lyM_0 rfl (zmem uwX5) (by decide) (C.tb flX5_45) (fun _ h9 => h9) rfl dX5_isLevel_28 ?_
  refine zg_iload C dX5_isLevel_31 (lv_at hl 0 rfl) ?_
  refine zg_iald (t0 := 0) C X hP (by decide) lyM_11 rfl (by decide) (by omega) (by omega) dX5_isLevel_33 ?_
  have b_2 := rgM_11 hR ((((12 * f) + k) - 1).toNat)
  refine zg_icmp_ne (tgt := 75) C (by omega) (by omega) (by omega) (by omega) dX5_isLevel_34 (by decide) (fun c_3 => ?_) (fun c_3 => ?_)
  · refine zg_iconst C dX5_isLevel_75 ?_
    refine zg_zret (b := false) C hP hS dX5_isLevel_76 ?_
    exact ⟨congrArg (fun b => jI (bI b)) (by grind [mIsLev]), rfl⟩
  · refine zg_aload_n C dX5_isLevel_37 rfl (lv_at hl 2 rfl) ?_
    refine zg_get (j := 13) C X hP (by decide) lyM_0 rfl (zmem uwX5) (by decide) (C.tb flX5_48) (fun _ h9 => h9) rfl dX5_isLevel_38 ?_
    refine zg_iload C dX5_isLevel_41 (lv_at hl 1 rfl) ?_
    refine zg_iald (t0 := 0) C X hP (by decide) lyM_12 rfl (by decide) (by omega) (by omega) dX5_isLevel_43 ?_
    have b_4 := rgM_12 hR ((((12 * d) + k) - 1).toNat)
    refine zg_aload_n C dX5_isLevel_44 rfl (lv_at hl 2 rfl) ?_
    refine zg_get (j := 13) C X hP (by decide) lyM_0 rfl (zmem uwX5) (by decide) (C.tb flX5_48) (fun _ h9 => h9) rfl dX5_isLevel_45 ?_
    refine zg_iload C dX5_isLevel_48 (lv_at hl 0 rfl) ?_
    refine zg_iald (t0 := 0) C X hP (by decide) lyM_12 rfl (by decide) (by omega) (by omega) dX5_isLevel_50 ?_
    have b_5 := rgM_12 hR ((((12 * f) + k) - 1).toNat)
    refine zg_icmp_ne (tgt := 75) C (by omega) (by omega) (by omega) (by omega) dX5_isLevel_51 (by decide) (fun c_6 => ?_) (fun c_6 => ?_)
    · refine zg_iconst C dX5_isLevel_75 ?_
      refine zg_zret (b := false) C hP hS dX5_isLevel_76 ?_
      exact ⟨congrArg (fun b => jI (bI b)) (by grind [mIsLev]), rfl⟩
    · refine zg_aload_n C dX5_isLevel_54 rfl (lv_at hl 2 rfl) ?_
      refine zg_get (j := 14) C X hP (by decide) lyM_0 rfl (zmem uwX5) (by decide) (C.tb flX5_51) (fun _ h9 => h9) rfl dX5_isLevel_55 ?_
      refine zg_iload C dX5_isLevel_58 (lv_at hl 1 rfl) ?_
      refine zg_iald (t0 := 0) C X hP (by decide) lyM_13 rfl (by decide) (by omega) (by omega) dX5_isLevel_60 ?_
      have b_7 := rgM_13 hR ((((12 * d) + k) - 1).toNat)
      refine zg_aload_n C dX5_isLevel_61 rfl (lv_at hl 2 rfl) ?_
      refine zg_get (j := 14) C X hP (by decide) lyM_0 rfl (zmem uwX5) (by decide) (C.tb flX5_51) (fun _ h9 => h9) rfl dX5_isLevel_62 ?_
      refine zg_iload C dX5_isLevel_65 (lv_at hl 0 rfl) ?_
      refine zg_iald (t0 := 0) C X hP (by decide) lyM_13 rfl (by decide) (by omega) (by omega) dX5_isLevel_67 ?_
      have b_8 := rgM_13 hR ((((12 * f) + k) - 1).toNat)
      refine zg_icmp_ne (tgt := 75) C (by omega) (by omega) (by omega) (by omega) dX5_isLevel_68 (by decide) (fun c_9 => ?_) (fun c_9 => ?_)
      · refine zg_iconst C dX5_isLevel_75 ?_
        refine zg_zret (b := false) C hP hS dX5_isLevel_76 ?_
        exact ⟨congrArg (fun b => jI (bI b)) (by grind [mIsLev]), rfl⟩
      · refine zg_iconst C dX5_isLevel_71 ?_
        refine zg_goto (tgt := 76) C dX5_isLevel_72 (by decide) ?_
        refine zg_zret (b := true) C hP hS dX5_isLevel_76 ?_
        exact ⟨congrArg (fun b => jI (bI b)) (by grind [mIsLev]), rfl⟩
set_option maxHeartbeats 4000000 in
set_option maxRecDepth 100000 in
theorem lpX5_isBefore_2 {l : Launch} {D : va_G} {a : Nat → Nat} {cI cZ : ClassId} {p : Program} {e : Env} {s : State} {m : MethodId} {below : List Frame} {meth : Method} {c : Code} {A : Nat → Prop} (σ : Zt) (hR : rgM σ) (d : Int) (f : Int) (d0 : 0 ≤ d) (d1 : d < 400) (f0 : 0 ≤ f) (f1 : f < 400)  (C : zk p s m ([.ref (a 0), .int (jI d), .int (jI f)] : List Value).toArray meth c cX5_isBefore 6 (some .boolean) wsX5_isBefore RX5) (X : zx D vwCl (tyM cI cZ) A a 28 s) :
    ∀ (n : Nat) (k : Int) (H : Heap) (locs : List Loc) (ls : Array Slot), ((12 - k).toNat < n) → (0 ≤ k) → (k ≤ 12) → (mBef σ d f 12 0 = mBef σ d f (12 - k).toNat k) → va_P D vwCl (zw 28 (layM cI cZ a) a σ) H → va_S A s.heap H locs → lv_has ls 6 [(0, .ref (a 0)), (1, .int (jI d)), (2, .int (jI f)), (3, .int (jI k))] →
      W p l e ({ frames := 0, cells := 0, slots := 0, locals := 0 }) s m ([.ref (a 0), .int (jI d), .int (jI f)] : List Value).toArray below meth c H locs 0 0 (MQ below (va_Qi (fun r_ u_ => r_ = jI (bI (mBef σ d f 12 0)) ∧ u_ = σ) (fun (u : Zt) t => va_P D vwCl (zw 28 (layM cI cZ a) a u) t.heap) A) ([.ref (a 0), .int (jI d), .int (jI f)] : List Value).toArray s 0 0 A) (F0 m 2 ls []) := by
  intro n
  induction n with
  | zero =>
    intro k  H locs ls hn k0 k1 hE hP hS hl
    exact absurd hn (by omega)
  | succ n ih =>
    intro k  H locs ls hn k0 k1 hE hP hS hl
    refine zg_iload_n C dX5_isBefore_2 rfl (lv_at hl 3 rfl) ?_
    refine zg_bipush C dX5_isBefore_3 (by decide) ?_
    refine zg_icmp_ge (tgt := 191) C (by omega) (by omega) (by omega) (by omega) dX5_isBefore_5 (by decide) (fun c_1 => ?_) (fun c_1 => ?_)
    · refine zg_iconst C dX5_isBefore_191 ?_
      refine zg_zret (b := false) C hP hS dX5_isBefore_192 ?_
      exact ⟨congrArg (fun b => jI (bI b)) (by rw [hE]; first | rw [mBef_end (by omega)] | (rw [mBef_len (by omega) (by first | exact Or.inl (by assumption) | exact Or.inr (by assumption))]; grind) | (rw [mBef_dig (by omega) (by assumption) (by assumption) (by assumption)]; grind) | (rw [mBef_sit (by omega) (by assumption) (by assumption) (by assumption) (by assumption)]; grind) | (rw [mBef_cnt (by omega) (by assumption) (by assumption) (by assumption) (by assumption) (by assumption)]; grind)), rfl⟩
    · refine zg_iload_n C dX5_isBefore_8 rfl (lv_at hl 3 rfl) ?_
      refine zg_aload_n C dX5_isBefore_9 rfl (lv_at hl 0 rfl) ?_
      refine zg_get (j := 11) C X hP (by decide) lyM_0 rfl (zmem uwX5) (by decide) (C.tb flX5_42) (fun _ h9 => h9) rfl dX5_isBefore_10 ?_
      refine zg_iload_n C dX5_isBefore_13 rfl (lv_at hl 1 rfl) ?_
      refine zg_iald (t0 := 0) C X hP (by decide) lyM_10 rfl (by decide) (by omega) (by omega) dX5_isBefore_14 ?_
      have b_2 := rgM_10 hR ((d).toNat)
      refine zg_icmp_eq (tgt := 28) C (by omega) (by omega) (by omega) (by omega) dX5_isBefore_15 (by decide) (fun c_3 => ?_) (fun c_3 => ?_)
      · refine zg_aload_n C dX5_isBefore_28 rfl (lv_at hl 0 rfl) ?_
        refine zg_get (j := 11) C X hP (by decide) lyM_0 rfl (zmem uwX5) (by decide) (C.tb flX5_42) (fun _ h9 => h9) rfl dX5_isBefore_29 ?_
        refine zg_iload_n C dX5_isBefore_32 rfl (lv_at hl 1 rfl) ?_
        refine zg_iald (t0 := 0) C X hP (by decide) lyM_10 rfl (by decide) (by omega) (by omega) dX5_isBefore_33 ?_
        have b_4 := rgM_10 hR ((d).toNat)
        refine zg_aload_n C dX5_isBefore_34 rfl (lv_at hl 0 rfl) ?_
        refine zg_get (j := 11) C X hP (by decide) lyM_0 rfl (zmem uwX5) (by decide) (C.tb flX5_42) (fun _ h9 => h9) rfl dX5_isBefore_35 ?_
        refine zg_iload_n C dX5_isBefore_38 rfl (lv_at hl 2 rfl) ?_
        refine zg_iald (t0 := 0) C X hP (by decide) lyM_10 rfl (by decide) (by omega) (by omega) dX5_isBefore_39 ?_
        have b_5 := rgM_10 hR ((f).toNat)
        refine zg_icmp_ge (tgt := 47) C (by omega) (by omega) (by omega) (by omega) dX5_isBefore_40 (by decide) (fun c_6 => ?_) (fun c_6 => ?_)
        · refine zg_iconst C dX5_isBefore_47 ?_
          refine zg_zret (b := false) C hP hS dX5_isBefore_48 ?_
          exact ⟨congrArg (fun b => jI (bI b)) (by rw [hE]; first | rw [mBef_end (by omega)] | (rw [mBef_len (by omega) (by first | exact Or.inl (by assumption) | exact Or.inr (by assumption))]; grind) | (rw [mBef_dig (by omega) (by assumption) (by assumption) (by assumption)]; grind) | (rw [mBef_sit (by omega) (by assumption) (by assumption) (by assumption) (by assumption)]; grind) | (rw [mBef_cnt (by omega) (by assumption) (by assumption) (by assumption) (by assumption) (by assumption)]; grind)), rfl⟩
        · refine zg_iconst C dX5_isBefore_43 ?_
          refine zg_goto (tgt := 48) C dX5_isBefore_44 (by decide) ?_
          refine zg_zret (b := true) C hP hS dX5_isBefore_48 ?_
          exact ⟨congrArg (fun b => jI (bI b)) (by rw [hE]; first | rw [mBef_end (by omega)] | (rw [mBef_len (by omega) (by first | exact Or.inl (by assumption) | exact Or.inr (by assumption))]; grind) | (rw [mBef_dig (by omega) (by assumption) (by assumption) (by assumption)]; grind) | (rw [mBef_sit (by omega) (by assumption) (by assumption) (by assumption) (by assumption)]; grind) | (rw [mBef_cnt (by omega) (by assumption) (by assumption) (by assumption) (by assumption) (by assumption)]; grind)), rfl⟩
      · refine zg_iload_n C dX5_isBefore_18 rfl (lv_at hl 3 rfl) ?_
        refine zg_aload_n C dX5_isBefore_19 rfl (lv_at hl 0 rfl) ?_
        refine zg_get (j := 11) C X hP (by decide) lyM_0 rfl (zmem uwX5) (by decide) (C.tb flX5_42) (fun _ h9 => h9) rfl dX5_isBefore_20 ?_
        refine zg_iload_n C dX5_isBefore_23 rfl (lv_at hl 2 rfl) ?_
        refine zg_iald (t0 := 0) C X hP (by decide) lyM_10 rfl (by decide) (by omega) (by omega) dX5_isBefore_24 ?_
        have b_7 := rgM_10 hR ((f).toNat)
        refine zg_icmp_ne (tgt := 49) C (by omega) (by omega) (by omega) (by omega) dX5_isBefore_25 (by decide) (fun c_8 => ?_) (fun c_8 => ?_)
        · refine zg_bipush C dX5_isBefore_49 (by decide) ?_
          refine zg_iload_n C dX5_isBefore_51 rfl (lv_at hl 1 rfl) ?_
          refine zg_imul C dX5_isBefore_52 ?_
          refine zg_iload_n C dX5_isBefore_53 rfl (lv_at hl 3 rfl) ?_
          refine zg_iadd C dX5_isBefore_54 ?_
          refine zg_istore (lv' := [(4, .int (jI ((12 * d) + k))), (0, .ref (a 0)), (1, .int (jI d)), (2, .int (jI f)), (3, .int (jI k))]) C dX5_isBefore_55 hl (by decide) rfl (fun ls hl => ?_)
          refine zg_bipush C dX5_isBefore_57 (by decide) ?_
          refine zg_iload_n C dX5_isBefore_59 rfl (lv_at hl 3 rfl) ?_
          refine zg_imul C dX5_isBefore_60 ?_
          refine zg_iload_n C dX5_isBefore_61 rfl (lv_at hl 4 rfl) ?_
          refine zg_iadd C dX5_isBefore_62 ?_
          refine zg_istore (lv' := [(5, .int (jI ((12 * f) + k))), (4, .int (jI ((12 * d) + k))), (0, .ref (a 0)), (1, .int (jI d)), (2, .int (jI f)), (3, .int (jI k))]) C dX5_isBefore_63 hl (by decide) rfl (fun ls hl => ?_)
          refine zg_aload_n C dX5_isBefore_65 rfl (lv_at hl 2 rfl) ?_
          refine zg_get (j := 12) C X hP (by decide) lyM_0 rfl (zmem uwX5) (by decide) (C.tb flX5_45) (fun _ h9 => h9) rfl dX5_isBefore_66 ?_
          refine zg_iload C dX5_isBefore_69 (lv_at hl 1 rfl) ?_
          refine zg_iald (t0 := 0) C X hP (by decide) lyM_11 rfl (by decide) (by omega) (by omega) dX5_isBefore_71 ?_
          have b_9 := rgM_11 hR (((12 * d) + k).toNat)
          refine zg_aload_n C dX5_isBefore_72 rfl (lv_at hl 2 rfl) ?_
          refine zg_get (j := 12) C X hP (by decide) lyM_0 rfl (zmem uwX5) (by decide) (C.tb flX5_45) (fun _ h9 => h9) rfl dX5_isBefore_73 ?_
          refine zg_iload C dX5_isBefore_76 (lv_at hl 0 rfl) ?_
          refine zg_iald (t0 := 0) C X hP (by decide) lyM_11 rfl (by decide) (by omega) (by omega) dX5_isBefore_78 ?_
          have b_10 := rgM_11 hR (((12 * f) + k).toNat)
          refine zg_icmp_eq (tgt := 105) C (by omega) (by omega) (by omega) (by omega) dX5_isBefore_79 (by decide) (fun c_11 => ?_) (fun c_11 => ?_)
          · refine zg_aload_n C dX5_isBefore_105 rfl (lv_at hl 2 rfl) ?_
            refine zg_get (j := 13) C X hP (by decide) lyM_0 rfl (zmem uwX5) (by decide) (C.tb flX5_48) (fun _ h9 => h9) rfl dX5_isBefore_106 ?_
            refine zg_iload C dX5_isBefore_109 (lv_at hl 1 rfl) ?_
            refine zg_iald (t0 := 0) C X hP (by decide) lyM_12 rfl (by decide) (by omega) (by omega) dX5_isBefore_111 ?_
            have b_12 := rgM_12 hR (((12 * d) + k).toNat)
            refine zg_aload_n C dX5_isBefore_112 rfl (lv_at hl 2 rfl) ?_
            refine zg_get (j := 13) C X hP (by decide) lyM_0 rfl (zmem uwX5) (by decide) (C.tb flX5_48) (fun _ h9 => h9) rfl dX5_isBefore_113 ?_
            refine zg_iload C dX5_isBefore_116 (lv_at hl 0 rfl) ?_
            refine zg_iald (t0 := 0) C X hP (by decide) lyM_12 rfl (by decide) (by omega) (by omega) dX5_isBefore_118 ?_
            have b_13 := rgM_12 hR (((12 * f) + k).toNat)
            refine zg_icmp_eq (tgt := 145) C (by omega) (by omega) (by omega) (by omega) dX5_isBefore_119 (by decide) (fun c_14 => ?_) (fun c_14 => ?_)
            · refine zg_aload_n C dX5_isBefore_145 rfl (lv_at hl 2 rfl) ?_
              refine zg_get (j := 14) C X hP (by decide) lyM_0 rfl (zmem uwX5) (by decide) (C.tb flX5_51) (fun _ h9 => h9) rfl dX5_isBefore_146 ?_
              refine zg_iload C dX5_isBefore_149 (lv_at hl 1 rfl) ?_
              refine zg_iald (t0 := 0) C X hP (by decide) lyM_13 rfl (by decide) (by omega) (by omega) dX5_isBefore_151 ?_
              have b_15 := rgM_13 hR (((12 * d) + k).toNat)
              refine zg_aload_n C dX5_isBefore_152 rfl (lv_at hl 2 rfl) ?_
              refine zg_get (j := 14) C X hP (by decide) lyM_0 rfl (zmem uwX5) (by decide) (C.tb flX5_51) (fun _ h9 => h9) rfl dX5_isBefore_153 ?_
              refine zg_iload C dX5_isBefore_156 (lv_at hl 0 rfl) ?_
              refine zg_iald (t0 := 0) C X hP (by decide) lyM_13 rfl (by decide) (by omega) (by omega) dX5_isBefore_158 ?_
              have b_16 := rgM_13 hR (((12 * f) + k).toNat)
              refine zg_icmp_eq (tgt := 185) C (by omega) (by omega) (by omega) (by omega) dX5_isBefore_159 (by decide) (fun c_17 => ?_) (fun c_17 => ?_)
              · refine zg_iinc (k := 5) (lv' := [(3, .int (jI (k + 1))), (5, .int (jI ((12 * f) + k))), (4, .int (jI ((12 * d) + k))), (0, .ref (a 0)), (1, .int (jI d)), (2, .int (jI f))]) C dX5_isBefore_185 hl rfl (by decide) rfl (fun ls hl => ?_)
                refine zg_goto (tgt := 2) C dX5_isBefore_188 (by decide) ?_
                exact ih (k + 1) _ _ _ (by omega) (by omega) (by omega) (hE.trans (mBef_same (by omega) (by assumption) (by assumption) (by assumption) (by assumption) (by assumption))) hP hS (lv_sub hl [3, 4, 5, 0] rfl)
              · refine zg_aload_n C dX5_isBefore_162 rfl (lv_at hl 2 rfl) ?_
                refine zg_get (j := 14) C X hP (by decide) lyM_0 rfl (zmem uwX5) (by decide) (C.tb flX5_51) (fun _ h9 => h9) rfl dX5_isBefore_163 ?_
                refine zg_iload C dX5_isBefore_166 (lv_at hl 1 rfl) ?_
                refine zg_iald (t0 := 0) C X hP (by decide) lyM_13 rfl (by decide) (by omega) (by omega) dX5_isBefore_168 ?_
                have b_18 := rgM_13 hR (((12 * d) + k).toNat)
                refine zg_aload_n C dX5_isBefore_169 rfl (lv_at hl 2 rfl) ?_
                refine zg_get (j := 14) C X hP (by decide) lyM_0 rfl (zmem uwX5) (by decide) (C.tb flX5_51) (fun _ h9 => h9) rfl dX5_isBefore_170 ?_
                refine zg_iload C dX5_isBefore_173 (lv_at hl 0 rfl) ?_
                refine zg_iald (t0 := 0) C X hP (by decide) lyM_13 rfl (by decide) (by omega) (by omega) dX5_isBefore_175 ?_
                have b_19 := rgM_13 hR (((12 * f) + k).toNat)
                refine zg_icmp_ge (tgt := 183) C (by omega) (by omega) (by omega) (by omega) dX5_isBefore_176 (by decide) (fun c_20 => ?_) (fun c_20 => ?_)
                · refine zg_iconst C dX5_isBefore_183 ?_
                  refine zg_zret (b := false) C hP hS dX5_isBefore_184 ?_
                  exact ⟨congrArg (fun b => jI (bI b)) (by rw [hE]; first | rw [mBef_end (by omega)] | (rw [mBef_len (by omega) (by first | exact Or.inl (by assumption) | exact Or.inr (by assumption))]; grind) | (rw [mBef_dig (by omega) (by assumption) (by assumption) (by assumption)]; grind) | (rw [mBef_sit (by omega) (by assumption) (by assumption) (by assumption) (by assumption)]; grind) | (rw [mBef_cnt (by omega) (by assumption) (by assumption) (by assumption) (by assumption) (by assumption)]; grind)), rfl⟩
                · refine zg_iconst C dX5_isBefore_179 ?_
                  refine zg_goto (tgt := 184) C dX5_isBefore_180 (by decide) ?_
                  refine zg_zret (b := true) C hP hS dX5_isBefore_184 ?_
                  exact ⟨congrArg (fun b => jI (bI b)) (by rw [hE]; first | rw [mBef_end (by omega)] | (rw [mBef_len (by omega) (by first | exact Or.inl (by assumption) | exact Or.inr (by assumption))]; grind) | (rw [mBef_dig (by omega) (by assumption) (by assumption) (by assumption)]; grind) | (rw [mBef_sit (by omega) (by assumption) (by assumption) (by assumption) (by assumption)]; grind) | (rw [mBef_cnt (by omega) (by assumption) (by assumption) (by assumption) (by assumption) (by assumption)]; grind)), rfl⟩
            · refine zg_aload_n C dX5_isBefore_122 rfl (lv_at hl 2 rfl) ?_
              refine zg_get (j := 13) C X hP (by decide) lyM_0 rfl (zmem uwX5) (by decide) (C.tb flX5_48) (fun _ h9 => h9) rfl dX5_isBefore_123 ?_
              refine zg_iload C dX5_isBefore_126 (lv_at hl 1 rfl) ?_
              refine zg_iald (t0 := 0) C X hP (by decide) lyM_12 rfl (by decide) (by omega) (by omega) dX5_isBefore_128 ?_
              have b_21 := rgM_12 hR (((12 * d) + k).toNat)
              refine zg_aload_n C dX5_isBefore_129 rfl (lv_at hl 2 rfl) ?_
              refine zg_get (j := 13) C X hP (by decide) lyM_0 rfl (zmem uwX5) (by decide) (C.tb flX5_48) (fun _ h9 => h9) rfl dX5_isBefore_130 ?_
              refine zg_iload C dX5_isBefore_133 (lv_at hl 0 rfl) ?_
              refine zg_iald (t0 := 0) C X hP (by decide) lyM_12 rfl (by decide) (by omega) (by omega) dX5_isBefore_135 ?_
              have b_22 := rgM_12 hR (((12 * f) + k).toNat)
              refine zg_icmp_ge (tgt := 143) C (by omega) (by omega) (by omega) (by omega) dX5_isBefore_136 (by decide) (fun c_23 => ?_) (fun c_23 => ?_)
              · refine zg_iconst C dX5_isBefore_143 ?_
                refine zg_zret (b := false) C hP hS dX5_isBefore_144 ?_
                exact ⟨congrArg (fun b => jI (bI b)) (by rw [hE]; first | rw [mBef_end (by omega)] | (rw [mBef_len (by omega) (by first | exact Or.inl (by assumption) | exact Or.inr (by assumption))]; grind) | (rw [mBef_dig (by omega) (by assumption) (by assumption) (by assumption)]; grind) | (rw [mBef_sit (by omega) (by assumption) (by assumption) (by assumption) (by assumption)]; grind) | (rw [mBef_cnt (by omega) (by assumption) (by assumption) (by assumption) (by assumption) (by assumption)]; grind)), rfl⟩
              · refine zg_iconst C dX5_isBefore_139 ?_
                refine zg_goto (tgt := 144) C dX5_isBefore_140 (by decide) ?_
                refine zg_zret (b := true) C hP hS dX5_isBefore_144 ?_
                exact ⟨congrArg (fun b => jI (bI b)) (by rw [hE]; first | rw [mBef_end (by omega)] | (rw [mBef_len (by omega) (by first | exact Or.inl (by assumption) | exact Or.inr (by assumption))]; grind) | (rw [mBef_dig (by omega) (by assumption) (by assumption) (by assumption)]; grind) | (rw [mBef_sit (by omega) (by assumption) (by assumption) (by assumption) (by assumption)]; grind) | (rw [mBef_cnt (by omega) (by assumption) (by assumption) (by assumption) (by assumption) (by assumption)]; grind)), rfl⟩
          · refine zg_aload_n C dX5_isBefore_82 rfl (lv_at hl 2 rfl) ?_
            refine zg_get (j := 12) C X hP (by decide) lyM_0 rfl (zmem uwX5) (by decide) (C.tb flX5_45) (fun _ h9 => h9) rfl dX5_isBefore_83 ?_
            refine zg_iload C dX5_isBefore_86 (lv_at hl 1 rfl) ?_
            refine zg_iald (t0 := 0) C X hP (by decide) lyM_11 rfl (by decide) (by omega) (by omega) dX5_isBefore_88 ?_
            have b_24 := rgM_11 hR (((12 * d) + k).toNat)
            refine zg_aload_n C dX5_isBefore_89 rfl (lv_at hl 2 rfl) ?_
            refine zg_get (j := 12) C X hP (by decide) lyM_0 rfl (zmem uwX5) (by decide) (C.tb flX5_45) (fun _ h9 => h9) rfl dX5_isBefore_90 ?_
            refine zg_iload C dX5_isBefore_93 (lv_at hl 0 rfl) ?_
            refine zg_iald (t0 := 0) C X hP (by decide) lyM_11 rfl (by decide) (by omega) (by omega) dX5_isBefore_95 ?_
            have b_25 := rgM_11 hR (((12 * f) + k).toNat)
            refine zg_icmp_ge (tgt := 103) C (by omega) (by omega) (by omega) (by omega) dX5_isBefore_96 (by decide) (fun c_26 => ?_) (fun c_26 => ?_)
            · refine zg_iconst C dX5_isBefore_103 ?_
              refine zg_zret (b := false) C hP hS dX5_isBefore_104 ?_
              exact ⟨congrArg (fun b => jI (bI b)) (by rw [hE]; first | rw [mBef_end (by omega)] | (rw [mBef_len (by omega) (by first | exact Or.inl (by assumption) | exact Or.inr (by assumption))]; grind) | (rw [mBef_dig (by omega) (by assumption) (by assumption) (by assumption)]; grind) | (rw [mBef_sit (by omega) (by assumption) (by assumption) (by assumption) (by assumption)]; grind) | (rw [mBef_cnt (by omega) (by assumption) (by assumption) (by assumption) (by assumption) (by assumption)]; grind)), rfl⟩
            · refine zg_iconst C dX5_isBefore_99 ?_
              refine zg_goto (tgt := 104) C dX5_isBefore_100 (by decide) ?_
              refine zg_zret (b := true) C hP hS dX5_isBefore_104 ?_
              exact ⟨congrArg (fun b => jI (bI b)) (by rw [hE]; first | rw [mBef_end (by omega)] | (rw [mBef_len (by omega) (by first | exact Or.inl (by assumption) | exact Or.inr (by assumption))]; grind) | (rw [mBef_dig (by omega) (by assumption) (by assumption) (by assumption)]; grind) | (rw [mBef_sit (by omega) (by assumption) (by assumption) (by assumption) (by assumption)]; grind) | (rw [mBef_cnt (by omega) (by assumption) (by assumption) (by assumption) (by assumption) (by assumption)]; grind)), rfl⟩
        · refine zg_aload_n C dX5_isBefore_28 rfl (lv_at hl 0 rfl) ?_
          refine zg_get (j := 11) C X hP (by decide) lyM_0 rfl (zmem uwX5) (by decide) (C.tb flX5_42) (fun _ h9 => h9) rfl dX5_isBefore_29 ?_
          refine zg_iload_n C dX5_isBefore_32 rfl (lv_at hl 1 rfl) ?_
          refine zg_iald (t0 := 0) C X hP (by decide) lyM_10 rfl (by decide) (by omega) (by omega) dX5_isBefore_33 ?_
          have b_27 := rgM_10 hR ((d).toNat)
          refine zg_aload_n C dX5_isBefore_34 rfl (lv_at hl 0 rfl) ?_
          refine zg_get (j := 11) C X hP (by decide) lyM_0 rfl (zmem uwX5) (by decide) (C.tb flX5_42) (fun _ h9 => h9) rfl dX5_isBefore_35 ?_
          refine zg_iload_n C dX5_isBefore_38 rfl (lv_at hl 2 rfl) ?_
          refine zg_iald (t0 := 0) C X hP (by decide) lyM_10 rfl (by decide) (by omega) (by omega) dX5_isBefore_39 ?_
          have b_28 := rgM_10 hR ((f).toNat)
          refine zg_icmp_ge (tgt := 47) C (by omega) (by omega) (by omega) (by omega) dX5_isBefore_40 (by decide) (fun c_29 => ?_) (fun c_29 => ?_)
          · refine zg_iconst C dX5_isBefore_47 ?_
            refine zg_zret (b := false) C hP hS dX5_isBefore_48 ?_
            exact ⟨congrArg (fun b => jI (bI b)) (by rw [hE]; first | rw [mBef_end (by omega)] | (rw [mBef_len (by omega) (by first | exact Or.inl (by assumption) | exact Or.inr (by assumption))]; grind) | (rw [mBef_dig (by omega) (by assumption) (by assumption) (by assumption)]; grind) | (rw [mBef_sit (by omega) (by assumption) (by assumption) (by assumption) (by assumption)]; grind) | (rw [mBef_cnt (by omega) (by assumption) (by assumption) (by assumption) (by assumption) (by assumption)]; grind)), rfl⟩
          · refine zg_iconst C dX5_isBefore_43 ?_
            refine zg_goto (tgt := 48) C dX5_isBefore_44 (by decide) ?_
            refine zg_zret (b := true) C hP hS dX5_isBefore_48 ?_
            exact ⟨congrArg (fun b => jI (bI b)) (by rw [hE]; first | rw [mBef_end (by omega)] | (rw [mBef_len (by omega) (by first | exact Or.inl (by assumption) | exact Or.inr (by assumption))]; grind) | (rw [mBef_dig (by omega) (by assumption) (by assumption) (by assumption)]; grind) | (rw [mBef_sit (by omega) (by assumption) (by assumption) (by assumption) (by assumption)]; grind) | (rw [mBef_cnt (by omega) (by assumption) (by assumption) (by assumption) (by assumption) (by assumption)]; grind)), rfl⟩
set_option maxHeartbeats 4000000 in
set_option maxRecDepth 100000 in
theorem kX5_isBefore (l : Launch) {D : va_G} {a : Nat → Nat} {cI cZ : ClassId} (σ : Zt) (hR : rgM σ) (d : Int) (f : Int) (d0 : 0 ≤ d) (d1 : d < 400) (f0 : 0 ≤ f) (f1 : f < 400) : zc l D vwCl (tyM cI cZ) 28 (layM cI cZ a) a yX5_isBefore wsX5_isBefore ({ frames := 0, cells := 0, slots := 0, locals := 0 }) [.ref (a 0), .int (jI d), .int (jI f)] σ (fun r_ u_ => r_ = jI (bI (mBef σ d f 12 0)) ∧ u_ = σ) := by
  refine zc_of (cc := cX5_isBefore) (maxL := 6) (ret := some .boolean) (own := RX5) (by decide) rfl rfl (Nat.le_of_ble_eq_true rfl) rfl ?_
  intro p e s m below meth c A ls C X hP hS hl
  refine zg_iconst C dX5_isBefore_0 ?_
  refine zg_istore_n (lv' := [(3, .int (jI 0)), (0, .ref (a 0)), (1, .int (jI d)), (2, .int (jI f))]) C dX5_isBefore_1 rfl hl (by decide) rfl (fun ls hl => ?_)
  exact lpX5_isBefore_2 σ hR d f d0 d1 f0 f1 C X 13 0 _ _ _ (by omega) (by omega) (by omega) rfl hP hS (lv_sub hl [1, 2, 3, 0] rfl)
set_option maxHeartbeats 4000000 in
set_option maxRecDepth 100000 in
theorem lpX5_sortIn_5 {l : Launch} {D : va_G} {a : Nat → Nat} {cI cZ : ClassId} {p : Program} {e : Env} {s : State} {m : MethodId} {below : List Frame} {meth : Method} {c : Code} {A : Nat → Prop} (σ : Zt) (hR : rgM σ) (d : Int) (d0 : 0 ≤ d) (d1 : d < 400) (pp : σ 0 15 < 400)  (C : zk p s m ([.ref (a 0), .int (jI d)] : List Value).toArray meth c cX5_sortIn 3 (none) wsX5_sortIn RX5) (X : zx D vwCl (tyM cI cZ) A a 28 s) :
    ∀ (n : Nat) (k : Int) (τ : Zt) (H : Heap) (locs : List Loc) (ls : Array Slot), (k.toNat < n) → (rgM τ) → (0 ≤ k) → (k < 400) → (τ 0 15 = σ 0 15) → (mSh d (σ 0 15).toNat (σ 0 15) σ = mSh d k.toNat k τ) → va_P D vwCl (zw 28 (layM cI cZ a) a τ) H → va_S A s.heap H locs → lv_has ls 3 [(0, .ref (a 0)), (1, .int (jI d)), (2, .int (jI k))] →
      W p l e ({ frames := 1, cells := 0, slots := 0, locals := 25 }) s m ([.ref (a 0), .int (jI d)] : List Value).toArray below meth c H locs 0 0 (MQ below (va_Qv (fun u_ => u_ = mSort σ d) (fun (u : Zt) t => va_P D vwCl (zw 28 (layM cI cZ a) a u) t.heap) A) ([.ref (a 0), .int (jI d)] : List Value).toArray s 0 0 A) (F0 m 5 ls []) := by
  intro n
  induction n with
  | zero =>
    intro k τ H locs ls hn hτ k0 k1 ht hE hP hS hl
    exact absurd hn (by omega)
  | succ n ih =>
    intro k τ H locs ls hn hτ k0 k1 ht hE hP hS hl
    refine zg_iload_n C dX5_sortIn_5 rfl (lv_at hl 2 rfl) ?_
    refine zg_if_le (tgt := 57) C (by omega) (by omega) dX5_sortIn_6 (by decide) (fun c_1 => ?_) (fun c_1 => ?_)
    · refine zg_aload_n C dX5_sortIn_57 rfl (lv_at hl 0 rfl) ?_
      refine zg_get (j := 16) C X hP (by decide) lyM_0 rfl (zmem uwX5) (by decide) (C.tb flX5_54) (fun _ h9 => h9) rfl dX5_sortIn_58 ?_
      refine zg_iload_n C dX5_sortIn_61 rfl (lv_at hl 2 rfl) ?_
      refine zg_iload_n C dX5_sortIn_62 rfl (lv_at hl 1 rfl) ?_
      refine zg_iast (t0 := 0) C X hP hS (by decide) (fun x => lyM_14) rfl (by decide) (by omega) (by omega) dX5_sortIn_63 (fun H locs hP hS => ?_)
      obtain ⟨σ2, e3⟩ : ∃ z_ : Zt, z_ = zu τ 14 (k).toNat d := ⟨_, rfl⟩
      rw [← e3] at hP
      have w_5 : σ2 14 (k).toNat = d := by rw [e3]; exact zu_same _ _ _ _
      have w_6 : σ2 0 15 = τ 0 15 := by rw [e3]; first | exact congrFun (zu_ne (by omega)) _ | exact zu_nj (by omega)
      have hR4 : rgM σ2 := by rw [e3]; exact rzM_14 hτ (by omega) (by omega)
      refine zg_aload_n C dX5_sortIn_64 rfl (lv_at hl 0 rfl) ?_
      refine zg_get (j := 17) C X hP (by decide) lyM_0 rfl (zmem uwX5) (by decide) (C.tb flX5_57) (fun _ h9 => h9) rfl dX5_sortIn_65 ?_
      refine zg_iload_n C dX5_sortIn_68 rfl (lv_at hl 1 rfl) ?_
      refine zg_iload_n C dX5_sortIn_69 rfl (lv_at hl 2 rfl) ?_
      refine zg_iast (t0 := 0) C X hP hS (by decide) (fun x => lyM_15) rfl (by decide) (by omega) (by omega) dX5_sortIn_70 (fun H locs hP hS => ?_)
      obtain ⟨σ7, e8⟩ : ∃ z_ : Zt, z_ = zu σ2 15 (d).toNat k := ⟨_, rfl⟩
      rw [← e8] at hP
      have w_10 : σ7 15 (d).toNat = k := by rw [e8]; exact zu_same _ _ _ _
      have w_11 : σ7 0 15 = σ2 0 15 := by rw [e8]; first | exact congrFun (zu_ne (by omega)) _ | exact zu_nj (by omega)
      have hR9 : rgM σ7 := by rw [e8]; exact rzM_15 hR4 (by omega) (by omega)
      refine zg_aload_n C dX5_sortIn_71 rfl (lv_at hl 0 rfl) ?_
      refine zg_dup C dX5_sortIn_72 rfl ?_
      refine zg_get (j := 15) C X hP (by decide) lyM_0 rfl (zmem uwX5) (by decide) (C.tb flX5_110) (fun _ h9 => h9) rfl dX5_sortIn_73 ?_
      have b_12 := rgM_0_15 hR9
      refine zg_iconst C dX5_sortIn_76 ?_
      refine zg_iadd C dX5_sortIn_77 ?_
      refine zg_put (j := 15) (v := (σ7 0 15) + 1) C X hP hS (by decide) lyM_0 rfl (zmem uwX5) tyX5 tyX5_ok nmX5 (by decide) (C.tb flX5_110) (fun _ h9 => h9) rfl (by decide +kernel) (Nat.le_of_ble_eq_true rfl) (by rw [lyM_0]; rfl) dX5_sortIn_78 (fun H locs hP hS => ?_)
      obtain ⟨σ13, e14⟩ : ∃ z_ : Zt, z_ = zu σ7 0 15 ((σ7 0 15) + 1) := ⟨_, rfl⟩
      rw [← e14] at hP
      have w_16 : σ13 0 15 = (σ7 0 15) + 1 := by rw [e14]; exact zu_same _ _ _ _
      have hR15 : rgM σ13 := by rw [e14]; exact rzM_0_15 hR9 (by omega) (by omega)
      refine zg_vret C hP hS dX5_sortIn_81 ?_
      subst e3 e8 e14
      first | have h9 := hE.trans (mSh_end (by omega)) | have h9 := hE.trans (mSh_stop (by omega) (by assumption))
      rw [mSort, h9, ← ht]
      rfl
    · refine zg_aload_n C dX5_sortIn_9 rfl (lv_at hl 0 rfl) ?_
      refine zg_iload_n C dX5_sortIn_10 rfl (lv_at hl 1 rfl) ?_
      refine zg_aload_n C dX5_sortIn_11 rfl (lv_at hl 0 rfl) ?_
      refine zg_get (j := 16) C X hP (by decide) lyM_0 rfl (zmem uwX5) (by decide) (C.tb flX5_54) (fun _ h9 => h9) rfl dX5_sortIn_12 ?_
      refine zg_iload_n C dX5_sortIn_15 rfl (lv_at hl 2 rfl) ?_
      refine zg_iconst C dX5_sortIn_16 ?_
      refine zg_isub C dX5_sortIn_17 ?_
      refine zg_iald (t0 := 0) C X hP (by decide) lyM_14 rfl (by decide) (by omega) (by omega) dX5_sortIn_18 ?_
      have b_17 := rgM_14 hτ ((k - 1).toNat)
      refine zg_callV C X hP hS (kX5_isBefore l τ hτ d (τ 14 (k - 1).toNat) (by omega) (by omega) (by omega) (by omega)) (cwV 2 C.ts (zgV mlX5_129 imX5_isBefore slX5_isBefore iniX5 cdX5_isBefore) rfl rfl rfl (by decide +kernel) ⟨Nat.le_of_ble_eq_true rfl, Nat.le_of_ble_eq_true rfl⟩) (by decide) lyM_0 rfl rfl rfl hl.1 rfl (Nat.le_of_ble_eq_true rfl) dX5_sortIn_19 ⟨Nat.zero_le _, Nat.zero_le _⟩ (fun r_19 σ18 H locs q20 hP hS => ?_)
      obtain ⟨rfl, q20⟩ := q20
      rw [q20] at hP
      refine zg_ifeqB (tgt := 57) C dX5_sortIn_22 (by decide) (fun c_21 => ?_) (fun c_21 => ?_)
      · refine zg_aload_n C dX5_sortIn_57 rfl (lv_at hl 0 rfl) ?_
        refine zg_get (j := 16) C X hP (by decide) lyM_0 rfl (zmem uwX5) (by decide) (C.tb flX5_54) (fun _ h9 => h9) rfl dX5_sortIn_58 ?_
        refine zg_iload_n C dX5_sortIn_61 rfl (lv_at hl 2 rfl) ?_
        refine zg_iload_n C dX5_sortIn_62 rfl (lv_at hl 1 rfl) ?_
        refine zg_iast (t0 := 0) C X hP hS (by decide) (fun x => lyM_14) rfl (by decide) (by omega) (by omega) dX5_sortIn_63 (fun H locs hP hS => ?_)
        obtain ⟨σ22, e23⟩ : ∃ z_ : Zt, z_ = zu τ 14 (k).toNat d := ⟨_, rfl⟩
        rw [← e23] at hP
        have w_25 : σ22 14 (k).toNat = d := by rw [e23]; exact zu_same _ _ _ _
        have w_26 : σ22 0 15 = τ 0 15 := by rw [e23]; first | exact congrFun (zu_ne (by omega)) _ | exact zu_nj (by omega)
        have hR24 : rgM σ22 := by rw [e23]; exact rzM_14 hτ (by omega) (by omega)
        refine zg_aload_n C dX5_sortIn_64 rfl (lv_at hl 0 rfl) ?_
        refine zg_get (j := 17) C X hP (by decide) lyM_0 rfl (zmem uwX5) (by decide) (C.tb flX5_57) (fun _ h9 => h9) rfl dX5_sortIn_65 ?_
        refine zg_iload_n C dX5_sortIn_68 rfl (lv_at hl 1 rfl) ?_
        refine zg_iload_n C dX5_sortIn_69 rfl (lv_at hl 2 rfl) ?_
        refine zg_iast (t0 := 0) C X hP hS (by decide) (fun x => lyM_15) rfl (by decide) (by omega) (by omega) dX5_sortIn_70 (fun H locs hP hS => ?_)
        obtain ⟨σ27, e28⟩ : ∃ z_ : Zt, z_ = zu σ22 15 (d).toNat k := ⟨_, rfl⟩
        rw [← e28] at hP
        have w_30 : σ27 15 (d).toNat = k := by rw [e28]; exact zu_same _ _ _ _
        have w_31 : σ27 0 15 = σ22 0 15 := by rw [e28]; first | exact congrFun (zu_ne (by omega)) _ | exact zu_nj (by omega)
        have hR29 : rgM σ27 := by rw [e28]; exact rzM_15 hR24 (by omega) (by omega)
        refine zg_aload_n C dX5_sortIn_71 rfl (lv_at hl 0 rfl) ?_
        refine zg_dup C dX5_sortIn_72 rfl ?_
        refine zg_get (j := 15) C X hP (by decide) lyM_0 rfl (zmem uwX5) (by decide) (C.tb flX5_110) (fun _ h9 => h9) rfl dX5_sortIn_73 ?_
        have b_32 := rgM_0_15 hR29
        refine zg_iconst C dX5_sortIn_76 ?_
        refine zg_iadd C dX5_sortIn_77 ?_
        refine zg_put (j := 15) (v := (σ27 0 15) + 1) C X hP hS (by decide) lyM_0 rfl (zmem uwX5) tyX5 tyX5_ok nmX5 (by decide) (C.tb flX5_110) (fun _ h9 => h9) rfl (by decide +kernel) (Nat.le_of_ble_eq_true rfl) (by rw [lyM_0]; rfl) dX5_sortIn_78 (fun H locs hP hS => ?_)
        obtain ⟨σ33, e34⟩ : ∃ z_ : Zt, z_ = zu σ27 0 15 ((σ27 0 15) + 1) := ⟨_, rfl⟩
        rw [← e34] at hP
        have w_36 : σ33 0 15 = (σ27 0 15) + 1 := by rw [e34]; exact zu_same _ _ _ _
        have hR35 : rgM σ33 := by rw [e34]; exact rzM_0_15 hR29 (by omega) (by omega)
        refine zg_vret C hP hS dX5_sortIn_81 ?_
        subst e23 e28 e34
        first | have h9 := hE.trans (mSh_end (by omega)) | have h9 := hE.trans (mSh_stop (by omega) (by assumption))
        rw [mSort, h9, ← ht]
        rfl
      · refine zg_aload_n C dX5_sortIn_25 rfl (lv_at hl 0 rfl) ?_
        refine zg_get (j := 16) C X hP (by decide) lyM_0 rfl (zmem uwX5) (by decide) (C.tb flX5_54) (fun _ h9 => h9) rfl dX5_sortIn_26 ?_
        refine zg_iload_n C dX5_sortIn_29 rfl (lv_at hl 2 rfl) ?_
        refine zg_aload_n C dX5_sortIn_30 rfl (lv_at hl 0 rfl) ?_
        refine zg_get (j := 16) C X hP (by decide) lyM_0 rfl (zmem uwX5) (by decide) (C.tb flX5_54) (fun _ h9 => h9) rfl dX5_sortIn_31 ?_
        refine zg_iload_n C dX5_sortIn_34 rfl (lv_at hl 2 rfl) ?_
        refine zg_iconst C dX5_sortIn_35 ?_
        refine zg_isub C dX5_sortIn_36 ?_
        refine zg_iald (t0 := 0) C X hP (by decide) lyM_14 rfl (by decide) (by omega) (by omega) dX5_sortIn_37 ?_
        have b_37 := rgM_14 hτ ((k - 1).toNat)
        refine zg_iast (t0 := 0) C X hP hS (by decide) (fun x => lyM_14) rfl (by decide) (by omega) (by omega) dX5_sortIn_38 (fun H locs hP hS => ?_)
        obtain ⟨σ38, e39⟩ : ∃ z_ : Zt, z_ = zu τ 14 (k).toNat (τ 14 (k - 1).toNat) := ⟨_, rfl⟩
        rw [← e39] at hP
        have w_41 : σ38 14 (k).toNat = τ 14 (k - 1).toNat := by rw [e39]; exact zu_same _ _ _ _
        have w_42 : σ38 0 15 = τ 0 15 := by rw [e39]; first | exact congrFun (zu_ne (by omega)) _ | exact zu_nj (by omega)
        have hR40 : rgM σ38 := by rw [e39]; exact rzM_14 hτ (by omega) (by omega)
        refine zg_aload_n C dX5_sortIn_39 rfl (lv_at hl 0 rfl) ?_
        refine zg_get (j := 17) C X hP (by decide) lyM_0 rfl (zmem uwX5) (by decide) (C.tb flX5_57) (fun _ h9 => h9) rfl dX5_sortIn_40 ?_
        refine zg_aload_n C dX5_sortIn_43 rfl (lv_at hl 0 rfl) ?_
        refine zg_get (j := 16) C X hP (by decide) lyM_0 rfl (zmem uwX5) (by decide) (C.tb flX5_54) (fun _ h9 => h9) rfl dX5_sortIn_44 ?_
        refine zg_iload_n C dX5_sortIn_47 rfl (lv_at hl 2 rfl) ?_
        refine zg_iald (t0 := 0) C X hP (by decide) lyM_14 rfl (by decide) (by omega) (by omega) dX5_sortIn_48 ?_
        have b_43 := rgM_14 hR40 ((k).toNat)
        refine zg_iload_n C dX5_sortIn_49 rfl (lv_at hl 2 rfl) ?_
        refine zg_iast (t0 := 0) C X hP hS (by decide) (fun x => lyM_15) rfl (by decide) (by omega) (by omega) dX5_sortIn_50 (fun H locs hP hS => ?_)
        obtain ⟨σ44, e45⟩ : ∃ z_ : Zt, z_ = zu σ38 15 (σ38 14 (k).toNat).toNat k := ⟨_, rfl⟩
        rw [← e45] at hP
        have w_47 : σ44 15 (σ38 14 (k).toNat).toNat = k := by rw [e45]; exact zu_same _ _ _ _
        have w_48 : σ44 0 15 = σ38 0 15 := by rw [e45]; first | exact congrFun (zu_ne (by omega)) _ | exact zu_nj (by omega)
        have hR46 : rgM σ44 := by rw [e45]; exact rzM_15 hR40 (by omega) (by omega)
        refine zg_iinc (k := 2) (lv' := [(2, .int (jI (k + -1))), (0, .ref (a 0)), (1, .int (jI d))]) C dX5_sortIn_51 hl rfl (by decide) rfl (fun ls hl => ?_)
        refine zg_goto (tgt := 5) C dX5_sortIn_54 (by decide) ?_
        exact ih (k + -1) σ44 _ _ _ (by omega) (by assumption) (by omega) (by omega) (by omega) (by subst e39 e45; rw [hE, mSh_go (by omega) (by assumption), zu_same]) hP hS (lv_sub hl [1, 2, 0] rfl)
set_option maxHeartbeats 4000000 in
set_option maxRecDepth 100000 in
theorem kX5_sortIn (l : Launch) {D : va_G} {a : Nat → Nat} {cI cZ : ClassId} (σ : Zt) (hR : rgM σ) (d : Int) (d0 : 0 ≤ d) (d1 : d < 400) (pp : σ 0 15 < 400) : zv l D vwCl (tyM cI cZ) 28 (layM cI cZ a) a yX5_sortIn wsX5_sortIn ({ frames := 1, cells := 0, slots := 0, locals := 25 }) [.ref (a 0), .int (jI d)] σ (fun u_ => u_ = mSort σ d) := by
  refine zv_of (cc := cX5_sortIn) (maxL := 3) (own := RX5) (by decide) rfl rfl (Nat.le_of_ble_eq_true rfl) rfl ?_
  intro p e s m below meth c A ls C X hP hS hl
  have b_0 := rgM_0_15 hR
  refine zg_aload_n C dX5_sortIn_0 rfl (lv_at hl 0 rfl) ?_
  refine zg_get (j := 15) C X hP (by decide) lyM_0 rfl (zmem uwX5) (by decide) (C.tb flX5_110) (fun _ h9 => h9) rfl dX5_sortIn_1 ?_
  have b_49 := rgM_0_15 hR
  refine zg_istore_n (lv' := [(2, .int (jI (σ 0 15))), (0, .ref (a 0)), (1, .int (jI d))]) C dX5_sortIn_4 rfl hl (by decide) rfl (fun ls hl => ?_)
  exact lpX5_sortIn_5 σ hR d d0 d1 pp C X 401 (σ 0 15) σ _ _ _ (by omega) hR (by omega) (by omega) rfl rfl hP hS (lv_sub hl [1, 2, 0] rfl)
