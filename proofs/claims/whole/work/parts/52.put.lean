/-! A SIGN IS TYPED: what holds is kept -/
theorem kFind_fail {κ : Zt} {r T : Nat} {be : Int} : ∀ (n : Nat) (k b : Int) (τ : Zt), 1 ≤ k → k + n = 13 → kTo κ τ T → (kFind r T be n k b τ).1 = false → kTo κ (kFind r T be n k b τ).2 T := by
  intro n
  induction n with
  | zero => intro k b τ _ _ h _; exact h
  | succ n ih =>
    intro k b τ k0 k1 h
    rw [kFind]
    split
    · intro e; cases e
    · exact ih _ _ _ (by omega) (by omega) (kTo_zu h k0 (by omega))
theorem kMid_to {κ F : Zt} (h : kMid κ) {T : Nat} (hT : κ 1 10 = (T : Int)) (to : kTo κ F T) (hr : rgS F) : kMid F ∧ ∀ t, gR κ t → gR F t := by
  have e : ∀ q, q ≠ 12 → F q = κ q := to.1
  have r1 := e 1 (by omega)
  have r2 := e 2 (by omega)
  have r3 := e 3 (by omega)
  have r4 := e 4 (by omega)
  have r5 := e 5 (by omega)
  have r7 := e 7 (by omega)
  have r8 := e 8 (by omega)
  have r10 := e 10 (by omega)
  have r11 := e 11 (by omega)
  have r13 := e 13 (by omega)
  have r14 := e 14 (by omega)
  have r15 := e 15 (by omega)
  have r16 := e 16 (by omega)
  have r17 := e 17 (by omega)
  have f0 : ∀ t, F (20 + 6 * t) = κ (20 + 6 * t) := fun t => e _ (by omega)
  have f1 : ∀ t, F (21 + 6 * t) = κ (21 + 6 * t) := fun t => e _ (by omega)
  have f2 : ∀ t, F (22 + 6 * t) = κ (22 + 6 * t) := fun t => e _ (by omega)
  have f3 : ∀ t, F (23 + 6 * t) = κ (23 + 6 * t) := fun t => e _ (by omega)
  have f4 : ∀ t, F (24 + 6 * t) = κ (24 + 6 * t) := fun t => e _ (by omega)
  have dd : ∀ t, kDid F t = kDid κ t := fun t => kDid_congr r2 r3 (f1 t)
  have lv : ∀ d k : Int, 0 ≤ d → d < κ 1 10 → 1 ≤ k → k ≤ 12 → kLevel F d k = kLevel κ d k := fun d k d0 d1 k0 k1 => kTo_lev to (by omega) (by omega) k0 k1
  refine ⟨⟨hr, ⟨fun t q ht hq => ?_, fun t ht => ⟨?_, ?_⟩⟩, fun d hd => ?_, ?_, ?_, ?_, fun t ht => ⟨fun d hd => ?_, ?_⟩, ?_, ?_, ⟨fun d hd h0 => ?_, fun d hd => ?_, fun i j hij hj => ?_⟩, fun t ht => ?_, fun t ht k hk => ?_, fun t ht d => ?_⟩, fun t g => ?_⟩
  · rw [f1, f1]; exact h.a.1 t q ht hq
  · rw [f1, r1]; exact (h.a.2 t ht).1
  · rw [f0, r1]; exact (h.a.2 t ht).2
  · rw [r1] at hd; rw [r1, r2, r3, r4, f1]; exact h.b d hd
  · unfold gC; rw [r1, r2, r3]; exact h.c
  · unfold gD; rw [r1, r5, r7, r8]; exact h.d
  · unfold gE; rw [r1, r5, r11, r14, r15]; exact h.e
  · rw [f2] at hd; rw [r1, r2, dd]; exact (h.f t ht).1 d hd
  · rw [f0, f2]; exact (h.f t ht).2
  · unfold gG; rw [r1, r5, r10]; exact h.g
  · unfold gH; rw [r1, r16, r17]; exact h.h
  · rw [r1] at hd
    rw [r5] at h0
    have q := h.i.1 d hd h0
    have b := rgS_13 h.1 d
    rw [r13, r2, r3, lv d _ (by omega) hd q.1 (by omega)]
    exact ⟨q.1, fun k k0 k1 => by rw [lv d k (by omega) hd k0 (by omega)]; exact q.2.1 k k0 k1, q.2.2⟩
  · rw [r1] at hd; rw [r13]; exact h.i.2.1 d hd
  · rw [r11] at hj
    rw [r14]
    have bi := rgS_14 h.1 i
    have bj := rgS_14 h.1 j
    have ei := (h.e.2.1 i (by omega)).1
    have ej := (h.e.2.1 j hj).1
    have q := h.i.2.2 i j hij hj
    rw [kIsBe_lx] at *
    rw [lx_congr 12 1 (fun k k0 k1 => ⟨lv (κ 14 i) k (by omega) ei k0 (by omega), lv (κ 14 j) k (by omega) ej k0 (by omega)⟩)]
    exact q
  · rw [f0, r1, r5, dd]; exact h.j t ht
  · rw [f4, r1, r5]; exact h.k t ht k hk
  · rw [f3, r1]; exact h.l t ht d
  · unfold gR
    rw [f2, kReady_congr r2 r3 r5 r7 r8 (f1 t)]
    exact g
theorem kPut_found {κ : Zt} (h : kMid κ) {r T : Nat} {q : Int} (hr : r < 6) (hT : κ 1 10 = (T : Int)) (hT4 : T < 400) (hf : (kPutF κ r q).1 = true) : ∃ K, kFound κ (kPutF κ r q).2 r T (kBefore κ r q) K := by
  have hbe := kBefore_sg h r q
  have hb := kBehind_ok h (r := r) hbe
  unfold kPutF at *
  rw [hT] at hf ⊢
  refine kFind_ok h hr hT hT4 hbe hb.1 hb.2 12 1 _ κ (by omega) (by omega) h.1 ⟨fun _ _ => rfl, fun _ _ => rfl⟩ (fun j a b => by omega) (fun j a b => by omega) ?_ hf
  rcases hb.1 with e | ⟨a, b, c⟩
  · exact Or.inl e
  · exact Or.inr ⟨rfl, by omega, (sg_lev h a (by omega) c).1, fun j a b => by omega⟩
theorem kPut_to {κ : Zt} {r T : Nat} {q : Int} (hT : κ 1 10 = (T : Int)) (hf : (kPutF κ r q).1 = false) : kTo κ (kPutF κ r q).2 T := by
  unfold kPutF at *
  rw [hT] at hf ⊢
  exact kFind_fail 12 1 _ κ (by omega) (by omega) ⟨fun _ _ => rfl, fun _ _ => rfl⟩ hf
theorem kPut_rgF {κ : Zt} (h : kMid κ) {r : Nat} {q : Int} (hr : r < 6) (hT : κ 1 10 < 400) : rgS (kPutF κ r q).2 := by
  have b := rgS_1_10 h.1
  have a := h.a.2 r hr
  exact kFind_rg hr (by omega) (by omega) 12 1 _ _ (by omega) (by omega) h.1 (by omega)
/-- the state when the sign's deed is done at its own replica -/
def kTyped (κ : Zt) (r : Nat) (q v : Int) : Zt := kCarry (kAdd (kInsert (kPutF κ r q).2 (κ 1 10) (kBefore κ r q)) r (κ (21 + 6 * r) r + 1) (κ (20 + 6 * r) 4 + 1) 0 v (κ 1 10) (κ 1 10)) r (κ 1 10)
section TY
variable {κ F : Zt} {r T : Nat} {be K : Int}
theorem ins_fr (H : kFound κ F r T be K) (k : Nat) (hk : k ≤ 10 ∨ 16 ≤ k) : kInsert F T be k = kCoinS κ r k := by
  rw [kInsert_fr (by omega) (by omega) (by omega), H.2.2.2.1 k (by omega) (by omega)]
theorem ins_rg (h : kMid κ) (hF : rgS F) (H : kFound κ F r T be K) (hT : κ 1 10 = (T : Int)) (hT4 : T < 400) (hbe : kSg κ be) : rgS (kInsert F T be) := by
  have e11 : F 11 = κ 11 := fd_rows H 11 (by omega) (by omega) (by omega)
  have e15 : F 15 = κ 15 := fd_rows H 15 (by omega) (by omega) (by omega)
  have := h.e.1
  refine kInsert_rg hF (by omega) (by omega) (by rw [e11]; omega) ?_
  rw [e11, e15]
  rcases hbe with e | ⟨a, b, c⟩
  · exact Or.inl e
  · exact Or.inr (h.e.2.2 be.toNat (by omega) c).1
theorem coin_ne {q : Nat} (hq : q ≠ 20 + 6 * r) : kCoinS κ r q = κ q := by unfold kCoinS; rw [zu_ne hq]
theorem coin_nj {j : Nat} (hj : j ≠ 3) : kCoinS κ r (20 + 6 * r) j = κ (20 + 6 * r) j := by unfold kCoinS; rw [zu_nj hj]
theorem typ_mid (h : kMid κ) (hF : rgS F) (H : kFound κ F r T be K) (hr : r < 6) (hT : κ 1 10 = (T : Int)) (hT4 : T < 400) (hbe : kSg κ be) {v : Int} (v0 : 0 ≤ v) (v1 : v < 127) :
    rgS (kAdd (kInsert F T be) r (κ (21 + 6 * r) r + 1) (κ (20 + 6 * r) 4 + 1) 0 v T T) ∧ kMid (kCarry (kAdd (kInsert F T be) r (κ (21 + 6 * r) r + 1) (κ (20 + 6 * r) 4 + 1) 0 v T T) r T) ∧ ∀ t, t < 6 → gR κ t → gR (kCarry (kAdd (kInsert F T be) r (κ (21 + 6 * r) r + 1) (κ (20 + 6 * r) 4 + 1) 0 v T T) r T) t := by
  have b21 := rgS_21 h.1 hr r
  have b204 := rgS_20_4 h.1 hr
  have a := h.a.2 r hr
  have gm := h.g.1
  have h1 : kMid (kCoinS κ r) := kMid_str h hr
  have i1 : kInsert F T be 1 = κ 1 := by rw [ins_fr H 1 (by omega), coin_ne (by omega)]
  have i21 : kInsert F T be (21 + 6 * r) = κ (21 + 6 * r) := by rw [ins_fr H _ (by omega), coin_ne (by omega)]
  have i20 : kInsert F T be (20 + 6 * r) 4 = κ (20 + 6 * r) 4 := by rw [ins_fr H _ (by omega), coin_nj (by omega)]
  have c1 : kCoinS κ r 1 10 = (T : Int) := by rw [coin_ne (by omega)]; exact hT
  have N := kNew_carry (κ := kCoinS κ r) (κ' := kInsert F T be) (v := v) (f := T) (g := T) (q := 0) h1 hr c1 (by omega) (ins_fr H)
  rw [i21, i20, i1, hT] at N
  have G := kGoal_is h hF H hT hr hbe
  have rgi := ins_rg h hF H hT hT4 hbe
  have rgA : rgS (kAdd (kInsert F T be) r (κ (21 + 6 * r) r + 1) (κ (20 + 6 * r) 4 + 1) 0 v T T) := kAdd_rg rgi (by rw [i1]; omega) (by rw [i1]; omega) (by omega) (by omega) (by omega) (by omega) (by omega) (by omega) (by omega) (by omega) v0 v1 (by omega) (by omega) (by omega) (by omega)
  have rgC : rgS (kCarry (kAdd (kInsert F T be) r (κ (21 + 6 * r) r + 1) (κ (20 + 6 * r) 4 + 1) 0 v T T) r T) := by
    refine kCarry_rg rgA hr (by omega) (by omega) ?_
    have e := kAdd_own (σ := kInsert F T be) (w := r) (t := κ (21 + 6 * r) r + 1) (z := κ (20 + 6 * r) 4 + 1) (q := 0) (v := v) (f := T) (g := T)
    rw [i1, hT] at e
    rw [e, kAdd_up (by omega), i21, Int.toNat_natCast]
    omega
  refine ⟨rgA, ?_⟩
  have up : ∀ k, 11 ≤ k → k < 16 → kCarry (kAdd (kInsert F T be) r (κ (21 + 6 * r) r + 1) (κ (20 + 6 * r) 4 + 1) 0 v T T) r T k = kInsert F T be k := fun k h1 h2 => by rw [kCarry_fr (by omega), kAdd_up h1]
  have r5 := N.1.2.2.2.2.1
  have r2 := N.1.2.1
  have r3 := N.1.2.2.1
  rw [coin_ne (show 5 ≠ 20 + 6 * r by omega)] at r5
  rw [coin_ne (show 2 ≠ 20 + 6 * r by omega)] at r2
  rw [coin_ne (show 3 ≠ 20 + 6 * r by omega), coin_ne (show 21 + 6 * r ≠ 20 + 6 * r by omega)] at r3
  have res := kMid_add h1 hr c1 N rgC (gE_put h hT H G.1 G.2.1 N.1.1 r5 (up 11 (by omega) (by omega)) (up 14 (by omega) (by omega)) (up 15 (by omega) (by omega)))
    (gI_put h hT hr H G.1 G.2.1 G.2.2.1 G.2.2.2 N.1.1 r2 r3 r5 (up 11 (by omega) (by omega)) (by rw [up 12 (by omega) (by omega), kInsert_fr (by omega) (by omega) (by omega)]) (by rw [up 13 (by omega) (by omega), kInsert_fr (by omega) (by omega) (by omega)]) (up 14 (by omega) (by omega))) (Or.inl ⟨rfl, rfl, rfl⟩)
  exact ⟨res.1, fun t ht g => res.2 t ht (gR_fr (kFr_zu (Or.inr (Or.inr (Or.inr (Or.inr (Or.inr ⟨r, rfl, rfl⟩)))))) g)⟩
end TY
theorem kPutS_typed {κ : Zt} (h : kMid κ) {r : Nat} {q v : Int} (hr : r < 6) (hT4 : κ 1 10 < 400) (hf : (kPutF κ r q).1 = true) : kPutS κ r q v = kSendTo (κ 1 10) r 6 0 (kTyped κ r q v) := by
  have b := rgS_1_10 h.1
  obtain ⟨T, hT⟩ : ∃ T : Nat, κ 1 10 = (T : Int) := ⟨(κ 1 10).toNat, by omega⟩
  obtain ⟨K, H⟩ := kPut_found h hr hT (by omega) hf
  unfold kPutS kPerform kTyped
  rw [if_neg (by unfold kFull; simp; omega), if_pos hf, hT]
  have i1 : kInsert (kPutF κ r q).2 T (kBefore κ r q) 1 = κ 1 := by rw [ins_fr H 1 (by omega), coin_ne (by omega)]
  have i21 : kInsert (kPutF κ r q).2 T (kBefore κ r q) (21 + 6 * r) = κ (21 + 6 * r) := by rw [ins_fr H _ (by omega), coin_ne (by omega)]
  have i20 : kInsert (kPutF κ r q).2 T (kBefore κ r q) (20 + 6 * r) 4 = κ (20 + 6 * r) 4 := by rw [ins_fr H _ (by omega), coin_nj (by omega)]
  rw [i1, i21, i20, hT]
theorem kGood_put {κ : Zt} (h : kGood κ) {r : Nat} {q v : Int} (hr : r < 6) (v0 : 0 ≤ v) (v1 : v < 127) : kGood (kPutS κ r q v) := by
  have b := rgS_1_10 h.1.1
  by_cases hfull : kFull κ = true
  · unfold kPutS; rw [if_pos hfull]; exact h
  · have hT4 := kFull_f (by simpa using hfull)
    obtain ⟨T, hT⟩ : ∃ T : Nat, κ 1 10 = (T : Int) := ⟨(κ 1 10).toNat, by omega⟩
    by_cases hf : (kPutF κ r q).1 = true
    · obtain ⟨K, H⟩ := kPut_found h.1 hr hT (by omega) hf
      have m := typ_mid h.1 (kPut_rgF h.1 hr hT4) H hr hT (by omega) (kBefore_sg h.1 r q) v0 v1
      rw [kPutS_typed h.1 hr hT4 hf]
      have s := kGood_sendTo (r := r) (d := κ 1 10) (by omega) 6 0 (kTyped κ r q v) (by omega) (by omega) (by unfold kTyped; rw [kCarry_fr (by omega), kAdd_1, kInsert_fr (by omega) (by omega) (by omega), H.2.2.2.1 1 (by omega) (by omega), coin_ne (by omega)]; omega) (by unfold kTyped; rw [hT]; exact m.2.1)
      refine ⟨s.1, fun t ht => gR_fr s.2 ?_⟩
      unfold kTyped
      rw [hT]
      exact m.2.2 t ht (h.2 t ht)
    · have hf' : (kPutF κ r q).1 = false := by simpa using hf
      have m := kMid_to h.1 hT (kPut_to hT hf') (kPut_rgF h.1 hr hT4)
      unfold kPutS
      rw [if_neg hfull, if_neg hf]
      exact ⟨m.1, fun t ht => m.2 t (h.2 t ht)⟩
