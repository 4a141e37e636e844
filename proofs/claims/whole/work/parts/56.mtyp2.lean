/-! FOR made AND typeOne OF THE REFERENCE -/
theorem mSh_fr {d : Int} {q : Nat} (h1 : q ≠ 14) (h2 : q ≠ 15) : ∀ (n : Nat) (k : Int) (τ : Zt), (mSh d n k τ).2 q = τ q := by
  intro n
  induction n with
  | zero => intro k τ; rfl
  | succ n ih =>
    intro k τ
    rw [mSh]
    split
    · rw [ih, zu_ne h2, zu_ne h1]
    · rfl
theorem mSort_fr {σ : Zt} {d : Int} {q : Nat} (h0 : q ≠ 0) (h1 : q ≠ 14) (h2 : q ≠ 15) : mSort σ d q = σ q := by
  unfold mSort; rw [zu_ne h0, zu_ne h2, zu_ne h1, mSh_fr h1 h2]
theorem mSort_0 {σ : Zt} {d : Int} {j : Nat} (h : j ≠ 15) : mSort σ d 0 j = σ 0 j := by
  unfold mSort; rw [zu_nj h, zu_ne (by omega), zu_ne (by omega), mSh_fr (by omega) (by omega)]
theorem RR_madeTI {κ0 κ F σ : Zt} {x v be K : Int} (hκ : κ = kCoinS κ0 x.toNat) (hM : RR κ σ) (hG : kMid κ0) (hF : rgS F) (H : kFound κ0 F x.toNat (κ 1 10).toNat be K) (x0 : 0 ≤ x) (x1 : x < 6) (hT4 : κ 1 10 < 400) (hbe : kSg κ0 be) (hm : mHas σ F (κ 1 10) (K + 1))
    (hR : rgM (mCpy (κ 1 10) (K - 0).toNat 0 (zu (mMade0 σ (κ 1 10).toNat x (κ (21 + 6 * x.toNat) x.toNat + 1) (κ (20 + 6 * x.toNat) 4 + 1) 0 v (κ 1 10) (-1)) 10 (κ 1 10).toNat K))) (v0 : 0 ≤ v) (v1 : v < 127) :
    RR (kCarry (kAdd (kInsert F (κ 1 10) be) x.toNat (κ (21 + 6 * x.toNat) x.toNat + 1) (κ (20 + 6 * x.toNat) 4 + 1) 0 v (κ 1 10) (κ 1 10)) x.toNat (κ 1 10)) (mDone (zu (mSort (mCpy (κ 1 10) (K - 0).toNat 0 (zu (mMade0 σ (κ 1 10).toNat x (κ (21 + 6 * x.toNat) x.toNat + 1) (κ (20 + 6 * x.toNat) 4 + 1) 0 v (κ 1 10) (-1)) 10 (κ 1 10).toNat K)) (κ 1 10)) 0 1 (κ 1 10 + 1)) x (κ 1 10)) := by
  obtain ⟨r, rfl⟩ : ∃ n : Nat, x = n := ⟨x.toNat, by omega⟩
  have e1 : κ 1 10 = κ0 1 10 := by rw [hκ, coin_ne (by omega)]
  have e21 : κ (21 + 6 * r) r = κ0 (21 + 6 * r) r := by rw [hκ, Int.toNat_natCast, coin_ne (by omega)]
  have e20 : κ (20 + 6 * r) 4 = κ0 (20 + 6 * r) 4 := by rw [hκ, Int.toNat_natCast, coin_nj (by omega)]
  have b := rgS_1_10 hG.1
  obtain ⟨T, hT⟩ : ∃ T : Nat, κ 1 10 = (T : Int) := ⟨(κ 1 10).toNat, by omega⟩
  rw [Int.toNat_natCast] at hκ H hR ⊢
  rw [hT] at H hT4 hm hR ⊢
  rw [Int.toNat_natCast] at H hR ⊢
  rw [hT] at e1
  subst hκ
  exact RR_madeT (T := T) hM hG hF H e1.symm (by omega) (by omega) hbe hm rfl (by rw [e21]) (by rw [e20]) hR v0 v1
theorem kMid_madeTI {κ0 κ F : Zt} {x v be K : Int} (hκ : κ = kCoinS κ0 x.toNat) (hG : kMid κ0) (hF : rgS F) (H : kFound κ0 F x.toNat (κ 1 10).toNat be K) (x0 : 0 ≤ x) (x1 : x < 6) (hT4 : κ 1 10 < 400) (hbe : kSg κ0 be) (v0 : 0 ≤ v) (v1 : v < 127) :
    kMid (kCarry (kAdd (kInsert F (κ 1 10) be) x.toNat (κ (21 + 6 * x.toNat) x.toNat + 1) (κ (20 + 6 * x.toNat) 4 + 1) 0 v (κ 1 10) (κ 1 10)) x.toNat (κ 1 10)) ∧ ∀ t, t < 6 → gR κ0 t → gR (kCarry (kAdd (kInsert F (κ 1 10) be) x.toNat (κ (21 + 6 * x.toNat) x.toNat + 1) (κ (20 + 6 * x.toNat) 4 + 1) 0 v (κ 1 10) (κ 1 10)) x.toNat (κ 1 10)) t := by
  obtain ⟨r, rfl⟩ : ∃ n : Nat, x = n := ⟨x.toNat, by omega⟩
  have e1 : κ 1 10 = κ0 1 10 := by rw [hκ, coin_ne (by omega)]
  have e21 : κ (21 + 6 * r) r = κ0 (21 + 6 * r) r := by rw [hκ, Int.toNat_natCast, coin_ne (by omega)]
  have e20 : κ (20 + 6 * r) 4 = κ0 (20 + 6 * r) 4 := by rw [hκ, Int.toNat_natCast, coin_nj (by omega)]
  have b := rgS_1_10 hG.1
  obtain ⟨T, hT⟩ : ∃ T : Nat, κ 1 10 = (T : Int) := ⟨(κ 1 10).toNat, by omega⟩
  rw [Int.toNat_natCast] at hκ H ⊢
  rw [hT] at H hT4 ⊢
  rw [Int.toNat_natCast] at H
  rw [hT] at e1
  rw [e21, e20]
  exact (typ_mid hG hF H (by omega) e1.symm (by omega) hbe v0 v1).2
theorem kTyped_T1 {κ F : Zt} {r : Nat} {be K n t v : Int} {T : Nat} (H : kFound κ F r T be K) {fr : Int} (hfr : fr = T) : kCarry (kAdd (kInsert F fr be) r n t 0 v fr fr) r fr 1 10 = κ 1 10 + 1 := by
  subst hfr
  rw [kCarry_fr (by omega), kAdd_1, ins_fr H 1 (by omega), coin_ne (by omega)]
theorem RR_to {κ F μ : Zt} (h : RR κ μ) {T : Nat} (to : kTo κ F T) (hz : κ 13 T = 0) : RR F μ := by
  have e : ∀ q, q ≠ 12 → F q = κ q := to.1
  have dd : ∀ t, kDid F t = kDid κ t := fun t => kDid_congr (e 2 (by omega)) (e 3 (by omega)) (e _ (by omega))
  obtain ⟨h1, h2, h3, h4, h5, h6⟩ := h
  unfold RR
  rw [e 1 (by omega), e 2 (by omega), e 3 (by omega), e 4 (by omega), e 5 (by omega), e 6 (by omega), e 7 (by omega), e 8 (by omega), e 9 (by omega), e 11 (by omega), e 13 (by omega), e 14 (by omega), e 15 (by omega), e 16 (by omega), e 17 (by omega), e 18 (by omega)]
  refine ⟨h1, h2, h3, h4, ⟨fun d k hd hk => ?_, h5.2⟩, fun r hr => ?_⟩
  · rw [← h5.1 d k hd hk]
    by_cases x : (k : Int) < κ 13 d
    · rw [if_pos x, if_pos x, to.2 _ (by
        have : d ≠ T := fun q => by rw [q, hz] at x; omega
        omega)]
    · rw [if_neg x, if_neg x]
  · rw [e (20 + 6 * r) (by omega), e (21 + 6 * r) (by omega), e (22 + 6 * r) (by omega), e (23 + 6 * r) (by omega), e (24 + 6 * r) (by omega), dd]
    exact h6 r hr
theorem kPut_fail {κ : Zt} (h : kMid κ) {r : Nat} {q : Int} (hr : r < 6) (hT4 : κ 1 10 < 400) (hf : (kPutF κ r q).1 = false) {μ : Zt} (hM : RR κ μ) : RR (kPutF κ r q).2 μ ∧ kMid (kPutF κ r q).2 := by
  have b := rgS_1_10 h.1
  obtain ⟨T, hT⟩ : ∃ T : Nat, κ 1 10 = (T : Int) := ⟨(κ 1 10).toNat, by omega⟩
  have to := kPut_to hT hf
  exact ⟨RR_to hM to (h.i.2.1 T (by omega)), (kMid_to h hT to (kPut_rgF h hr hT4)).1⟩
theorem kBehind_rgT {κ : Zt} (h : kMid κ) {r : Nat} {be : Int} (hbe : kSg κ be) : -1 ≤ kBehind κ r be ∧ kBehind κ r be < κ 1 10 := by
  have b := rgS_1_10 h.1
  rcases (kBehind_ok h (r := r) hbe).1 with e | ⟨a, c, -⟩ <;> omega
