/-! THE REFERENCE FINDS A PATH, step by step with the class -/
section MV
variable {σ : Zt} {u q t : Int}
theorem mLev_25 (j : Nat) : mLev σ u q t 25 j = if j = (σ 0 32).toNat then u else σ 25 j := by
  unfold mLev; rw [zu_ne (by omega), zu_ne (by omega), zu_ne (by omega), zu_row]
theorem mLev_26 (j : Nat) : mLev σ u q t 26 j = if j = (σ 0 32).toNat then q else σ 26 j := by
  unfold mLev; rw [zu_ne (by omega), zu_ne (by omega), zu_row, zu_ne (by omega)]
theorem mLev_27 (j : Nat) : mLev σ u q t 27 j = if j = (σ 0 32).toNat then t else σ 27 j := by
  unfold mLev; rw [zu_ne (by omega), zu_row, zu_ne (by omega), zu_ne (by omega)]
theorem mLev_32 : mLev σ u q t 0 32 = σ 0 32 + 1 := by unfold mLev; rw [zu_same]
theorem RR_lev {κ : Zt} (h : RR κ σ) : RR κ (mLev σ u q t) := by
  unfold mLev
  exact RR_keep (RR_keep (RR_keep (RR_keep h (by omega)) (by omega)) (by omega)) (by omega)
end MV
theorem kHigh_16 {κ : Zt} {b k : Int} (h : b = -1) (k0 : 1 ≤ k) (k1 : k ≤ 12) : 16 ≤ kHigh κ b k := by
  rw [kHigh_no h]; exact (kBase_rg k0 k1).1
theorem kHigh_8 {κ : Zt} {b k : Int} (h : b = -1) (k0 : 1 ≤ k) (k1 : k ≤ 12) : kHigh κ b k = if 8 < k then 4096 else 1 * 2 ^ (k + 3).toNat := by
  rw [kHigh_no h]
  unfold kBase
  split
  · rw [show (min (k + 3) 12).toNat = 12 by omega]; rfl
  · rw [show (min (k + 3) 12) = k + 3 by omega]; omega
theorem low_0 {κ : Zt} {p k : Int} (h : p = -1 ∨ κ 13 p.toNat < k) : kDigit (kLevel κ p k) = 0 ∧ kLevel κ p k = 0 := by
  have : kLevel κ p k = 0 := by unfold kLevel; rw [if_pos h]
  exact ⟨by rw [this]; rfl, this⟩
/-- what the reference's small rows hold of a path of k - 1 levels -/
def mHas (τ ρ : Zt) (T k : Int) : Prop := ∀ j : Int, 0 ≤ j → j < k - 1 → kMake (τ 25 j.toNat) (τ 26 j.toNat) (τ 27 j.toNat) = ρ 12 (T * 12 + j).toNat
theorem mHas_lev {τ τ' ρ : Zt} {T k u s t N : Int} (T0 : 0 ≤ T) (k0 : 1 ≤ k) (h : mHas τ ρ T k) (h25 : τ' 25 = τ 25) (h26 : τ' 26 = τ 26) (h27 : τ' 27 = τ 27) (hd : τ' 0 32 = k - 1) (hN : kMake u s t = N) : mHas (mLev τ' u s t) (zu ρ 12 (T * 12 + k - 1).toNat N) T (k + 1) := by
  intro j j0 j1
  rw [mLev_25, mLev_26, mLev_27, hd, h25, h26, h27, zu_row]
  dsimp only
  by_cases e : j = k - 1
  · rw [if_pos (by omega), if_pos (by omega), if_pos (by omega), if_pos (by omega)]; exact hN
  · rw [if_neg (by omega), if_neg (by omega), if_neg (by omega), if_neg (by omega)]; exact h j j0 (by omega)
def mFnd (κ : Zt) (r : Nat) (B : Bool × Zt) (u : Zt) : Prop :=
  if B.1 = true then RR (kCoinS κ r) u ∧ u 0 32 = B.2 13 (κ 1 10).toNat ∧ 1 ≤ u 0 32 ∧ mHas u B.2 (κ 1 10) (u 0 32 + 1) else RR κ u
theorem mFnd_t {κ u : Zt} {r : Nat} {B : Bool × Zt} (h : mFnd κ r B u) (e : B.1 = true) : RR (kCoinS κ r) u ∧ u 0 32 = B.2 13 (κ 1 10).toNat ∧ 1 ≤ u 0 32 ∧ mHas u B.2 (κ 1 10) (u 0 32 + 1) := by
  unfold mFnd at h; rwa [if_pos e] at h
theorem mFnd_f {κ u : Zt} {r : Nat} {B : Bool × Zt} (h : mFnd κ r B u) (e : B.1 = false) : RR κ u := by
  unfold mFnd at h; rwa [if_neg (by rw [e]; decide)] at h
section FS
variable {κ ρ : Zt} {r : Nat} {be b k : Int}
theorem kFind_st (T0 : 0 ≤ κ 1 10) (to : kTo κ ρ (κ 1 10).toNat) (e0 : -1 ≤ be) (e1 : be < κ 1 10) (b0 : -1 ≤ b) (b1 : b < κ 1 10) (k0 : 1 ≤ k) (k1 : k ≤ 12) (hh : ¬ 1 < kHigh κ b k - kDigit (kLevel κ be k)) {N b' : Int} (hN : kInner (kLevel κ be k) (kLevel κ b k) r (κ (21 + 6 * r) r + 1) = N) (hb : b' = if kLevel κ b k = N then b else -1) :
    kFind r (κ 1 10) be (13 - k).toNat k b ρ = kFind r (κ 1 10) be (13 - (k + 1)).toNat (k + 1) b' (zu ρ 12 (κ 1 10 * 12 + k - 1).toNat N) ∧ kTo κ (zu ρ 12 (κ 1 10 * 12 + k - 1).toNat N) (κ 1 10).toNat := by
  have l1 : kLevel ρ be k = kLevel κ be k := kTo_lev to e0 (by omega) k0 k1
  have l2 : kLevel ρ b k = kLevel κ b k := kTo_lev to b0 (by omega) k0 k1
  have t21 : ρ (21 + 6 * r) r = κ (21 + 6 * r) r := by rw [to.1 _ (by omega)]
  have hgh : kHigh ρ b k = kHigh κ b k := by unfold kHigh; rw [l2]
  have to' : kTo κ (zu ρ 12 (κ 1 10 * 12 + k - 1).toNat N) (κ 1 10).toNat := by
    have := kTo_zu to (v := N) k0 k1
    rwa [Int.toNat_of_nonneg T0] at this
  have l3 : kLevel (zu ρ 12 (κ 1 10 * 12 + k - 1).toNat N) b k = kLevel κ b k := kTo_lev to' b0 (by omega) k0 k1
  refine ⟨?_, to'⟩
  conv => lhs; rw [show (13 - k).toNat = (13 - (k + 1)).toNat + 1 by omega, kFind]
  rw [l1, l2, hgh, t21, if_neg hh, hN, l3, hb]
theorem kFind_ht (T0 : 0 ≤ κ 1 10) (to : kTo κ ρ (κ 1 10).toNat) (e0 : -1 ≤ be) (e1 : be < κ 1 10) (b0 : -1 ≤ b) (b1 : b < κ 1 10) (k0 : 1 ≤ k) (k1 : k ≤ 12) (hh : 1 < kHigh κ b k - kDigit (kLevel κ be k)) :
    (kFind r (κ 1 10) be (13 - k).toNat k b ρ).1 = true ∧ (kFind r (κ 1 10) be (13 - k).toNat k b ρ).2 13 (κ 1 10).toNat = k ∧ (kFind r (κ 1 10) be (13 - k).toNat k b ρ).2 12 = zu ρ 12 (κ 1 10 * 12 + k - 1).toNat (kMake (kLastD k (kDigit (kLevel κ be k)) (kHigh κ b k) (kCoin κ r)) r (κ (21 + 6 * r) r + 1)) 12 := by
  have l1 : kLevel ρ be k = kLevel κ be k := kTo_lev to e0 (by omega) k0 k1
  have l2 : kLevel ρ b k = kLevel κ b k := kTo_lev to b0 (by omega) k0 k1
  have t21 : ρ (21 + 6 * r) r = κ (21 + 6 * r) r := by rw [to.1 _ (by omega)]
  have hgh : kHigh ρ b k = kHigh κ b k := by unfold kHigh; rw [l2]
  have co : kCoin ρ r = kCoin κ r := by unfold kCoin; rw [to.1 (20 + 6 * r) (by omega)]
  have cs12 : kCoinS ρ r 12 = ρ 12 := by unfold kCoinS; rw [zu_ne (by omega)]
  rw [show (13 - k).toNat = (13 - (k + 1)).toNat + 1 by omega, kFind, l1, l2, hgh, t21, if_pos hh, co]
  dsimp only
  refine ⟨rfl, by rw [zu_same], ?_⟩
  rw [zu_ne (by omega), zu_row, zu_row, cs12]
theorem fp_hit {τ τ' : Zt} {q D x c : Int} (hx : (r : Int) = x) (hc : c = κ (21 + 6 * r) r + 1) (T0 : 0 ≤ κ 1 10) (hE : kFind r (κ 1 10) be 12 1 q κ = kFind r (κ 1 10) be (13 - k).toNat k b ρ) (to : kTo κ ρ (κ 1 10).toNat) (e0 : -1 ≤ be) (e1 : be < κ 1 10) (b0 : -1 ≤ b) (b1 : b < κ 1 10) (k0 : 1 ≤ k) (k1 : k ≤ 12) (hh : 1 < kHigh κ b k - kDigit (kLevel κ be k))
    (hl : mHas τ ρ (κ 1 10) k) (h25 : τ' 25 = τ 25) (h26 : τ' 26 = τ 26) (h27 : τ' 27 = τ 27) (hd : τ' 0 32 = k - 1) (hD : kLastD k (kDigit (kLevel κ be k)) (kHigh κ b k) (kCoin κ r) = D) (hM : RR (kCoinS κ r) τ') : true = (kFind r (κ 1 10) be 12 1 q κ).1 ∧ mFnd κ r (kFind r (κ 1 10) be 12 1 q κ) (mLev τ' D x c) := by
  subst hx hc
  have h := kFind_ht (r := r) T0 to e0 e1 b0 b1 k0 k1 hh
  have m := mHas_lev (u := D) (s := r) (t := κ (21 + 6 * r) r + 1) T0 k0 hl h25 h26 h27 hd (N := kMake D r (κ (21 + 6 * r) r + 1)) rfl
  refine ⟨by rw [hE]; exact h.1.symm, ?_⟩
  unfold mFnd
  rw [hE, if_pos h.1, h.2.1]
  refine ⟨RR_lev hM, by rw [mLev_32]; omega, by rw [mLev_32]; omega, ?_⟩
  rw [mLev_32, show τ' 0 32 + 1 + 1 = k + 1 by omega]
  intro j j0 j1
  rw [h.2.2, hD]
  exact m j j0 j1
theorem fp_no {τ : Zt} {q : Int} (hE : kFind r (κ 1 10) be 12 1 q κ = kFind r (κ 1 10) be (13 - k).toNat k b ρ) (h : 12 < k) (hM : RR κ τ) : false = (kFind r (κ 1 10) be 12 1 q κ).1 ∧ mFnd κ r (kFind r (κ 1 10) be 12 1 q κ) τ := by
  rw [kFind_end h] at hE
  rw [hE]
  refine ⟨rfl, ?_⟩
  unfold mFnd
  rw [if_neg (by simp)]
  exact hM
end FS
theorem mIsLev_is {κ μ : Zt} (h : RR κ μ) (hR : rgM μ) {d f k : Int} (d0 : 0 ≤ d) (d1 : d < 400) (f0 : 0 ≤ f) (f1 : f < 400) (k0 : 1 ≤ k) (k1 : k ≤ 12) : mIsLev μ d k f = decide (kLevel κ f k = kLevel κ d k) := by
  have a1 := rgM_11 hR (12 * d + k - 1).toNat
  have a2 := rgM_12 hR (12 * d + k - 1).toNat
  have a3 := rgM_13 hR (12 * d + k - 1).toNat
  have b1 := rgM_11 hR (12 * f + k - 1).toNat
  have b2 := rgM_12 hR (12 * f + k - 1).toNat
  have b3 := rgM_13 hR (12 * f + k - 1).toNat
  unfold mIsLev
  rw [rr_lev h d0 d1 k0 k1, rr_lev h f0 f1 k0 k1]
  generalize μ 11 (12 * d + k - 1).toNat = x1 at *
  generalize μ 12 (12 * d + k - 1).toNat = x2 at *
  generalize μ 13 (12 * d + k - 1).toNat = x3 at *
  generalize μ 11 (12 * f + k - 1).toNat = y1 at *
  generalize μ 12 (12 * f + k - 1).toNat = y2 at *
  generalize μ 13 (12 * f + k - 1).toNat = y3 at *
  rw [Bool.eq_iff_iff]
  simp only [Bool.and_eq_true, decide_eq_true_eq]
  unfold kMake
  omega
theorem inner_p {κ : Zt} (h : kMid κ) {p k y n : Int} {r : Nat} (hp : kSg κ p) (hn : p ≠ -1) (k0 : 1 ≤ k) (k1 : k ≤ κ 13 p.toNat) : kInner (kLevel κ p k) y r n = kLevel κ p k := by
  have s := hp.resolve_left hn
  have c := (sg_lev h s.1 s.2.1 s.2.2).2.2.1 k k0 k1
  have := cnt_pos (kLevel_rg h.1 p k).1 c
  unfold kInner
  rw [if_pos (by omega)]
theorem inner_0 {x y n : Int} {r : Nat} (hx : x = 0) (hy : kDigit y = 0) : kInner x y r n = y := by
  unfold kInner; rw [if_neg (by omega), if_pos hy]
theorem inner_n {x y n : Int} {r : Nat} (hx : x = 0) (hy : kDigit y ≠ 0) : kInner x y r n = kMake 0 r n := by
  unfold kInner; rw [if_neg (by omega), if_neg hy]
theorem shl_ok {k : Int} (k0 : 1 ≤ k) (k1 : k ≤ 8) : 1 * (2 : Int) ^ (k + 3).toNat < 4294967296 := by
  have := kBase_rg k0 (show k ≤ 12 by omega)
  unfold kBase at this
  rw [show min (k + 3) 12 = k + 3 by omega] at this
  omega
theorem lastD_is {κ : Zt} {r : Nat} {k lo hi s : Int} (hs : s = κ (20 + 6 * r) 3 * 1664525 + 1013904223) : kLastD k lo hi (kCoin κ r) = if k % 2 = 1 then lo + (1 + s % 4294967296 / 2 ^ 16 % (if hi - lo - 1 < 10 then hi - lo - 1 else 10)) else hi - (1 + s % 4294967296 / 2 ^ 16 % (if hi - lo - 1 < 10 then hi - lo - 1 else 10)) := by
  unfold kLastD kCoin
  rw [hs, show (2 : Int) ^ 16 = 65536 from rfl]
  have e : min 10 (hi - lo - 1) = if hi - lo - 1 < 10 then hi - lo - 1 else 10 := by split <;> omega
  rw [e]
