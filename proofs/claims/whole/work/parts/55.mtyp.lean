/-! THE REFERENCE TYPES A SIGN -/
def mCpy (T : Int) : Nat → Int → Zt → Zt
  | 0, _, σ => σ
  | n + 1, k, σ => mCpy T n (k + 1) (zu (zu (zu σ 11 (12 * T + k).toNat (σ 25 k.toNat)) 12 (12 * T + k).toNat (σ 26 k.toNat)) 13 (12 * T + k).toNat (σ 27 k.toNat))
theorem mCpy_end {T t k : Int} {τ : Zt} (h : t ≤ k) : mCpy T (t - k).toNat k τ = τ := by
  rw [show (t - k).toNat = 0 by omega, mCpy]
theorem mCpy_step {T t k : Int} {τ : Zt} (h : k < t) : mCpy T (t - k).toNat k τ = mCpy T (t - (k + 1)).toNat (k + 1) (zu (zu (zu τ 11 (12 * T + k).toNat (τ 25 k.toNat)) 12 (12 * T + k).toNat (τ 26 k.toNat)) 13 (12 * T + k).toNat (τ 27 k.toNat)) := by
  conv => lhs; rw [show (t - k).toNat = (t - (k + 1)).toNat + 1 by omega, mCpy]
theorem mCpy_fr {T : Int} {q : Nat} (h1 : q ≠ 11) (h2 : q ≠ 12) (h3 : q ≠ 13) : ∀ (n : Nat) (k : Int) (τ : Zt), mCpy T n k τ q = τ q := by
  intro n
  induction n with
  | zero => intro k τ; rfl
  | succ n ih => intro k τ; rw [mCpy, ih, zu_ne h3, zu_ne h2, zu_ne h1]
theorem mCpy_rg {T : Int} : ∀ (n : Nat) (k : Int) (τ : Zt), rgM τ → rgM (mCpy T n k τ) := by
  intro n
  induction n with
  | zero => intro k τ h; exact h
  | succ n ih =>
    intro k τ h
    have b1 := rgM_25 h k.toNat
    have b2 := rgM_26 h k.toNat
    have b3 := rgM_27 h k.toNat
    rw [mCpy]
    exact ih _ _ (rzM_13 (rzM_12 (rzM_11 h b1.1 b1.2) b2.1 b2.2) b3.1 b3.2)
theorem mCpy_at {T : Int} (T0 : 0 ≤ T) : ∀ (n : Nat) (k : Int) (τ : Zt) (i : Nat), 0 ≤ k → mCpy T n k τ 11 i = (if 12 * T + k ≤ i ∧ (i : Int) < 12 * T + k + n then τ 25 (i - 12 * T).toNat else τ 11 i) ∧ mCpy T n k τ 12 i = (if 12 * T + k ≤ i ∧ (i : Int) < 12 * T + k + n then τ 26 (i - 12 * T).toNat else τ 12 i) ∧ mCpy T n k τ 13 i = (if 12 * T + k ≤ i ∧ (i : Int) < 12 * T + k + n then τ 27 (i - 12 * T).toNat else τ 13 i) := by
  intro n
  induction n with
  | zero => intro k τ i k0; rw [mCpy, if_neg (by omega), if_neg (by omega), if_neg (by omega)]; exact ⟨rfl, rfl, rfl⟩
  | succ n ih =>
    intro k τ i k0
    rw [mCpy]
    obtain ⟨a, b, c⟩ := ih (k + 1) (zu (zu (zu τ 11 (12 * T + k).toNat (τ 25 k.toNat)) 12 (12 * T + k).toNat (τ 26 k.toNat)) 13 (12 * T + k).toNat (τ 27 k.toNat)) i (by omega)
    rw [a, b, c]
    simp (disch := omega) only [zu_ne, zu_row]
    by_cases e : (i : Int) = 12 * T + k
    · have n1 : ¬ (12 * T + (k + 1) ≤ (i : Int) ∧ (i : Int) < 12 * T + (k + 1) + n) := by omega
      have p1 : 12 * T + k ≤ (i : Int) ∧ (i : Int) < 12 * T + k + ((n + 1 : Nat) : Int) := by omega
      have p2 : i = (12 * T + k).toNat := by omega
      rw [if_neg n1, if_neg n1, if_neg n1, if_pos p1, if_pos p1, if_pos p1, if_pos p2, if_pos p2, if_pos p2, show ((i : Int) - 12 * T).toNat = k.toNat by omega]
      exact ⟨rfl, rfl, rfl⟩
    · by_cases g : 12 * T + (k + 1) ≤ i ∧ (i : Int) < 12 * T + (k + 1) + n
      · rw [if_pos g, if_pos g, if_pos g, if_pos (by omega), if_pos (by omega), if_pos (by omega)]; exact ⟨rfl, rfl, rfl⟩
      · rw [if_neg g, if_neg g, if_neg g, if_neg (by omega), if_neg (by omega), if_neg (by omega), if_neg (by omega), if_neg (by omega), if_neg (by omega)]; exact ⟨rfl, rfl, rfl⟩
/-- paths of one world and of the other -/
def mSame (F μ : Zt) : Prop := μ 10 = F 13 ∧ ∀ d k : Nat, d < 400 → k < 12 → (if (k : Int) < F 13 d then F 12 (d * 12 + k) else 0) = kMake (μ 11 (d * 12 + k)) (μ 12 (d * 12 + k)) (μ 13 (d * 12 + k))
theorem mSame_lev {F μ : Zt} (h : mSame F μ) {d k : Int} (d0 : 0 ≤ d) (d1 : d < 400) (k0 : 0 ≤ k) (k1 : k < 12) : kLevel F d (k + 1) = kMake (μ 11 (12 * d + k).toNat) (μ 12 (12 * d + k).toNat) (μ 13 (12 * d + k).toNat) := by
  have q := h.2 d.toNat k.toNat (by omega) (by omega)
  rw [show (12 * d + k).toNat = d.toNat * 12 + k.toNat by omega, ← q]
  unfold kLevel
  by_cases e : F 13 d.toNat < k + 1
  · rw [if_pos (Or.inr e), if_neg (by omega)]
  · rw [if_neg (by omega), if_pos (by omega), show (d * 12 + (k + 1) - 1).toNat = d.toNat * 12 + k.toNat by omega]
theorem mBef_is {F μ : Zt} (hR : rgM μ) (hF : rgS F) (h : mSame F μ) {d f : Int} (d0 : 0 ≤ d) (d1 : d < 400) (f0 : 0 ≤ f) (f1 : f < 400) (hd : ∀ k, 1 ≤ k → k ≤ F 13 d.toNat → kLevel F d k ≠ 0) (hf : ∀ k, 1 ≤ k → k ≤ F 13 f.toNat → kLevel F f k ≠ 0) :
    ∀ (n : Nat) (k : Int), 0 ≤ k → k + n = 12 → k ≤ F 13 d.toNat → k ≤ F 13 f.toNat → mBef μ d f n k = kIsBe F d f n (k + 1) := by
  have e10 : ∀ j, μ 10 j = F 13 j := fun j => by rw [h.1]
  intro n
  induction n with
  | zero => intro k _ _ _ _; rfl
  | succ n ih =>
    intro k k0 k1 kd kf
    have a1 := rgM_11 hR (12 * d + k).toNat
    have a2 := rgM_12 hR (12 * d + k).toNat
    have a3 := rgM_13 hR (12 * d + k).toNat
    have b1 := rgM_11 hR (12 * f + k).toNat
    have b2 := rgM_12 hR (12 * f + k).toNat
    have b3 := rgM_13 hR (12 * f + k).toNat
    have rd := kLevel_rg hF d (k + 1)
    have rf := kLevel_rg hF f (k + 1)
    rw [mBef, kIsBe, e10, e10]
    by_cases x : k = F 13 d.toNat ∨ k = F 13 f.toNat
    · rw [if_pos x]
      by_cases y : F 13 d.toNat < F 13 f.toNat
      · have z : kLevel F d (k + 1) = 0 := kLevel_beyond (by omega)
        have nz := hf (k + 1) (by omega) (by omega)
        rw [decide_eq_true y, z, if_neg (fun q => nz q.symm), decide_eq_true (by omega)]
      · rw [decide_eq_false y]
        have z : kLevel F f (k + 1) = 0 := kLevel_beyond (by omega)
        by_cases w : F 13 f.toNat < F 13 d.toNat
        · have nz := hd (k + 1) (by omega) (by omega)
          rw [z, if_neg nz, decide_eq_false (by omega)]
        · have z2 : kLevel F d (k + 1) = 0 := kLevel_beyond (by omega)
          rw [z, z2, if_pos rfl, kIsBe_lx]
          rw [lx_congr (u' := fun _ => 0) (v' := fun _ => 0) n (k + 1 + 1) (fun j j0 j1 => ⟨kLevel_beyond (by omega), kLevel_beyond (by omega)⟩), lx_irr]
    · rw [if_neg x, mSame_lev h d0 d1 k0 (by omega), mSame_lev h f0 f1 k0 (by omega), ih (k + 1) (by omega) (by omega) (by omega) (by omega)]
      generalize μ 11 (12 * d + k).toNat = x1 at *
      generalize μ 12 (12 * d + k).toNat = x2 at *
      generalize μ 13 (12 * d + k).toNat = x3 at *
      generalize μ 11 (12 * f + k).toNat = y1 at *
      generalize μ 12 (12 * f + k).toNat = y2 at *
      generalize μ 13 (12 * f + k).toNat = y3 at *
      by_cases e1 : x1 = y1
      · rw [if_pos e1]
        by_cases e2 : x2 = y2
        · rw [if_pos e2]
          by_cases e3 : x3 = y3
          · rw [if_pos e3, if_pos (by rw [e1, e2, e3])]
          · rw [if_neg e3, if_neg (by unfold kMake; omega)]
            exact decide_eq_decide.mpr (by unfold kMake; omega)
        · rw [if_neg e2, if_neg (by unfold kMake; omega)]
          exact decide_eq_decide.mpr (by unfold kMake; omega)
      · rw [if_neg e1, if_neg (by unfold kMake; omega)]
        exact decide_eq_decide.mpr (by unfold kMake; omega)
theorem mBef_congr {τ ρ : Zt} (h10 : ρ 10 = τ 10) (h11 : ρ 11 = τ 11) (h12 : ρ 12 = τ 12) (h13 : ρ 13 = τ 13) (d f : Int) : ∀ (n : Nat) (k : Int), mBef ρ d f n k = mBef τ d f n k := by
  intro n
  induction n with
  | zero => intro k; rfl
  | succ n ih => intro k; rw [mBef, mBef, h10, h11, h12, h13, ih]
theorem mSh_is {d : Int} {g : Int} (g0 : 0 ≤ g) : ∀ (n : Nat) (k : Int) (τ : Zt), k = g + n → (∀ i : Int, g ≤ i → i < k → mBef τ d (τ 14 i.toNat) 12 0 = true) → (0 < g → mBef τ d (τ 14 (g - 1).toNat) 12 0 = false) → mSh d k.toNat k τ = (g, kShift n k τ) := by
  intro n
  induction n with
  | zero =>
    intro k τ hk _ hg
    by_cases e : k ≤ 0
    · rw [mSh_end e, kShift, show k = g by omega]
    · rw [mSh_stop (by omega) (by rw [show k = g by omega]; exact hg (by omega)), kShift, show k = g by omega]
  | succ n ih =>
    intro k τ hk ha hg
    have c := mBef_congr (τ := τ) (ρ := zu (zu τ 14 k.toNat (τ 14 (k - 1).toNat)) 15 (τ 14 (k - 1).toNat).toNat k) (by simp (disch := omega) only [zu_ne]) (by simp (disch := omega) only [zu_ne]) (by simp (disch := omega) only [zu_ne]) (by simp (disch := omega) only [zu_ne])
    have e : ∀ j : Nat, (j : Int) < k → zu (zu τ 14 k.toNat (τ 14 (k - 1).toNat)) 15 (τ 14 (k - 1).toNat).toNat k 14 j = τ 14 j := fun j hj => by rw [zu_ne (by omega), zu_nj (by omega)]
    rw [mSh_go (by omega) (ha (k - 1) (by omega) (by omega)), ih (k + -1) _ (by omega) (fun i a b => by rw [c, e _ (by omega)]; exact ha i a (by omega)) (fun a => by rw [c, e _ (by omega)]; exact hg a), kShift, show k + -1 = k - 1 by omega]
theorem kShift_cg : ∀ (n : Nat) (i : Int) (τ ρ : Zt), τ 14 = ρ 14 → τ 15 = ρ 15 → kShift n i τ 14 = kShift n i ρ 14 ∧ kShift n i τ 15 = kShift n i ρ 15 := by
  intro n
  induction n with
  | zero => intro i τ ρ h1 h2; exact ⟨h1, h2⟩
  | succ n ih =>
    intro i τ ρ h1 h2
    rw [kShift, kShift]
    refine ih _ _ _ ?_ ?_
    · simp (disch := omega) only [zu_ne, zu_row]; rw [h1]
    · simp (disch := omega) only [zu_ne, zu_row]; rw [h1, h2]
/-- the state of the reference before it sorts -/
def mTyp (μ : Zt) (T : Nat) (x n t v K : Int) : Zt := mCpy T (K - 0).toNat 0 (zu (mMade0 μ T x n t 0 v T (-1)) 10 T K)
section MT
variable {κ F μ : Zt} {r T : Nat} {be K n t x v : Int}
theorem mTyp_fr (q : Nat) (h : (q = 0 ∨ 14 ≤ q)) : mTyp μ T x n t v K q = μ q := by
  unfold mTyp mMade0
  rw [mCpy_fr (by omega) (by omega) (by omega)]
  simp (disch := omega) only [zu_ne]
theorem mTyp_same (h : RR (kCoinS κ r) μ) (hG : kMid κ) (H : kFound κ F r T be K) (hT : κ 1 10 = (T : Int)) (hT4 : T < 400) (hm : mHas μ F T (K + 1)) : mSame F (mTyp μ T x n t v K) := by
  have c12 : kCoinS κ r 12 = κ 12 := coin_ne (by omega)
  have c13 : kCoinS κ r 13 = κ 13 := coin_ne (by omega)
  have h10 := rr_10 h
  have h5 := h.2.2.2.2.1.1
  rw [c13] at h10
  rw [c12, c13] at h5
  have K1 := H.1
  constructor
  · unfold mTyp mMade0
    rw [mCpy_fr (by omega) (by omega) (by omega), zu_row, H.2.1]
    simp (disch := omega) only [zu_ne]
    rw [h10]
  · intro d k hd hk
    have g := mCpy_at (T := (T : Int)) (by omega) (K - 0).toNat 0 (zu (mMade0 μ T x n t 0 v T (-1)) 10 T K) (d * 12 + k) (by omega)
    have e : ∀ q, q = 11 ∨ q = 12 ∨ q = 13 ∨ q = 25 ∨ q = 26 ∨ q = 27 → zu (mMade0 μ T x n t 0 v T (-1)) 10 T K q = μ q := fun q hq => by
      unfold mMade0
      simp (disch := omega) only [zu_ne]
    rw [e 11 (by omega), e 12 (by omega), e 13 (by omega), e 25 (by omega), e 26 (by omega), e 27 (by omega)] at g
    unfold mTyp
    rw [g.1, g.2.1, g.2.2]
    have e13 : F 13 d = if d = T then K else κ 13 d := by rw [H.2.1]
    by_cases y : d = T
    · rw [if_pos y] at e13
      rw [e13]
      by_cases z : (k : Int) < K
      · rw [if_pos z, if_pos (by omega), if_pos (by omega), if_pos (by omega)]
        have m := hm k (by omega) (by omega)
        rw [show (((d * 12 + k : Nat) : Int) - 12 * (T : Int)).toNat = (k : Int).toNat by omega, m]
        congr 1
        omega
      · rw [if_neg z, if_neg (by omega), if_neg (by omega), if_neg (by omega)]
        have q := h5 d k hd hk
        have z0 : κ 13 d = 0 := hG.i.2.1 d (by omega)
        rw [z0, if_neg (by omega)] at q
        exact q
    · rw [if_neg y] at e13
      have n1 : ¬ (12 * (T : Int) + 0 ≤ ((d * 12 + k : Nat) : Int) ∧ ((d * 12 + k : Nat) : Int) < 12 * (T : Int) + 0 + ((K - 0).toNat : Nat)) := by omega
      rw [e13, if_neg n1, if_neg n1, if_neg n1, H.2.2.1 (d * 12 + k) (by omega)]
      exact h5 d k hd hk
theorem mTyp_sort (h : RR (kCoinS κ r) μ) (hG : kMid κ) (hF : rgS F) (H : kFound κ F r T be K) (hT : κ 1 10 = (T : Int)) (hT4 : T < 400) (hr : r < 6) (hbe : kSg κ be) (hm : mHas μ F T (K + 1)) (hR : rgM (mTyp μ T x n t v K)) :
    mSort (mTyp μ T x n t v K) T = zu (zu (zu (kShift (κ 11 4 - kGoalOf F T be).toNat (κ 11 4) (mTyp μ T x n t v K)) 14 (kGoalOf F T be).toNat T) 15 T (kGoalOf F T be)) 0 15 (κ 11 4 + 1) := by
  have s := mTyp_same (x := x) (n := n) (t := t) (v := v) h hG H hT hT4 hm
  have G := kGoal_is hG hF H hT hr hbe
  have e14 : mTyp μ T x n t v K 14 = κ 14 := by rw [mTyp_fr 14 (by omega), rr_14 h, coin_ne (by omega)]
  have e15 : mTyp μ T x n t v K 0 15 = κ 11 4 := by rw [mTyp_fr 0 (by omega), rr_0_15 h, coin_ne (by omega)]
  have bP := rgS_11_4 hG.1
  have sT : ∀ i : Nat, (i : Int) < κ 11 4 → 0 ≤ κ 14 i ∧ κ 14 i < T ∧ κ 5 (κ 14 i).toNat = 0 := fun i hi => by
    have b := rgS_14 hG.1 i
    have := hG.e.2.1 i hi
    exact ⟨b.1, by omega, this.2.1⟩
  have f13 : F 13 T = K := by rw [H.2.1]; exact if_pos rfl
  have nzT : ∀ k, 1 ≤ k → k ≤ F 13 (T : Int).toNat → kLevel F T k ≠ 0 := fun k k0 k1 => by
    rw [Int.toNat_natCast, f13] at k1
    rw [fd_new H, if_neg (by omega)]
    have := cnt_pos (rgS_12 hF _).1 (H.2.2.2.2.1 k k0 k1)
    show nl F T k ≠ 0
    unfold nl
    omega
  have bef : ∀ i : Nat, (i : Int) < κ 11 4 → mBef (mTyp μ T x n t v K) T (κ 14 i) 12 0 = kIsBe F T (κ 14 i) 12 1 := fun i hi => by
    obtain ⟨a, b, c⟩ := sT i hi
    have f13i : F 13 (κ 14 i).toNat = κ 13 (κ 14 i).toNat := by rw [H.2.1]; exact if_neg (by omega)
    have sg := sg_lev hG a (by omega) c
    refine mBef_is hR hF s (by omega) (by omega) a (by omega) nzT (fun k k0 k1 => ?_) 12 0 (by omega) (by omega) ?_ ?_
    · rw [f13i] at k1
      rw [fd_lev H (by omega) (by omega) k0 (by omega)]
      have := cnt_pos (kLevel_rg hG.1 _ _).1 (sg.2.2.1 k k0 k1)
      omega
    · exact (rgS_13 hF _).1
    · exact (rgS_13 hF _).1
  have q := mSh_is (d := T) (g := kGoalOf F T be) G.1 (κ 11 4 - kGoalOf F T be).toNat (κ 11 4) (mTyp μ T x n t v K) (by omega) (fun i a b => ?_) (fun a => ?_)
  · unfold mSort
    rw [e15, q, Int.toNat_natCast]
  · rw [e14, bef i.toNat (by omega)]
    exact G.2.2.2 i.toNat (by omega) (by omega)
  · rw [e14, bef (kGoalOf F T be - 1).toNat (by omega), kIsBe_lx]
    have := G.2.2.1 (kGoalOf F T be - 1).toNat (by omega)
    rw [kIsBe_lx] at this
    exact lx_asymm this
theorem RR_madeT (h : RR (kCoinS κ r) μ) (hG : kMid κ) (hF : rgS F) (H : kFound κ F r T be K) (hT : κ 1 10 = (T : Int)) (hT4 : T < 400) (hr : r < 6) (hbe : kSg κ be) (hm : mHas μ F T (K + 1)) (hx : x = r) (hn : n = κ (21 + 6 * r) r + 1) (ht : t = κ (20 + 6 * r) 4 + 1) (hR : rgM (mTyp μ T x n t v K)) (v0 : 0 ≤ v) (v1 : v < 127) :
    RR (kCarry (kAdd (kInsert F T be) r n t 0 v T T) r T) (mDone (zu (mSort (mTyp μ T x n t v K) T) 0 1 ((T : Int) + 1)) x T) := by
  subst hx hn ht
  have h1 : kMid (kCoinS κ r) := kMid_str hG hr
  have c1 : kCoinS κ r 1 10 = (T : Int) := by rw [coin_ne (by omega)]; exact hT
  have tm := typ_mid hG hF H hr hT hT4 hbe v0 v1
  have i1 : kInsert F T be 1 = κ 1 := by rw [ins_fr H 1 (by omega), coin_ne (by omega)]
  have eT : (kInsert F T be 1 10).toNat = T := by rw [i1, hT, Int.toNat_natCast]
  have c21 : kCoinS κ r (21 + 6 * r) = κ (21 + 6 * r) := coin_ne (by omega)
  have row : ∀ (k : Nat) (y : Int), ((k = 2 ∧ y = r) ∨ (k = 3 ∧ y = κ (21 + 6 * r) r + 1) ∨ (k = 4 ∧ y = κ (20 + 6 * r) 4 + 1) ∨ (k = 5 ∧ y = 0) ∨ (k = 6 ∧ y = v) ∨ (k = 7 ∧ y = T) ∨ (k = 8 ∧ y = T) ∨ (k = 9 ∧ y = bI (decide ((0 : Int) = 0) || decide ((0 : Int) = 1)))) → kAdd (kInsert F T be) r (κ (21 + 6 * r) r + 1) (κ (20 + 6 * r) 4 + 1) 0 v T T k = fun j => if j = T then y else kCoinS κ r k j := fun k y hy => by
    rw [kAdd_row (x := y) hy, eT, ins_fr H k (by omega)]
  have A1 : kAdd (kInsert F T be) r (κ (21 + 6 * r) r + 1) (κ (20 + 6 * r) 4 + 1) 0 v T T 1 10 = (T : Int) + 1 := by rw [kAdd_1, i1, hT]
  have Aup : ∀ k, 16 ≤ k → kAdd (kInsert F T be) r (κ (21 + 6 * r) r + 1) (κ (20 + 6 * r) 4 + 1) 0 v T T k = kCoinS κ r k := fun k hk => by rw [kAdd_up (by omega), ins_fr H k (by omega)]
  have A2 := row 2 r (by simp)
  have A3 := row 3 (κ (21 + 6 * r) r + 1) (by simp)
  refine RR_addDo ?_ tm.1 h1 hr c1 (by rw [c21]) A1 A2 A3 Aup
  have so := mTyp_sort (x := r) (n := κ (21 + 6 * r) r + 1) (t := κ (20 + 6 * r) 4 + 1) (v := v) h hG hF H hT hT4 hr hbe hm hR
  have sa := mTyp_same (x := r) (n := κ (21 + 6 * r) r + 1) (t := κ (20 + 6 * r) 4 + 1) (v := v) h hG H hT hT4 hm
  have G := kGoal_is hG hF H hT hr hbe
  have e11 : F 11 = κ 11 := fd_rows H 11 (by omega) (by omega) (by omega)
  have e14 : F 14 = κ 14 := fd_rows H 14 (by omega) (by omega) (by omega)
  have e15 : F 15 = κ 15 := fd_rows H 15 (by omega) (by omega) (by omega)
  have m14 : mTyp μ T r (κ (21 + 6 * r) r + 1) (κ (20 + 6 * r) 4 + 1) v K 14 = F 14 := by rw [mTyp_fr 14 (by omega), rr_14 h, coin_ne (by omega), e14]
  have m15 : mTyp μ T r (κ (21 + 6 * r) r + 1) (κ (20 + 6 * r) 4 + 1) v K 15 = F 15 := by rw [mTyp_fr 15 (by omega), rr_15 h, coin_ne (by omega), e15]
  have cg := kShift_cg (κ 11 4 - kGoalOf F T be).toNat (κ 11 4) _ _ m14 m15
  rw [so]
  have lo : ∀ q, q ≠ 0 → q ≠ 14 → q ≠ 15 → zu (zu (zu (zu (kShift (κ 11 4 - kGoalOf F T be).toNat (κ 11 4) (mTyp μ T r (κ (21 + 6 * r) r + 1) (κ (20 + 6 * r) 4 + 1) v K)) 14 (kGoalOf F T be).toNat T) 15 T (kGoalOf F T be)) 0 15 (κ 11 4 + 1)) 0 1 ((T : Int) + 1) q = mTyp μ T r (κ (21 + 6 * r) r + 1) (κ (20 + 6 * r) 4 + 1) v K q := fun q a b c => by
    rw [zu_ne a, zu_ne a, zu_ne c, zu_ne b, kShift_fr b c]
  have mid : ∀ q, q ≠ 0 → q ≠ 14 → q ≠ 15 → q ≠ 11 → q ≠ 12 → q ≠ 13 → q ≠ 10 → mTyp μ T r (κ (21 + 6 * r) r + 1) (κ (20 + 6 * r) 4 + 1) v K q = mMade0 μ T r (κ (21 + 6 * r) r + 1) (κ (20 + 6 * r) 4 + 1) 0 v T (-1) q := fun q a b c d e f g => by
    unfold mTyp; rw [mCpy_fr d e f, zu_ne g]
  have z0 : ∀ j, j ≠ 1 → j ≠ 15 → zu (zu (zu (zu (kShift (κ 11 4 - kGoalOf F T be).toNat (κ 11 4) (mTyp μ T r (κ (21 + 6 * r) r + 1) (κ (20 + 6 * r) 4 + 1) v K)) 14 (kGoalOf F T be).toNat T) 15 T (kGoalOf F T be)) 0 15 (κ 11 4 + 1)) 0 1 ((T : Int) + 1) 0 j = μ 0 j := fun j a b => by
    rw [zu_nj a, zu_nj b, zu_ne (by omega), zu_ne (by omega), kShift_fr (by omega) (by omega), mTyp_fr 0 (by omega)]
  refine RR_add (t := κ (20 + 6 * r) 4 + 1) (q := 0) (v := v) (f := T) (g := T) (n := κ (21 + 6 * r) r + 1) h h1 hr c1 hT4 (by rw [c21]) A1 A2 A3 (row 4 _ (by simp)) (row 5 _ (by simp)) (row 6 _ (by simp)) (row 7 _ (by simp)) (row 8 _ (by simp)) (row 9 _ (by simp)) Aup ?_ ?_ ?_ ?_ ?_ ?_ ?_ ?_ ?_ ?_ ?_ ?_ ?_ ?_ ?_ ?_ ?_ ?_ ?_
  · rw [zu_same]
  · rw [zu_nj (by omega), zu_same, kAdd_up (by omega), in_11 H]
  · exact z0 25 (by omega) (by omega)
  · exact z0 28 (by omega) (by omega)
  · rw [lo 1 (by omega) (by omega) (by omega), mid 1 (by omega) (by omega) (by omega) (by omega) (by omega) (by omega) (by omega)]; unfold mMade0; simp (disch := omega) only [zu_ne, zu_row]
  · rw [lo 2 (by omega) (by omega) (by omega), mid 2 (by omega) (by omega) (by omega) (by omega) (by omega) (by omega) (by omega)]; unfold mMade0; simp (disch := omega) only [zu_ne, zu_row]
  · rw [lo 3 (by omega) (by omega) (by omega), mid 3 (by omega) (by omega) (by omega) (by omega) (by omega) (by omega) (by omega)]; unfold mMade0; simp (disch := omega) only [zu_ne, zu_row]
  · rw [lo 4 (by omega) (by omega) (by omega), mid 4 (by omega) (by omega) (by omega) (by omega) (by omega) (by omega) (by omega)]; unfold mMade0; simp (disch := omega) only [zu_ne, zu_row]
  · rw [lo 5 (by omega) (by omega) (by omega), mid 5 (by omega) (by omega) (by omega) (by omega) (by omega) (by omega) (by omega)]; unfold mMade0; simp (disch := omega) only [zu_ne, zu_row]
  · rw [lo 6 (by omega) (by omega) (by omega), mid 6 (by omega) (by omega) (by omega) (by omega) (by omega) (by omega) (by omega)]; unfold mMade0; simp (disch := omega) only [zu_ne, zu_row]
  · intro j hj; rw [lo 7 (by omega) (by omega) (by omega), mid 7 (by omega) (by omega) (by omega) (by omega) (by omega) (by omega) (by omega)]; unfold mMade0; simp (disch := omega) only [zu_ne, zu_nj]
  · intro e; exact absurd e (by decide)
  · rw [lo 8 (by omega) (by omega) (by omega), mid 8 (by omega) (by omega) (by omega) (by omega) (by omega) (by omega) (by omega)]; unfold mMade0; simp (disch := omega) only [zu_ne, zu_row]; rfl
  · rw [lo 9 (by omega) (by omega) (by omega), mid 9 (by omega) (by omega) (by omega) (by omega) (by omega) (by omega) (by omega)]; unfold mMade0; simp (disch := omega) only [zu_ne, zu_row]; rfl
  · rw [lo 10 (by omega) (by omega) (by omega), kAdd_up (by omega), kInsert_fr (by omega) (by omega) (by omega)]; exact sa.1
  · rw [kAdd_up (by omega)]
    unfold kInsert
    simp (disch := omega) only [zu_ne, zu_row]
    rw [e11, cg.1]
  · rw [kAdd_up (by omega)]
    unfold kInsert
    simp (disch := omega) only [zu_ne, zu_row]
    rw [e11, cg.2, Int.toNat_natCast]
  · rw [kAdd_up (by omega), kAdd_up (by omega), kInsert_fr (by omega) (by omega) (by omega), kInsert_fr (by omega) (by omega) (by omega), lo 11 (by omega) (by omega) (by omega), lo 12 (by omega) (by omega) (by omega), lo 13 (by omega) (by omega) (by omega)]
    exact sa.2
  · intro k a b; rw [lo k (by omega) (by omega) (by omega), mTyp_fr k (by omega)]
end MT
