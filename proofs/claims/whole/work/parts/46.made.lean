/-! DEEDS THAT TYPE NOTHING: what holds is kept, and the reference goes along -/
theorem gE_new {κ ρ : Zt} (h : kMid κ) {r T : Nat} {q f g : Int} (hT : κ 1 10 = (T : Int)) (H : kNew κ ρ r T q f g) (hq : q ≠ 0) (e11 : ρ 11 = κ 11) (e14 : ρ 14 = κ 14) (e15 : ρ 15 = κ 15) : gE ρ := by
  obtain ⟨⟨r1, r2, r3, r4, r5, r7, r8⟩, -⟩ := H
  have e := h.e
  refine ⟨by rw [e11, r1]; have := e.1; omega, fun i hi => ?_, fun d hd h0 => ?_⟩
  · rw [e11] at hi
    obtain ⟨a, b, c⟩ := e.2.1 i hi
    have b14 := rgS_14 h.1 i
    rw [e14, e15, r1, r5, if_neg (by omega)]
    exact ⟨by omega, b, c⟩
  · rw [r1] at hd
    rw [r5] at h0
    by_cases x : d = T
    · rw [if_pos x] at h0; exact absurd h0 hq
    · rw [if_neg x] at h0
      rw [e11, e14, e15]
      exact e.2.2 d (by omega) h0
theorem gI_new {κ ρ : Zt} (h : kMid κ) {r T : Nat} {q f g : Int} (hT : κ 1 10 = (T : Int)) (H : kNew κ ρ r T q f g) (hq : q ≠ 0) (e11 : ρ 11 = κ 11) (e12 : ρ 12 = κ 12) (e13 : ρ 13 = κ 13) (e14 : ρ 14 = κ 14) : gI ρ := by
  obtain ⟨⟨r1, r2, r3, r4, r5, r7, r8⟩, -⟩ := H
  have i := h.i
  refine ⟨fun d hd h0 => ?_, fun d hd => ?_, fun a b hab hb => ?_⟩
  · rw [r1] at hd
    rw [r5] at h0
    by_cases x : d = T
    · rw [if_pos x] at h0; exact absurd h0 hq
    · rw [if_neg x] at h0
      rw [e13, r2, r3, if_neg x, if_neg x, kLevel_congr e12 e13]
      exact i.1 d (by omega) h0
  · rw [r1] at hd
    rw [e13]
    exact i.2.1 d (by omega)
  · rw [e11] at hb
    rw [e14, kIsBe_congr e12 e13]
    exact i.2.2 a b hab hb
theorem kGood_carryN {κ : Zt} (h : kMid κ) {r : Nat} {q v f g : Int} (hr : r < 6) (hT : κ 1 10 < 400) (q1 : 1 ≤ q) (q3 : q ≤ 3) (v0 : 0 ≤ v) (v1 : v < 127) (f0 : 0 ≤ f) (f1 : f < κ 1 10) (f5 : κ 5 f.toNat = 0) (g0 : 0 ≤ g) (g1 : g < κ 1 10) (g5 : κ 5 g.toNat = 0) (hg : q ≠ 3 → g = f) :
    kMid (kCarry (kAdd κ r (κ (21 + 6 * r) r + 1) (κ (20 + 6 * r) 4 + 1) q v f g) r (κ 1 10)) ∧ ∀ t, t < 6 → gR κ t → gR (kCarry (kAdd κ r (κ (21 + 6 * r) r + 1) (κ (20 + 6 * r) 4 + 1) q v f g) r (κ 1 10)) t := by
  have bT := rgS_1_10 h.1
  have b21 := rgS_21 h.1 hr r
  have b204 := rgS_20_4 h.1 hr
  have a := h.a.2 r hr
  have gm := h.g.1
  obtain ⟨T, hT'⟩ : ∃ T : Nat, κ 1 10 = (T : Int) := ⟨(κ 1 10).toNat, by omega⟩
  have H := kNew_carry (κ := κ) (κ' := κ) (v := v) (f := f) (g := g) (q := q) h hr hT' (by omega) (fun k _ => rfl)
  have up : ∀ k, 11 ≤ k → k < 16 → kCarry (kAdd κ r (κ (21 + 6 * r) r + 1) (κ (20 + 6 * r) 4 + 1) q v f g) r (κ 1 10) k = κ k := fun k h1 h2 => by rw [kCarry_fr (by omega), kAdd_up h1]
  have hrg : rgS (kCarry (kAdd κ r (κ (21 + 6 * r) r + 1) (κ (20 + 6 * r) 4 + 1) q v f g) r (κ 1 10)) := by
    refine kCarry_rg (kAdd_rg h.1 hT (by omega) (by omega) (by omega) (by omega) (by omega) (by omega) (by omega) (by omega) (by omega) v0 v1 f0 (by omega) g0 (by omega)) hr (by omega) (by omega) ?_
    rw [kAdd_own, kAdd_rep (by omega)]
    rw [Int.toNat_natCast]
    omega
  exact kMid_add h hr hT' H hrg (gE_new h hT' H (by omega) (up 11 (by omega) (by omega)) (up 14 (by omega) (by omega)) (up 15 (by omega) (by omega))) (gI_new h hT' H (by omega) (up 11 (by omega) (by omega)) (up 12 (by omega) (by omega)) (up 13 (by omega) (by omega)) (up 14 (by omega) (by omega))) (Or.inr ⟨by omega, f0, by omega, f5, g0, by omega, g5, hg⟩)
theorem kGood_sendTo {d : Int} {r : Nat} (d0 : 0 ≤ d) : ∀ (n : Nat) (j : Int) (κ : Zt), 0 ≤ j → j + n ≤ 6 → d < κ 1 10 → kMid κ → kMid (kSendTo d r n j κ) ∧ kFr κ (kSendTo d r n j κ) := by
  intro n
  induction n with
  | zero => intro j κ _ _ _ h; exact ⟨h, kFr_rf κ⟩
  | succ n ih =>
    intro j κ j0 j1 hd h
    rw [kSendTo]
    by_cases e : j = (r : Int)
    · rw [if_pos e]; exact ih (j + 1) κ (by omega) (by omega) hd h
    · rw [if_neg e]
      have f := kFr_send (κ := κ) (d := d) (q := j)
      have q := ih (j + 1) (kSend κ d j) (by omega) (by omega) (by rw [f.lo 1 (by omega) (by omega) (by omega) (by omega) (by omega)]; exact hd) (kMid_send h d0 hd j0 (by omega))
      exact ⟨q.1, kFr_tr f q.2⟩
theorem kGood_performN {κ : Zt} (h : kGood κ) {r : Nat} {q v f g : Int} (hr : r < 6) (hT : κ 1 10 < 400) (q1 : 1 ≤ q) (q3 : q ≤ 3) (v0 : 0 ≤ v) (v1 : v < 127) (f0 : 0 ≤ f) (f1 : f < κ 1 10) (f5 : κ 5 f.toNat = 0) (g0 : 0 ≤ g) (g1 : g < κ 1 10) (g5 : κ 5 g.toNat = 0) (hg : q ≠ 3 → g = f) :
    kGood (kPerform κ r q v f g) := by
  have bT := rgS_1_10 h.1.1
  obtain ⟨m, gg⟩ := kGood_carryN h.1 hr hT q1 q3 v0 v1 f0 f1 f5 g0 g1 g5 hg
  unfold kPerform
  have s := kGood_sendTo (r := r) (d := κ 1 10) (by omega) 6 0 _ (by omega) (by omega) (by rw [kCarry_fr (by omega), kAdd_1]; omega) m
  exact ⟨s.1, fun t ht => gR_fr s.2 (gg t ht (h.2 t ht))⟩
/-- the two go along where a deed is added -/
theorem RR_add {κ μ A B : Zt} (h : RR κ μ) (hG : kMid κ) {r T : Nat} {n t q v f g : Int} (hr : r < 6) (hT : κ 1 10 = (T : Int)) (hT4 : T < 400) (hn : n = κ (21 + 6 * r) r + 1)
    (A1 : A 1 10 = (T : Int) + 1) (A2 : A 2 = fun j => if j = T then (r : Int) else κ 2 j) (A3 : A 3 = fun j => if j = T then n else κ 3 j) (A4 : A 4 = fun j => if j = T then t else κ 4 j) (A5 : A 5 = fun j => if j = T then q else κ 5 j) (A6 : A 6 = fun j => if j = T then v else κ 6 j) (A7 : A 7 = fun j => if j = T then f else κ 7 j) (A8 : A 8 = fun j => if j = T then g else κ 8 j) (A9 : A 9 = fun j => if j = T then bI (decide (q = 0) || decide (q = 1)) else κ 9 j) (Aup : ∀ k, 16 ≤ k → A k = κ k)
    (B01 : B 0 1 = (T : Int) + 1) (B015 : B 0 15 = A 11 4) (B25 : B 0 25 = μ 0 25) (B28 : B 0 28 = μ 0 28)
    (B1 : B 1 = fun j => if j = T then (r : Int) else μ 1 j) (B2 : B 2 = fun j => if j = T then n else μ 2 j) (B3 : B 3 = fun j => if j = T then t else μ 3 j) (B4 : B 4 = fun j => if j = T then q else μ 4 j) (B5 : B 5 = fun j => if j = T then v else μ 5 j) (B6 : B 6 = fun j => if j = T then f else μ 6 j)
    (B7 : ∀ j, j ≠ T → B 7 j = μ 7 j) (B7' : q = 3 → B 7 T = g) (B8 : B 8 = fun j => if j = T then 0 else μ 8 j) (B9 : B 9 = fun j => if j = T then 0 else μ 9 j)
    (B10 : B 10 = A 13) (B14 : B 14 = A 14) (B15 : B 15 = A 15) (Lv : ∀ d k : Nat, d < 400 → k < 12 → (if (k : Int) < A 13 d then A 12 (d * 12 + k) else 0) = kMake (B 11 (d * 12 + k)) (B 12 (d * 12 + k)) (B 13 (d * 12 + k))) (Bup : ∀ k, 16 ≤ k → k < 25 → B k = μ k) : RR A B := by
  obtain ⟨⟨h11, h12, h13, h14⟩, ⟨c1, c2, c3, c4, c5, c6, c7, c8, c9, c10, c11⟩, h3, h4, ⟨h5, h5'⟩, h6⟩ := h
  refine ⟨⟨B01.trans A1.symm, B015, ?_, ?_⟩, ⟨?_, ?_, ?_, ?_, ?_, ?_, B10, B14, B15, ?_, ?_⟩, fun d hd => ?_, fun d hd => ?_, ⟨Lv, fun u d hu hd hd4 => ?_⟩, fun u hu => ?_⟩
  · rw [B25, Aup 16 (by omega)]; exact h13
  · rw [B28, Aup 16 (by omega)]; exact h14
  · rw [B1, A2, c1]
  · rw [B2, A3, c2]
  · rw [B3, A4, c3]
  · rw [B4, A5, c4]
  · rw [B5, A6, c5]
  · rw [B6, A7, c6]
  · rw [Bup 23 (by omega) (by omega), Aup 17 (by omega)]; exact c10
  · rw [Bup 24 (by omega) (by omega), Aup 18 (by omega)]; exact c11
  · rw [A5] at hd
    dsimp only at hd
    rw [A8]
    dsimp only
    by_cases e : d = T
    · rw [if_pos e] at hd ⊢; rw [e]; exact B7' hd
    · rw [if_neg e] at hd ⊢; rw [B7 d e]; exact h3 d hd
  · rw [A1] at hd
    rw [A9, A5, B8, B9]
    dsimp only
    by_cases e : d = T
    · simp only [if_pos e]
      by_cases x : q = 0
      · simp [x, bI]
      · by_cases y : q = 1
        · simp [y, bI]
        · simp [x, y, bI]
    · simp only [if_neg e]
      exact h4 d (by omega)
  · rw [A1] at hd
    rw [Bup 16 (by omega) (by omega)]
    exact h5' u d hu (by omega) hd4
  · obtain ⟨a, b, c, d, e, f'⟩ := h6 u hu
    rw [Aup (20 + 6 * u) (by omega), Aup (21 + 6 * u) (by omega), Aup (22 + 6 * u) (by omega), Aup (23 + 6 * u) (by omega), Aup (24 + 6 * u) (by omega), Bup 16 (by omega) (by omega), Bup 17 (by omega) (by omega), Bup 18 (by omega) (by omega), Bup 19 (by omega) (by omega), Bup 20 (by omega) (by omega), Bup 21 (by omega) (by omega), Bup 22 (by omega) (by omega)]
    refine ⟨fun j hj => ?_, b, c, d, e, f'⟩
    rw [A1] at hj
    have e2 := congrFun A2 j
    have e3 := congrFun A3 j
    try dsimp only at e2 e3
    have ed : kDid A u j = decide (A 3 j ≤ κ (21 + 6 * u) (A 2 j).toNat) := by unfold kDid; rw [Int.toNat_natCast, Aup (21 + 6 * u) (by omega)]
    by_cases x : j = T
    · rw [if_pos x] at e2 e3
      have := hG.a.1 u r hu hr
      rw [ed, e2, e3, Int.toNat_natCast, h5' u j hu (by omega) (by omega), decide_eq_false (by omega)]
      rfl
    · rw [if_neg x] at e2 e3
      rw [ed, e2, e3, a j (by omega)]
      unfold kDid
      rw [Int.toNat_natCast]
def mMade0 (μ : Zt) (T : Nat) (x n t q v f b : Int) : Zt := zu (zu (zu (zu (zu (zu (zu (zu (zu μ 1 T x) 2 T n) 3 T t) 4 T q) 5 T v) 6 T f) 7 T b) 8 T (bI false)) 9 T (bI false)
theorem kDo_new {A : Zt} {r : Nat} {T : Int} (h : A (22 + 6 * r) T.toNat = 0) : kDo A r T = kCarry A r T := by
  unfold kDo; rw [if_pos h]
/-- after it is added, it is done -/
theorem RR_addDo {κ A B : Zt} (h : RR A B) (hk : rgS A) (hG : kMid κ) {r T : Nat} {n : Int} (hr : r < 6) (hT : κ 1 10 = (T : Int)) (hn : n = κ (21 + 6 * r) r + 1) (A1 : A 1 10 = (T : Int) + 1) (A2 : A 2 = fun j => if j = T then (r : Int) else κ 2 j) (A3 : A 3 = fun j => if j = T then n else κ 3 j) (Aup : ∀ k, 16 ≤ k → A k = κ k) : RR (kCarry A r T) (mDone B r T) := by
  have w : A (22 + 6 * r) T = 0 := by
    rw [Aup _ (by omega)]
    by_cases e : κ (22 + 6 * r) T = 0
    · exact e
    · have := ((hG.f r hr).1 T e).1; omega
  rw [← kDo_new (by rw [Int.toNat_natCast]; exact w)]
  refine RR_done h hk hr (by omega) ?_ (fun f hf a b => ?_)
  · rw [A3, A2, Aup _ (by omega)]
    simp only [if_true]
    rw [Int.toNat_natCast, hn]
    omega
  · rw [A2] at a
    rw [A3] at b
    simp only [if_true] at a b
    by_cases e : f = T
    · exact e
    · rw [if_neg e] at a b
      have := (hG.b f (by omega)).2.1
      rw [a, Int.toNat_natCast] at this
      omega
theorem RR_madeN {κ μ : Zt} (h : RR κ μ) (hG : kMid κ) {x q v f b g : Int} (x0 : 0 ≤ x) (x1 : x < 6) (hT : κ 1 10 < 400) (q1 : 1 ≤ q) (q3 : q ≤ 3) (v0 : 0 ≤ v) (v1 : v < 127) (f0 : 0 ≤ f) (f1 : f < 400) (g0 : 0 ≤ g) (g1 : g < 400) (hb : q = 3 → b = g) :
    RR (kCarry (kAdd κ x.toNat (κ (21 + 6 * x.toNat) x.toNat + 1) (κ (20 + 6 * x.toNat) 4 + 1) q v f g) x.toNat (κ 1 10)) (mDone (zu (mMade0 μ (κ 1 10).toNat x (κ (21 + 6 * x.toNat) x.toNat + 1) (κ (20 + 6 * x.toNat) 4 + 1) q v f b) 0 1 (κ 1 10 + 1)) x (κ 1 10)) := by
  have bT := rgS_1_10 hG.1
  obtain ⟨r, rfl⟩ : ∃ n : Nat, x = n := ⟨x.toNat, by omega⟩
  obtain ⟨T, hT'⟩ : ∃ T : Nat, κ 1 10 = (T : Int) := ⟨(κ 1 10).toNat, by omega⟩
  have hr : r < 6 := by omega
  have b21 := rgS_21 hG.1 hr r
  have b204 := rgS_20_4 hG.1 hr
  have a := hG.a.2 r hr
  have gm := hG.g.1
  rw [Int.toNat_natCast]
  have hrg : rgS (kAdd κ r (κ (21 + 6 * r) r + 1) (κ (20 + 6 * r) 4 + 1) q v f g) := kAdd_rg hG.1 hT (by omega) (by omega) (by omega) (by omega) (by omega) (by omega) (by omega) (by omega) (by omega) v0 v1 f0 f1 g0 g1
  rw [hT']
  rw [hT'] at hT
  have eT : (κ 1 10).toNat = T := by omega
  have A1 : kAdd κ r (κ (21 + 6 * r) r + 1) (κ (20 + 6 * r) 4 + 1) q v f g 1 10 = (T : Int) + 1 := by rw [kAdd_1, hT']
  have A2 := kAdd_row (σ := κ) (w := r) (n := κ (21 + 6 * r) r + 1) (t := κ (20 + 6 * r) 4 + 1) (q := q) (v := v) (f := f) (g := g) (k := 2) (x := r) (by simp)
  have A3 := kAdd_row (σ := κ) (w := r) (n := κ (21 + 6 * r) r + 1) (t := κ (20 + 6 * r) 4 + 1) (q := q) (v := v) (f := f) (g := g) (k := 3) (x := κ (21 + 6 * r) r + 1) (by simp)
  rw [eT] at A2 A3
  have Aup : ∀ k, 16 ≤ k → kAdd κ r (κ (21 + 6 * r) r + 1) (κ (20 + 6 * r) 4 + 1) q v f g k = κ k := fun k hk => kAdd_up (by omega)
  refine RR_addDo ?_ hrg hG hr hT' rfl A1 A2 A3 Aup
  rw [Int.toNat_natCast]
  refine RR_add (t := κ (20 + 6 * r) 4 + 1) (q := q) (v := v) (f := f) (g := g) h hG hr hT' (by omega) rfl A1 A2 A3 ?_ ?_ ?_ ?_ ?_ ?_ Aup ?_ ?_ ?_ ?_ ?_ ?_ ?_ ?_ ?_ ?_ ?_ ?_ ?_ ?_ ?_ ?_ ?_ ?_ ?_
  · rw [← eT]; exact kAdd_row (by simp)
  · rw [← eT]; exact kAdd_row (by simp)
  · rw [← eT]; exact kAdd_row (by simp)
  · rw [← eT]; exact kAdd_row (by simp)
  · rw [← eT]; exact kAdd_row (by simp)
  · rw [← eT]; exact kAdd_row (by simp)
  · rw [zu_same]
  · rw [zu_nj (by omega), kAdd_up (by omega)]; unfold mMade0; simp (disch := omega) only [zu_ne]; exact rr_0_15 h
  · rw [zu_nj (by omega)]; unfold mMade0; simp (disch := omega) only [zu_ne]
  · rw [zu_nj (by omega)]; unfold mMade0; simp (disch := omega) only [zu_ne]
  · unfold mMade0; simp (disch := omega) only [zu_ne, zu_row]
  · unfold mMade0; simp (disch := omega) only [zu_ne, zu_row]
  · unfold mMade0; simp (disch := omega) only [zu_ne, zu_row]
  · unfold mMade0; simp (disch := omega) only [zu_ne, zu_row]
  · unfold mMade0; simp (disch := omega) only [zu_ne, zu_row]
  · unfold mMade0; simp (disch := omega) only [zu_ne, zu_row]
  · intro j hj; unfold mMade0; simp (disch := omega) only [zu_ne, zu_nj]
  · intro e; unfold mMade0; simp (disch := omega) only [zu_ne, zu_same]; exact hb e
  · unfold mMade0; simp (disch := omega) only [zu_ne, zu_row]; rfl
  · unfold mMade0; simp (disch := omega) only [zu_ne, zu_row]; rfl
  · unfold mMade0; rw [kAdd_up (by omega)]; simp (disch := omega) only [zu_ne]; exact rr_10 h
  · unfold mMade0; rw [kAdd_up (by omega)]; simp (disch := omega) only [zu_ne]; exact rr_14 h
  · unfold mMade0; rw [kAdd_up (by omega)]; simp (disch := omega) only [zu_ne]; exact rr_15 h
  · unfold mMade0; rw [kAdd_up (by omega), kAdd_up (by omega)]; simp (disch := omega) only [zu_ne]; exact h.2.2.2.2.1.1
  · intro k h1 h2; unfold mMade0; simp (disch := omega) only [zu_ne]
