/-! WHAT WAITS is done when it can be -/
theorem kFirst_gt {κ : Zt} {r : Nat} (h : kFirst κ r (κ 1 10).toNat 0 ≠ -1) : ∃ d : Nat, kFirst κ r (κ 1 10).toNat 0 = (d : Int) ∧ (d : Int) < κ 1 10 ∧ κ (22 + 6 * r) d ≠ 0 ∧ kReady κ r d = true := by
  have b := kFirst_rg κ r (κ 1 10).toNat 0
  have q := kFirst_is (σ := κ) (r := r) (κ 1 10).toNat 0 h
  refine ⟨(kFirst κ r (κ 1 10).toNat 0).toNat, by omega, by omega, q.1, ?_⟩
  rw [Int.toNat_of_nonneg (by omega)]
  exact q.2
theorem kFirst_no {κ : Zt} {r : Nat} : ∀ (n i : Nat), kFirst κ r n i = -1 → ∀ d : Nat, i ≤ d → d < i + n → κ (22 + 6 * r) d ≠ 0 → kReady κ r d = false := by
  intro n
  induction n with
  | zero => intro i _ d h1 h2; omega
  | succ n ih =>
    intro i h d h1 h2 hw
    rw [kFirst] at h
    split at h
    · omega
    · rename_i q
      by_cases e : d = i
      · subst e
        cases x : kReady κ r d with
        | false => rfl
        | true => exact absurd ⟨hw, x⟩ q
      · exact ih (i + 1) h d (by omega) (by omega) hw
theorem kFirst_all {κ : Zt} {r : Nat} : ∀ (n i : Nat), (∀ d : Nat, i ≤ d → d < i + n → κ (22 + 6 * r) d ≠ 0 → kReady κ r d = false) → kFirst κ r n i = -1 := by
  intro n
  induction n with
  | zero => intro i _; rfl
  | succ n ih =>
    intro i h
    rw [kFirst, if_neg, ih (i + 1) (fun d h1 h2 => h d (by omega) (by omega))]
    rintro ⟨h1, h2⟩
    rw [h i (by omega) (by omega) h1] at h2
    cases h2
theorem wait_pos {κ : Zt} (h : kMid κ) {r d : Nat} (hr : r < 6) (hd : (d : Int) < κ 1 10) (hw : κ (22 + 6 * r) d ≠ 0) : 0 < κ (20 + 6 * r) 6 := by
  have bT := rgS_1_10 h.1
  have p := kSum_pos (fun j => (rgS_22 h.1 hr j).1) 400 d (by omega)
  have b := rgS_22 h.1 hr d
  have q := (h.f r hr).2
  omega
theorem kWaited_do {κ : Zt} (h : kMid κ) {r d : Nat} (hr : r < 6) (n : Nat) (hf : kFirst κ r (κ 1 10).toNat 0 = (d : Int)) (hd : (d : Int) < κ 1 10) (hw : κ (22 + 6 * r) d ≠ 0) : kWaited r (n + 1) κ = kWaited r n (kDo κ r d) := by
  have p := wait_pos h hr hd hw
  rw [kWaited, if_neg (by omega), if_neg (by rw [hf]; omega), hf]
  unfold kDo
  rw [if_neg (by rw [Int.toNat_natCast]; exact hw)]
theorem kWaited_no {κ : Zt} {r : Nat} (n : Nat) (hf : kFirst κ r (κ 1 10).toNat 0 = -1) : kWaited r n κ = κ := by
  cases n with
  | zero => rfl
  | succ n => rw [kWaited]; split <;> first | rfl | rw [if_pos hf]
theorem kMid_doW {κ : Zt} (h : kMid κ) {r d : Nat} (hr : r < 6) (hd : (d : Int) < κ 1 10) (hw : κ (22 + 6 * r) d ≠ 0) (hrd : kReady κ r d = true) : kMid (kDo κ r d) :=
  kMid_do h hr hd ((h.f r hr).1 d hw).2.2 hrd
theorem kDo_wait {κ : Zt} {r d : Nat} (hw : κ (22 + 6 * r) d ≠ 0) : kDo κ r d (20 + 6 * r) 6 = κ (20 + 6 * r) 6 - 1 := by
  rw [kDo_20_6, Int.toNat_natCast, if_neg hw]
theorem kWaited_end0 {κ : Zt} (h : kMid κ) {r : Nat} (hr : r < 6) (hw : κ (20 + 6 * r) 6 ≤ 0) : kFirst κ r (κ 1 10).toNat 0 = -1 := by
  refine kFirst_all _ _ (fun d _ hd hwd => ?_)
  have := wait_pos h hr (by omega) hwd
  omega
/-- with enough rounds nothing waits that can be done -/
theorem kWaited_all {r : Nat} (hr : r < 6) : ∀ (n : Nat) (κ : Zt), kMid κ → κ (20 + 6 * r) 6 ≤ n → kMid (kWaited r n κ) ∧ kFirst (kWaited r n κ) r (κ 1 10).toNat 0 = -1 ∧ kWaited r (n + 1) κ = kWaited r n κ := by
  intro n
  induction n with
  | zero =>
    intro κ h hn
    have e := kWaited_end0 h hr (by omega)
    exact ⟨h, e, by rw [kWaited_no _ e, kWaited_no _ e]⟩
  | succ n ih =>
    intro κ h hn
    by_cases e : kFirst κ r (κ 1 10).toNat 0 = -1
    · rw [kWaited_no _ e, kWaited_no _ e]
      exact ⟨h, e, rfl⟩
    · obtain ⟨d, h1, h2, h3, h4⟩ := kFirst_gt e
      have hm := kMid_doW h hr h2 h3 h4
      rw [kWaited_do h hr n h1 h2 h3, kWaited_do h hr (n + 1) h1 h2 h3]
      have := ih _ hm (by rw [kDo_wait h3]; omega)
      rwa [kDo_lo (q := 1) (by omega)] at this
theorem kWaited_go {κ : Zt} (h : kMid κ) {r d : Nat} (hr : r < 6) (hf : kFirst κ r (κ 1 10).toNat 0 = (d : Int)) (hd : (d : Int) < κ 1 10) (hw : κ (22 + 6 * r) d ≠ 0) (hrd : kReady κ r d = true) : kWaited r 400 κ = kWaited r 400 (kDo κ r d) := by
  have b := rgS_20_6 h.1 hr
  have q := kWaited_do h hr 400 hf hd hw
  rw [(kWaited_all hr 400 κ h (by omega)).2.2] at q
  exact q
theorem kMid_waited {κ : Zt} (h : kMid κ) {r : Nat} (hr : r < 6) : kMid (kWaited r 400 κ) := by
  have b := rgS_20_6 h.1 hr
  exact (kWaited_all hr 400 κ h (by omega)).1
theorem gR_first {κ : Zt} (h : kMid κ) {r : Nat} (hr : r < 6) (hf : kFirst κ r (κ 1 10).toNat 0 = -1) : gR κ r := by
  intro d hw
  have := ((h.f r hr).1 d hw).1
  exact kFirst_no _ _ hf d (by omega) (by omega) hw
theorem gR_no {κ : Zt} {r : Nat} (hf : gR κ r) : kFirst κ r (κ 1 10).toNat 0 = -1 := kFirst_all _ _ (fun d _ _ hw => hf d hw)
theorem gR_waited {κ : Zt} (h : kMid κ) {r : Nat} (hr : r < 6) : gR (kWaited r 400 κ) r := by
  have b := rgS_20_6 h.1 hr
  have q := kWaited_all hr 400 κ h (by omega)
  refine gR_first q.1 hr ?_
  rw [kWaited_fr (by omega)]
  exact q.2.1
theorem kReady_congr {κ ρ : Zt} {r : Nat} (h2 : ρ 2 = κ 2) (h3 : ρ 3 = κ 3) (h5 : ρ 5 = κ 5) (h7 : ρ 7 = κ 7) (h8 : ρ 8 = κ 8) (h : ρ (21 + 6 * r) = κ (21 + 6 * r)) : kReady ρ r = kReady κ r := by
  funext d; unfold kReady; rw [kDid_congr h2 h3 h, h2, h3, h5, h7, h8, h]
theorem gR_congr {κ ρ : Zt} {r : Nat} (lo : ∀ q, q < 20 → ρ q = κ q) (h : ρ (21 + 6 * r) = κ (21 + 6 * r)) (hw : ρ (22 + 6 * r) = κ (22 + 6 * r)) (g : gR κ r) : gR ρ r := by
  unfold gR
  rw [hw, kReady_congr (lo 2 (by omega)) (lo 3 (by omega)) (lo 5 (by omega)) (lo 7 (by omega)) (lo 8 (by omega)) h]
  exact g
theorem gR_do {κ : Zt} {r t : Nat} {d : Int} (ht : t ≠ r) (g : gR κ t) : gR (kDo κ r d) t := by
  have a := kDo_oth (σ := κ) (d := d) (k := 1) ht (by omega)
  have b := kDo_oth (σ := κ) (d := d) (k := 2) ht (by omega)
  exact gR_congr (fun q hq => kDo_lo hq) (by simpa using a) (by simpa using b) g
theorem gR_waitedO {r t : Nat} (ht : t ≠ r) (hr : r < 6) : ∀ (n : Nat) (κ : Zt), kMid κ → gR κ t → gR (kWaited r n κ) t := by
  intro n
  induction n with
  | zero => intro κ _ g; exact g
  | succ n ih =>
    intro κ h g
    by_cases e : kFirst κ r (κ 1 10).toNat 0 = -1
    · rw [kWaited_no _ e]; exact g
    · obtain ⟨d, h1, h2, h3, h4⟩ := kFirst_gt e
      rw [kWaited_do h hr n h1 h2 h3]
      exact ih _ (kMid_doW h hr h2 h3 h4) (gR_do ht g)
theorem kAll_do {κ : Zt} {r : Nat} {d : Int} (hk : rgS κ) : kAll (kDo κ r d) r = kAll κ r + 1 := by
  have b := rgS_2 hk d.toNat
  unfold kAll
  rw [kSum_upd (f := κ (21 + 6 * r)) (g := kDo κ r d (21 + 6 * r)) (d := (κ 2 d.toNat).toNat) 6 (by omega) (fun j _ hj => by rw [kDo_21, if_neg hj]), kDo_21, if_pos rfl]
  omega
theorem kAll_rg {κ : Zt} (hk : rgS κ) {r : Nat} (hr : r < 6) : 0 ≤ kAll κ r ∧ kAll κ r < 2406 := by
  have b0 := rgS_21 hk hr 0
  have b1 := rgS_21 hk hr 1
  have b2 := rgS_21 hk hr 2
  have b3 := rgS_21 hk hr 3
  have b4 := rgS_21 hk hr 4
  have b5 := rgS_21 hk hr 5
  simp only [kAll, kSum]
  omega
/-- a deed comes, on the reference's side: what waits is not yet looked at -/
def kComS (κ : Zt) (r : Nat) (d : Int) : Zt := if kDid κ r d = true ∨ κ (22 + 6 * r) d.toNat ≠ 0 then κ else if kReady κ r d = true then kDo κ r d else kWt κ r d
theorem kRecR_rg (κ : Zt) (r : Nat) (d : Int) : 0 ≤ kRecR κ r d ∧ kRecR κ r d ≤ 2 := by
  unfold kRecR; split
  · omega
  · split <;> omega
theorem kRecS_com {κ : Zt} {r : Nat} {d : Int} : kRecS κ r d = if kRecR κ r d = 1 then kWaited r 400 (kComS κ r d) else kComS κ r d := by
  unfold kRecS kRecR kComS
  by_cases a : kDid κ r d = true ∨ κ (22 + 6 * r) d.toNat ≠ 0
  · simp only [if_pos a]; rfl
  · simp only [if_neg a]
    by_cases b : kReady κ r d = true
    · simp only [if_pos b]
      unfold kDo
      have e : κ (22 + 6 * r) d.toNat = 0 := by by_cases x : κ (22 + 6 * r) d.toNat = 0; exact x; exact absurd (Or.inr x) a
      simp only [if_pos e]
      rfl
    · simp only [if_neg b]; rfl
theorem kMid_com {κ : Zt} (h : kMid κ) {r : Nat} {d : Int} (hr : r < 6) (d0 : 0 ≤ d) (hd : d < κ 1 10) : kMid (kComS κ r d) := by
  unfold kComS
  split
  · exact h
  · rename_i a
    have a1 : kDid κ r d = false := by cases x : kDid κ r d with | false => rfl | true => exact absurd (Or.inl x) a
    have a2 : κ (22 + 6 * r) d.toNat = 0 := by by_cases x : κ (22 + 6 * r) d.toNat = 0; exact x; exact absurd (Or.inr x) a
    obtain ⟨n, rfl⟩ : ∃ n : Nat, d = n := ⟨d.toNat, by omega⟩
    rw [Int.toNat_natCast] at a2
    split
    · rename_i b; exact kMid_do h hr hd a1 b
    · exact kMid_wt h hr hd a1 a2
theorem kWt_fr {κ : Zt} {r : Nat} {d : Int} {q : Nat} (h1 : q ≠ 22 + 6 * r) (h2 : q ≠ 20 + 6 * r) : kWt κ r d q = κ q := by
  unfold kWt; rw [zu_ne h2, zu_ne h1]
theorem gR_wt {κ : Zt} {r : Nat} {d : Int} (d0 : 0 ≤ d) (hb : kReady κ r d = false) (t : Nat) (g : gR κ t) : gR (kWt κ r d) t := by
  have lo : ∀ q, q < 20 → kWt κ r d q = κ q := fun q hq => kWt_fr (by omega) (by omega)
  have e := kReady_congr (κ := κ) (ρ := kWt κ r d) (r := t) (lo 2 (by omega)) (lo 3 (by omega)) (lo 5 (by omega)) (lo 7 (by omega)) (lo 8 (by omega)) (kWt_fr (by omega) (by omega))
  intro f hf
  rw [e]
  by_cases q : t = r
  · subst q
    unfold kWt at hf
    rw [zu_ne (by omega), zu_row] at hf
    by_cases x : f = d.toNat
    · rw [x, Int.toNat_of_nonneg d0]; exact hb
    · dsimp only at hf
      rw [if_neg x] at hf; exact g f hf
  · rw [kWt_fr (by omega) (by omega)] at hf; exact g f hf
theorem kGood_rec {κ : Zt} (h : kGood κ) {r : Nat} {d : Int} (hr : r < 6) (d0 : 0 ≤ d) (hd : d < κ 1 10) : kGood (kRecS κ r d) := by
  have hc := kMid_com h.1 hr d0 hd
  rw [kRecS_com]
  split
  · rename_i e
    refine ⟨kMid_waited hc hr, fun t ht => ?_⟩
    by_cases q : t = r
    · subst q; exact gR_waited hc hr
    · refine gR_waitedO q hr 400 _ hc ?_
      unfold kComS
      split
      · exact h.2 t ht
      · split
        · exact gR_do q (h.2 t ht)
        · rename_i b
          exact gR_wt d0 (by simpa using b) t (h.2 t ht)
  · rename_i e
    refine ⟨hc, fun t ht => ?_⟩
    unfold kComS
    unfold kRecR at e
    split
    · exact h.2 t ht
    · rename_i a
      rw [if_neg a] at e
      split
      · rename_i b; rw [if_pos b] at e; exact absurd rfl e
      · rename_i b
        exact gR_wt d0 (by simpa using b) t (h.2 t ht)
theorem kAll_rec {κ : Zt} (hk : rgS κ) {r : Nat} {d : Int} : kAll (kComS κ r d) r = kAll κ r + (if kRecR κ r d = 1 then 1 else 0) := by
  unfold kComS kRecR
  by_cases a : kDid κ r d = true ∨ κ (22 + 6 * r) d.toNat ≠ 0
  · simp only [if_pos a]; simp
  · simp only [if_neg a]
    by_cases b : kReady κ r d = true
    · simp only [if_pos b]; exact kAll_do hk
    · simp only [if_neg b]
      unfold kAll
      rw [kWt_fr (by omega) (by omega)]
      simp
theorem RR_wt {κ μ : Zt} (h : RR κ μ) {r d : Nat} (hr : r < 6) (hd : d < 400) : RR (kWt κ r d) (zu μ 17 (400 * r + d) 1) := by
  have e1 : ∀ t, t ≠ r → kWt κ r d (22 + 6 * t) = κ (22 + 6 * t) := fun t q => kWt_fr (by omega) (by omega)
  have f20 : ∀ t j, j ≠ 6 → kWt κ r d (20 + 6 * t) j = κ (20 + 6 * t) j := fun t j q => by
    by_cases e : t = r
    · subst e; unfold kWt; rw [zu_nj q, zu_ne (by omega)]
    · rw [kWt_fr (by omega) (by omega)]
  have lo : ∀ q, q < 20 → kWt κ r d q = κ q := fun q hq => kWt_fr (by omega) (by omega)
  obtain ⟨h1, h2, h3, h4, h5, h6⟩ := h
  unfold RR
  rw [lo 1 (by omega), lo 2 (by omega), lo 3 (by omega), lo 4 (by omega), lo 5 (by omega), lo 6 (by omega), lo 7 (by omega), lo 8 (by omega), lo 9 (by omega), lo 11 (by omega), lo 12 (by omega), lo 13 (by omega), lo 14 (by omega), lo 15 (by omega), lo 16 (by omega), lo 17 (by omega), lo 18 (by omega)]
  simp (disch := omega) only [zu_ne]
  refine ⟨h1, h2, h3, h4, h5, fun t ht => ?_⟩
  obtain ⟨a, b, c, e, f, g⟩ := h6 t ht
  rw [f20 t 4 (by omega), f20 t 3 (by omega), kWt_fr (q := 21 + 6 * t) (by omega) (by omega), kWt_fr (q := 23 + 6 * t) (by omega) (by omega), kWt_fr (q := 24 + 6 * t) (by omega) (by omega), kDid_congr (lo 2 (by omega)) (lo 3 (by omega)) (kWt_fr (by omega) (by omega))]
  refine ⟨a, fun j hj => ⟨?_, (b j hj).2⟩, c, e, f, g⟩
  rw [zu_row]
  by_cases q : t = r
  · subst q
    unfold kWt
    rw [zu_ne (by omega), zu_row, Int.toNat_natCast]
    dsimp only
    by_cases x : j = d
    · rw [if_pos (by omega), if_pos x]
    · rw [if_neg (by omega), if_neg x]; exact (b j hj).1
  · rw [e1 t q]
    dsimp only
    rw [if_neg (by omega)]
    exact (b j hj).1
/-- kDo on both sides, of a deed that is ready -/
theorem RR_do {κ μ : Zt} (h : RR κ μ) (hG : kMid κ) {r d : Nat} (hr : r < 6) (hd : (d : Int) < κ 1 10) (hrd : kReady κ r d = true) : RR (kDo κ r d) (mDone μ r d) := by
  refine RR_done h hG.1 hr hd ?_ (fun f hf a b => hG.c f d hf hd a b)
  simp only [kReady, Bool.and_eq_true, decide_eq_true_eq, Int.toNat_natCast] at hrd
  exact hrd.1
