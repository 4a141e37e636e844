/-! SPEC, further: what stays, a sign that is put, kinds, what the public methods answer -/
theorem kFind_fr {r : Nat} {fr be : Int} {q : Nat} (h1 : q ≠ 12) (h2 : q ≠ 13) (h3 : q ≠ 20 + 6 * r) : ∀ (n : Nat) (k b : Int) (τ : Zt), (kFind r fr be n k b τ).2 q = τ q := by
  intro n
  induction n with
  | zero => intro k b τ; rfl
  | succ n ih =>
    intro k b τ
    rw [kFind]
    split
    · dsimp only; rw [zu_ne h2, zu_ne h1]; exact zu_ne h3
    · rw [ih, zu_ne h1]
theorem kFind_fr2 {r : Nat} {fr be : Int} {j : Nat} (h : j ≠ 3) : ∀ (n : Nat) (k b : Int) (τ : Zt), (kFind r fr be n k b τ).2 (20 + 6 * r) j = τ (20 + 6 * r) j := by
  intro n
  induction n with
  | zero => intro k b τ; rfl
  | succ n ih =>
    intro k b τ
    rw [kFind]
    split
    · dsimp only; rw [zu_ne (show 20 + 6 * r ≠ 13 by omega), zu_ne (show 20 + 6 * r ≠ 12 by omega)]; exact zu_nj h
    · rw [ih, zu_ne (show 20 + 6 * r ≠ 12 by omega)]
theorem kShift_fr {q : Nat} (h1 : q ≠ 14) (h2 : q ≠ 15) : ∀ (n : Nat) (i : Int) (τ : Zt), kShift n i τ q = τ q := by
  intro n
  induction n with
  | zero => intro i τ; rfl
  | succ n ih => intro i τ; rw [kShift, ih, zu_ne h2, zu_ne h1]
theorem kInsert_fr {σ : Zt} {fr be : Int} {q : Nat} (h0 : q ≠ 11) (h1 : q ≠ 14) (h2 : q ≠ 15) : kInsert σ fr be q = σ q := by
  unfold kInsert
  rw [zu_ne h0, zu_ne h2, zu_ne h1, kShift_fr h1 h2]
def kPutF (σ : Zt) (r : Nat) (q : Int) : Bool × Zt := kFind r (σ 1 10) (kBefore σ r q) 12 1 (kBehind σ r (kBefore σ r q)) σ
def kPutR (σ : Zt) (r : Nat) (q : Int) : Int := if kFull σ = true then -104 else if (kPutF σ r q).1 = true then σ 1 10 else -104
def kPutS (σ : Zt) (r : Nat) (q v : Int) : Zt := if kFull σ = true then σ else if (kPutF σ r q).1 = true then kPerform (kInsert (kPutF σ r q).2 (σ 1 10) (kBefore σ r q)) r 0 v (σ 1 10) (σ 1 10) else (kPutF σ r q).2
theorem kPutS_rg {σ : Zt} {r : Nat} {q v : Int} (h : rgS σ) (hr : r < 6) (v0 : 0 ≤ v) (v1 : v < 127) (tm : σ 1 9 ≤ σ 1 10) (pt : σ 11 4 ≤ σ 1 10) (dn : σ (21 + 6 * r) r ≤ σ 1 10) (tr : σ (20 + 6 * r) 4 ≤ σ 1 10) (bk : kBefore σ r q = -1 ∨ σ 15 (kBefore σ r q).toNat < σ 11 4) : rgS (kPutS σ r q v) := by
  have b := rgS_1_10 h
  unfold kPutS
  split
  · exact h
  · rename_i hf
    have hf := kFull_f (by simpa using hf)
    have e1 : ∀ j, (kPutF σ r q).2 1 j = σ 1 j := fun j => congrFun (kFind_fr (by omega) (by omega) (by omega) _ _ _ _) j
    have e2 : ∀ j, (kPutF σ r q).2 11 j = σ 11 j := fun j => congrFun (kFind_fr (by omega) (by omega) (by omega) _ _ _ _) j
    have e3 : ∀ j, (kPutF σ r q).2 15 j = σ 15 j := fun j => congrFun (kFind_fr (by omega) (by omega) (by omega) _ _ _ _) j
    have e4 : ∀ j, (kPutF σ r q).2 (21 + 6 * r) j = σ (21 + 6 * r) j := fun j => congrFun (kFind_fr (by omega) (by omega) (by omega) _ _ _ _) j
    have e5 : (kPutF σ r q).2 (20 + 6 * r) 4 = σ (20 + 6 * r) 4 := kFind_fr2 (by omega) _ _ _ _
    have h1 : rgS (kPutF σ r q).2 := kFind_rg hr (by omega) (by omega) 12 1 _ _ (by omega) (by omega) h (by omega)
    split
    · have h2 := kInsert_rg (fr := σ 1 10) (be := kBefore σ r q) h1 (by omega) (by omega) (by rw [e2]; omega) (by rw [e2, e3]; exact bk)
      refine kPerform_rg h2 hr ?_ ?_ ?_ ?_ (by omega) (by omega) v0 v1 (by omega) (by omega) (by omega) (by omega)
      · rw [kInsert_fr (by omega) (by omega) (by omega), e1]; omega
      · rw [kInsert_fr (by omega) (by omega) (by omega), e1]; omega
      · rw [kInsert_fr (by omega) (by omega) (by omega), e4]; omega
      · rw [kInsert_fr (by omega) (by omega) (by omega), e5]; omega
    · exact h1
-- kinds
def kMarked (σ : Zt) (r : Nat) (z d : Int) : Bool := kDid σ r d && (decide (σ 15 (σ 7 d.toNat).toNat ≤ σ 15 z.toNat) && decide (σ 15 z.toNat ≤ σ 15 (σ 8 d.toNat).toNat))
/-- of the first n marks the latest of a kind that is over a sign -/
def kLm (σ : Zt) (r : Nat) (z : Int) : Nat → Nat → Int
  | 0, _ => -1
  | n + 1, k => if k = (σ 6 (σ 10 n).toNat % 8).toNat ∧ kMarked σ r z (σ 10 n) = true ∧ (kLm σ r z n k = -1 ∨ kLater σ (σ 10 n) (kLm σ r z n k) = true) then σ 10 n else kLm σ r z n k
def kBits (σ : Zt) (f : Nat → Int) : Nat → Int
  | 0 => 0
  | n + 1 => if f n ≠ -1 ∧ 8 ≤ σ 6 (f n).toNat then kBits σ f n + 2 ^ n else kBits σ f n
def kKinds (σ : Zt) (r : Nat) (z : Int) : Int := kBits σ (kLm σ r z (σ 1 9).toNat) 8
/-- the same but for the rows that are used again -/
def zq (σ τ : Zt) : Prop := rgS τ ∧ ∀ k, k < 20 ∨ k % 6 ≠ 1 → τ k = σ k
theorem zq_rf {σ : Zt} (h : rgS σ) : zq σ σ := ⟨h, fun _ _ => rfl⟩
theorem zq_tr {σ τ ρ : Zt} (h1 : zq σ τ) (h2 : zq τ ρ) : zq σ ρ := ⟨h2.1, fun k h => (h2.2 k h).trans (h1.2 k h)⟩
theorem zq_did {σ τ : Zt} (h : zq σ τ) {r : Nat} : kDid τ r = kDid σ r := by
  funext d
  unfold kDid
  rw [h.2 3 (by omega), h.2 2 (by omega), h.2 (21 + 6 * r) (by omega)]
theorem zq_later {σ τ : Zt} (h : zq σ τ) : kLater τ = kLater σ := by
  funext d f
  unfold kLater
  rw [h.2 4 (by omega), h.2 2 (by omega)]
theorem zq_alive {σ τ : Zt} (h : zq σ τ) {r : Nat} : kAlive τ r = kAlive σ r := by
  funext d
  unfold kAlive
  rw [zq_did h, h.2 5 (by omega), h.2 (23 + 6 * r) (by omega)]
theorem zq_marked {σ τ : Zt} (h : zq σ τ) {r : Nat} : kMarked τ r = kMarked σ r := by
  funext z d
  unfold kMarked
  rw [zq_did h, h.2 15 (by omega), h.2 7 (by omega), h.2 8 (by omega)]
theorem zq_lm {σ τ : Zt} (h : zq σ τ) {r : Nat} {z : Int} : ∀ n k, kLm τ r z n k = kLm σ r z n k := by
  intro n
  induction n with
  | zero => intro k; rfl
  | succ n ih => intro k; rw [kLm, kLm, ih, h.2 6 (by omega), h.2 10 (by omega), zq_marked h, zq_later h]
theorem zq_bits {σ τ : Zt} (h : zq σ τ) {f : Nat → Int} : ∀ n, kBits τ f n = kBits σ f n := by
  intro n
  induction n with
  | zero => rfl
  | succ n ih => rw [kBits, kBits, ih, h.2 6 (by omega)]
theorem kBits_congr {σ : Zt} {f g : Nat → Int} : ∀ n, (∀ j, j < n → f j = g j) → kBits σ f n = kBits σ g n := by
  intro n
  induction n with
  | zero => intro _; rfl
  | succ n ih => intro h; rw [kBits, kBits, ih (fun j hj => h j (by omega)), h n (by omega)]
theorem zq_kinds {σ τ : Zt} (h : zq σ τ) {r : Nat} : kKinds τ r = kKinds σ r := by
  funext z
  unfold kKinds
  rw [h.2 1 (by omega), zq_bits h]
  exact kBits_congr _ (fun j _ => zq_lm h _ _)
theorem pw_8 {i : Int} (h0 : 0 ≤ i) (h1 : i < 8) : 0 < (2 : Int) ^ i.toNat ∧ (2 : Int) ^ i.toNat ≤ 128 ∧ (2 : Int) ^ (i + 1).toNat = 2 * (2 : Int) ^ i.toNat := by
  have h : i = 0 ∨ i = 1 ∨ i = 2 ∨ i = 3 ∨ i = 4 ∨ i = 5 ∨ i = 6 ∨ i = 7 := by omega
  rcases h with h | h | h | h | h | h | h | h <;> subst h <;> decide
theorem kBits_rg {σ : Zt} {f : Nat → Int} : ∀ n, 0 ≤ kBits σ f n ∧ kBits σ f n < 2 ^ n := by
  intro n
  induction n with
  | zero => simp [kBits]
  | succ n ih =>
    rw [kBits, Int.pow_succ]
    split <;> omega
theorem kKinds_rg (σ : Zt) (r : Nat) (z : Int) : 0 ≤ kKinds σ r z ∧ kKinds σ r z < 256 := by
  have := kBits_rg (σ := σ) (f := kLm σ r z (σ 1 9).toNat) 8
  unfold kKinds
  omega
theorem kBits_step {σ : Zt} {f : Nat → Int} {i : Int} (h0 : 0 ≤ i) : kBits σ f (i + 1).toNat = if f i.toNat ≠ -1 ∧ 8 ≤ σ 6 (f i.toNat).toNat then kBits σ f i.toNat + 2 ^ i.toNat else kBits σ f i.toNat := by
  rw [show (i + 1).toNat = i.toNat + 1 by omega, kBits]
theorem kLm_step {σ : Zt} {r : Nat} {z i : Int} {k : Nat} (h0 : 0 ≤ i) : kLm σ r z (i + 1).toNat k = if k = (σ 6 (σ 10 i.toNat).toNat % 8).toNat ∧ kMarked σ r z (σ 10 i.toNat) = true ∧ (kLm σ r z i.toNat k = -1 ∨ kLater σ (σ 10 i.toNat) (kLm σ r z i.toNat k) = true) then σ 10 i.toNat else kLm σ r z i.toNat k := by
  rw [show (i + 1).toNat = i.toNat + 1 by omega, kLm]
theorem zq_zu {σ τ : Zt} {r i : Nat} {v : Int} (h : zq σ τ) (hR : rgS (zu τ (25 + 6 * r) i v)) : zq σ (zu τ (25 + 6 * r) i v) :=
  ⟨hR, fun k hk => (zu_ne (by omega)).trans (h.2 k hk)⟩
theorem lm_init {τ : Zt} {r : Nat} {i : Int} (i0 : 0 ≤ i) (hL : ∀ k : Nat, k < i.toNat → τ (25 + 6 * r) k = -1) : ∀ k : Nat, k < (i + 1).toNat → zu τ (25 + 6 * r) i.toNat (-1) (25 + 6 * r) k = -1 := by
  intro k hk
  by_cases h : k = i.toNat
  · rw [h, zu_same]
  · rw [zu_nj h]; exact hL k (by omega)
theorem lm_keep {σ τ : Zt} {r : Nat} {z i : Int} (i0 : 0 ≤ i) (hz : zq σ τ) (hL : ∀ k : Nat, k < 8 → τ (25 + 6 * r) k = kLm σ r z i.toNat k)
    (h : ¬ (kMarked τ r z (τ 10 i.toNat) = true ∧ (τ (25 + 6 * r) (τ 6 (τ 10 i.toNat).toNat % 8).toNat = -1 ∨ kLater τ (τ 10 i.toNat) (τ (25 + 6 * r) (τ 6 (τ 10 i.toNat).toNat % 8).toNat) = true))) : ∀ k : Nat, k < 8 → τ (25 + 6 * r) k = kLm σ r z (i + 1).toNat k := by
  intro k hk
  rw [zq_marked hz, zq_later hz, hz.2 10 (by omega), hz.2 6 (by omega)] at h
  rw [kLm_step i0, if_neg, hL k hk]
  rintro ⟨e, h1, h2⟩
  rw [← e, hL k hk] at h
  exact h ⟨h1, h2⟩
theorem lm_put {σ τ : Zt} {r : Nat} {z i : Int} (i0 : 0 ≤ i) (hz : zq σ τ) (hL : ∀ k : Nat, k < 8 → τ (25 + 6 * r) k = kLm σ r z i.toNat k)
    (h1 : kMarked τ r z (τ 10 i.toNat) = true) (h2 : τ (25 + 6 * r) (τ 6 (τ 10 i.toNat).toNat % 8).toNat = -1 ∨ kLater τ (τ 10 i.toNat) (τ (25 + 6 * r) (τ 6 (τ 10 i.toNat).toNat % 8).toNat) = true) : ∀ k : Nat, k < 8 → zu τ (25 + 6 * r) (τ 6 (τ 10 i.toNat).toNat % 8).toNat (τ 10 i.toNat) (25 + 6 * r) k = kLm σ r z (i + 1).toNat k := by
  intro k hk
  rw [zq_marked hz, hz.2 10 (by omega)] at h1
  rw [zq_later hz, hz.2 10 (by omega), hz.2 6 (by omega)] at h2
  rw [hz.2 10 (by omega), hz.2 6 (by omega), kLm_step i0]
  by_cases e : k = (σ 6 (σ 10 i.toNat).toNat % 8).toNat
  · rw [if_pos ⟨e, h1, by rw [← hL k hk, e]; exact h2⟩, e, zu_same]
  · rw [zu_nj e, if_neg (fun q => e q.1), hL k hk]
def kAlike (σ : Zt) (r t : Nat) (z : Int) : Bool := decide (kAlive σ r z = kAlive σ t z) && (!kAlive σ r z || decide (kKinds σ r z = kKinds σ t z))
theorem bI_inj {a b : Bool} : bI a = bI b ↔ a = b := by cases a <;> cases b <;> decide
theorem kAlike_ne {σ : Zt} {r t : Nat} {z : Int} (h : bI (kAlive σ r z) ≠ bI (kAlive σ t z)) : false = kAlike σ r t z := by
  unfold kAlike
  rw [decide_eq_false (fun q => h (bI_inj.mpr q)), Bool.false_and]
theorem kAlike_dead {σ : Zt} {r t : Nat} {z : Int} (h : bI (kAlive σ r z) = bI (kAlive σ t z)) (h1 : kAlive σ r z = false) : true = kAlike σ r t z := by
  unfold kAlike
  rw [decide_eq_true (bI_inj.mp h), h1]
  rfl
theorem kAlike_same {σ : Zt} {r t : Nat} {z : Int} (h : bI (kAlive σ r z) = bI (kAlive σ t z)) (h1 : kAlive σ r z = true) (h2 : kKinds σ r z = kKinds σ t z) : true = kAlike σ r t z := by
  unfold kAlike
  rw [decide_eq_true (bI_inj.mp h), h1, decide_eq_true h2]
  rfl
theorem kAlike_diff {σ : Zt} {r t : Nat} {z : Int} (h : bI (kAlive σ r z) = bI (kAlive σ t z)) (h1 : kAlive σ r z = true) (h2 : kKinds σ r z ≠ kKinds σ t z) : false = kAlike σ r t z := by
  unfold kAlike
  rw [decide_eq_true (bI_inj.mp h), h1, decide_eq_false h2]
  rfl
