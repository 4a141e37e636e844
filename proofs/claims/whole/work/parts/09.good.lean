/-! WHAT HOLDS of the class's numbers between calls, and how the reference's numbers go with them -/
def gA (κ : Zt) : Prop := (∀ r q : Nat, r < 6 → q < 6 → κ (21 + 6 * r) q ≤ κ (21 + 6 * q) q) ∧ ∀ r : Nat, r < 6 → κ (21 + 6 * r) r ≤ κ 1 10 ∧ κ (20 + 6 * r) 4 ≤ κ 1 10
def gB (κ : Zt) : Prop := ∀ d : Nat, (d : Int) < κ 1 10 → 1 ≤ κ 3 d ∧ κ 3 d ≤ κ (21 + 6 * (κ 2 d).toNat) (κ 2 d).toNat ∧ κ 4 d ≤ κ 1 10 ∧ 1 ≤ κ 4 d
def gC (κ : Zt) : Prop := ∀ d f : Nat, (d : Int) < κ 1 10 → (f : Int) < κ 1 10 → κ 2 d = κ 2 f → κ 3 d = κ 3 f → d = f
def gD (κ : Zt) : Prop := ∀ d : Nat, (d : Int) < κ 1 10 → κ 7 d ≤ d ∧ κ 8 d ≤ d ∧ κ 5 (κ 7 d).toNat = 0 ∧ κ 5 (κ 8 d).toNat = 0 ∧ (κ 5 d ≠ 3 → κ 8 d = κ 7 d) ∧ (κ 5 d = 0 → κ 7 d = d)
def gE (κ : Zt) : Prop := κ 11 4 ≤ κ 1 10 ∧ (∀ i : Nat, (i : Int) < κ 11 4 → κ 14 i < κ 1 10 ∧ κ 5 (κ 14 i).toNat = 0 ∧ κ 15 (κ 14 i).toNat = i) ∧ ∀ d : Nat, (d : Int) < κ 1 10 → κ 5 d = 0 → κ 15 d < κ 11 4 ∧ κ 14 (κ 15 d).toNat = d
def gF (κ : Zt) : Prop := ∀ r : Nat, r < 6 → (∀ d : Nat, κ (22 + 6 * r) d ≠ 0 → (d : Int) < κ 1 10 ∧ κ 2 d ≠ r ∧ kDid κ r d = false) ∧ κ (20 + 6 * r) 6 = kSum (κ (22 + 6 * r)) 400
def gR (κ : Zt) (r : Nat) : Prop := ∀ d : Nat, κ (22 + 6 * r) d ≠ 0 → kReady κ r d = false
def gG (κ : Zt) : Prop := κ 1 9 ≤ κ 1 10 ∧ (∀ i : Nat, (i : Int) < κ 1 9 → κ 10 i < κ 1 10 ∧ κ 5 (κ 10 i).toNat = 3) ∧ (∀ i j : Nat, i < j → (j : Int) < κ 1 9 → κ 10 i < κ 10 j) ∧ ∀ d : Nat, (d : Int) < κ 1 10 → κ 5 d = 3 → ∃ i : Nat, (i : Int) < κ 1 9 ∧ κ 10 i = d
def gH (κ : Zt) : Prop := ∀ i : Nat, (i : Int) < κ 16 2 → κ 17 i < κ 1 10
/-- a path: its levels are there, the last one is its own -/
def gI (κ : Zt) : Prop := (∀ d : Nat, (d : Int) < κ 1 10 → κ 5 d = 0 → 1 ≤ κ 13 d ∧ (∀ k : Int, 1 ≤ k → k ≤ κ 13 d → 1 ≤ kCount (kLevel κ d k)) ∧ 1 ≤ kDigit (kLevel κ d (κ 13 d)) ∧ kSite (kLevel κ d (κ 13 d)) = κ 2 d ∧ kCount (kLevel κ d (κ 13 d)) = κ 3 d) ∧
  (∀ d : Nat, κ 1 10 ≤ d → κ 13 d = 0) ∧ ∀ i j : Nat, i < j → (j : Int) < κ 11 4 → kIsBe κ (κ 14 i) (κ 14 j) 12 1 = true
def gJ (κ : Zt) : Prop := ∀ r : Nat, r < 6 → κ (20 + 6 * r) 5 = kSum (fun d => bI (decide (κ 5 d = 0) && kDid κ r d)) (κ 1 10).toNat
def gK (κ : Zt) : Prop := ∀ r : Nat, r < 6 → ∀ k : Nat, k < 4 → κ (24 + 6 * r) k = -1 ∨ (0 ≤ κ (24 + 6 * r) k ∧ κ (24 + 6 * r) k < κ 1 10 ∧ κ 5 (κ (24 + 6 * r) k).toNat = 0)
def gL (κ : Zt) : Prop := ∀ r : Nat, r < 6 → ∀ d : Nat, κ (23 + 6 * r) d < κ 1 10 ∨ κ (23 + 6 * r) d = -1
/-- all but that nothing waits that can be done -/
def kMid (κ : Zt) : Prop := rgS κ ∧ gA κ ∧ gB κ ∧ gC κ ∧ gD κ ∧ gE κ ∧ gF κ ∧ gG κ ∧ gH κ ∧ gI κ ∧ gJ κ ∧ gK κ ∧ gL κ
def kGood (κ : Zt) : Prop := kMid κ ∧ ∀ r : Nat, r < 6 → gR κ r
theorem kMid.rg {κ : Zt} (h : kMid κ) : rgS κ := h.1
theorem kMid.a {κ : Zt} (h : kMid κ) : gA κ := h.2.1
theorem kMid.b {κ : Zt} (h : kMid κ) : gB κ := h.2.2.1
theorem kMid.c {κ : Zt} (h : kMid κ) : gC κ := h.2.2.2.1
theorem kMid.d {κ : Zt} (h : kMid κ) : gD κ := h.2.2.2.2.1
theorem kMid.e {κ : Zt} (h : kMid κ) : gE κ := h.2.2.2.2.2.1
theorem kMid.f {κ : Zt} (h : kMid κ) : gF κ := h.2.2.2.2.2.2.1
theorem kMid.g {κ : Zt} (h : kMid κ) : gG κ := h.2.2.2.2.2.2.2.1
theorem kMid.h {κ : Zt} (h : kMid κ) : gH κ := h.2.2.2.2.2.2.2.2.1
theorem kMid.i {κ : Zt} (h : kMid κ) : gI κ := h.2.2.2.2.2.2.2.2.2.1
theorem kMid.j {κ : Zt} (h : kMid κ) : gJ κ := h.2.2.2.2.2.2.2.2.2.2.1
theorem kMid.k {κ : Zt} (h : kMid κ) : gK κ := h.2.2.2.2.2.2.2.2.2.2.2.1
theorem kMid.l {κ : Zt} (h : kMid κ) : gL κ := h.2.2.2.2.2.2.2.2.2.2.2.2
theorem kSum_le {f : Nat → Int} : ∀ n, (∀ j, 0 ≤ f j ∧ f j ≤ 1) → 0 ≤ kSum f n ∧ kSum f n ≤ n := by
  intro n h
  induction n with
  | zero => simp [kSum]
  | succ n ih => have := h n; rw [kSum]; omega
theorem kSum_lt {f : Nat → Int} : ∀ n, (∀ j, 0 ≤ f j ∧ f j ≤ 1) → ∀ k, k < n → f k = 0 → kSum f n < n := by
  intro n h
  induction n with
  | zero => intro k hk; omega
  | succ n ih =>
    intro k hk h0
    rw [kSum]
    have hn := h n
    by_cases e : k = n
    · subst e; have := kSum_le k h; omega
    · have := ih k (by omega) h0; omega
theorem kGood_pre {κ : Zt} (h : kMid κ) : kPre κ := by
  refine ⟨h.g.1, h.e.1, fun r hr => h.a.2 r hr, fun i hi => ?_, fun r hr d d0 d1 _ hw => ?_, h.h⟩
  · rw [(h.e.2.1 i hi).2.2]; exact hi
  · have b := rgS_1_10 h.rg
    rw [(h.f r hr).2]
    exact kSum_lt 400 (fun j => by have := rgS_22 h.rg hr j; omega) d.toNat (by omega) hw
/-- the reference's numbers: 0 itself; whose 1 number 2 time 3 sort 4 told 5 one 6 two 7 undone 8 undoes 9 levels 10 digits 11 sites 12 counts 13 sorted 14 rank 15 done 16 waits 17 latest 18 doneOf 19 greatest 20 streams 21 cursors 22 wayDeed 23 wayTo 24 digit 25 site 26 count 27 -/
def RR (κ μ : Zt) : Prop :=
  (μ 0 1 = κ 1 10 ∧ μ 0 15 = κ 11 4 ∧ μ 0 25 = κ 16 2 ∧ μ 0 28 = κ 16 3) ∧
  (μ 1 = κ 2 ∧ μ 2 = κ 3 ∧ μ 3 = κ 4 ∧ μ 4 = κ 5 ∧ μ 5 = κ 6 ∧ μ 6 = κ 7 ∧ μ 10 = κ 13 ∧ μ 14 = κ 14 ∧ μ 15 = κ 15 ∧ μ 23 = κ 17 ∧ μ 24 = κ 18) ∧
  (∀ d : Nat, κ 5 d = 3 → μ 7 d = κ 8 d) ∧
  (∀ d : Nat, (d : Int) < κ 1 10 → (κ 9 d ≠ 0 ↔ (κ 5 d = 0 ∨ κ 5 d = 1) ∧ μ 8 d = 0 ∧ μ 9 d = 0)) ∧
  ((∀ d k : Nat, d < 400 → k < 12 → (if (k : Int) < κ 13 d then κ 12 (d * 12 + k) else 0) = kMake (μ 11 (d * 12 + k)) (μ 12 (d * 12 + k)) (μ 13 (d * 12 + k))) ∧
   ∀ r d : Nat, r < 6 → κ 1 10 ≤ d → d < 400 → μ 16 (400 * r + d) = 0) ∧
  (∀ r : Nat, r < 6 → (∀ d : Nat, (d : Int) < κ 1 10 → μ 16 (400 * r + d) = bI (kDid κ r d)) ∧ (∀ d : Nat, d < 400 → μ 17 (400 * r + d) = κ (22 + 6 * r) d ∧ μ 18 (400 * r + d) = κ (23 + 6 * r) d) ∧
    (∀ q : Nat, q < 6 → μ 19 (6 * r + q) = κ (21 + 6 * r) q) ∧ μ 20 r = κ (20 + 6 * r) 4 ∧ μ 21 r = κ (20 + 6 * r) 3 ∧ ∀ k : Nat, k < 4 → μ 22 (4 * r + k) = κ (24 + 6 * r) k)
section RRS
variable {κ μ : Zt}
theorem rr_0_1 (h : RR κ μ) : μ 0 1 = κ 1 10 := h.1.1
theorem rr_0_15 (h : RR κ μ) : μ 0 15 = κ 11 4 := h.1.2.1
theorem rr_0_25 (h : RR κ μ) : μ 0 25 = κ 16 2 := h.1.2.2.1
theorem rr_0_28 (h : RR κ μ) : μ 0 28 = κ 16 3 := h.1.2.2.2
theorem rr_1 (h : RR κ μ) : μ 1 = κ 2 := h.2.1.1
theorem rr_2 (h : RR κ μ) : μ 2 = κ 3 := h.2.1.2.1
theorem rr_3 (h : RR κ μ) : μ 3 = κ 4 := h.2.1.2.2.1
theorem rr_4 (h : RR κ μ) : μ 4 = κ 5 := h.2.1.2.2.2.1
theorem rr_5 (h : RR κ μ) : μ 5 = κ 6 := h.2.1.2.2.2.2.1
theorem rr_6 (h : RR κ μ) : μ 6 = κ 7 := h.2.1.2.2.2.2.2.1
theorem rr_10 (h : RR κ μ) : μ 10 = κ 13 := h.2.1.2.2.2.2.2.2.1
theorem rr_14 (h : RR κ μ) : μ 14 = κ 14 := h.2.1.2.2.2.2.2.2.2.1
theorem rr_15 (h : RR κ μ) : μ 15 = κ 15 := h.2.1.2.2.2.2.2.2.2.2.1
theorem rr_23 (h : RR κ μ) : μ 23 = κ 17 := h.2.1.2.2.2.2.2.2.2.2.2.1
theorem rr_24 (h : RR κ μ) : μ 24 = κ 18 := h.2.1.2.2.2.2.2.2.2.2.2.2
theorem rr_16 (h : RR κ μ) {x d : Int} (x0 : 0 ≤ x) (x1 : x < 6) (d0 : 0 ≤ d) (d1 : d < κ 1 10) : μ 16 (400 * x + d).toNat = bI (kDid κ x.toNat d) := by
  rw [show (400 * x + d).toNat = 400 * x.toNat + d.toNat by omega, (h.2.2.2.2.2 x.toNat (by omega)).1 d.toNat (by omega), Int.toNat_of_nonneg d0]
theorem rr_17 (h : RR κ μ) {x d : Int} (x0 : 0 ≤ x) (x1 : x < 6) (d0 : 0 ≤ d) (d1 : d < 400) : μ 17 (400 * x + d).toNat = κ (22 + 6 * x.toNat) d.toNat := by
  rw [show (400 * x + d).toNat = 400 * x.toNat + d.toNat by omega]
  exact ((h.2.2.2.2.2 x.toNat (by omega)).2.1 d.toNat (by omega)).1
theorem rr_18 (h : RR κ μ) {x d : Int} (x0 : 0 ≤ x) (x1 : x < 6) (d0 : 0 ≤ d) (d1 : d < 400) : μ 18 (400 * x + d).toNat = κ (23 + 6 * x.toNat) d.toNat := by
  rw [show (400 * x + d).toNat = 400 * x.toNat + d.toNat by omega]
  exact ((h.2.2.2.2.2 x.toNat (by omega)).2.1 d.toNat (by omega)).2
theorem rr_19 (h : RR κ μ) {x d : Int} (x0 : 0 ≤ x) (x1 : x < 6) (d0 : 0 ≤ d) (d1 : d < 6) : μ 19 (6 * x + d).toNat = κ (21 + 6 * x.toNat) d.toNat := by
  rw [show (6 * x + d).toNat = 6 * x.toNat + d.toNat by omega]
  exact (h.2.2.2.2.2 x.toNat (by omega)).2.2.1 d.toNat (by omega)
theorem rr_20 (h : RR κ μ) {x : Int} (x0 : 0 ≤ x) (x1 : x < 6) : μ 20 x.toNat = κ (20 + 6 * x.toNat) 4 := (h.2.2.2.2.2 x.toNat (by omega)).2.2.2.1
theorem rr_21 (h : RR κ μ) {x : Int} (x0 : 0 ≤ x) (x1 : x < 6) : μ 21 x.toNat = κ (20 + 6 * x.toNat) 3 := (h.2.2.2.2.2 x.toNat (by omega)).2.2.2.2.1
theorem rr_22 (h : RR κ μ) {x d : Int} (x0 : 0 ≤ x) (x1 : x < 6) (d0 : 0 ≤ d) (d1 : d < 4) : μ 22 (4 * x + d).toNat = κ (24 + 6 * x.toNat) d.toNat := by
  rw [show (4 * x + d).toNat = 4 * x.toNat + d.toNat by omega]
  exact (h.2.2.2.2.2 x.toNat (by omega)).2.2.2.2.2 d.toNat (by omega)
theorem rr_lev (h : RR κ μ) {d k : Int} (d0 : 0 ≤ d) (d1 : d < 400) (k0 : 1 ≤ k) (k1 : k ≤ 12) : kLevel κ d k = kMake (μ 11 (12 * d + k - 1).toNat) (μ 12 (12 * d + k - 1).toNat) (μ 13 (12 * d + k - 1).toNat) := by
  have q := h.2.2.2.2.1.1 d.toNat (k - 1).toNat (by omega) (by omega)
  rw [show (12 * d + k - 1).toNat = d.toNat * 12 + (k - 1).toNat by omega, ← q]
  unfold kLevel
  by_cases e : κ 13 d.toNat < k
  · rw [if_pos (Or.inr e), if_neg (by omega)]
  · rw [if_neg (by omega), if_pos (by omega), show (d * 12 + k - 1).toNat = d.toNat * 12 + (k - 1).toNat by omega]
end RRS
