/-! FOR THE REFERENCE'S PUBLIC METHODS -/
theorem kAt_cnt {κ : Zt} (h : rgS κ) (r : Nat) : ∀ (n i : Nat) (q : Int), kAt κ r n i q = -1 ↔ q < 0 ∨ kCnt κ r (i + n) - kCnt κ r i ≤ q := by
  intro n
  induction n with
  | zero => intro i q; simp [kAt]; omega
  | succ n ih =>
    intro i q
    have b := rgS_14 h i
    have c := kCnt_rg κ r
    have e : kCnt κ r (i + 1) = kCnt κ r i + bI (kAlive κ r (κ 14 i)) := by rw [kCnt]
    have mono : ∀ m k, kCnt κ r k ≤ kCnt κ r (k + m) := fun m k => by
      induction m with
      | zero => simp
      | succ m im => rw [← Nat.add_assoc, kCnt]; have := bI_01 (kAlive κ r (κ 14 (k + m : Nat))); omega
    have mo := mono n (i + 1)
    rw [show i + (n + 1) = i + 1 + n by omega, kAt]
    split
    · simp; omega
    · split
      · rename_i ha
        rw [ha] at e
        have e1 : bI true = 1 := rfl
        rw [e1] at e
        split
        · rename_i q0
          subst q0
          constructor
          · intro x; omega
          · intro x; omega
        · rw [ih]
          omega
      · rename_i ha
        have e0 : bI (kAlive κ r (κ 14 i)) = 0 := by rw [show kAlive κ r (κ 14 i) = false by simpa using ha]; rfl
        rw [ih]
        omega
theorem kSignAt_len {κ : Zt} (h : rgS κ) (r : Nat) (q : Int) : kSignAt κ r q = -1 ↔ q < 0 ∨ kLen κ r ≤ q := by
  unfold kSignAt kLen
  rw [kAt_cnt h]
  simp [kCnt]
/-- the living sign that sign, path and kinds ask for -/
def kOf (κ : Zt) (x q : Int) : Int := if kIsR x = true then kSignAt κ x.toNat q else -1
theorem kOf_rg {κ : Zt} (h : rgS κ) (x q : Int) : -1 ≤ kOf κ x q ∧ kOf κ x q < 400 := by
  unfold kOf
  split
  · exact kSignAt_rg h _ _
  · omega
theorem kOf_ok {κ : Zt} (h : kMid κ) (x q : Int) : kOf κ x q = -1 ∨ (0 ≤ kOf κ x q ∧ kOf κ x q < κ 1 10 ∧ κ 5 (kOf κ x q).toNat = 0 ∧ kIsR x = true) := by
  unfold kOf
  split
  · rename_i e
    rcases kSignAt_ok h x.toNat q with a | ⟨a, b, c, _⟩
    · exact Or.inl a
    · exact Or.inr ⟨a, b, c, e⟩
  · exact Or.inl rfl
theorem RR_22I {κ μ : Zt} (h : RR κ μ) {x k v : Int} (x0 : 0 ≤ x) (x1 : x < 6) (k0 : 0 ≤ k) (k1 : k < 4) : RR (zu κ (24 + 6 * x.toNat) k.toNat v) (zu μ 22 (4 * x + k).toNat v) := by
  rw [show (4 * x + k).toNat = 4 * x.toNat + k.toNat by omega]
  exact RR_22 h (by omega) (by omega)
theorem kSum_more {f : Nat → Int} {n : Nat} : ∀ m, (∀ j, n ≤ j → f j = 0) → kSum f (n + m) = kSum f n := by
  intro m h
  induction m with
  | zero => rfl
  | succ m ih => rw [← Nat.add_assoc, kSum, ih, h (n + m) (by omega)]; omega
theorem kWait_sum {κ : Zt} (h : kMid κ) {r : Nat} (hr : r < 6) : κ (20 + 6 * r) 6 = kSum (κ (22 + 6 * r)) (κ 1 10).toNat := by
  have b := rgS_1_10 h.1
  rw [(h.f r hr).2, show 400 = (κ 1 10).toNat + (400 - (κ 1 10).toNat) by omega]
  refine kSum_more _ (fun j hj => ?_)
  by_cases e : κ (22 + 6 * r) j = 0
  · exact e
  · have := ((h.f r hr).1 j e).1
    omega
def mAb (κ : Zt) (r : Nat) (w : Int) (d : Nat) : Int := if w = 1 then κ (22 + 6 * r) d else bI (decide (κ 5 d = 0) && kDid κ r d)
theorem mAb_1 {κ : Zt} (h : kMid κ) {r : Nat} (hr : r < 6) : κ (20 + 6 * r) 6 = kSum (mAb κ r 1) (κ 1 10).toNat := by
  rw [kWait_sum h hr]
  exact kSum_congr _ (fun j _ => by unfold mAb; rw [if_pos rfl])
theorem mAb_3 {κ : Zt} (h : kMid κ) {r : Nat} (hr : r < 6) : κ (20 + 6 * r) 5 = kSum (mAb κ r 3) (κ 1 10).toNat := by
  rw [h.j r hr]
  exact kSum_congr _ (fun j _ => by unfold mAb; rw [if_neg (by omega)])
theorem kComS_fr {κ : Zt} {r : Nat} {d : Int} {q : Nat} (h : q < 20) : kComS κ r d q = κ q := by
  unfold kComS
  split
  · rfl
  · split
    · exact kDo_lo h
    · exact kWt_fr (by omega) (by omega)
theorem kUn_make {d q n : Int} (d0 : 0 ≤ d) (q0 : 0 ≤ q) (q1 : q < 8) (n0 : 0 ≤ n) (n1 : n < 512) : kDigit (kMake d q n) = d ∧ kSite (kMake d q n) = q ∧ kCount (kMake d q n) = n := by
  unfold kDigit kSite kCount kMake
  omega
theorem rr_lev3 {κ μ : Zt} (h : RR κ μ) (hR : rgM μ) {d k : Int} (d0 : 0 ≤ d) (d1 : d < 400) (k0 : 1 ≤ k) (k1 : k ≤ 12) : kDigit (kLevel κ d k) = μ 11 (12 * d + k - 1).toNat ∧ kSite (kLevel κ d k) = μ 12 (12 * d + k - 1).toNat ∧ kCount (kLevel κ d k) = μ 13 (12 * d + k - 1).toNat := by
  have b1 := rgM_11 hR (12 * d + k - 1).toNat
  have b2 := rgM_12 hR (12 * d + k - 1).toNat
  have b3 := rgM_13 hR (12 * d + k - 1).toNat
  rw [rr_lev h d0 d1 k0 k1]
  exact kUn_make (by omega) (by omega) (by omega) (by omega) (by omega)
def kSigR (κ : Zt) (x q : Int) : Int := if kOf κ x q = -1 then 0 else κ 6 (kOf κ x q).toNat
def kKinR (κ : Zt) (x q : Int) : Int := if kOf κ x q = -1 then 0 else kKinds κ x.toNat (kOf κ x q)
/-- path throws -/
def kPatT (κ : Zt) (x q k w : Int) : Bool := decide (kOf κ x q = -1) || (!mIn w 0 3 || (decide (0 < w) && !mIn k 1 (κ 13 (kOf κ x q).toNat)))
def kPatR (κ : Zt) (x q k w : Int) : Int := if kPatT κ x q k w = true then 0 else if w = 0 then κ 13 (kOf κ x q).toNat else if w = 1 then kDigit (kLevel κ (kOf κ x q) k) else if w = 2 then kSite (kLevel κ (kOf κ x q) k) else kCount (kLevel κ (kOf κ x q) k)
theorem kAbo_sum {κ : Zt} (h : kMid κ) {x y w : Int} (xR : kIsR x = true) (hw : w = 1 ∨ w = 3) : kAboR κ x y w = kSum (mAb κ x.toNat w) (κ 1 10).toNat := by
  have b := kIsR_t xR
  unfold kAboR
  rw [if_pos xR]
  rcases hw with e | e
  · subst e; rw [if_neg (by omega), if_pos rfl]; exact mAb_1 h (by omega)
  · subst e; rw [if_neg (by omega), if_neg (by omega), if_neg (by omega), if_pos rfl]; exact mAb_3 h (by omega)
