/-! SPEC, the public methods -/
/-- what a method's steps need of the numbers -/
def kPre (σ : Zt) : Prop := σ 1 9 ≤ σ 1 10 ∧ σ 11 4 ≤ σ 1 10 ∧ (∀ r : Nat, r < 6 → σ (21 + 6 * r) r ≤ σ 1 10 ∧ σ (20 + 6 * r) 4 ≤ σ 1 10) ∧ (∀ i : Nat, (i : Int) < σ 11 4 → σ 15 (σ 14 i).toNat < σ 11 4) ∧
  (∀ r : Nat, r < 6 → ∀ d : Int, 0 ≤ d → d < σ 1 10 → kDid σ r d = false → σ (22 + 6 * r) d.toNat = 0 → σ (20 + 6 * r) 6 < 400) ∧ ∀ i : Nat, (i : Int) < σ 16 2 → σ 17 i < σ 1 10
theorem kAt_is {σ : Zt} {r : Nat} : ∀ (n i : Nat) (q : Int), kAt σ r n i q = -1 ∨ ∃ j : Nat, i ≤ j ∧ j < i + n ∧ kAt σ r n i q = σ 14 j ∧ kAlive σ r (σ 14 j) = true := by
  intro n
  induction n with
  | zero => intro i q; exact Or.inl rfl
  | succ n ih =>
    intro i q
    rw [kAt]
    split
    · exact Or.inl rfl
    · split
      · rename_i ha
        split
        · exact Or.inr ⟨i, by omega, by omega, rfl, ha⟩
        · rcases ih (i + 1) (q - 1) with h | ⟨j, h1, h2, h3, h4⟩
          · exact Or.inl h
          · exact Or.inr ⟨j, by omega, by omega, h3, h4⟩
      · rcases ih (i + 1) q with h | ⟨j, h1, h2, h3, h4⟩
        · exact Or.inl h
        · exact Or.inr ⟨j, by omega, by omega, h3, h4⟩
theorem kSignAt_is {σ : Zt} (h : rgS σ) (r : Nat) (q : Int) : kSignAt σ r q = -1 ∨ ∃ j : Nat, (j : Int) < σ 11 4 ∧ kSignAt σ r q = σ 14 j ∧ kAlive σ r (σ 14 j) = true := by
  have b := rgS_11_4 h
  rcases kAt_is (σ := σ) (r := r) (σ 11 4).toNat 0 q with h1 | ⟨j, h1, h2, h3, h4⟩
  · exact Or.inl h1
  · exact Or.inr ⟨j, by omega, h3, h4⟩
theorem kSignAt_bk {σ : Zt} (h : rgS σ) (hp : kPre σ) (r : Nat) (q : Int) : kSignAt σ r q = -1 ∨ σ 15 (kSignAt σ r q).toNat < σ 11 4 := by
  rcases kSignAt_is h r q with h1 | ⟨j, h1, h2, -⟩
  · exact Or.inl h1
  · exact Or.inr (by rw [h2]; exact hp.2.2.2.1 j h1)
theorem kBefore_bk {σ : Zt} (h : rgS σ) (hp : kPre σ) (r : Nat) (q : Int) : kBefore σ r q = -1 ∨ σ 15 (kBefore σ r q).toNat < σ 11 4 := by
  unfold kBefore
  split
  · exact Or.inl rfl
  · exact kSignAt_bk h hp r _
def kStrR (σ : Zt) (x : Int) : Int := if kIsR x = true then σ (20 + 6 * x.toNat) 3 else -101
def kStrS (σ : Zt) (x v : Int) : Zt := if kIsR x = true then zu σ (20 + 6 * x.toNat) 3 v else σ
def kTypR (σ : Zt) (x q v : Int) : Int := if kIsR x = true then (if kGap σ x.toNat q = true then (if kIsB v = true then kPutR σ x.toNat q else -102) else -102) else -101
def kTypS (σ : Zt) (x q v : Int) : Zt := if kIsR x = true then (if kGap σ x.toNat q = true then (if kIsB v = true then kPutS σ x.toNat q v else σ) else σ) else σ
def kEraR (σ : Zt) (x q : Int) : Int := if kIsR x = true then (if kSignAt σ x.toNat q = -1 then -102 else if kFull σ = true then -104 else σ 1 10) else -101
def kEraS (σ : Zt) (x q : Int) : Zt := if kIsR x = true then (if kSignAt σ x.toNat q = -1 then σ else if kFull σ = true then σ else kPerform σ x.toNat 1 0 (kSignAt σ x.toNat q) (kSignAt σ x.toNat q)) else σ
def kULast (σ : Zt) (x : Int) : Int := kLast σ x (σ 1 10).toNat
def kUndR (σ : Zt) (x : Int) : Int := if kIsR x = true then (if kULast σ x = -1 then -103 else if kFull σ = true then -104 else σ 1 10) else -101
def kUndS (σ : Zt) (x : Int) : Zt := if kIsR x = true then (if kULast σ x = -1 then σ else if kFull σ = true then σ else
  zu (zu (kPerform σ x.toNat (if σ 5 (kULast σ x).toNat = 0 then 1 else 2) 0 (σ 7 (kULast σ x).toNat) (σ 7 (kULast σ x).toNat)) 9 (kULast σ x).toNat 0) 9 (σ 1 10).toNat 0) else σ
def kMarB (σ : Zt) (x f t k : Int) : Bool := decide (kSignAt σ x.toNat f ≠ -1) && (decide (kSignAt σ x.toNat t ≠ -1) && (decide (f ≤ t) && (decide (0 ≤ k) && decide (k < 8))))
def kMarR (σ : Zt) (x f t k : Int) : Int := if kIsR x = true then (if kMarB σ x f t k = true then (if kFull σ = true then -104 else σ 1 10) else -102) else -101
def kMarS (σ : Zt) (x f t k : Int) (on : Bool) : Zt := if kIsR x = true then (if kMarB σ x f t k = true then (if kFull σ = true then σ else kPerform σ x.toNat 3 (if on = true then k + 8 else k) (kSignAt σ x.toNat f) (kSignAt σ x.toNat t)) else σ) else σ
theorem kDrop_fr {q : Nat} (h1 : q ≠ 17) (h2 : q ≠ 18) : ∀ (n j : Nat) (τ : Zt), kDrop n j τ q = τ q := by
  intro n
  induction n with
  | zero => intro j τ; rfl
  | succ n ih => intro j τ; rw [kDrop, ih, zu_ne h2, zu_ne h1]
theorem kDropS_fr {σ : Zt} {i : Int} {q : Nat} (h0 : q ≠ 16) (h1 : q ≠ 17) (h2 : q ≠ 18) : kDropS σ i q = σ q := by
  unfold kDropS
  rw [kDrop_fr h1 h2, zu_ne h0]
theorem kDropS_16 {σ : Zt} {i : Int} : kDropS σ i 16 2 = σ 16 2 - 1 := by
  unfold kDropS
  rw [kDrop_fr (by omega) (by omega), zu_same]
def kDelR (σ : Zt) (i : Int) : Int := if kHolds σ i = true then kRecR (kDropS σ i) (σ 18 i.toNat).toNat (σ 17 i.toNat) else -101
def kDelS (σ : Zt) (i : Int) : Zt := if kHolds σ i = true then kRecS (kDropS σ i) (σ 18 i.toNat).toNat (σ 17 i.toNat) else σ
def kLosR (σ : Zt) (i : Int) : Int := if kHolds σ i = true then σ 16 2 - 1 else -101
def kLosS (σ : Zt) (i : Int) : Zt := if kHolds σ i = true then kDropS σ i else σ
def kRepR (σ : Zt) (i : Int) : Int := if kHolds σ i = true then (if kWayF σ = true then -104 else σ 16 2 + 1) else -101
def kRepS (σ : Zt) (i : Int) : Zt := if kHolds σ i = true then (if kWayF σ = true then σ else kSend σ (σ 17 i.toNat) (σ 18 i.toNat)) else σ
def kLenR (σ : Zt) (x : Int) : Int := if kIsR x = true then kLen σ x.toNat else -101
def kCurR (σ : Zt) (x k q : Int) : Int := if kIsR x = true then (if kIsC k = true then (if kGap σ x.toNat q = true then kCur σ x.toNat k else -102) else -102) else -101
def kCurS (σ : Zt) (x k q : Int) : Zt := if kIsR x = true then (if kIsC k = true then (if kGap σ x.toNat q = true then zu σ (24 + 6 * x.toNat) k.toNat (kBefore σ x.toNat q) else σ) else σ) else σ
def kAtR (σ : Zt) (x k : Int) : Int := if kIsR x = true then (if kIsC k = true then kCur σ x.toNat k else -102) else -101
def kAboR (σ : Zt) (x y w : Int) : Int := if kIsR x = true then (if w = 0 then (if kIsR y = true then σ (21 + 6 * x.toNat) y.toNat else -101) else if w = 1 then σ (20 + 6 * x.toNat) 6 else if w = 2 then σ (20 + 6 * x.toNat) 4 else if w = 3 then σ (20 + 6 * x.toNat) 5 else -102) else -101
def kSame (σ : Zt) (r t : Nat) : Nat → Nat → Int
  | 0, _ => 1
  | n + 1, i => if kAlike σ r t (σ 14 i) = true then kSame σ r t n (i + 1) else 0
def kSamR (σ : Zt) (x y : Int) : Int := if kIsR x = true then (if kIsR y = true then kSame σ x.toNat y.toNat (σ 11 4).toNat 0 else -101) else -101
def kDeeR (σ : Zt) (d w : Int) : Int := if 0 ≤ d ∧ d < σ 1 10 then (if w = 0 then σ 2 d.toNat else if w = 1 then σ 3 d.toNat else if w = 2 then σ 4 d.toNat else if w = 3 then σ 5 d.toNat else if w = 4 then σ 6 d.toNat else if w = 5 then σ 7 d.toNat else -102) else -101
def kMesR (σ : Zt) (i w : Int) : Int := if kHolds σ i = true then (if w = 0 then σ 17 i.toNat else if w = 1 then σ 18 i.toNat else -102) else -101
def kCouR (σ : Zt) (w : Int) : Int := if w = 0 then σ 1 10 else if w = 1 then σ 16 2 else if w = 2 then σ 16 3 else -102
theorem kSame_end {σ : Zt} {r t : Nat} {p i : Int} (h : p ≤ i) : kSame σ r t (p - i).toNat i.toNat = 1 := by
  rw [show (p - i).toNat = 0 by omega, kSame]
theorem kSame_no {σ : Zt} {r t : Nat} {p i : Int} (h : i < p) (ha : kAlike σ r t (σ 14 i.toNat) = false) : kSame σ r t (p - i).toNat i.toNat = 0 := by
  rw [show (p - i).toNat = (p - (i + 1)).toNat + 1 by omega, kSame, if_neg (by rw [ha]; decide)]
theorem kSame_go {σ : Zt} {r t : Nat} {p i : Int} (h0 : 0 ≤ i) (h : i < p) (ha : kAlike σ r t (σ 14 i.toNat) = true) : kSame σ r t (p - i).toNat i.toNat = kSame σ r t (p - (i + 1)).toNat (i + 1).toNat := by
  rw [show (p - i).toNat = (p - (i + 1)).toNat + 1 by omega, kSame, if_pos ha, show (i + 1).toNat = i.toNat + 1 by omega]
theorem zq_alike {σ τ : Zt} (h : zq σ τ) {r t : Nat} {z : Int} : kAlike τ r t z = kAlike σ r t z := by
  unfold kAlike
  rw [zq_alive h, zq_alive h, zq_kinds h, zq_kinds h]
/-- paste: so many came, and the state -/
def kPas (x q n : Int) : Nat → Int → Int → Zt → Int × Zt
  | 0, _, _, σ => (n, σ)
  | m + 1, k, v, σ => if kPutR σ x.toNat (q + k) = -104 then (k, kPutS σ x.toNat (q + k) v) else kPas x q n m (k + 1) (if v = 126 then 32 else v + 1) (kPutS σ x.toNat (q + k) v)
def kPasB (σ : Zt) (x q n v : Int) : Bool := kGap σ x.toNat q && (decide (1 ≤ n) && (decide (n ≤ 20) && kIsB v))
def kPasR (σ : Zt) (x q n v : Int) : Int := if kIsR x = true then (if kPasB σ x q n v = true then (kPas x q n n.toNat 0 v σ).1 else -102) else -101
def kPasS (σ : Zt) (x q n v : Int) : Zt := if kIsR x = true then (if kPasB σ x q n v = true then (kPas x q n n.toNat 0 v σ).2 else σ) else σ
theorem kPas_end {x q n k v : Int} {τ : Zt} (h : n ≤ k) : kPas x q n (n - k).toNat k v τ = (n, τ) := by
  rw [show (n - k).toNat = 0 by omega, kPas]
theorem kPas_room {x q n k v : Int} {τ : Zt} (h : k < n) (e : kPutR τ x.toNat (q + k) = -104) : kPas x q n (n - k).toNat k v τ = (k, kPutS τ x.toNat (q + k) v) := by
  rw [show (n - k).toNat = (n - (k + 1)).toNat + 1 by omega, kPas, if_pos e]
theorem kPas_go {x q n k v : Int} {τ : Zt} (h : k < n) (e : kPutR τ x.toNat (q + k) ≠ -104) : kPas x q n (n - k).toNat k v τ = kPas x q n (n - (k + 1)).toNat (k + 1) (if v = 126 then 32 else v + 1) (kPutS τ x.toNat (q + k) v) := by
  rw [show (n - k).toNat = (n - (k + 1)).toNat + 1 by omega, kPas, if_neg e]
theorem kPutR_rg {σ : Zt} (h : rgS σ) (r : Nat) (q : Int) : -104 ≤ kPutR σ r q ∧ kPutR σ r q ≤ 400 := by
  have b := rgS_1_10 h
  unfold kPutR
  split
  · omega
  · split <;> omega
/-- sync, from deed d on -/
def kSyn (r t : Nat) : Nat → Int → Zt → Zt
  | 0, _, σ => σ
  | m + 1, d, σ => kSyn r t m (d + 1) (if kDid σ t d = true then kRecS σ r d else σ)
def kSynT (σ : Zt) (x y : Int) : Zt := kSyn x.toNat y.toNat (σ 1 10).toNat 0 σ
def kSynR (σ : Zt) (x y : Int) : Int := if kIsR x = true then (if kIsR y = true then kAll (kSynT σ x y) x.toNat - kAll σ x.toNat else -101) else -101
def kSynS (σ : Zt) (x y : Int) : Zt := if kIsR x = true then (if kIsR y = true then kSynT σ x y else σ) else σ
theorem kSyn_end {r t : Nat} {p d : Int} {τ : Zt} (h : p ≤ d) : kSyn r t (p - d).toNat d τ = τ := by
  rw [show (p - d).toNat = 0 by omega, kSyn]
theorem kSyn_go {r t : Nat} {p d : Int} {τ : Zt} (h : d < p) (e : kDid τ t d = true) : kSyn r t (p - d).toNat d τ = kSyn r t (p - (d + 1)).toNat (d + 1) (kRecS τ r d) := by
  rw [show (p - d).toNat = (p - (d + 1)).toNat + 1 by omega, kSyn, if_pos e]
theorem kSyn_skip {r t : Nat} {p d : Int} {τ : Zt} (h : d < p) (e : kDid τ t d = false) : kSyn r t (p - d).toNat d τ = kSyn r t (p - (d + 1)).toNat (d + 1) τ := by
  rw [show (p - d).toNat = (p - (d + 1)).toNat + 1 by omega, kSyn, if_neg (by rw [e]; decide)]
theorem kCarry_fr {σ : Zt} {r : Nat} {d : Int} {q : Nat} (h : q < 20) : kCarry σ r d q = σ q := by
  unfold kCarry kCarry0
  split
  · rw [zu_ne (by omega), zu_ne (by omega), zu_ne (by omega)]
  · split
    · rw [zu_ne (by omega), zu_ne (by omega)]
    · split
      · rw [zu_ne (by omega), zu_ne (by omega), zu_ne (by omega)]
      · rw [zu_ne (by omega), zu_ne (by omega)]
theorem kWaited_fr {r : Nat} {q : Nat} (h : q < 20) : ∀ (n : Nat) (τ : Zt), kWaited r n τ q = τ q := by
  intro n
  induction n with
  | zero => intro τ; rfl
  | succ n ih =>
    intro τ
    rw [kWaited]
    split
    · rfl
    · split
      · rfl
      · rw [ih, kCarry_fr h]
        unfold kUnwait
        rw [zu_ne (by omega), zu_ne (by omega)]
theorem kRecS_fr {σ : Zt} {r : Nat} {d : Int} {q : Nat} (h : q < 20) : kRecS σ r d q = σ q := by
  unfold kRecS
  split
  · rfl
  · split
    · rw [kWaited_fr h, kCarry_fr h]
    · rw [zu_ne (by omega), zu_ne (by omega)]
theorem kSend_16 {σ : Zt} {d q : Int} (h : σ 16 2 < 300) : kSend σ d q 16 2 = σ 16 2 + 1 := by
  unfold kSend
  rw [if_neg (by omega), zu_same]
