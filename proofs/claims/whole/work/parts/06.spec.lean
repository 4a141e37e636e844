/-! SPEC: what the class's methods do, as functions of its numbers. Rows: 1 Deeds, 2 owner 3 number 4 time 5 sort 6 value 7 from 8 to 9 mayUndo 10 marks; 11 Paths, 12 levels 13 depth 14 order 15 rank; 16 Way, 17 what 18 toWhom; 19 replicas; of replica r from 20 + 6 r on: itself, doneOf, waits, fate, cursors, latestMark. -/
def kFull (σ : Zt) : Bool := decide (400 ≤ σ 1 10)
def kDid (σ : Zt) (r : Nat) (d : Int) : Bool := decide (σ 3 d.toNat ≤ σ (21 + 6 * r) (σ 2 d.toNat).toNat)
def kReady (σ : Zt) (r : Nat) (d : Int) : Bool := decide (σ 3 d.toNat - 1 = σ (21 + 6 * r) (σ 2 d.toNat).toNat) && (decide (σ 5 d.toNat = 0) || (kDid σ r (σ 7 d.toNat) && kDid σ r (σ 8 d.toNat)))
def kLater (σ : Zt) (d e : Int) : Bool := decide (σ 4 e.toNat < σ 4 d.toNat) || (decide (σ 4 d.toNat = σ 4 e.toNat) && decide (σ 2 e.toNat < σ 2 d.toNat))
def kAlive (σ : Zt) (r : Nat) (d : Int) : Bool := kDid σ r d && (decide (σ (23 + 6 * r) d.toNat = -1) || decide (σ 5 (σ (23 + 6 * r) d.toNat).toNat ≠ 1))
/-- the living among the first n by paths -/
def kCnt (σ : Zt) (r : Nat) : Nat → Int
  | 0 => 0
  | n + 1 => kCnt σ r n + bI (kAlive σ r (σ 14 n))
def kLen (σ : Zt) (r : Nat) : Int := kCnt σ r (σ 11 4).toNat
def kGap (σ : Zt) (r : Nat) (q : Int) : Bool := decide (0 ≤ q) && decide (q ≤ kLen σ r)
def kAt (σ : Zt) (r : Nat) : Nat → Nat → Int → Int
  | 0, _, _ => -1
  | n + 1, i, left => if left < 0 then -1 else if kAlive σ r (σ 14 i) = true then (if left = 0 then σ 14 i else kAt σ r n (i + 1) (left - 1)) else kAt σ r n (i + 1) left
def kSignAt (σ : Zt) (r : Nat) (q : Int) : Int := kAt σ r (σ 11 4).toNat 0 q
def kBefore (σ : Zt) (r : Nat) (q : Int) : Int := if q ≤ 0 then -1 else kSignAt σ r (q - 1)
def kNext (σ : Zt) (r : Nat) : Nat → Nat → Int
  | 0, _ => -1
  | n + 1, i => if kDid σ r (σ 14 i) = true then σ 14 i else kNext σ r n (i + 1)
def kBehind (σ : Zt) (r : Nat) (d : Int) : Int := if d = -1 then kNext σ r (σ 11 4).toNat 0 else kNext σ r (σ 11 4 - (σ 15 d.toNat + 1)).toNat (σ 15 d.toNat + 1).toNat
def kCur (σ : Zt) (r : Nat) (q : Int) : Int := if σ (24 + 6 * r) q.toNat = -1 then 0 else kCnt σ r (σ 15 (σ (24 + 6 * r) q.toNat).toNat + 1).toNat
def kLast (σ : Zt) (w : Int) : Nat → Int
  | 0 => -1
  | n + 1 => if σ 9 n ≠ 0 ∧ σ 2 n = w then (n : Int) else kLast σ w n
def kFirst (σ : Zt) (r : Nat) : Nat → Nat → Int
  | 0, _ => -1
  | n + 1, i => if σ (22 + 6 * r) i ≠ 0 ∧ kReady σ r i = true then (i : Int) else kFirst σ r n (i + 1)
def kSum (f : Nat → Int) : Nat → Int
  | 0 => 0
  | n + 1 => kSum f n + f n
def kAll (σ : Zt) (r : Nat) : Int := kSum (σ (21 + 6 * r)) 6
/-- deed d is done at r -/
def kCarry0 (σ : Zt) (r : Nat) (d : Int) : Zt := zu (zu σ (21 + 6 * r) (σ 2 d.toNat).toNat (σ (21 + 6 * r) (σ 2 d.toNat).toNat + 1)) (20 + 6 * r) 4 (max (σ (20 + 6 * r) 4) (σ 4 d.toNat))
def kCarry (σ : Zt) (r : Nat) (d : Int) : Zt :=
  if σ 5 d.toNat = 0 then zu (kCarry0 σ r d) (20 + 6 * r) 5 (σ (20 + 6 * r) 5 + 1)
  else if σ 5 d.toNat = 3 then kCarry0 σ r d
  else if σ (23 + 6 * r) (σ 7 d.toNat).toNat = -1 ∨ kLater σ d (σ (23 + 6 * r) (σ 7 d.toNat).toNat) = true then zu (kCarry0 σ r d) (23 + 6 * r) (σ 7 d.toNat).toNat d
  else kCarry0 σ r d
def kUnwait (σ : Zt) (r : Nat) (d : Int) : Zt := zu (zu σ (22 + 6 * r) d.toNat 0) (20 + 6 * r) 6 (σ (20 + 6 * r) 6 - 1)
def kWaited (r : Nat) : Nat → Zt → Zt
  | 0, σ => σ
  | n + 1, σ => if σ (20 + 6 * r) 6 ≤ 0 then σ else if kFirst σ r (σ 1 10).toNat 0 = -1 then σ else kWaited r n (kCarry (kUnwait σ r (kFirst σ r (σ 1 10).toNat 0)) r (kFirst σ r (σ 1 10).toNat 0))
def kRecR (σ : Zt) (r : Nat) (d : Int) : Int := if kDid σ r d = true ∨ σ (22 + 6 * r) d.toNat ≠ 0 then 0 else if kReady σ r d = true then 1 else 2
def kRecS (σ : Zt) (r : Nat) (d : Int) : Zt := if kDid σ r d = true ∨ σ (22 + 6 * r) d.toNat ≠ 0 then σ else if kReady σ r d = true then kWaited r 400 (kCarry σ r d) else zu (zu σ (22 + 6 * r) d.toNat 1) (20 + 6 * r) 6 (σ (20 + 6 * r) 6 + 1)
/-- levels of paths -/
def kLevel (σ : Zt) (d k : Int) : Int := if d = -1 ∨ σ 13 d.toNat < k then 0 else σ 12 (d * 12 + k - 1).toNat
def kDigit (x : Int) : Int := x / 4096
def kSite (x : Int) : Int := x / 512 % 8
def kCount (x : Int) : Int := x % 512
def kMake (d q n : Int) : Int := d * 4096 + q * 512 + n
def kBase (k : Int) : Int := 2 ^ (min (k + 3) 12).toNat
-- loops, step by step
theorem kLast_hit {σ : Zt} {w d : Int} (h0 : 0 ≤ d) (h1 : σ 9 d.toNat ≠ 0) (h2 : σ 2 d.toNat = w) : kLast σ w (d + 1).toNat = d := by
  rw [show (d + 1).toNat = d.toNat + 1 by omega, kLast, if_pos ⟨h1, h2⟩]; omega
theorem kLast_step {σ : Zt} {w d : Int} (h0 : 0 ≤ d) (h : ¬ (σ 9 d.toNat ≠ 0 ∧ σ 2 d.toNat = w)) : kLast σ w (d + 1).toNat = kLast σ w (d + -1 + 1).toNat := by
  rw [show (d + 1).toNat = d.toNat + 1 by omega, kLast, if_neg h, show (d + -1 + 1).toNat = d.toNat by omega]
theorem kLast_end {σ : Zt} {w d : Int} (h : d < 0) : kLast σ w (d + 1).toNat = -1 := by
  rw [show (d + 1).toNat = 0 by omega, kLast]
theorem kLast_rg (σ : Zt) (w : Int) (n : Nat) : -1 ≤ kLast σ w n ∧ kLast σ w n < n := by
  induction n with
  | zero => simp [kLast]
  | succ n ih => rw [kLast]; split <;> omega
theorem kAt_end {σ : Zt} {r : Nat} {t i q : Int} (h : t ≤ i) : kAt σ r (t - i).toNat i.toNat q = -1 := by
  rw [show (t - i).toNat = 0 by omega, kAt]
theorem kAt_neg {σ : Zt} {r : Nat} {t i q : Int} (h : i < t) (hq : q < 0) : kAt σ r (t - i).toNat i.toNat q = -1 := by
  rw [show (t - i).toNat = (t - (i + 1)).toNat + 1 by omega, kAt, if_pos hq]
theorem kAt_hit {σ : Zt} {r : Nat} {t i q : Int} (h : i < t) (ha : kAlive σ r (σ 14 i.toNat) = true) (hq : q = 0) : kAt σ r (t - i).toNat i.toNat q = σ 14 i.toNat := by
  rw [show (t - i).toNat = (t - (i + 1)).toNat + 1 by omega, kAt, if_neg (by omega), if_pos ha, if_pos hq]
theorem kAt_down {σ : Zt} {r : Nat} {t i q : Int} (h0 : 0 ≤ i) (h : i < t) (ha : kAlive σ r (σ 14 i.toNat) = true) (hq : 0 ≤ q) (hq0 : q ≠ 0) : kAt σ r (t - i).toNat i.toNat q = kAt σ r (t - (i + 1)).toNat (i + 1).toNat (q + -1) := by
  rw [show (t - i).toNat = (t - (i + 1)).toNat + 1 by omega, kAt, if_neg (by omega), if_pos ha, if_neg hq0, show (i + 1).toNat = i.toNat + 1 by omega, show q - 1 = q + -1 by omega]
theorem kAt_skip {σ : Zt} {r : Nat} {t i q : Int} (h0 : 0 ≤ i) (h : i < t) (ha : kAlive σ r (σ 14 i.toNat) = false) (hq : 0 ≤ q) : kAt σ r (t - i).toNat i.toNat q = kAt σ r (t - (i + 1)).toNat (i + 1).toNat q := by
  rw [show (t - i).toNat = (t - (i + 1)).toNat + 1 by omega, kAt, if_neg (by omega), if_neg (by rw [ha]; decide), show (i + 1).toNat = i.toNat + 1 by omega]
theorem kAt_rg {σ : Zt} (h : rgS σ) (r : Nat) : ∀ (n i : Nat) (q : Int), -1 ≤ kAt σ r n i q ∧ kAt σ r n i q < 400 := by
  intro n
  induction n with
  | zero => intro i q; simp [kAt]
  | succ n ih =>
    intro i q
    have b := rgS_14 h i
    rw [kAt]
    split
    · omega
    · split
      · split
        · omega
        · exact ih _ _
      · exact ih _ _
theorem kSignAt_rg {σ : Zt} (h : rgS σ) (r : Nat) (q : Int) : -1 ≤ kSignAt σ r q ∧ kSignAt σ r q < 400 := kAt_rg h r _ _ _
theorem kBefore_rg {σ : Zt} (h : rgS σ) (r : Nat) (q : Int) : -1 ≤ kBefore σ r q ∧ kBefore σ r q < 400 := by
  unfold kBefore
  split
  · omega
  · exact kSignAt_rg h r _
theorem kCnt_step {σ : Zt} {r : Nat} {i : Int} (h0 : 0 ≤ i) : kCnt σ r (i + 1).toNat = kCnt σ r i.toNat + bI (kAlive σ r (σ 14 i.toNat)) := by
  rw [show (i + 1).toNat = i.toNat + 1 by omega, kCnt]
theorem kCnt_rg (σ : Zt) (r : Nat) (n : Nat) : 0 ≤ kCnt σ r n ∧ kCnt σ r n ≤ n := by
  induction n with
  | zero => simp [kCnt]
  | succ n ih =>
    have b := bI_01 (kAlive σ r (σ 14 n))
    rw [kCnt]; omega
theorem kLen_rg {σ : Zt} (h : rgS σ) (r : Nat) : 0 ≤ kLen σ r ∧ kLen σ r ≤ 400 := by
  have b := kCnt_rg σ r (σ 11 4).toNat
  have b2 := rgS_11_4 h
  unfold kLen; omega
theorem kNext_end {σ : Zt} {r : Nat} {t i : Int} (h : t ≤ i) : kNext σ r (t - i).toNat i.toNat = -1 := by
  rw [show (t - i).toNat = 0 by omega, kNext]
theorem kNext_hit {σ : Zt} {r : Nat} {t i : Int} (h : i < t) (ha : kDid σ r (σ 14 i.toNat) = true) : kNext σ r (t - i).toNat i.toNat = σ 14 i.toNat := by
  rw [show (t - i).toNat = (t - (i + 1)).toNat + 1 by omega, kNext, if_pos ha]
theorem kNext_step {σ : Zt} {r : Nat} {t i : Int} (h0 : 0 ≤ i) (h : i < t) (ha : kDid σ r (σ 14 i.toNat) = false) : kNext σ r (t - i).toNat i.toNat = kNext σ r (t - (i + 1)).toNat (i + 1).toNat := by
  rw [show (t - i).toNat = (t - (i + 1)).toNat + 1 by omega, kNext, if_neg (by rw [ha]; decide), show (i + 1).toNat = i.toNat + 1 by omega]
theorem kNext_rg {σ : Zt} (h : rgS σ) (r : Nat) : ∀ (n i : Nat), -1 ≤ kNext σ r n i ∧ kNext σ r n i < 400 := by
  intro n
  induction n with
  | zero => intro i; simp [kNext]
  | succ n ih =>
    intro i
    have b := rgS_14 h i
    rw [kNext]
    split
    · omega
    · exact ih _
theorem kBehind_rg {σ : Zt} (h : rgS σ) (r : Nat) (d : Int) : -1 ≤ kBehind σ r d ∧ kBehind σ r d < 400 := by
  unfold kBehind
  split <;> exact kNext_rg h r _ _
theorem kFirst_end {σ : Zt} {r : Nat} {t i : Int} (h : t ≤ i) : kFirst σ r (t - i).toNat i.toNat = -1 := by
  rw [show (t - i).toNat = 0 by omega, kFirst]
theorem kFirst_hit {σ : Zt} {r : Nat} {t i : Int} (h0 : 0 ≤ i) (h : i < t) (h1 : σ (22 + 6 * r) i.toNat ≠ 0) (ha : kReady σ r i = true) : kFirst σ r (t - i).toNat i.toNat = i := by
  rw [show (t - i).toNat = (t - (i + 1)).toNat + 1 by omega, kFirst, if_pos ⟨h1, by rw [Int.toNat_of_nonneg h0]; exact ha⟩, Int.toNat_of_nonneg h0]
theorem kFirst_step {σ : Zt} {r : Nat} {t i : Int} (h0 : 0 ≤ i) (h : i < t) (ha : ¬ (σ (22 + 6 * r) i.toNat ≠ 0 ∧ kReady σ r i = true)) : kFirst σ r (t - i).toNat i.toNat = kFirst σ r (t - (i + 1)).toNat (i + 1).toNat := by
  rw [show (t - i).toNat = (t - (i + 1)).toNat + 1 by omega, kFirst, if_neg (by rw [Int.toNat_of_nonneg h0]; exact ha), show (i + 1).toNat = i.toNat + 1 by omega]
theorem kFirst_rg (σ : Zt) (r : Nat) : ∀ (n i : Nat), -1 ≤ kFirst σ r n i ∧ kFirst σ r n i < (i + n : Nat) := by
  intro n
  induction n with
  | zero => intro i; simp [kFirst]; omega
  | succ n ih =>
    intro i
    have := ih (i + 1)
    rw [kFirst]
    split <;> omega
theorem kSum_step {f : Nat → Int} {i : Int} (h0 : 0 ≤ i) : kSum f (i + 1).toNat = kSum f i.toNat + f i.toNat := by
  rw [show (i + 1).toNat = i.toNat + 1 by omega, kSum]
-- what writes
def kCoinS (σ : Zt) (r : Nat) : Zt := zu σ (20 + 6 * r) 3 (σ (20 + 6 * r) 3 * 1664525 + 1013904223)
def kCoin (σ : Zt) (r : Nat) : Int := (σ (20 + 6 * r) 3 * 1664525 + 1013904223) % 4294967296 / 65536
def kSend (σ : Zt) (d q : Int) : Zt := if 300 ≤ σ 16 2 then zu σ 16 3 (σ 16 3 + 1) else zu (zu (zu σ 17 (σ 16 2).toNat d) 18 (σ 16 2).toNat q) 16 2 (σ 16 2 + 1)
def kDrop : Nat → Nat → Zt → Zt
  | 0, _, σ => σ
  | n + 1, j, σ => kDrop n (j + 1) (zu (zu σ 17 j (σ 17 (j + 1))) 18 j (σ 18 (j + 1)))
def kDropS (σ : Zt) (i : Int) : Zt := kDrop (σ 16 2 - 1 - i).toNat i.toNat (zu σ 16 2 (σ 16 2 - 1))
def kAdd0 (σ : Zt) (w n t q v f g : Int) : Zt := zu (zu (zu (zu (zu (zu (zu (zu σ 2 (σ 1 10).toNat w) 3 (σ 1 10).toNat n) 4 (σ 1 10).toNat t) 5 (σ 1 10).toNat q) 6 (σ 1 10).toNat v) 7 (σ 1 10).toNat f) 8 (σ 1 10).toNat g) 9 (σ 1 10).toNat (bI (decide (q = 0) || decide (q = 1)))
def kAdd (σ : Zt) (w n t q v f g : Int) : Zt := zu (if q = 3 then zu (zu (kAdd0 σ w n t q v f g) 10 (σ 1 9).toNat (σ 1 10)) 1 9 (σ 1 9 + 1) else kAdd0 σ w n t q v f g) 1 10 (σ 1 10 + 1)
def kSendTo (d : Int) (r : Nat) : Nat → Int → Zt → Zt
  | 0, _, σ => σ
  | n + 1, q, σ => kSendTo d r n (q + 1) (if q = (r : Int) then σ else kSend σ d q)
def kPerform (σ : Zt) (r : Nat) (q v f g : Int) : Zt := kSendTo (σ 1 10) r 6 0 (kCarry (kAdd σ r (σ (21 + 6 * r) r + 1) (σ (20 + 6 * r) 4 + 1) q v f g) r (σ 1 10))
def kLastD (k lo hi co : Int) : Int := if k % 2 = 1 then lo + (1 + co % min 10 (hi - lo - 1)) else hi - (1 + co % min 10 (hi - lo - 1))
def kInner (x y : Int) (r : Nat) (n : Int) : Int := if x ≠ 0 then x else if kDigit y = 0 then y else kMake 0 r n
def kHigh (σ : Zt) (b k : Int) : Int := if b = -1 then kBase k else kDigit (kLevel σ b k)
def kFind (r : Nat) (fr be : Int) : Nat → Int → Int → Zt → Bool × Zt
  | 0, _, _, σ => (false, σ)
  | n + 1, k, b, σ =>
    if 1 < kHigh σ b k - kDigit (kLevel σ be k) then
      (true, zu (zu (kCoinS σ r) 12 (fr * 12 + k - 1).toNat (kMake (kLastD k (kDigit (kLevel σ be k)) (kHigh σ b k) (kCoin σ r)) r (σ (21 + 6 * r) r + 1))) 13 fr.toNat k)
    else kFind r fr be n (k + 1) (if kLevel (zu σ 12 (fr * 12 + k - 1).toNat (kInner (kLevel σ be k) (kLevel σ b k) r (σ (21 + 6 * r) r + 1))) b k = kInner (kLevel σ be k) (kLevel σ b k) r (σ (21 + 6 * r) r + 1) then b else -1)
      (zu σ 12 (fr * 12 + k - 1).toNat (kInner (kLevel σ be k) (kLevel σ b k) r (σ (21 + 6 * r) r + 1)))
def kIsBe (σ : Zt) (d f : Int) : Nat → Int → Bool
  | 0, _ => false
  | n + 1, k => if kLevel σ d k = kLevel σ f k then kIsBe σ d f n (k + 1) else decide (kLevel σ d k < kLevel σ f k)
def kGoal (σ : Zt) (f : Int) : Nat → Int → Int
  | 0, g => g
  | n + 1, g => if kIsBe σ (σ 14 g.toNat) f 12 1 = true then kGoal σ f n (g + 1) else g
def kShift : Nat → Int → Zt → Zt
  | 0, _, σ => σ
  | n + 1, i, σ => kShift n (i - 1) (zu (zu σ 14 i.toNat (σ 14 (i - 1).toNat)) 15 (σ 14 (i - 1).toNat).toNat i)
def kGoalOf (σ : Zt) (fr be : Int) : Int := if be = -1 then kGoal σ fr (σ 11 4).toNat 0 else kGoal σ fr (σ 11 4 - (σ 15 be.toNat + 1)).toNat (σ 15 be.toNat + 1)
def kInsert (σ : Zt) (fr be : Int) : Zt := zu (zu (zu (kShift (σ 11 4 - kGoalOf σ fr be).toNat (σ 11 4) σ) 14 (kGoalOf σ fr be).toNat fr) 15 fr.toNat (kGoalOf σ fr be)) 11 4 (σ 11 4 + 1)
-- ranges are kept
theorem kCoin_rg (σ : Zt) (r : Nat) : 0 ≤ kCoin σ r ∧ kCoin σ r < 65536 := by
  unfold kCoin; omega
theorem kCoinS_rg {σ : Zt} {r : Nat} (h : rgS σ) (hr : r < 6) : rgS (kCoinS σ r) := rzS_20_3 h hr
theorem kSend_rg {σ : Zt} {d q : Int} (h : rgS σ) (d0 : 0 ≤ d) (d1 : d < 400) (q0 : 0 ≤ q) (q1 : q < 6) : rgS (kSend σ d q) := by
  have b := rgS_16_2 h
  unfold kSend
  split
  · exact rzS_16_3 h
  · exact rzS_16_2 (rzS_18 (rzS_17 h d0 d1) q0 q1) (by omega) (by omega)
theorem kDrop_rg : ∀ (n j : Nat) (τ : Zt), rgS τ → rgS (kDrop n j τ) := by
  intro n
  induction n with
  | zero => intro j τ h; exact h
  | succ n ih =>
    intro j τ h
    rw [kDrop]
    have b1 := rgS_17 h (j + 1)
    have b2 := rgS_18 h (j + 1)
    exact ih _ _ (rzS_18 (rzS_17 h b1.1 b1.2) b2.1 b2.2)
theorem kDropS_rg {σ : Zt} {i : Int} (h : rgS σ) (i0 : 0 ≤ i) (i1 : i < σ 16 2) : rgS (kDropS σ i) := by
  have b := rgS_16_2 h
  exact kDrop_rg _ _ _ (rzS_16_2 h (by omega) (by omega))
theorem kDrop_end {τ : Zt} {t j : Int} (h : t ≤ j) : kDrop (t - j).toNat j.toNat τ = τ := by
  rw [show (t - j).toNat = 0 by omega, kDrop]
theorem kDrop_step {τ : Zt} {t j : Int} (h0 : 0 ≤ j) (h : j < t) : kDrop (t - j).toNat j.toNat τ = kDrop (t - (j + 1)).toNat (j + 1).toNat (zu (zu τ 17 j.toNat (τ 17 (j + 1).toNat)) 18 j.toNat (τ 18 (j + 1).toNat)) := by
  rw [show (t - j).toNat = (t - (j + 1)).toNat + 1 by omega, kDrop, show (j + 1).toNat = j.toNat + 1 by omega]
theorem kCarry0_rg {σ : Zt} {r : Nat} {d : Int} (h : rgS σ) (hr : r < 6) (dn : σ (21 + 6 * r) (σ 2 d.toNat).toNat < 400) : rgS (kCarry0 σ r d) := by
  have b1 := rgS_21 h hr (σ 2 d.toNat).toNat
  have b2 := rgS_20_4 h hr
  have b3 := rgS_4 h d.toNat
  exact rzS_20_4 (rzS_21 h hr (by omega) (by omega)) hr (by omega) (by omega)
theorem kCarry_rg {σ : Zt} {r : Nat} {d : Int} (h : rgS σ) (hr : r < 6) (d0 : 0 ≤ d) (d1 : d < 400) (dn : σ (21 + 6 * r) (σ 2 d.toNat).toNat < 400) : rgS (kCarry σ r d) := by
  have h0 := kCarry0_rg h hr dn
  unfold kCarry
  split
  · exact rzS_20_5 h0 hr
  · split
    · exact h0
    · split
      · exact rzS_23 h0 hr (by omega) (by omega)
      · exact h0
theorem kReady_dn {σ : Zt} {r : Nat} {d : Int} (h : rgS σ) (hd : kReady σ r d = true) : σ (21 + 6 * r) (σ 2 d.toNat).toNat < 400 := by
  have b := rgS_3 h d.toNat
  simp only [kReady, Bool.and_eq_true, decide_eq_true_eq] at hd
  omega
theorem kFirst_is {σ : Zt} {r : Nat} : ∀ (n i : Nat), kFirst σ r n i ≠ -1 → σ (22 + 6 * r) (kFirst σ r n i).toNat ≠ 0 ∧ kReady σ r (kFirst σ r n i) = true := by
  intro n
  induction n with
  | zero => intro i h; exact absurd rfl h
  | succ n ih =>
    intro i h
    rw [kFirst] at h ⊢
    split
    · rename_i q; exact q
    · rename_i q
      rw [if_neg q] at h
      exact ih _ h
theorem kUnwait_rg {σ : Zt} {r : Nat} {d : Int} (h : rgS σ) (hr : r < 6) (hw : 0 < σ (20 + 6 * r) 6) : rgS (kUnwait σ r d) := by
  have b := rgS_20_6 h hr
  exact rzS_20_6 (rzS_22 h hr (by omega) (by omega)) hr (by omega) (by omega)
theorem kBase_rg {k : Int} (h1 : 1 ≤ k) (h2 : k ≤ 12) : 16 ≤ kBase k ∧ kBase k ≤ 4096 := by
  have h : k = 1 ∨ k = 2 ∨ k = 3 ∨ k = 4 ∨ k = 5 ∨ k = 6 ∨ k = 7 ∨ k = 8 ∨ k = 9 ∨ k = 10 ∨ k = 11 ∨ k = 12 := by omega
  rcases h with h | h | h | h | h | h | h | h | h | h | h | h <;> subst h <;> decide
theorem sh_amt {z : Int} (h0 : 0 ≤ z) (h1 : z < 32) : ((jI z &&& 31).toBitVec.smod 32).toNat = z.toNat := by
  rw [jI_toNat h0]
  exact (by decide : ∀ n : Nat, n < 32 → ((nI n &&& 31).toBitVec.smod 32).toNat = n) _ (by omega)
theorem kLevel_rg {σ : Zt} (h : rgS σ) (d k : Int) : 0 ≤ kLevel σ d k ∧ kLevel σ d k < 16777216 := by
  have b := rgS_12 h (d * 12 + k - 1).toNat
  unfold kLevel
  split <;> omega
theorem kDigit_rg {x : Int} (h0 : 0 ≤ x) (h1 : x < 16777216) : 0 ≤ kDigit x ∧ kDigit x < 4096 := by unfold kDigit; omega
theorem kMake_rg {d q n : Int} (a1 : 0 ≤ d) (a2 : d < 4096) (b1 : 0 ≤ q) (b2 : q < 8) (c1 : 0 ≤ n) (c2 : n < 512) : 0 ≤ kMake d q n ∧ kMake d q n < 16777216 := by unfold kMake; omega
theorem kLastD_rg {k lo hi co : Int} (h0 : 0 ≤ lo) (h1 : lo + 1 < hi) (h2 : hi ≤ 4096) (c0 : 0 ≤ co) : lo < kLastD k lo hi co ∧ kLastD k lo hi co < hi := by
  have m0 : 0 < min 10 (hi - lo - 1) := by omega
  have e0 := Int.emod_nonneg co (show min 10 (hi - lo - 1) ≠ 0 by omega)
  have e1 := Int.emod_lt_of_pos co m0
  unfold kLastD
  split <;> omega
theorem kInner_rg {x y n : Int} {r : Nat} (hr : r < 6) (x0 : 0 ≤ x) (x1 : x < 16777216) (y0 : 0 ≤ y) (y1 : y < 16777216) (n0 : 0 ≤ n) (n1 : n < 512) : 0 ≤ kInner x y r n ∧ kInner x y r n < 16777216 := by
  unfold kInner
  split
  · omega
  · split
    · omega
    · exact kMake_rg (by omega) (by omega) (by omega) (by omega) n0 n1
theorem kHigh_rg {σ : Zt} (h : rgS σ) {b k : Int} (h1 : 1 ≤ k) (h2 : k ≤ 12) : 0 ≤ kHigh σ b k ∧ kHigh σ b k ≤ 4096 := by
  have a := kBase_rg h1 h2
  have l := kLevel_rg h b k
  have d := kDigit_rg l.1 l.2
  unfold kHigh
  split <;> omega
theorem kIsBe_end {σ : Zt} {d f k : Int} (h : 12 < k) : kIsBe σ d f (13 - k).toNat k = false := by
  rw [show (13 - k).toNat = 0 by omega, kIsBe]
theorem kIsBe_same {σ : Zt} {d f k : Int} (h : k ≤ 12) (e : kLevel σ d k = kLevel σ f k) : kIsBe σ d f (13 - k).toNat k = kIsBe σ d f (13 - (k + 1)).toNat (k + 1) := by
  rw [show (13 - k).toNat = (13 - (k + 1)).toNat + 1 by omega, kIsBe, if_pos e]
theorem kIsBe_tell {σ : Zt} {d f k : Int} (h : k ≤ 12) (e : kLevel σ d k ≠ kLevel σ f k) : kIsBe σ d f (13 - k).toNat k = decide (kLevel σ d k < kLevel σ f k) := by
  rw [show (13 - k).toNat = (13 - (k + 1)).toNat + 1 by omega, kIsBe, if_neg e]
theorem kGoal_end {σ : Zt} {f t g : Int} (h : t ≤ g) : kGoal σ f (t - g).toNat g = g := by
  rw [show (t - g).toNat = 0 by omega, kGoal]
theorem kGoal_stop {σ : Zt} {f t g : Int} (h : g < t) (e : kIsBe σ (σ 14 g.toNat) f 12 1 = false) : kGoal σ f (t - g).toNat g = g := by
  rw [show (t - g).toNat = (t - (g + 1)).toNat + 1 by omega, kGoal, if_neg (by rw [e]; decide)]
theorem kGoal_step {σ : Zt} {f t g : Int} (h : g < t) (e : kIsBe σ (σ 14 g.toNat) f 12 1 = true) : kGoal σ f (t - g).toNat g = kGoal σ f (t - (g + 1)).toNat (g + 1) := by
  rw [show (t - g).toNat = (t - (g + 1)).toNat + 1 by omega, kGoal, if_pos e]
theorem kGoal_rg {σ : Zt} {f : Int} : ∀ (n : Nat) (g : Int), g ≤ kGoal σ f n g ∧ kGoal σ f n g ≤ g + n := by
  intro n
  induction n with
  | zero => intro g; simp [kGoal]
  | succ n ih =>
    intro g
    have := ih (g + 1)
    rw [kGoal]
    split <;> omega
theorem kShift_end {τ : Zt} {i g : Int} (h : i ≤ g) : kShift (i - g).toNat i τ = τ := by
  rw [show (i - g).toNat = 0 by omega, kShift]
theorem kShift_step {τ : Zt} {i g : Int} (h : g < i) : kShift (i - g).toNat i τ = kShift (i + -1 - g).toNat (i + -1) (zu (zu τ 14 i.toNat (τ 14 (i - 1).toNat)) 15 (τ 14 (i - 1).toNat).toNat i) := by
  rw [show (i - g).toNat = (i + -1 - g).toNat + 1 by omega, kShift, show i + -1 = i - 1 by omega]
def kIsR (x : Int) : Bool := decide (0 ≤ x) && decide (x < 6)
theorem kIsR_t {x : Int} (h : kIsR x = true) : 0 ≤ x ∧ x < 6 := by simpa [kIsR] using h
theorem kIsR_f {x : Int} (h : kIsR x = false) : x < 0 ∨ 6 ≤ x := by simp [kIsR] at h; omega
def kIsC (x : Int) : Bool := decide (0 ≤ x) && decide (x < 4)
theorem kIsC_t {x : Int} (h : kIsC x = true) : 0 ≤ x ∧ x < 4 := by simpa [kIsC] using h
theorem kIsC_f {x : Int} (h : kIsC x = false) : x < 0 ∨ 4 ≤ x := by simp [kIsC] at h; omega
def kIsB (x : Int) : Bool := decide (32 ≤ x) && decide (x ≤ 126)
theorem kIsB_t {x : Int} (h : kIsB x = true) : 32 ≤ x ∧ x ≤ 126 := by simpa [kIsB] using h
theorem kIsB_f {x : Int} (h : kIsB x = false) : x < 32 ∨ 126 < x := by simp [kIsB] at h; omega
theorem kFull_f {σ : Zt} (h : kFull σ = false) : σ 1 10 < 400 := by simp [kFull] at h; omega
def kHolds (σ : Zt) (x : Int) : Bool := decide (0 ≤ x) && decide (x < σ 16 2)
theorem kHolds_t {σ : Zt} {x : Int} (h : kHolds σ x = true) : 0 ≤ x ∧ x < σ 16 2 := by simpa [kHolds] using h
def kWayF (σ : Zt) : Bool := decide (300 ≤ σ 16 2)
theorem kWayF_t {σ : Zt} (h : kWayF σ = true) : 300 ≤ σ 16 2 := by simpa [kWayF] using h
theorem kWayF_f {σ : Zt} (h : kWayF σ = false) : σ 16 2 < 300 := by simp [kWayF] at h; omega
theorem kGap_t {σ : Zt} {r : Nat} {q : Int} (h : kGap σ r q = true) : 0 ≤ q ∧ q ≤ kLen σ r := by simpa [kGap] using h
theorem kAdd0_rg {σ : Zt} {w t z q v f g : Int} (h : rgS σ) (w0 : 0 ≤ w) (w1 : w < 6) (t0 : 0 ≤ t) (t1 : t < 401) (z0 : 0 ≤ z) (z1 : z < 401) (q0 : 0 ≤ q) (q1 : q < 4) (v0 : 0 ≤ v) (v1 : v < 127) (f0 : 0 ≤ f) (f1 : f < 400) (g0 : 0 ≤ g) (g1 : g < 400) : rgS (kAdd0 σ w t z q v f g) := by
  have b := bI_01 (decide (q = 0) || decide (q = 1))
  exact rzS_9 (rzS_8 (rzS_7 (rzS_6 (rzS_5 (rzS_4 (rzS_3 (rzS_2 h w0 w1) t0 t1) z0 z1) q0 q1) v0 v1) f0 f1) g0 g1) (by omega) (by omega)
theorem kAdd_rg {σ : Zt} {w t z q v f g : Int} (h : rgS σ) (tt : σ 1 10 < 400) (tm : σ 1 9 < 400) (w0 : 0 ≤ w) (w1 : w < 6) (t0 : 0 ≤ t) (t1 : t < 401) (z0 : 0 ≤ z) (z1 : z < 401) (q0 : 0 ≤ q) (q1 : q < 4) (v0 : 0 ≤ v) (v1 : v < 127) (f0 : 0 ≤ f) (f1 : f < 400) (g0 : 0 ≤ g) (g1 : g < 400) : rgS (kAdd σ w t z q v f g) := by
  have b1 := rgS_1_10 h
  have b2 := rgS_1_9 h
  have h0 := kAdd0_rg h w0 w1 t0 t1 z0 z1 q0 q1 v0 v1 f0 f1 g0 g1
  unfold kAdd
  split
  · exact rzS_1_10 (rzS_1_9 (rzS_10 h0 (by omega) (by omega)) (by omega) (by omega)) (by omega) (by omega)
  · exact rzS_1_10 h0 (by omega) (by omega)
theorem kWaited_end {r : Nat} {i : Int} {τ : Zt} (h : 400 ≤ i) : kWaited r (400 - i).toNat τ = τ := by
  rw [show (400 - i).toNat = 0 by omega, kWaited]
theorem kWaited_stop {r : Nat} {i : Int} {τ : Zt} (h : τ (20 + 6 * r) 6 ≤ 0) : kWaited r (400 - i).toNat τ = τ := by
  cases (400 - i).toNat with
  | zero => rw [kWaited]
  | succ n => rw [kWaited, if_pos h]
theorem kWaited_none {r : Nat} {i : Int} {τ : Zt} (h : 0 < τ (20 + 6 * r) 6) (hd : kFirst τ r (τ 1 10).toNat 0 = -1) : kWaited r (400 - i).toNat τ = τ := by
  cases (400 - i).toNat with
  | zero => rw [kWaited]
  | succ n => rw [kWaited, if_neg (by omega), if_pos hd]
theorem kWaited_step {r : Nat} {i : Int} {τ : Zt} (hi : i < 400) (h : 0 < τ (20 + 6 * r) 6) (hd : kFirst τ r (τ 1 10).toNat 0 ≠ -1) : kWaited r (400 - i).toNat τ = kWaited r (400 - (i + 1)).toNat (kCarry (kUnwait τ r (kFirst τ r (τ 1 10).toNat 0)) r (kFirst τ r (τ 1 10).toNat 0)) := by
  rw [show (400 - i).toNat = (400 - (i + 1)).toNat + 1 by omega, kWaited, if_neg (by omega), if_neg hd]
theorem kWaited_rg {r : Nat} (hr : r < 6) : ∀ (n : Nat) (τ : Zt), rgS τ → rgS (kWaited r n τ) := by
  intro n
  induction n with
  | zero => intro τ h; exact h
  | succ n ih =>
    intro τ h
    have b := rgS_1_10 h
    have f := kFirst_rg τ r (τ 1 10).toNat 0
    rw [kWaited]
    split
    · exact h
    · split
      · exact h
      · rename_i h1 h2
        have h9 := kReady_dn h (kFirst_is (σ := τ) _ _ h2).2
        refine ih _ (kCarry_rg (kUnwait_rg h hr (by omega)) hr (by omega) (by omega) ?_)
        unfold kUnwait
        simp (disch := omega) only [zu_ne]
        exact h9
theorem kRecS_rg {σ : Zt} {r : Nat} {d : Int} (h : rgS σ) (hr : r < 6) (d0 : 0 ≤ d) (d1 : d < 400) (wt : kDid σ r d = false → σ (22 + 6 * r) d.toNat = 0 → σ (20 + 6 * r) 6 < 400) : rgS (kRecS σ r d) := by
  have b := rgS_20_6 h hr
  unfold kRecS
  split
  · exact h
  · rename_i h1
    split
    · rename_i h2
      exact kWaited_rg hr 400 _ (kCarry_rg h hr d0 d1 (kReady_dn h h2))
    · have h3 := wt (by grind) (by grind)
      exact rzS_20_6 (rzS_22 h hr (by omega) (by omega)) hr (by omega) (by omega)
theorem kAdd_own {σ : Zt} {w t z q v f g : Int} : (kAdd σ w t z q v f g) 2 (σ 1 10).toNat = w := by
  unfold kAdd kAdd0
  split <;> simp [zu]
theorem kAdd_rep {σ : Zt} {w t z q v f g : Int} {k : Nat} (h : 20 ≤ k) : (kAdd σ w t z q v f g) k = σ k := by
  unfold kAdd kAdd0
  split <;> simp (disch := omega) only [zu_ne]
theorem kSendTo_end {d : Int} {r : Nat} {j : Int} {τ : Zt} (h : 6 ≤ j) : kSendTo d r (6 - j).toNat j τ = τ := by
  rw [show (6 - j).toNat = 0 by omega, kSendTo]
theorem kSendTo_skip {d : Int} {r : Nat} {j : Int} {τ : Zt} (h : j < 6) (e : j = (r : Int)) : kSendTo d r (6 - j).toNat j τ = kSendTo d r (6 - (j + 1)).toNat (j + 1) τ := by
  rw [show (6 - j).toNat = (6 - (j + 1)).toNat + 1 by omega, kSendTo, if_pos e]
theorem kSendTo_go {d : Int} {r : Nat} {j : Int} {τ : Zt} (h : j < 6) (e : j ≠ (r : Int)) : kSendTo d r (6 - j).toNat j τ = kSendTo d r (6 - (j + 1)).toNat (j + 1) (kSend τ d j) := by
  rw [show (6 - j).toNat = (6 - (j + 1)).toNat + 1 by omega, kSendTo, if_neg e]
theorem kSendTo_rg {d : Int} (d0 : 0 ≤ d) (d1 : d < 400) {r : Nat} : ∀ (n : Nat) (j : Int) (τ : Zt), 0 ≤ j → j + n ≤ 6 → rgS τ → rgS (kSendTo d r n j τ) := by
  intro n
  induction n with
  | zero => intro j τ _ _ h; exact h
  | succ n ih =>
    intro j τ h0 h1 h
    rw [kSendTo]
    refine ih _ _ (by omega) (by omega) ?_
    split
    · exact h
    · exact kSend_rg h d0 d1 (by omega) (by omega)
theorem kPerform_rg {σ : Zt} {r : Nat} {q v f g : Int} (h : rgS σ) (hr : r < 6) (tt : σ 1 10 < 400) (tm : σ 1 9 < 400) (dn : σ (21 + 6 * r) r < 400) (tr : σ (20 + 6 * r) 4 < 400) (q0 : 0 ≤ q) (q1 : q < 4) (v0 : 0 ≤ v) (v1 : v < 127) (f0 : 0 ≤ f) (f1 : f < 400) (g0 : 0 ≤ g) (g1 : g < 400) : rgS (kPerform σ r q v f g) := by
  have b := rgS_1_10 h
  have b1 := rgS_21 h hr r
  have b2 := rgS_20_4 h hr
  have h1 : rgS (kAdd σ r (σ (21 + 6 * r) r + 1) (σ (20 + 6 * r) 4 + 1) q v f g) := kAdd_rg h tt tm (by omega) (by omega) (by omega) (by omega) (by omega) (by omega) q0 q1 v0 v1 f0 f1 g0 g1
  refine kSendTo_rg (by omega) (by omega) 6 0 _ (by omega) (by omega) (kCarry_rg h1 hr (by omega) (by omega) ?_)
  rw [kAdd_own, kAdd_rep (by omega)]
  simpa using dn
theorem kHigh_no {σ : Zt} {b k : Int} (h : b = -1) : kHigh σ b k = kBase k := by unfold kHigh; rw [if_pos h]
theorem kHigh_b {σ : Zt} {b k : Int} (h : b ≠ -1) : kHigh σ b k = kDigit (kLevel σ b k) := by unfold kHigh; rw [if_neg h]
theorem kFind_end {r : Nat} {fr be b k : Int} {τ : Zt} (h : 12 < k) : kFind r fr be (13 - k).toNat k b τ = (false, τ) := by
  rw [show (13 - k).toNat = 0 by omega, kFind]
theorem kFind_hit {r : Nat} {fr be b k : Int} {τ : Zt} (h : k ≤ 12) (hh : 1 < kHigh τ b k - kDigit (kLevel τ be k)) : kFind r fr be (13 - k).toNat k b τ =
    (true, zu (zu (kCoinS τ r) 12 (fr * 12 + k - 1).toNat (kMake (kLastD k (kDigit (kLevel τ be k)) (kHigh τ b k) (kCoin τ r)) r (τ (21 + 6 * r) r + 1))) 13 fr.toNat k) := by
  rw [show (13 - k).toNat = (13 - (k + 1)).toNat + 1 by omega, kFind, if_pos hh]
theorem kFind_keep {r : Nat} {fr be b k : Int} {τ : Zt} (h : k ≤ 12) (hh : ¬ 1 < kHigh τ b k - kDigit (kLevel τ be k))
    (e : kLevel (zu τ 12 (fr * 12 + k - 1).toNat (kInner (kLevel τ be k) (kLevel τ b k) r (τ (21 + 6 * r) r + 1))) b k = (zu τ 12 (fr * 12 + k - 1).toNat (kInner (kLevel τ be k) (kLevel τ b k) r (τ (21 + 6 * r) r + 1))) 12 (fr * 12 + k - 1).toNat) :
    kFind r fr be (13 - k).toNat k b τ = kFind r fr be (13 - (k + 1)).toNat (k + 1) b (zu τ 12 (fr * 12 + k - 1).toNat (kInner (kLevel τ be k) (kLevel τ b k) r (τ (21 + 6 * r) r + 1))) := by
  rw [show (13 - k).toNat = (13 - (k + 1)).toNat + 1 by omega, kFind, if_neg hh]
  rw [zu_same] at e
  rw [if_pos e]
theorem kFind_free {r : Nat} {fr be b k : Int} {τ : Zt} (h : k ≤ 12) (hh : ¬ 1 < kHigh τ b k - kDigit (kLevel τ be k))
    (e : kLevel (zu τ 12 (fr * 12 + k - 1).toNat (kInner (kLevel τ be k) (kLevel τ b k) r (τ (21 + 6 * r) r + 1))) b k ≠ (zu τ 12 (fr * 12 + k - 1).toNat (kInner (kLevel τ be k) (kLevel τ b k) r (τ (21 + 6 * r) r + 1))) 12 (fr * 12 + k - 1).toNat) :
    kFind r fr be (13 - k).toNat k b τ = kFind r fr be (13 - (k + 1)).toNat (k + 1) (-1) (zu τ 12 (fr * 12 + k - 1).toNat (kInner (kLevel τ be k) (kLevel τ b k) r (τ (21 + 6 * r) r + 1))) := by
  rw [show (13 - k).toNat = (13 - (k + 1)).toNat + 1 by omega, kFind, if_neg hh]
  rw [zu_same] at e
  rw [if_neg e]
theorem kFind_rg {r : Nat} {fr be : Int} (hr : r < 6) (fr0 : 0 ≤ fr) (fr1 : fr < 400) : ∀ (n : Nat) (k b : Int) (τ : Zt), 1 ≤ k → k + n ≤ 13 → rgS τ → τ (21 + 6 * r) r < 400 → rgS (kFind r fr be n k b τ).2 := by
  intro n
  induction n with
  | zero => intro k b τ _ _ h _; exact h
  | succ n ih =>
    intro k b τ h0 h1 h hd
    have c0 := rgS_21 h hr r
    have l1 := kLevel_rg h be k
    have l2 := kLevel_rg h b k
    have d1 := kDigit_rg l1.1 l1.2
    have g1 := kHigh_rg h (b := b) (k := k) (by omega) (by omega)
    have co := kCoin_rg τ r
    rw [kFind]
    split
    · have la := kLastD_rg (k := k) (lo := kDigit (kLevel τ be k)) (hi := kHigh τ b k) (co := kCoin τ r) (by omega) (by omega) (by omega) (by omega)
      have mk := kMake_rg (d := kLastD k (kDigit (kLevel τ be k)) (kHigh τ b k) (kCoin τ r)) (q := (r : Int)) (n := τ (21 + 6 * r) r + 1) (by omega) (by omega) (by omega) (by omega) (by omega) (by omega)
      exact rzS_13 (rzS_12 (kCoinS_rg h hr) mk.1 mk.2) (by omega) (by omega)
    · have mk := kInner_rg (x := kLevel τ be k) (y := kLevel τ b k) (r := r) (n := τ (21 + 6 * r) r + 1) hr l1.1 l1.2 l2.1 l2.2 (by omega) (by omega)
      refine ih _ _ _ (by omega) (by omega) (rzS_12 h mk.1 mk.2) ?_
      rw [zu_ne (by omega)]
      exact hd
theorem kGoalOf_rg {σ : Zt} {fr be : Int} (h : rgS σ) (bk : be = -1 ∨ σ 15 be.toNat < σ 11 4) : 0 ≤ kGoalOf σ fr be ∧ kGoalOf σ fr be ≤ σ 11 4 := by
  have b := rgS_11_4 h
  have c := rgS_15 h be.toNat
  unfold kGoalOf
  split
  · have := kGoal_rg (σ := σ) (f := fr) (σ 11 4).toNat 0
    omega
  · rename_i q
    have := kGoal_rg (σ := σ) (f := fr) (σ 11 4 - (σ 15 be.toNat + 1)).toNat (σ 15 be.toNat + 1)
    omega
theorem kShift_rg : ∀ (n : Nat) (i : Int) (τ : Zt), n ≤ i → 0 ≤ i → i < 400 → rgS τ → rgS (kShift n i τ) := by
  intro n
  induction n with
  | zero => intro i τ _ _ _ h; exact h
  | succ n ih =>
    intro i τ hn h0 h1 h
    have b := rgS_14 h (i - 1).toNat
    rw [kShift]
    exact ih _ _ (by omega) (by omega) (by omega) (rzS_15 (rzS_14 h b.1 b.2) h0 h1)
theorem kInsert_rg {σ : Zt} {fr be : Int} (h : rgS σ) (fr0 : 0 ≤ fr) (fr1 : fr < 400) (pp : σ 11 4 < 400) (bk : be = -1 ∨ σ 15 be.toNat < σ 11 4) : rgS (kInsert σ fr be) := by
  have b := rgS_11_4 h
  have g := kGoalOf_rg (fr := fr) h bk
  exact rzS_11_4 (rzS_15 (rzS_14 (kShift_rg _ _ _ (by omega) (by omega) (by omega) h) fr0 fr1) (by omega) (by omega)) (by omega) (by omega)
