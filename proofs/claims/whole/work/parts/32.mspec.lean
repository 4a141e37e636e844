/-! SPEC of the reference's own small functions -/
def mIn (x u v : Int) : Bool := decide (u ≤ x) && decide (x ≤ v)
theorem mIn_t {x u v : Int} (h : mIn x u v = true) : u ≤ x ∧ x ≤ v := by simpa [mIn] using h
theorem mIn_f {x u v : Int} (h : mIn x u v = false) : x < u ∨ v < x := by simp [mIn] at h; omega
theorem mIn_R (x : Int) : mIn x 0 5 = kIsR x := by
  unfold mIn kIsR
  congr 1
  exact decide_eq_decide.mpr (by omega)
def mLater (σ : Zt) (d f : Int) : Bool := decide (f = -1) || (decide (σ 3 f.toNat < σ 3 d.toNat) || (decide (σ 3 d.toNat = σ 3 f.toNat) && decide (σ 1 f.toNat < σ 1 d.toNat)))
def mSend (σ : Zt) (d q : Int) : Zt := if σ 0 25 = 300 then zu σ 0 28 (σ 0 28 + 1) else zu (zu (zu σ 23 (σ 0 25).toNat d) 24 (σ 0 25).toNat q) 0 25 (σ 0 25 + 1)
theorem mSend_rg {σ : Zt} {d q : Int} (h : rgM σ) (d0 : 0 ≤ d) (d1 : d < 400) (q0 : 0 ≤ q) (q1 : q < 6) : rgM (mSend σ d q) := by
  have b := rgM_0_25 h
  unfold mSend
  split
  · exact rzM_0_28 h
  · exact rzM_0_25 (rzM_24 (rzM_23 h d0 d1) q0 q1) (by omega) (by omega)
def mDrop : Nat → Nat → Zt → Zt
  | 0, _, σ => σ
  | n + 1, j, σ => mDrop n (j + 1) (zu (zu σ 23 j (σ 23 (j + 1))) 24 j (σ 24 (j + 1)))
def mDropS (σ : Zt) (i : Int) : Zt := mDrop (σ 0 25 - 1 - i).toNat i.toNat (zu σ 0 25 (σ 0 25 - 1))
theorem mDrop_rg : ∀ (n j : Nat) (τ : Zt), rgM τ → rgM (mDrop n j τ) := by
  intro n
  induction n with
  | zero => intro j τ h; exact h
  | succ n ih =>
    intro j τ h
    rw [mDrop]
    have b1 := rgM_23 h (j + 1)
    have b2 := rgM_24 h (j + 1)
    exact ih _ _ (rzM_24 (rzM_23 h b1.1 b1.2) b2.1 b2.2)
theorem mDropS_rg {σ : Zt} {i : Int} (h : rgM σ) (i0 : 0 ≤ i) (i1 : i < σ 0 25) : rgM (mDropS σ i) := by
  have b := rgM_0_25 h
  exact mDrop_rg _ _ _ (rzM_0_25 h (by omega) (by omega))
theorem mDrop_end {τ : Zt} {t j : Int} (h : t ≤ j) : mDrop (t - j).toNat j.toNat τ = τ := by
  rw [show (t - j).toNat = 0 by omega, mDrop]
theorem mDrop_step {τ : Zt} {t j : Int} (h0 : 0 ≤ j) (h : j < t) : mDrop (t - j).toNat j.toNat τ = mDrop (t - (j + 1)).toNat (j + 1).toNat (zu (zu τ 23 j.toNat (τ 23 (j + 1).toNat)) 24 j.toNat (τ 24 (j + 1).toNat)) := by
  rw [show (t - j).toNat = (t - (j + 1)).toNat + 1 by omega, mDrop, show (j + 1).toNat = j.toNat + 1 by omega]
def mDone0 (σ : Zt) (x d : Int) : Zt := zu (zu (zu (zu σ 16 (400 * x + d).toNat 1) 17 (400 * x + d).toNat 0) 19 (6 * x + σ 1 d.toNat).toNat (σ 19 (6 * x + σ 1 d.toNat).toNat + 1)) 20 x.toNat (if σ 20 x.toNat < σ 3 d.toNat then σ 3 d.toNat else σ 20 x.toNat)
def mDone (σ : Zt) (x d : Int) : Zt := if σ 4 d.toNat = 1 ∨ σ 4 d.toNat = 2 then zu (mDone0 σ x d) 18 (400 * x + σ 6 d.toNat).toNat (if mLater σ d (σ 18 (400 * x + σ 6 d.toNat).toNat) = true then d else σ 18 (400 * x + σ 6 d.toNat).toNat) else mDone0 σ x d
theorem mDone_rg {σ : Zt} {x d : Int} (h : rgM σ) (x0 : 0 ≤ x) (x1 : x < 6) (d0 : 0 ≤ d) (d1 : d < 400) (dn : σ 19 (6 * x + σ 1 d.toNat).toNat < 400) : rgM (mDone σ x d) := by
  have b1 := rgM_19 h (6 * x + σ 1 d.toNat).toNat
  have b2 := rgM_20 h x.toNat
  have b3 := rgM_3 h d.toNat
  have b4 := rgM_18 h (400 * x + σ 6 d.toNat).toNat
  have h0 : rgM (mDone0 σ x d) := rzM_20 (rzM_19 (rzM_17 (rzM_16 h (by omega) (by omega)) (by omega) (by omega)) (by omega) (by omega)) (by split <;> omega) (by split <;> omega)
  unfold mDone
  split
  · exact rzM_18 h0 (by split <;> omega) (by split <;> omega)
  · exact h0
def mLev (σ : Zt) (u q t : Int) : Zt := zu (zu (zu (zu σ 25 (σ 0 32).toNat u) 26 (σ 0 32).toNat q) 27 (σ 0 32).toNat t) 0 32 (σ 0 32 + 1)
theorem mLev_rg {σ : Zt} {u q t : Int} (h : rgM σ) (dp : σ 0 32 < 12) (u0 : 0 ≤ u) (u1 : u < 4096) (q0 : 0 ≤ q) (q1 : q < 6) (t0 : 0 ≤ t) (t1 : t < 512) : rgM (mLev σ u q t) := by
  have b := rgM_0_32 h
  exact rzM_0_32 (rzM_27 (rzM_26 (rzM_25 h u0 u1) q0 q1) t0 t1) (by omega) (by omega)
def mIsLev (σ : Zt) (d k f : Int) : Bool := decide (σ 11 (12 * d + k - 1).toNat = σ 11 (12 * f + k - 1).toNat) && (decide (σ 12 (12 * d + k - 1).toNat = σ 12 (12 * f + k - 1).toNat) && decide (σ 13 (12 * d + k - 1).toNat = σ 13 (12 * f + k - 1).toNat))
def mBef (σ : Zt) (d f : Int) : Nat → Int → Bool
  | 0, _ => false
  | n + 1, k => if k = σ 10 d.toNat ∨ k = σ 10 f.toNat then decide (σ 10 d.toNat < σ 10 f.toNat)
    else if σ 11 (12 * d + k).toNat = σ 11 (12 * f + k).toNat then
      (if σ 12 (12 * d + k).toNat = σ 12 (12 * f + k).toNat then
        (if σ 13 (12 * d + k).toNat = σ 13 (12 * f + k).toNat then mBef σ d f n (k + 1) else decide (σ 13 (12 * d + k).toNat < σ 13 (12 * f + k).toNat))
      else decide (σ 12 (12 * d + k).toNat < σ 12 (12 * f + k).toNat))
    else decide (σ 11 (12 * d + k).toNat < σ 11 (12 * f + k).toNat)
section MB
variable {σ : Zt} {d f k : Int}
theorem mBef_end (h : 12 ≤ k) : mBef σ d f (12 - k).toNat k = false := by
  rw [show (12 - k).toNat = 0 by omega, mBef]
theorem mBef_len (h : k < 12) (e : k = σ 10 d.toNat ∨ k = σ 10 f.toNat) : mBef σ d f (12 - k).toNat k = decide (σ 10 d.toNat < σ 10 f.toNat) := by
  rw [show (12 - k).toNat = (12 - (k + 1)).toNat + 1 by omega, mBef, if_pos e]
theorem mBef_dig (h : k < 12) (e1 : k ≠ σ 10 d.toNat) (e2 : k ≠ σ 10 f.toNat) (e : σ 11 (12 * d + k).toNat ≠ σ 11 (12 * f + k).toNat) : mBef σ d f (12 - k).toNat k = decide (σ 11 (12 * d + k).toNat < σ 11 (12 * f + k).toNat) := by
  rw [show (12 - k).toNat = (12 - (k + 1)).toNat + 1 by omega, mBef, if_neg (fun q => q.elim e1 e2), if_neg e]
theorem mBef_sit (h : k < 12) (e1 : k ≠ σ 10 d.toNat) (e2 : k ≠ σ 10 f.toNat) (e3 : σ 11 (12 * d + k).toNat = σ 11 (12 * f + k).toNat) (e : σ 12 (12 * d + k).toNat ≠ σ 12 (12 * f + k).toNat) : mBef σ d f (12 - k).toNat k = decide (σ 12 (12 * d + k).toNat < σ 12 (12 * f + k).toNat) := by
  rw [show (12 - k).toNat = (12 - (k + 1)).toNat + 1 by omega, mBef, if_neg (fun q => q.elim e1 e2), if_pos e3, if_neg e]
theorem mBef_cnt (h : k < 12) (e1 : k ≠ σ 10 d.toNat) (e2 : k ≠ σ 10 f.toNat) (e3 : σ 11 (12 * d + k).toNat = σ 11 (12 * f + k).toNat) (e4 : σ 12 (12 * d + k).toNat = σ 12 (12 * f + k).toNat) (e : σ 13 (12 * d + k).toNat ≠ σ 13 (12 * f + k).toNat) : mBef σ d f (12 - k).toNat k = decide (σ 13 (12 * d + k).toNat < σ 13 (12 * f + k).toNat) := by
  rw [show (12 - k).toNat = (12 - (k + 1)).toNat + 1 by omega, mBef, if_neg (fun q => q.elim e1 e2), if_pos e3, if_pos e4, if_neg e]
theorem mBef_same (h : k < 12) (e1 : k ≠ σ 10 d.toNat) (e2 : k ≠ σ 10 f.toNat) (e3 : σ 11 (12 * d + k).toNat = σ 11 (12 * f + k).toNat) (e4 : σ 12 (12 * d + k).toNat = σ 12 (12 * f + k).toNat) (e5 : σ 13 (12 * d + k).toNat = σ 13 (12 * f + k).toNat) : mBef σ d f (12 - k).toNat k = mBef σ d f (12 - (k + 1)).toNat (k + 1) := by
  rw [show (12 - k).toNat = (12 - (k + 1)).toNat + 1 by omega, mBef, if_neg (fun q => q.elim e1 e2), if_pos e3, if_pos e4, if_pos e5]
end MB
/-- places move up until d fits: where, and the rows -/
def mSh (d : Int) : Nat → Int → Zt → Int × Zt
  | 0, k, σ => (k, σ)
  | n + 1, k, σ => if mBef σ d (σ 14 (k - 1).toNat) 12 0 = true then mSh d n (k - 1) (zu (zu σ 14 k.toNat (σ 14 (k - 1).toNat)) 15 (σ 14 (k - 1).toNat).toNat k) else (k, σ)
def mSort (σ : Zt) (d : Int) : Zt := zu (zu (zu (mSh d (σ 0 15).toNat (σ 0 15) σ).2 14 (mSh d (σ 0 15).toNat (σ 0 15) σ).1.toNat d) 15 d.toNat (mSh d (σ 0 15).toNat (σ 0 15) σ).1) 0 15 (σ 0 15 + 1)
theorem mSh_end {d k : Int} {τ : Zt} (h : k ≤ 0) : mSh d k.toNat k τ = (k, τ) := by
  rw [show k.toNat = 0 by omega, mSh]
theorem mSh_stop {d k : Int} {τ : Zt} (h : 0 < k) (e : mBef τ d (τ 14 (k - 1).toNat) 12 0 = false) : mSh d k.toNat k τ = (k, τ) := by
  rw [show k.toNat = (k - 1).toNat + 1 by omega, mSh, if_neg (by rw [e]; decide)]
theorem mSh_go {d k : Int} {τ : Zt} (h : 0 < k) (e : mBef τ d (τ 14 (k - 1).toNat) 12 0 = true) : mSh d k.toNat k τ = mSh d (k + -1).toNat (k + -1) (zu (zu τ 14 k.toNat (τ 14 (k - 1).toNat)) 15 (τ 14 (k - 1).toNat).toNat k) := by
  have q : k.toNat = (k + -1).toNat + 1 := by omega
  conv => lhs; rw [q, mSh, if_pos e]
  rw [show k - 1 = k + -1 by omega]
theorem mSh_rg {d : Int} : ∀ (n : Nat) (k : Int) (τ : Zt), n ≤ k → k < 400 → rgM τ → rgM (mSh d n k τ).2 ∧ 0 ≤ (mSh d n k τ).1 ∧ (mSh d n k τ).1 < 400 := by
  intro n
  induction n with
  | zero => intro k τ h1 h2 h; exact ⟨h, by simpa [mSh] using h1, by simpa [mSh] using h2⟩
  | succ n ih =>
    intro k τ h1 h2 h
    have b := rgM_14 h (k - 1).toNat
    rw [mSh]
    split
    · exact ih _ _ (by omega) (by omega) (rzM_15 (rzM_14 h b.1 b.2) (by omega) (by omega))
    · exact ⟨h, by show 0 ≤ k; omega, h2⟩
theorem mSort_rg {σ : Zt} {d : Int} (h : rgM σ) (d0 : 0 ≤ d) (d1 : d < 400) (pp : σ 0 15 < 400) : rgM (mSort σ d) := by
  have b := rgM_0_15 h
  obtain ⟨h1, h2, h3⟩ := mSh_rg (d := d) (σ 0 15).toNat (σ 0 15) σ (by omega) pp h
  exact rzM_0_15 (rzM_15 (rzM_14 h1 d0 d1) h2 h3) (by omega) (by omega)
