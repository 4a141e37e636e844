/-! SPEC of the reference's own small functions -/
theorem zg_or0 {p : Program} {l : Launch} {e : Env} {R : Room} {s : State} {m : MethodId} {args : Array Value} {below : List Frame} {meth : Method} {c : Code} {H : Heap} {locs : List Loc} {cells slots : Nat} {Q : State → Prop} {cc : ByteArray} {pc : Nat} {ls : Array Slot} {rest : List Value} {nL : Nat} {ret : Option FieldType} {Ts : List Cond} {own : String} {x : Int} (C : zk p s m args meth c cc nL ret Ts own) (x0 : 0 ≤ x) (x1 : x < 2147483648) (hdg : decode cc pc = .ok (.ior, 1))
    (k : W p l e R s m args below meth c H locs cells slots Q (F0 m (pc + 1) ls (.int (jI x) :: rest))) : W p l e R s m args below meth c H locs cells slots Q (F0 m pc ls (.int (jI 0) :: .int (jI x) :: rest)) := by
  refine lv_ior C.1.1 C.1.2.1 hdg ?_
  rw [show jI x ||| jI 0 = jI x from Int32.or_zero]
  exact k
theorem RR_keep {κ μ : Zt} {k i : Nat} {v : Int} (h : RR κ μ) (hk : (k = 25 ∨ k = 26 ∨ k = 27) ∨ (k = 0 ∧ i ≠ 1 ∧ i ≠ 15 ∧ i ≠ 25 ∧ i ≠ 28)) : RR κ (zu μ k i v) := by
  have e : ∀ q, q ≠ 0 → q < 25 → zu μ k i v q = μ q := fun q h0 h1 => by
    by_cases hq : q = k
    · omega
    · exact zu_ne hq
  have e0 : ∀ j, j = 1 ∨ j = 15 ∨ j = 25 ∨ j = 28 → zu μ k i v 0 j = μ 0 j := fun j hj => by
    by_cases hq : (0 : Nat) = k
    · subst hq; exact zu_nj (by omega)
    · rw [zu_ne hq]
  unfold RR
  rw [e0 1 (by omega), e0 15 (by omega), e0 25 (by omega), e0 28 (by omega), e 1 (by omega) (by omega), e 2 (by omega) (by omega), e 3 (by omega) (by omega), e 4 (by omega) (by omega), e 5 (by omega) (by omega), e 6 (by omega) (by omega), e 7 (by omega) (by omega), e 8 (by omega) (by omega), e 9 (by omega) (by omega), e 10 (by omega) (by omega), e 11 (by omega) (by omega), e 12 (by omega) (by omega), e 13 (by omega) (by omega), e 14 (by omega) (by omega), e 15 (by omega) (by omega), e 16 (by omega) (by omega), e 17 (by omega) (by omega), e 18 (by omega) (by omega), e 19 (by omega) (by omega), e 20 (by omega) (by omega), e 21 (by omega) (by omega), e 22 (by omega) (by omega), e 23 (by omega) (by omega), e 24 (by omega) (by omega)]
  exact h
theorem rr_7 {κ μ : Zt} (h : RR κ μ) {d : Nat} (hd : κ 5 d = 3) : μ 7 d = κ 8 d := h.2.2.1 d hd
/-- of the first n deeds the latest mark of a kind over a sign -/
def mBest (κ : Zt) (r : Nat) (z k : Int) : Nat → Int
  | 0 => -1
  | n + 1 => if κ 5 n = 3 ∧ κ 6 n % 8 = k ∧ kMarked κ r z n = true ∧ (mBest κ r z k n = -1 ∨ kLater κ n (mBest κ r z k n) = true) then (n : Int) else mBest κ r z k n
theorem mBest_rg (κ : Zt) (r : Nat) (z k : Int) : ∀ n : Nat, -1 ≤ mBest κ r z k n ∧ mBest κ r z k n < n := by
  intro n
  induction n with
  | zero => simp [mBest]
  | succ n ih => rw [mBest]; split <;> omega
theorem mBest_step {κ : Zt} {r : Nat} {z k d : Int} (d0 : 0 ≤ d) : mBest κ r z k (d + 1).toNat = if κ 5 d.toNat = 3 ∧ κ 6 d.toNat % 8 = k ∧ kMarked κ r z d = true ∧ (mBest κ r z k d.toNat = -1 ∨ kLater κ d (mBest κ r z k d.toNat) = true) then d else mBest κ r z k d.toNat := by
  rw [show (d + 1).toNat = d.toNat + 1 by omega, mBest, Int.toNat_of_nonneg d0]

def mIn (x u v : Int) : Bool := decide (u ≤ x) && decide (x ≤ v)
theorem mIn_t {x u v : Int} (h : mIn x u v = true) : u ≤ x ∧ x ≤ v := by simpa [mIn] using h
theorem mIn_f {x u v : Int} (h : mIn x u v = false) : x < u ∨ v < x := by simp [mIn] at h; omega
theorem mIn_R (x : Int) : mIn x 0 5 = kIsR x := by
  unfold mIn kIsR
  congr 1
  exact decide_eq_decide.mpr (by omega)
def mLater (σ : Zt) (d f : Int) : Bool := decide (f = -1) || (decide (σ 3 f.toNat < σ 3 d.toNat) || (decide (σ 3 d.toNat = σ 3 f.toNat) && decide (σ 1 f.toNat < σ 1 d.toNat)))
def mSend (σ : Zt) (d q : Int) : Zt := if σ 0 25 = 300 then zu σ 0 28 (σ 0 28 + 1) else zu (zu (zu σ 23 (σ 0 25).toNat d) 24 (σ 0 25).toNat q) 0 25 (σ 0 25 + 1)
theorem mSend_rg {σ : Zt} {d q : Int} (h : rgM σ) (d0 : 0 ≤ d) (d1 : d < 400) (q0 : 0 ≤ q) (q1 : q < 6) : rgM (mSend σ d q) := by
  have b := rgM_0_25 h
  unfold mSend
  split
  · exact rzM_0_28 h
  · exact rzM_0_25 (rzM_24 (rzM_23 h d0 d1) q0 q1) (by omega) (by omega)
def mDrop : Nat → Nat → Zt → Zt
  | 0, _, σ => σ
  | n + 1, j, σ => mDrop n (j + 1) (zu (zu σ 23 j (σ 23 (j + 1))) 24 j (σ 24 (j + 1)))
def mDropS (σ : Zt) (i : Int) : Zt := mDrop (σ 0 25 - 1 - i).toNat i.toNat (zu σ 0 25 (σ 0 25 - 1))
theorem mDrop_rg : ∀ (n j : Nat) (τ : Zt), rgM τ → rgM (mDrop n j τ) := by
  intro n
  induction n with
  | zero => intro j τ h; exact h
  | succ n ih =>
    intro j τ h
    rw [mDrop]
    have b1 := rgM_23 h (j + 1)
    have b2 := rgM_24 h (j + 1)
    exact ih _ _ (rzM_24 (rzM_23 h b1.1 b1.2) b2.1 b2.2)
theorem mDropS_rg {σ : Zt} {i : Int} (h : rgM σ) (i0 : 0 ≤ i) (i1 : i < σ 0 25) : rgM (mDropS σ i) := by
  have b := rgM_0_25 h
  exact mDrop_rg _ _ _ (rzM_0_25 h (by omega) (by omega))
theorem mDrop_end {τ : Zt} {t j : Int} (h : t ≤ j) : mDrop (t - j).toNat j.toNat τ = τ := by
  rw [show (t - j).toNat = 0 by omega, mDrop]
theorem mDrop_step {τ : Zt} {t j : Int} (h0 : 0 ≤ j) (h : j < t) : mDrop (t - j).toNat j.toNat τ = mDrop (t - (j + 1)).toNat (j + 1).toNat (zu (zu τ 23 j.toNat (τ 23 (j + 1).toNat)) 24 j.toNat (τ 24 (j + 1).toNat)) := by
  rw [show (t - j).toNat = (t - (j + 1)).toNat + 1 by omega, mDrop, show (j + 1).toNat = j.toNat + 1 by omega]
def mDone0 (σ : Zt) (x d : Int) : Zt := zu (zu (zu (zu σ 16 (400 * x + d).toNat 1) 17 (400 * x + d).toNat 0) 19 (6 * x + σ 1 d.toNat).toNat (σ 19 (6 * x + σ 1 d.toNat).toNat + 1)) 20 x.toNat (if σ 20 x.toNat < σ 3 d.toNat then σ 3 d.toNat else σ 20 x.toNat)
def mDone (σ : Zt) (x d : Int) : Zt := if σ 4 d.toNat = 1 ∨ σ 4 d.toNat = 2 then zu (mDone0 σ x d) 18 (400 * x + σ 6 d.toNat).toNat (if mLater σ d (σ 18 (400 * x + σ 6 d.toNat).toNat) = true then d else σ 18 (400 * x + σ 6 d.toNat).toNat) else mDone0 σ x d
theorem mDone_rg {σ : Zt} {x d : Int} (h : rgM σ) (x0 : 0 ≤ x) (x1 : x < 6) (d0 : 0 ≤ d) (d1 : d < 400) (dn : σ 19 (6 * x + σ 1 d.toNat).toNat < 400) : rgM (mDone σ x d) := by
  have b1 := rgM_19 h (6 * x + σ 1 d.toNat).toNat
  have b2 := rgM_20 h x.toNat
  have b3 := rgM_3 h d.toNat
  have b4 := rgM_18 h (400 * x + σ 6 d.toNat).toNat
  have h0 : rgM (mDone0 σ x d) := rzM_20 (rzM_19 (rzM_17 (rzM_16 h (by omega) (by omega)) (by omega) (by omega)) (by omega) (by omega)) (by split <;> omega) (by split <;> omega)
  unfold mDone
  split
  · exact rzM_18 h0 (by split <;> omega) (by split <;> omega)
  · exact h0
def mLev (σ : Zt) (u q t : Int) : Zt := zu (zu (zu (zu σ 25 (σ 0 32).toNat u) 26 (σ 0 32).toNat q) 27 (σ 0 32).toNat t) 0 32 (σ 0 32 + 1)
theorem mLev_rg {σ : Zt} {u q t : Int} (h : rgM σ) (dp : σ 0 32 < 12) (u0 : 0 ≤ u) (u1 : u < 4096) (q0 : 0 ≤ q) (q1 : q < 6) (t0 : 0 ≤ t) (t1 : t < 512) : rgM (mLev σ u q t) := by
  have b := rgM_0_32 h
  exact rzM_0_32 (rzM_27 (rzM_26 (rzM_25 h u0 u1) q0 q1) t0 t1) (by omega) (by omega)
def mIsLev (σ : Zt) (d k f : Int) : Bool := decide (σ 11 (12 * d + k - 1).toNat = σ 11 (12 * f + k - 1).toNat) && (decide (σ 12 (12 * d + k - 1).toNat = σ 12 (12 * f + k - 1).toNat) && decide (σ 13 (12 * d + k - 1).toNat = σ 13 (12 * f + k - 1).toNat))
def mBef (σ : Zt) (d f : Int) : Nat → Int → Bool
  | 0, _ => false
  | n + 1, k => if k = σ 10 d.toNat ∨ k = σ 10 f.toNat then decide (σ 10 d.toNat < σ 10 f.toNat)
    else if σ 11 (12 * d + k).toNat = σ 11 (12 * f + k).toNat then
      (if σ 12 (12 * d + k).toNat = σ 12 (12 * f + k).toNat then
        (if σ 13 (12 * d + k).toNat = σ 13 (12 * f + k).toNat then mBef σ d f n (k + 1) else decide (σ 13 (12 * d + k).toNat < σ 13 (12 * f + k).toNat))
      else decide (σ 12 (12 * d + k).toNat < σ 12 (12 * f + k).toNat))
    else decide (σ 11 (12 * d + k).toNat < σ 11 (12 * f + k).toNat)
section MB
variable {σ : Zt} {d f k : Int}
theorem mBef_end (h : 12 ≤ k) : mBef σ d f (12 - k).toNat k = false := by
  rw [show (12 - k).toNat = 0 by omega, mBef]
theorem mBef_len (h : k < 12) (e : k = σ 10 d.toNat ∨ k = σ 10 f.toNat) : mBef σ d f (12 - k).toNat k = decide (σ 10 d.toNat < σ 10 f.toNat) := by
  rw [show (12 - k).toNat = (12 - (k + 1)).toNat + 1 by omega, mBef, if_pos e]
theorem mBef_dig (h : k < 12) (e1 : k ≠ σ 10 d.toNat) (e2 : k ≠ σ 10 f.toNat) (e : σ 11 (12 * d + k).toNat ≠ σ 11 (12 * f + k).toNat) : mBef σ d f (12 - k).toNat k = decide (σ 11 (12 * d + k).toNat < σ 11 (12 * f + k).toNat) := by
  rw [show (12 - k).toNat = (12 - (k + 1)).toNat + 1 by omega, mBef, if_neg (fun q => q.elim e1 e2), if_neg e]
theorem mBef_sit (h : k < 12) (e1 : k ≠ σ 10 d.toNat) (e2 : k ≠ σ 10 f.toNat) (e3 : σ 11 (12 * d + k).toNat = σ 11 (12 * f + k).toNat) (e : σ 12 (12 * d + k).toNat ≠ σ 12 (12 * f + k).toNat) : mBef σ d f (12 - k).toNat k = decide (σ 12 (12 * d + k).toNat < σ 12 (12 * f + k).toNat) := by
  rw [show (12 - k).toNat = (12 - (k + 1)).toNat + 1 by omega, mBef, if_neg (fun q => q.elim e1 e2), if_pos e3, if_neg e]
theorem mBef_cnt (h : k < 12) (e1 : k ≠ σ 10 d.toNat) (e2 : k ≠ σ 10 f.toNat) (e3 : σ 11 (12 * d + k).toNat = σ 11 (12 * f + k).toNat) (e4 : σ 12 (12 * d + k).toNat = σ 12 (12 * f + k).toNat) (e : σ 13 (12 * d + k).toNat ≠ σ 13 (12 * f + k).toNat) : mBef σ d f (12 - k).toNat k = decide (σ 13 (12 * d + k).toNat < σ 13 (12 * f + k).toNat) := by
  rw [show (12 - k).toNat = (12 - (k + 1)).toNat + 1 by omega, mBef, if_neg (fun q => q.elim e1 e2), if_pos e3, if_pos e4, if_neg e]
theorem mBef_same (h : k < 12) (e1 : k ≠ σ 10 d.toNat) (e2 : k ≠ σ 10 f.toNat) (e3 : σ 11 (12 * d + k).toNat = σ 11 (12 * f + k).toNat) (e4 : σ 12 (12 * d + k).toNat = σ 12 (12 * f + k).toNat) (e5 : σ 13 (12 * d + k).toNat = σ 13 (12 * f + k).toNat) : mBef σ d f (12 - k).toNat k = mBef σ d f (12 - (k + 1)).toNat (k + 1) := by
  rw [show (12 - k).toNat = (12 - (k + 1)).toNat + 1 by omega, mBef, if_neg (fun q => q.elim e1 e2), if_pos e3, if_pos e4, if_pos e5]
end MB
/-- places move up until d fits: where, and the rows -/
def mSh (d : Int) : Nat → Int → Zt → Int × Zt
  | 0, k, σ => (k, σ)
  | n + 1, k, σ => if mBef σ d (σ 14 (k - 1).toNat) 12 0 = true then mSh d n (k - 1) (zu (zu σ 14 k.toNat (σ 14 (k - 1).toNat)) 15 (σ 14 (k - 1).toNat).toNat k) else (k, σ)
def mSort (σ : Zt) (d : Int) : Zt := zu (zu (zu (mSh d (σ 0 15).toNat (σ 0 15) σ).2 14 (mSh d (σ 0 15).toNat (σ 0 15) σ).1.toNat d) 15 d.toNat (mSh d (σ 0 15).toNat (σ 0 15) σ).1) 0 15 (σ 0 15 + 1)
theorem mSh_end {d k : Int} {τ : Zt} (h : k ≤ 0) : mSh d k.toNat k τ = (k, τ) := by
  rw [show k.toNat = 0 by omega, mSh]
theorem mSh_stop {d k : Int} {τ : Zt} (h : 0 < k) (e : mBef τ d (τ 14 (k - 1).toNat) 12 0 = false) : mSh d k.toNat k τ = (k, τ) := by
  rw [show k.toNat = (k - 1).toNat + 1 by omega, mSh, if_neg (by rw [e]; decide)]
theorem mSh_go {d k : Int} {τ : Zt} (h : 0 < k) (e : mBef τ d (τ 14 (k - 1).toNat) 12 0 = true) : mSh d k.toNat k τ = mSh d (k + -1).toNat (k + -1) (zu (zu τ 14 k.toNat (τ 14 (k - 1).toNat)) 15 (τ 14 (k - 1).toNat).toNat k) := by
  have q : k.toNat = (k + -1).toNat + 1 := by omega
  conv => lhs; rw [q, mSh, if_pos e]
  rw [show k - 1 = k + -1 by omega]
theorem mSh_rg {d : Int} : ∀ (n : Nat) (k : Int) (τ : Zt), n ≤ k → k < 400 → rgM τ → rgM (mSh d n k τ).2 ∧ 0 ≤ (mSh d n k τ).1 ∧ (mSh d n k τ).1 < 400 := by
  intro n
  induction n with
  | zero => intro k τ h1 h2 h; exact ⟨h, by simpa [mSh] using h1, by simpa [mSh] using h2⟩
  | succ n ih =>
    intro k τ h1 h2 h
    have b := rgM_14 h (k - 1).toNat
    rw [mSh]
    split
    · exact ih _ _ (by omega) (by omega) (rzM_15 (rzM_14 h b.1 b.2) (by omega) (by omega))
    · exact ⟨h, by show 0 ≤ k; omega, h2⟩
theorem mSort_rg {σ : Zt} {d : Int} (h : rgM σ) (d0 : 0 ≤ d) (d1 : d < 400) (pp : σ 0 15 < 400) : rgM (mSort σ d) := by
  have b := rgM_0_15 h
  obtain ⟨h1, h2, h3⟩ := mSh_rg (d := d) (σ 0 15).toNat (σ 0 15) σ (by omega) pp h
  exact rzM_0_15 (rzM_15 (rzM_14 h1 d0 d1) h2 h3) (by omega) (by omega)
theorem kKinds_best {κ : Zt} (h : kMid κ) {r : Nat} (hr : r < 6) {z : Int} : kKinds κ r z = kBits κ (fun j => mBest κ r z j (κ 1 10).toNat) 8 := by
  have bT := rgS_1_10 h.1
  have bM := rgS_1_9 h.1
  have key : ∀ (k : Nat) (n : Nat), (n : Int) ≤ κ 1 10 → ∃ i : Nat, (i : Int) ≤ κ 1 9 ∧ (∀ j : Nat, j < i → κ 10 j < n) ∧ (∀ j : Nat, i ≤ j → (j : Int) < κ 1 9 → (n : Int) ≤ κ 10 j) ∧ mBest κ r z k n = kLm κ r z i k := by
    intro k n
    induction n with
    | zero => intro _; exact ⟨0, by omega, fun j hj => by omega, fun j _ _ => by have := rgS_10 h.1 j; omega, rfl⟩
    | succ n ih =>
      intro hn
      obtain ⟨i, h1, h2, h3, h4⟩ := ih (by omega)
      by_cases hs : κ 5 n = 3
      · obtain ⟨q, q1, q2⟩ := h.g.2.2.2 n (by omega) hs
        have hq : q = i := by
          by_cases a : q < i
          · have := h2 q a; omega
          · by_cases b : q = i
            · exact b
            · have c := h.g.2.2.1 i q (by omega) q1
              have d := h3 i (by omega) (by omega)
              omega
        subst hq
        refine ⟨q + 1, by omega, fun j hj => ?_, fun j hj hj2 => ?_, ?_⟩
        · by_cases b : j = q
          · rw [b, q2]; omega
          · have := h2 j (by omega); omega
        · have := h.g.2.2.1 q j (by omega) hj2
          omega
        · rw [mBest, kLm, h4, q2, Int.toNat_natCast]
          have b6 := rgS_6 h.1 n
          by_cases e : κ 6 n % 8 = k
          · have e2 : k = (κ 6 n % 8).toNat := by omega
            by_cases e3 : kMarked κ r z n = true ∧ (kLm κ r z q k = -1 ∨ kLater κ n (kLm κ r z q k) = true)
            · rw [if_pos ⟨hs, e, e3.1, e3.2⟩, if_pos ⟨e2, e3.1, e3.2⟩]
            · rw [if_neg (fun x => e3 ⟨x.2.2.1, x.2.2.2⟩), if_neg (fun x => e3 ⟨x.2.1, x.2.2⟩)]
          · rw [if_neg (fun x => e x.2.1), if_neg (fun x => e (by omega))]
      · refine ⟨i, h1, fun j hj => by have := h2 j hj; omega, fun j hj hj2 => ?_, ?_⟩
        · have a := h3 j hj hj2
          have b := (h.g.2.1 j hj2).2
          by_cases e : κ 10 j = n
          · rw [e, Int.toNat_natCast] at b; exact absurd b hs
          · omega
        · rw [mBest, if_neg (fun x => hs x.1), h4]
  unfold kKinds
  refine kBits_congr 8 (fun k _ => ?_)
  obtain ⟨i, h1, h2, h3, h4⟩ := key k (κ 1 10).toNat (by omega)
  rw [h4]
  have hi : i = (κ 1 9).toNat := by
    by_cases a : (i : Int) < κ 1 9
    · have b := h3 i (by omega) a
      have c := (h.g.2.1 i a).1
      omega
    · omega
  rw [hi]
