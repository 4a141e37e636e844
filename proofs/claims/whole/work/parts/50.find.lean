/-! LEX: rows of levels in order -/
def lx (u v : Int → Int) : Nat → Int → Bool
  | 0, _ => false
  | n + 1, k => if u k = v k then lx u v n (k + 1) else decide (u k < v k)
theorem lx_irr (u : Int → Int) : ∀ (n : Nat) (k : Int), lx u u n k = false := by
  intro n
  induction n with
  | zero => intro k; rfl
  | succ n ih => intro k; rw [lx, if_pos rfl]; exact ih (k + 1)
theorem lx_trans {u v w : Int → Int} : ∀ (n : Nat) (k : Int), lx u v n k = true → lx v w n k = true → lx u w n k = true := by
  intro n
  induction n with
  | zero => intro k h; simp [lx] at h
  | succ n ih =>
    intro k h1 h2
    rw [lx] at h1 h2 ⊢
    by_cases a : u k = v k
    · rw [if_pos a] at h1
      by_cases b : v k = w k
      · rw [if_pos b] at h2
        rw [if_pos (a.trans b)]
        exact ih _ h1 h2
      · rw [if_neg b] at h2
        rw [a, if_neg b]
        exact h2
    · rw [if_neg a] at h1
      have h1' := of_decide_eq_true h1
      by_cases b : v k = w k
      · rw [← b, if_neg a]
        exact h1
      · rw [if_neg b] at h2
        have h2' := of_decide_eq_true h2
        rw [if_neg (by omega)]
        exact decide_eq_true (by omega)
theorem lx_tri {u v : Int → Int} : ∀ (n : Nat) (k : Int), lx u v n k = false → lx v u n k = false → ∀ j, k ≤ j → j < k + n → u j = v j := by
  intro n
  induction n with
  | zero => intro k _ _ j h1 h2; omega
  | succ n ih =>
    intro k h1 h2 j hj1 hj2
    rw [lx] at h1 h2
    by_cases a : u k = v k
    · rw [if_pos a] at h1
      rw [if_pos a.symm] at h2
      by_cases b : j = k
      · rw [b]; exact a
      · exact ih (k + 1) h1 h2 j (by omega) (by omega)
    · rw [if_neg a] at h1
      rw [if_neg (fun q => a q.symm)] at h2
      have h1' := of_decide_eq_false h1
      have h2' := of_decide_eq_false h2
      omega
theorem lx_asymm {u v : Int → Int} {n : Nat} {k : Int} (h : lx u v n k = true) : lx v u n k = false := by
  cases q : lx v u n k with
  | false => rfl
  | true =>
    have := lx_trans n k h q
    rw [lx_irr] at this
    cases this
/-- the first place that tells -/
theorem lx_at {u v : Int → Int} : ∀ (n : Nat) (k j : Int), k ≤ j → j < k + n → (∀ i, k ≤ i → i < j → u i = v i) → u j < v j → lx u v n k = true := by
  intro n
  induction n with
  | zero => intro k j h1 h2; omega
  | succ n ih =>
    intro k j h1 h2 he hl
    rw [lx]
    by_cases a : k = j
    · subst a
      rw [if_neg (by omega)]
      exact decide_eq_true hl
    · rw [if_pos (he k (by omega) (by omega))]
      exact ih (k + 1) j (by omega) (by omega) (fun i h3 h4 => he i (by omega) h4) hl
theorem lx_ex {u v : Int → Int} : ∀ (n : Nat) (k : Int), lx u v n k = true → ∃ j, k ≤ j ∧ j < k + n ∧ (∀ i, k ≤ i → i < j → u i = v i) ∧ u j < v j := by
  intro n
  induction n with
  | zero => intro k h; simp [lx] at h
  | succ n ih =>
    intro k h
    rw [lx] at h
    by_cases a : u k = v k
    · rw [if_pos a] at h
      obtain ⟨j, h1, h2, h3, h4⟩ := ih (k + 1) h
      refine ⟨j, by omega, by omega, fun i h5 h6 => ?_, h4⟩
      by_cases b : i = k
      · rw [b]; exact a
      · exact h3 i (by omega) h6
    · rw [if_neg a] at h
      exact ⟨k, by omega, by omega, fun i h5 h6 => by omega, of_decide_eq_true h⟩
theorem lx_congr {u v u' v' : Int → Int} : ∀ (n : Nat) (k : Int), (∀ j, k ≤ j → j < k + n → u j = u' j ∧ v j = v' j) → lx u v n k = lx u' v' n k := by
  intro n
  induction n with
  | zero => intro k _; rfl
  | succ n ih =>
    intro k h
    obtain ⟨h1, h2⟩ := h k (by omega) (by omega)
    rw [lx, lx, h1, h2, ih (k + 1) (fun j a b => h j (by omega) (by omega))]
theorem kIsBe_lx {κ : Zt} {d f : Int} : ∀ (n : Nat) (k : Int), kIsBe κ d f n k = lx (kLevel κ d) (kLevel κ f) n k := by
  intro n
  induction n with
  | zero => intro k; rfl
  | succ n ih => intro k; rw [kIsBe, lx, ih]
theorem lx_dom {u v : Int → Int} {K : Int} : ∀ (n : Nat) (k : Int), k ≤ K → K < k + n → (∀ j, k ≤ j → j < K → u j ≤ v j) → u K < v K → lx u v n k = true := by
  intro n
  induction n with
  | zero => intro k h1 h2; omega
  | succ n ih =>
    intro k h1 h2 h3 h4
    rw [lx]
    by_cases e : u k = v k
    · rw [if_pos e]
      have : k ≠ K := fun q => by rw [q] at e; omega
      exact ih (k + 1) (by omega) (by omega) (fun j a b => h3 j (by omega) b) h4
    · rw [if_neg e]
      refine decide_eq_true ?_
      by_cases q : k = K
      · rw [q]; exact h4
      · have := h3 k (by omega) (by omega); omega
/-! A NEW PATH: it lies behind the one before -/
def nl (τ : Zt) (T : Nat) (j : Int) : Int := τ 12 ((T : Int) * 12 + j - 1).toNat
/-- but for the new sign's levels nothing is touched -/
def kTo (κ τ : Zt) (T : Nat) : Prop := (∀ q, q ≠ 12 → τ q = κ q) ∧ ∀ i : Nat, ¬ (T * 12 ≤ i ∧ i < T * 12 + 12) → τ 12 i = κ 12 i
theorem kTo_lev {κ τ : Zt} {T : Nat} (h : kTo κ τ T) {d k : Int} (d0 : -1 ≤ d) (dT : d ≠ T) (k0 : 1 ≤ k) (k1 : k ≤ 12) : kLevel τ d k = kLevel κ d k := by
  unfold kLevel
  rw [h.1 13 (by omega)]
  split
  · rfl
  · exact h.2 _ (by omega)
theorem kTo_zu {κ τ : Zt} {T : Nat} (h : kTo κ τ T) {k v : Int} (k0 : 1 ≤ k) (k1 : k ≤ 12) : kTo κ (zu τ 12 ((T : Int) * 12 + k - 1).toNat v) T := by
  refine ⟨fun q hq => by rw [zu_ne hq]; exact h.1 q hq, fun i hi => ?_⟩
  rw [zu_nj (by omega)]
  exact h.2 i hi
theorem kLevel_beyond {κ : Zt} {d k : Int} (h : κ 13 d.toNat < k) : kLevel κ d k = 0 := by
  unfold kLevel; rw [if_pos (Or.inr h)]
theorem kLevel_no {κ : Zt} {k : Int} : kLevel κ (-1) k = 0 := by
  unfold kLevel; rw [if_pos (Or.inl rfl)]
/-- what a sign's levels are -/
theorem sg_lev {κ : Zt} (h : kMid κ) {d : Int} (d0 : 0 ≤ d) (d1 : d < κ 1 10) (d5 : κ 5 d.toNat = 0) : 1 ≤ κ 13 d.toNat ∧ κ 13 d.toNat ≤ 12 ∧ (∀ k, 1 ≤ k → k ≤ κ 13 d.toNat → 1 ≤ kCount (kLevel κ d k)) ∧ 1 ≤ kDigit (kLevel κ d (κ 13 d.toNat)) ∧ kSite (kLevel κ d (κ 13 d.toNat)) = κ 2 d.toNat ∧ kCount (kLevel κ d (κ 13 d.toNat)) = κ 3 d.toNat := by
  have b := rgS_13 h.1 d.toNat
  have q := h.i.1 d.toNat (by omega) d5
  rw [Int.toNat_of_nonneg d0] at q
  exact ⟨q.1, by omega, q.2.1, q.2.2.1, q.2.2.2.1, q.2.2.2.2⟩
theorem cnt_pos {x : Int} (h0 : 0 ≤ x) (h : 1 ≤ kCount x) : 0 < x := by
  unfold kCount at h
  omega
/-- before is -1 or a sign -/
def kSg (κ : Zt) (d : Int) : Prop := d = -1 ∨ (0 ≤ d ∧ d < κ 1 10 ∧ κ 5 d.toNat = 0)
theorem kSg_zero {κ : Zt} (h : kMid κ) {d k : Int} (hd : kSg κ d) (k0 : 1 ≤ k) (hk : kLevel κ d k ≠ 0) : 0 ≤ d ∧ k ≤ κ 13 d.toNat ∧ 1 ≤ kCount (kLevel κ d k) := by
  rcases hd with e | ⟨a, b, c⟩
  · rw [e, kLevel_no] at hk; exact absurd rfl hk
  · have q : k ≤ κ 13 d.toNat := by
      by_cases x : κ 13 d.toNat < k
      · exact absurd (kLevel_beyond x) hk
      · omega
    exact ⟨a, q, (sg_lev h a b c).2.2.1 k k0 q⟩
def kFound (κ F : Zt) (r T : Nat) (be : Int) (K : Int) : Prop :=
  (1 ≤ K ∧ K ≤ 12) ∧ F 13 = (fun j => if j = T then K else κ 13 j) ∧ (∀ i : Nat, ¬ (T * 12 ≤ i ∧ i < T * 12 + 12) → F 12 i = κ 12 i) ∧ (∀ q, q ≠ 12 → q ≠ 13 → F q = kCoinS κ r q) ∧ (∀ j, 1 ≤ j → j ≤ K → 1 ≤ kCount (nl F T j)) ∧ 1 ≤ kDigit (nl F T K) ∧ kSite (nl F T K) = r ∧ kCount (nl F T K) = κ (21 + 6 * r) r + 1 ∧ (∀ j, 1 ≤ j → j < K → kLevel κ be j ≤ nl F T j) ∧ kLevel κ be K < nl F T K
theorem kFind_ok {κ : Zt} (h : kMid κ) {r T : Nat} {be b0 : Int} (hr : r < 6) (hT : κ 1 10 = (T : Int)) (hT4 : T < 400) (hbe : kSg κ be) (hb0 : kSg κ b0) (hlt : be ≠ -1 → b0 ≠ -1 → kIsBe κ be b0 12 1 = true) :
    ∀ (n : Nat) (k b : Int) (τ : Zt), 1 ≤ k → k + n = 13 → rgS τ → kTo κ τ T → (∀ j, 1 ≤ j → j < k → 1 ≤ kCount (nl τ T j)) → (∀ j, 1 ≤ j → j < k → kLevel κ be j ≠ 0 → nl τ T j = kLevel κ be j) →
      (b = -1 ∨ (b = b0 ∧ b ≠ -1 ∧ k ≤ κ 13 b.toNat ∧ ∀ j, 1 ≤ j → j < k → nl τ T j = kLevel κ b j)) → (kFind r T be n k b τ).1 = true → ∃ K, kFound κ (kFind r T be n k b τ).2 r T be K := by
  have bT := rgS_1_10 h.1
  have b21 := rgS_21 h.1 hr r
  have ha := (h.a.2 r hr).1
  have beT : -1 ≤ be ∧ be < T := by rcases hbe with e | ⟨e, f, -⟩ <;> omega
  intro n
  induction n with
  | zero => intro k b τ _ _ _ _ _ _ _ hf; rw [kFind] at hf; cases hf
  | succ n ih =>
    intro k b τ k0 k1 hτ to I1 I3 I2
    have bT' : -1 ≤ b ∧ b < T := by
      rcases I2 with e | ⟨e, f, -⟩
      · omega
      · rcases hb0 with e' | ⟨e', f', -⟩ <;> omega
    have l1 : kLevel τ be k = kLevel κ be k := kTo_lev to (by omega) (by omega) k0 (by omega)
    have l2 : kLevel τ b k = kLevel κ b k := kTo_lev to (by omega) (by omega) k0 (by omega)
    have r1 := kLevel_rg h.1 be k
    have r2 := kLevel_rg h.1 b k
    have t21 : τ (21 + 6 * r) r = κ (21 + 6 * r) r := by rw [to.1 _ (by omega)]
    have hh : kHigh τ b k = kHigh κ b k := by unfold kHigh; rw [l2]
    have g1 := kHigh_rg h.1 (b := b) (k := k) (by omega) (by omega)
    have co := kCoin_rg τ r
    have dg := kDigit_rg r1.1 r1.2
    rw [kFind, l1, l2, hh, t21]
    by_cases hit : 1 < kHigh κ b k - kDigit (kLevel κ be k)
    · rw [if_pos hit]
      intro _
      dsimp only
      have la := kLastD_rg (k := k) (lo := kDigit (kLevel κ be k)) (hi := kHigh κ b k) (co := kCoin τ r) (by omega) (by omega) (by omega) (by omega)
      generalize kLastD k (kDigit (kLevel κ be k)) (kHigh κ b k) (kCoin τ r) = D at la
      have un := kUn_make (d := D) (q := (r : Int)) (n := κ (21 + 6 * r) r + 1) (by omega) (by omega) (by omega) (by omega) (by omega)
      have cs : ∀ q, q ≠ 12 → kCoinS τ r q = kCoinS κ r q := fun q hq => by
        unfold kCoinS
        rw [to.1 (20 + 6 * r) (by omega)]
        by_cases e : q = 20 + 6 * r
        · subst e; rw [zu_row, zu_row, to.1 (20 + 6 * r) (by omega)]
        · rw [zu_ne e, zu_ne e, to.1 q hq]
      have cs12 : kCoinS τ r 12 = τ 12 := by unfold kCoinS; rw [zu_ne (by omega)]
      have nlK : ∀ j, 1 ≤ j → j ≤ k → nl (zu (zu (kCoinS τ r) 12 ((T : Int) * 12 + k - 1).toNat (kMake D r (κ (21 + 6 * r) r + 1))) 13 (T : Int).toNat k) T j = if j = k then kMake D r (κ (21 + 6 * r) r + 1) else nl τ T j := by
        intro j j0 j1
        unfold nl
        rw [zu_ne (by omega), zu_row, cs12]
        dsimp only
        by_cases e : j = k
        · rw [if_pos (by omega), if_pos e]
        · rw [if_neg (by omega), if_neg e]
      have kk : nl (zu (zu (kCoinS τ r) 12 ((T : Int) * 12 + k - 1).toNat (kMake D r (κ (21 + 6 * r) r + 1))) 13 (T : Int).toNat k) T k = kMake D r (κ (21 + 6 * r) r + 1) := by rw [nlK k k0 (by omega), if_pos rfl]
      refine ⟨k, ⟨k0, by omega⟩, ?_, fun i hi => ?_, fun q h1 h2 => ?_, fun j j0 j1 => ?_, ?_, ?_, ?_, fun j j0 j1 => ?_, ?_⟩
      · rw [zu_row, Int.toNat_natCast, zu_ne (by omega), cs 13 (by omega)]
        unfold kCoinS
        rw [zu_ne (by omega)]
      · rw [zu_ne (by omega), zu_nj (by omega), cs12]; exact to.2 i hi
      · rw [zu_ne h2, zu_ne h1]; exact cs q h1
      · rw [nlK j j0 j1]
        split
        · rw [un.2.2]; omega
        · exact I1 j j0 (by omega)
      · rw [kk, un.1]; omega
      · rw [kk, un.2.1]
      · rw [kk, un.2.2]
      · rw [nlK j j0 (by omega), if_neg (by omega)]
        by_cases e : kLevel κ be j = 0
        · have : 1 ≤ kCount (nl τ T j) := I1 j j0 j1
          have r3 : 0 ≤ nl τ T j := (rgS_12 hτ _).1
          omega
        · rw [I3 j j0 j1 e]; omega
      · rw [kk]
        unfold kDigit at la
        unfold kMake
        omega
    · rw [if_neg hit]
      generalize hin : kInner (kLevel κ be k) (kLevel κ b k) r (κ (21 + 6 * r) r + 1) = N
      have to' := kTo_zu to (v := N) k0 (show k ≤ 12 by omega)
      have l3 : kLevel (zu τ 12 ((T : Int) * 12 + k - 1).toNat N) b k = kLevel κ b k := kTo_lev to' (by omega) (by omega) k0 (by omega)
      rw [l3]
      have mkr := kInner_rg (x := kLevel κ be k) (y := kLevel κ b k) (r := r) (n := κ (21 + 6 * r) r + 1) hr r1.1 r1.2 r2.1 r2.2 (by omega) (by omega)
      rw [hin] at mkr
      have nlj : ∀ j, 1 ≤ j → j < k + 1 → nl (zu τ 12 ((T : Int) * 12 + k - 1).toNat N) T j = if j = k then N else nl τ T j := by
        intro j j0 j1
        unfold nl
        rw [zu_row]
        dsimp only
        by_cases e : j = k
        · rw [if_pos (by omega), if_pos e]
        · rw [if_neg (by omega), if_neg e]
      -- b is -1, or a sign with such a level
      have hy : b ≠ -1 → 0 ≤ b ∧ k ≤ κ 13 b.toNat ∧ 1 ≤ kCount (kLevel κ b k) ∧ (k = κ 13 b.toNat → 1 ≤ kDigit (kLevel κ b k)) := by
        intro hb
        rcases I2 with e | ⟨e, f, g, -⟩
        · exact absurd e hb
        · have s := hb0.resolve_left (by omega)
          rw [← e] at s
          have q := sg_lev h s.1 s.2.1 s.2.2
          exact ⟨s.1, g, q.2.2.1 k k0 g, fun z => by rw [z]; exact q.2.2.2.1⟩
      have hx : kLevel κ be k = 0 → b ≠ -1 ∧ kDigit (kLevel κ b k) ≤ 1 := by
        intro z
        have zd : kDigit (kLevel κ be k) = 0 := by rw [z]; rfl
        by_cases hb : b = -1
        · have := kBase_rg k0 (show k ≤ 12 by omega)
          rw [kHigh_no hb] at hit
          omega
        · rw [kHigh_b hb] at hit
          exact ⟨hb, by omega⟩
      have cN : 1 ≤ kCount N := by
        rw [← hin]
        unfold kInner
        split
        · rename_i e; exact (kSg_zero h hbe k0 e).2.2
        · rename_i e
          split
          · have e' : kLevel κ be k = 0 := by omega
            exact (hy (hx e').1).2.2.1
          · rw [(kUn_make (d := 0) (q := (r : Int)) (n := κ (21 + 6 * r) r + 1) (by omega) (by omega) (by omega) (by omega) (by omega)).2.2]; omega
      refine ih (k + 1) _ _ (by omega) (by omega) (rzS_12 hτ mkr.1 mkr.2) to' (fun j j0 j1 => ?_) (fun j j0 j1 hj => ?_) ?_
      · rw [nlj j j0 j1]
        split
        · exact cN
        · exact I1 j j0 (by omega)
      · rw [nlj j j0 j1]
        split
        · rename_i e
          subst e
          rw [← hin]
          unfold kInner
          rw [if_pos hj]
        · exact I3 j j0 (by omega) hj
      · by_cases e : kLevel κ b k = N
        · rw [if_pos e]
          rcases I2 with hb | ⟨hb, hb1, hb2, hb3⟩
          · exact Or.inl hb
          · refine Or.inr ⟨hb, hb1, ?_, fun j j0 j1 => ?_⟩
            · -- it has a further level, or it were before the one before
              by_cases lst : k = κ 13 b.toNat
              · exfalso
                obtain ⟨bb, -, -, bd⟩ := hy hb1
                have bd := bd lst
                by_cases z : kLevel κ be k = 0
                · have := hx z
                  rw [← hin] at e
                  unfold kInner at e
                  rw [if_neg (by omega), if_neg (by omega)] at e
                  rw [e, (kUn_make (d := 0) (q := (r : Int)) (n := κ (21 + 6 * r) r + 1) (by omega) (by omega) (by omega) (by omega) (by omega)).1] at bd
                  omega
                · have s := kSg_zero h hbe k0 z
                  have lt := hlt (by omega) (by omega)
                  rw [kIsBe_lx] at lt
                  obtain ⟨j, j0, j1, j2, j3⟩ := lx_ex 12 1 lt
                  rw [← hb] at j2 j3
                  by_cases c : j ≤ k
                  · have q : kLevel κ be j = kLevel κ b j := by
                      by_cases c2 : j = k
                      · rw [c2, e, ← hin]; unfold kInner; rw [if_pos z]
                      · have sb := hbe.resolve_left (by omega)
                        have nz : kLevel κ be j ≠ 0 := by
                          have := (sg_lev h sb.1 sb.2.1 sb.2.2).2.2.1 j j0 (by omega)
                          have r3 := kLevel_rg h.1 be j
                          have := cnt_pos r3.1 this
                          omega
                        rw [← I3 j j0 (by omega) nz, hb3 j j0 (by omega)]
                    omega
                  · rw [kLevel_beyond (d := b) (by omega)] at j3
                    have r3 := kLevel_rg h.1 be j
                    omega
              · omega
            · rw [nlj j j0 j1]
              split
              · rename_i q; rw [q]; exact e.symm
              · exact hb3 j j0 (by omega)
        · rw [if_neg e]; exact Or.inl rfl
