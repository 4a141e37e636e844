/-! WHAT HOLDS IS KEPT BY EVERY CALL -/
theorem kGood_strS {κ : Zt} (h : kGood κ) (x v : Int) : kGood (kStrS κ x v) := by
  unfold kStrS
  split
  · rename_i e
    have := kIsR_t e
    exact kGood_str h (by omega)
  · exact h
theorem kGood_typS {κ : Zt} (h : kGood κ) (x q v : Int) : kGood (kTypS κ x q v) := by
  unfold kTypS
  split
  · rename_i e
    have := kIsR_t e
    split
    · split
      · rename_i e3
        have := kIsB_t e3
        exact kGood_put h (by omega) (by omega) (by omega)
      · exact h
    · exact h
  · exact h
theorem kGood_pas {x q n : Int} (hx : x.toNat < 6) : ∀ (m : Nat) (k v : Int) (κ : Zt), 32 ≤ v → v ≤ 126 → kGood κ → kGood (kPas x q n m k v κ).2 := by
  intro m
  induction m with
  | zero => intro k v κ _ _ h; exact h
  | succ m ih =>
    intro k v κ v0 v1 h
    rw [kPas]
    split
    · exact kGood_put h hx (by omega) (by omega)
    · refine ih _ _ _ ?_ ?_ (kGood_put h hx (by omega) (by omega))
      · split <;> omega
      · split <;> omega
theorem kGood_pasS {κ : Zt} (h : kGood κ) (x q n v : Int) : kGood (kPasS κ x q n v) := by
  unfold kPasS
  split
  · rename_i e
    have := kIsR_t e
    split
    · rename_i e2
      have hb : kIsB v = true := by simp [kPasB] at e2; exact e2.2.2.2
      have := kIsB_t hb
      exact kGood_pas (by omega) _ _ _ _ (by omega) (by omega) h
    · exact h
  · exact h
theorem kGood_eraS {κ : Zt} (h : kGood κ) (x q : Int) : kGood (kEraS κ x q) := by
  unfold kEraS
  split
  · rename_i e
    have := kIsR_t e
    split
    · exact h
    · rename_i e2
      obtain ⟨a, b, c, _⟩ := (kSignAt_ok h.1 x.toNat q).resolve_left e2
      split
      · exact h
      · rename_i e3
        have := kFull_f (by simpa using e3)
        exact kGood_performN h (by omega) this (by omega) (by omega) (by omega) (by omega) a b c a b c (fun _ => rfl)
  · exact h
theorem kGood_undS {κ : Zt} (h : kGood κ) (x : Int) : kGood (kUndS κ x) := by
  unfold kUndS
  split
  · rename_i e
    have := kIsR_t e
    split
    · exact h
    · rename_i e2
      have b := rgS_1_10 h.1.1
      have hL := kLast_rg κ x (κ 1 10).toNat
      have e2' : kULast κ x ≠ -1 := e2
      unfold kULast at e2'
      split
      · exact h
      · rename_i e3
        have hF := kFull_f (by simpa using e3)
        have hd := h.1.d (kULast κ x).toNat (by unfold kULast; omega)
        have h7 := rgS_7 h.1.1 (kULast κ x).toNat
        refine kGood_9 (kGood_9 (kGood_performN h (by omega) hF (by split <;> omega) (by split <;> omega) (by omega) (by omega) h7.1 ?_ hd.2.2.1 h7.1 ?_ hd.2.2.1 (fun _ => rfl)) (by omega) (by omega)) (by omega) (by omega)
        · have := hd.1; unfold kULast at this ⊢; omega
        · have := hd.1; unfold kULast at this ⊢; omega
  · exact h
theorem kGood_marS {κ : Zt} (h : kGood κ) (x f t k : Int) (on : Bool) : kGood (kMarS κ x f t k on) := by
  unfold kMarS
  split
  · rename_i e
    have := kIsR_t e
    split
    · rename_i e2
      simp [kMarB] at e2
      obtain ⟨n1, n2, n3, n4, n5⟩ := e2
      obtain ⟨a, b, c, _⟩ := (kSignAt_ok h.1 x.toNat f).resolve_left n1
      obtain ⟨a', b', c', _⟩ := (kSignAt_ok h.1 x.toNat t).resolve_left n2
      split
      · exact h
      · rename_i e3
        have := kFull_f (by simpa using e3)
        exact kGood_performN h (by omega) this (by omega) (by omega) (by split <;> omega) (by split <;> omega) a b c a' b' c' (fun q => absurd rfl q)
    · exact h
  · exact h
theorem kGood_delS {κ : Zt} (h : kGood κ) (i : Int) : kGood (kDelS κ i) := by
  unfold kDelS
  split
  · rename_i e
    have q := kHolds_t e
    have b := rgS_16_2 h.1.1
    have h17 := rgS_17 h.1.1 i.toNat
    have h18 := rgS_18 h.1.1 i.toNat
    have hd := h.1.h i.toNat (by omega)
    refine kGood_rec (kGood_drop h e) (by omega) (by omega) ?_
    rw [kDropS_fr (by omega) (by omega) (by omega)]
    exact hd
  · exact h
theorem kGood_losS {κ : Zt} (h : kGood κ) (i : Int) : kGood (kLosS κ i) := by
  unfold kLosS
  split
  · rename_i e; exact kGood_drop h e
  · exact h
theorem kGood_repS {κ : Zt} (h : kGood κ) (i : Int) : kGood (kRepS κ i) := by
  unfold kRepS
  split
  · rename_i e
    have q := kHolds_t e
    have h17 := rgS_17 h.1.1 i.toNat
    have h18 := rgS_18 h.1.1 i.toNat
    split
    · exact h
    · exact kGood_send h (by omega) (h.1.h i.toNat (by omega)) (by omega) (by omega)
  · exact h
theorem kGood_syn {r t : Nat} (hr : r < 6) : ∀ (m : Nat) (d : Int) (κ : Zt), 0 ≤ d → d + m ≤ κ 1 10 → kGood κ → kGood (kSyn r t m d κ) := by
  intro m
  induction m with
  | zero => intro d κ _ _ h; exact h
  | succ m ih =>
    intro d κ d0 hd h
    rw [kSyn]
    split
    · refine ih _ _ (by omega) ?_ (kGood_rec h hr d0 (by omega))
      rw [kRecS_fr (by omega)]
      omega
    · exact ih _ _ (by omega) (by omega) h
theorem kGood_synS {κ : Zt} (h : kGood κ) (x y : Int) : kGood (kSynS κ x y) := by
  unfold kSynS
  split
  · rename_i e
    have := kIsR_t e
    split
    · have b := rgS_1_10 h.1.1
      exact kGood_syn (by omega) _ _ _ (by omega) (by omega) h
    · exact h
  · exact h
theorem kGood_curS {κ : Zt} (h : kGood κ) (x k q : Int) : kGood (kCurS κ x k q) := by
  unfold kCurS
  split
  · rename_i e
    have := kIsR_t e
    split
    · split
      · refine kGood_cur h (by omega) ?_
        rcases kBefore_ok h.1 x.toNat q with a | ⟨a, b, c, _⟩
        · exact Or.inl a
        · exact Or.inr ⟨a, b, c⟩
      · exact h
    · exact h
  · exact h
theorem zq_fr {κ τ : Zt} (z : zq κ τ) : kFr κ τ := ⟨fun q h _ _ _ _ => z.2 q (Or.inl h), fun t j _ => congrFun (z.2 _ (Or.inr (by omega))) j, fun t => z.2 _ (Or.inr (by omega)), fun t => z.2 _ (Or.inr (by omega)), fun t => z.2 _ (Or.inr (by omega))⟩
theorem kGood_zq {κ τ : Zt} (h : kGood κ) (z : zq κ τ) : kGood τ :=
  ⟨kMid_fr h.1 (zq_fr z) z.1 (gH_fr h.1.h (zq_fr z) (z.2 16 (by omega)) (z.2 17 (by omega))) (gK_fr h.1.k (zq_fr z) (fun t => z.2 _ (Or.inr (by omega)))), fun t ht => gR_fr (zq_fr z) (h.2 t ht)⟩
theorem RR_zq {κ τ μ : Zt} (h : RR κ μ) (z : zq κ τ) : RR τ μ := by
  have lo : ∀ q, q < 20 → τ q = κ q := fun q hq => z.2 q (Or.inl hq)
  have hi : ∀ q, q % 6 ≠ 1 → τ q = κ q := fun q hq => z.2 q (Or.inr hq)
  have dd : ∀ t, kDid τ t = kDid κ t := fun t => kDid_congr (lo 2 (by omega)) (lo 3 (by omega)) (hi (21 + 6 * t) (by omega))
  unfold RR at *
  rw [lo 1 (by omega), lo 2 (by omega), lo 3 (by omega), lo 4 (by omega), lo 5 (by omega), lo 6 (by omega), lo 7 (by omega), lo 8 (by omega), lo 9 (by omega), lo 11 (by omega), lo 12 (by omega), lo 13 (by omega), lo 14 (by omega), lo 15 (by omega), lo 16 (by omega), lo 17 (by omega), lo 18 (by omega)]
  refine ⟨h.1, h.2.1, h.2.2.1, h.2.2.2.1, h.2.2.2.2.1, fun r hr => ?_⟩
  rw [hi (20 + 6 * r) (by omega), hi (21 + 6 * r) (by omega), hi (22 + 6 * r) (by omega), hi (23 + 6 * r) (by omega), hi (24 + 6 * r) (by omega), dd]
  exact h.2.2.2.2.2 r hr
-- the start
def kap0 : Zt := fun k j => if k < 20 then 0 else match (k - 20) % 6 with
  | 0 => if j = 0 then (((k - 20) / 6 : Nat) : Int) else if j = 3 then (((k - 20) / 6 : Nat) : Int) else 0
  | 3 => -1
  | 4 => -1
  | _ => 0
def mu0 : Zt := fun k j => if k = 18 then -1 else if k = 22 then -1 else if k = 21 then (if j < 6 then (j : Int) else 0) else 0
theorem kap0_lo {k : Nat} (h : k < 20) (j : Nat) : kap0 k j = 0 := by simp [kap0, h]
theorem kap0_20 (r j : Nat) : kap0 (20 + 6 * r) j = if j = 0 then (r : Int) else if j = 3 then (r : Int) else 0 := by
  unfold kap0
  rw [if_neg (by omega), show (20 + 6 * r - 20) % 6 = 0 by omega, show (20 + 6 * r - 20) / 6 = r by omega]
  rfl
theorem kap0_21 (r j : Nat) : kap0 (21 + 6 * r) j = 0 := by
  unfold kap0
  rw [if_neg (by omega), show (21 + 6 * r - 20) % 6 = 1 by omega]
  rfl
theorem kap0_22 (r j : Nat) : kap0 (22 + 6 * r) j = 0 := by
  unfold kap0
  rw [if_neg (by omega), show (22 + 6 * r - 20) % 6 = 2 by omega]
  rfl
theorem kap0_23 (r j : Nat) : kap0 (23 + 6 * r) j = -1 := by
  unfold kap0
  rw [if_neg (by omega), show (23 + 6 * r - 20) % 6 = 3 by omega]
  rfl
theorem kap0_24 (r j : Nat) : kap0 (24 + 6 * r) j = -1 := by
  unfold kap0
  rw [if_neg (by omega), show (24 + 6 * r - 20) % 6 = 4 by omega]
  rfl
theorem kap0_25 (r j : Nat) : kap0 (25 + 6 * r) j = 0 := by
  unfold kap0
  rw [if_neg (by omega), show (25 + 6 * r - 20) % 6 = 5 by omega]
  rfl
theorem rgS_0 : rgS kap0 := by
  intro k i
  by_cases h : k < 20
  · rw [kap0_lo h]
    unfold okS
    rw [if_pos h]
    unfold okSF
    split <;> (try split) <;> (try split) <;> (try split) <;> first | trivial | omega
  · obtain ⟨r, e⟩ : ∃ r, k = 20 + 6 * r ∨ k = 21 + 6 * r ∨ k = 22 + 6 * r ∨ k = 23 + 6 * r ∨ k = 24 + 6 * r ∨ k = 25 + 6 * r := ⟨(k - 20) / 6, by omega⟩
    rcases e with rfl | rfl | rfl | rfl | rfl | rfl
    · rw [okS_20, kap0_20]
      show if i = 0 then (r : Int) ≤ (if i = 0 then (r : Int) else if i = 3 then (r : Int) else 0) ∧ (if i = 0 then (r : Int) else if i = 3 then (r : Int) else 0) < (r : Int) + 1 else if i = 4 then 0 ≤ (if i = 0 then (r : Int) else if i = 3 then (r : Int) else 0) ∧ (if i = 0 then (r : Int) else if i = 3 then (r : Int) else 0) < 401 else if i = 6 then 0 ≤ (if i = 0 then (r : Int) else if i = 3 then (r : Int) else 0) ∧ (if i = 0 then (r : Int) else if i = 3 then (r : Int) else 0) < 401 else True
      by_cases h0 : i = 0
      · simp [h0] <;> omega
      · by_cases h4 : i = 4
        · simp [h4]
        · by_cases h6 : i = 6
          · simp [h6]
          · simp [h0, h4, h6]
    · rw [okS_21, kap0_21]
      exact (⟨by decide, by decide⟩ : (0 : Int) ≤ 0 ∧ (0 : Int) < 401)
    · rw [okS_22, kap0_22]
      exact (⟨by decide, by decide⟩ : (0 : Int) ≤ 0 ∧ (0 : Int) < 2)
    · rw [okS_23, kap0_23]
      exact (⟨by decide, by decide⟩ : (-1 : Int) ≤ -1 ∧ (-1 : Int) < 400)
    · rw [okS_24, kap0_24]
      exact (⟨by decide, by decide⟩ : (-1 : Int) ≤ -1 ∧ (-1 : Int) < 400)
    · rw [okS_25, kap0_25]
      exact (⟨by decide, by decide⟩ : (-1 : Int) ≤ 0 ∧ (0 : Int) < 400)
theorem kSum_0 {f : Nat → Int} : ∀ n, (∀ j, f j = 0) → kSum f n = 0 := by
  intro n h
  induction n with
  | zero => rfl
  | succ n ih => rw [kSum, ih, h]; rfl
theorem kGood_0 : kGood kap0 := by
  have z : ∀ {k j : Nat}, k < 20 → kap0 k j = 0 := fun h => kap0_lo h _
  have n : ∀ d : Nat, ¬ (d : Int) < kap0 1 10 := fun d h => by rw [z (by omega)] at h; omega
  have n11 : ∀ d : Nat, ¬ (d : Int) < kap0 11 4 := fun d h => by rw [z (by omega)] at h; omega
  refine ⟨⟨rgS_0, ⟨fun r q _ _ => ?_, fun r _ => ⟨?_, ?_⟩⟩, fun d h => absurd h (n d), fun d _ h => absurd h (n d), fun d h => absurd h (n d), ⟨?_, fun i h => absurd h (n11 i), fun d h => absurd h (n d)⟩, fun r _ => ⟨fun d h => absurd (kap0_22 r d) h, ?_⟩, ⟨?_, fun i h => ?_, fun i j _ h => ?_, fun d h => absurd h (n d)⟩, fun i h => ?_, ⟨fun d h => absurd h (n d), fun d _ => z (by omega), fun i j _ h => absurd h (n11 j)⟩, fun r _ => ?_, fun r _ k _ => Or.inl (kap0_24 r k), fun r _ d => Or.inr (kap0_23 r d)⟩, fun r _ d h => absurd (kap0_22 r d) h⟩
  · rw [kap0_21, kap0_21]; exact Int.le_refl _
  · rw [kap0_21, z (by omega)]; exact Int.le_refl _
  · rw [kap0_20, z (by omega)]; simp
  · rw [z (by omega), z (by omega)]; exact Int.le_refl _
  · rw [kap0_20, kSum_0 400 (kap0_22 r)]; simp
  · rw [z (by omega), z (by omega)]; exact Int.le_refl _
  · rw [z (by omega)] at h; omega
  · rw [z (by omega)] at h; omega
  · rw [z (by omega)] at h; omega
  · rw [kap0_20, z (by omega)]; simp [kSum]
theorem rgM_0 : rgM mu0 := by
  intro k i
  unfold okM mu0
  split <;> simp <;> (try split) <;> (try split) <;> (try split) <;> (try split) <;> (try split) <;> first | trivial | omega
theorem RR_0 : RR kap0 mu0 := by
  have z : ∀ {k j : Nat}, k < 20 → kap0 k j = 0 := fun h => kap0_lo h _
  have zr : ∀ {k : Nat}, k < 20 → kap0 k = fun _ => 0 := fun h => funext fun j => kap0_lo h j
  have m0 : ∀ {k : Nat}, k ≠ 18 → k ≠ 22 → k ≠ 21 → mu0 k = fun _ => 0 := fun h1 h2 h3 => by funext j; simp [mu0, h1, h2, h3]
  refine ⟨⟨?_, ?_, ?_, ?_⟩, ⟨?_, ?_, ?_, ?_, ?_, ?_, ?_, ?_, ?_, ?_, ?_⟩, fun d h => ?_, fun d h => ?_, ⟨fun d k _ _ => ?_, fun r d _ _ _ => ?_⟩, fun r hr => ⟨fun d h => ?_, fun d _ => ⟨?_, ?_⟩, fun q _ => ?_, ?_, ?_, fun k _ => ?_⟩⟩
  · rw [m0 (by omega) (by omega) (by omega), z (by omega)]
  · rw [m0 (by omega) (by omega) (by omega), z (by omega)]
  · rw [m0 (by omega) (by omega) (by omega), z (by omega)]
  · rw [m0 (by omega) (by omega) (by omega), z (by omega)]
  · rw [m0 (by omega) (by omega) (by omega), zr (by omega)]
  · rw [m0 (by omega) (by omega) (by omega), zr (by omega)]
  · rw [m0 (by omega) (by omega) (by omega), zr (by omega)]
  · rw [m0 (by omega) (by omega) (by omega), zr (by omega)]
  · rw [m0 (by omega) (by omega) (by omega), zr (by omega)]
  · rw [m0 (by omega) (by omega) (by omega), zr (by omega)]
  · rw [m0 (by omega) (by omega) (by omega), zr (by omega)]
  · rw [m0 (by omega) (by omega) (by omega), zr (by omega)]
  · rw [m0 (by omega) (by omega) (by omega), zr (by omega)]
  · rw [m0 (by omega) (by omega) (by omega), zr (by omega)]
  · rw [m0 (by omega) (by omega) (by omega), zr (by omega)]
  · rw [z (by omega)] at h; omega
  · rw [z (by omega)] at h; omega
  · rw [zr (show 13 < 20 by omega), zr (show 12 < 20 by omega), m0 (k := 11) (by omega) (by omega) (by omega), m0 (k := 12) (by omega) (by omega) (by omega), m0 (k := 13) (by omega) (by omega) (by omega)]
    split <;> simp [kMake]
  · rw [m0 (by omega) (by omega) (by omega)]
  · rw [z (by omega)] at h; omega
  · rw [m0 (by omega) (by omega) (by omega), kap0_22]
  · rw [kap0_23]; simp [mu0]
  · rw [m0 (by omega) (by omega) (by omega), kap0_21]
  · rw [m0 (by omega) (by omega) (by omega), kap0_20]; simp
  · rw [kap0_20]; simp [mu0, hr]
  · rw [kap0_24]; simp [mu0]
