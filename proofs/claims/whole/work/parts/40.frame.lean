/-! WHAT HOLDS IS KEPT by what touches messages, streams, cursors and what may be undone -/
def kFr (κ ρ : Zt) : Prop := (∀ q, q < 20 → q ≠ 9 → q ≠ 16 → q ≠ 17 → q ≠ 18 → ρ q = κ q) ∧ (∀ t j, j ≠ 3 → ρ (20 + 6 * t) j = κ (20 + 6 * t) j) ∧ (∀ t, ρ (21 + 6 * t) = κ (21 + 6 * t)) ∧ (∀ t, ρ (22 + 6 * t) = κ (22 + 6 * t)) ∧ ∀ t, ρ (23 + 6 * t) = κ (23 + 6 * t)
theorem kFr.lo {κ ρ : Zt} (h : kFr κ ρ) : ∀ q, q < 20 → q ≠ 9 → q ≠ 16 → q ≠ 17 → q ≠ 18 → ρ q = κ q := h.1
theorem kFr.a0 {κ ρ : Zt} (h : kFr κ ρ) : ∀ t j, j ≠ 3 → ρ (20 + 6 * t) j = κ (20 + 6 * t) j := h.2.1
theorem kFr.a1 {κ ρ : Zt} (h : kFr κ ρ) : ∀ t, ρ (21 + 6 * t) = κ (21 + 6 * t) := h.2.2.1
theorem kFr.a2 {κ ρ : Zt} (h : kFr κ ρ) : ∀ t, ρ (22 + 6 * t) = κ (22 + 6 * t) := h.2.2.2.1
theorem kFr.a3 {κ ρ : Zt} (h : kFr κ ρ) : ∀ t, ρ (23 + 6 * t) = κ (23 + 6 * t) := h.2.2.2.2
theorem kMid_fr {κ ρ : Zt} (h : kMid κ) (f : kFr κ ρ) (hr : rgS ρ) (hH : gH ρ) (hK : gK ρ) : kMid ρ := by
  have r1 := f.lo 1 (by omega) (by omega) (by omega) (by omega) (by omega)
  have r2 := f.lo 2 (by omega) (by omega) (by omega) (by omega) (by omega)
  have r3 := f.lo 3 (by omega) (by omega) (by omega) (by omega) (by omega)
  have r4 := f.lo 4 (by omega) (by omega) (by omega) (by omega) (by omega)
  have r5 := f.lo 5 (by omega) (by omega) (by omega) (by omega) (by omega)
  have r7 := f.lo 7 (by omega) (by omega) (by omega) (by omega) (by omega)
  have r8 := f.lo 8 (by omega) (by omega) (by omega) (by omega) (by omega)
  have r10 := f.lo 10 (by omega) (by omega) (by omega) (by omega) (by omega)
  have r11 := f.lo 11 (by omega) (by omega) (by omega) (by omega) (by omega)
  have r12 := f.lo 12 (by omega) (by omega) (by omega) (by omega) (by omega)
  have r13 := f.lo 13 (by omega) (by omega) (by omega) (by omega) (by omega)
  have r14 := f.lo 14 (by omega) (by omega) (by omega) (by omega) (by omega)
  have r15 := f.lo 15 (by omega) (by omega) (by omega) (by omega) (by omega)
  have dd : ∀ t, kDid ρ t = kDid κ t := fun t => kDid_congr r2 r3 (f.a1 t)
  refine ⟨hr, ⟨fun t q ht hq => ?_, fun t ht => ⟨?_, ?_⟩⟩, fun d hd => ?_, ?_, ?_, ?_, fun t ht => ⟨fun d hd => ?_, ?_⟩, ?_, hH, gI_congr r1 r2 r3 r5 r11 r12 r13 r14 h.i, fun t ht => ?_, hK, fun t ht d => ?_⟩
  · rw [f.a1, f.a1]; exact h.a.1 t q ht hq
  · rw [f.a1, r1]; exact (h.a.2 t ht).1
  · rw [f.a0 t 4 (by omega), r1]; exact (h.a.2 t ht).2
  · rw [r1] at hd; rw [r1, r2, r3, r4, f.a1]; exact h.b d hd
  · unfold gC; rw [r1, r2, r3]; exact h.c
  · unfold gD; rw [r1, r5, r7, r8]; exact h.d
  · unfold gE; rw [r1, r5, r11, r14, r15]; exact h.e
  · rw [f.a2] at hd; rw [r1, r2, dd]; exact (h.f t ht).1 d hd
  · rw [f.a0 t 6 (by omega), f.a2]; exact (h.f t ht).2
  · unfold gG; rw [r1, r5, r10]; exact h.g
  · rw [f.a0 t 5 (by omega), r1, r5, dd]; exact h.j t ht
  · rw [f.a3, r1]; exact h.l t ht d
theorem gR_fr {κ ρ : Zt} (f : kFr κ ρ) {t : Nat} (g : gR κ t) : gR ρ t := by
  unfold gR
  rw [f.a2, kReady_congr (f.lo 2 (by omega) (by omega) (by omega) (by omega) (by omega)) (f.lo 3 (by omega) (by omega) (by omega) (by omega) (by omega)) (f.lo 5 (by omega) (by omega) (by omega) (by omega) (by omega)) (f.lo 7 (by omega) (by omega) (by omega) (by omega) (by omega)) (f.lo 8 (by omega) (by omega) (by omega) (by omega) (by omega)) (f.a1 t)]
  exact g
theorem kFr_rf (κ : Zt) : kFr κ κ := ⟨fun _ _ _ _ _ _ => rfl, fun _ _ _ => rfl, fun _ => rfl, fun _ => rfl, fun _ => rfl⟩
theorem kFr_tr {κ ρ τ : Zt} (a : kFr κ ρ) (b : kFr ρ τ) : kFr κ τ := ⟨fun q h1 h2 h3 h4 h5 => (b.lo q h1 h2 h3 h4 h5).trans (a.lo q h1 h2 h3 h4 h5), fun t j h => (b.a0 t j h).trans (a.a0 t j h), fun t => (b.a1 t).trans (a.a1 t), fun t => (b.a2 t).trans (a.a2 t), fun t => (b.a3 t).trans (a.a3 t)⟩
theorem kFr_zu {κ : Zt} {k i : Nat} {v : Int} (h : k = 9 ∨ k = 16 ∨ k = 17 ∨ k = 18 ∨ (∃ t, k = 24 + 6 * t) ∨ (∃ t, k = 20 + 6 * t ∧ i = 3)) : kFr κ (zu κ k i v) := by
  refine ⟨fun q h1 h2 h3 h4 h5 => zu_ne ?_, fun t j hj => ?_, fun t => zu_ne ?_, fun t => zu_ne ?_, fun t => zu_ne ?_⟩
  · rcases h with h | h | h | h | ⟨u, h⟩ | ⟨u, h, _⟩ <;> omega
  · by_cases e : 20 + 6 * t = k
    · subst e
      refine zu_nj ?_
      rcases h with h | h | h | h | ⟨u, h⟩ | ⟨u, h, h'⟩ <;> omega
    · rw [zu_ne e]
  · rcases h with h | h | h | h | ⟨u, h⟩ | ⟨u, h, _⟩ <;> omega
  · rcases h with h | h | h | h | ⟨u, h⟩ | ⟨u, h, _⟩ <;> omega
  · rcases h with h | h | h | h | ⟨u, h⟩ | ⟨u, h, _⟩ <;> omega
theorem gK_fr {κ ρ : Zt} (h : gK κ) (f : kFr κ ρ) (e : ∀ t, ρ (24 + 6 * t) = κ (24 + 6 * t)) : gK ρ := by
  unfold gK
  intro r hr k hk
  rw [e, f.lo 1 (by omega) (by omega) (by omega) (by omega) (by omega), f.lo 5 (by omega) (by omega) (by omega) (by omega) (by omega)]
  exact h r hr k hk
theorem gH_fr {κ ρ : Zt} (h : gH κ) (f : kFr κ ρ) (e16 : ρ 16 = κ 16) (e17 : ρ 17 = κ 17) : gH ρ := by
  unfold gH
  rw [e16, e17, f.lo 1 (by omega) (by omega) (by omega) (by omega) (by omega)]
  exact h
-- a message
theorem kFr_send {κ : Zt} {d q : Int} : kFr κ (kSend κ d q) := by
  unfold kSend
  split
  · exact kFr_zu (by omega)
  · exact kFr_tr (kFr_tr (kFr_zu (by omega)) (kFr_zu (by omega))) (kFr_zu (by omega))
theorem kSend_24 {κ : Zt} {d q : Int} (t : Nat) : kSend κ d q (24 + 6 * t) = κ (24 + 6 * t) := by
  unfold kSend
  split <;> simp (disch := omega) only [zu_ne]
theorem kMid_send {κ : Zt} (h : kMid κ) {d q : Int} (d0 : 0 ≤ d) (d1 : d < κ 1 10) (q0 : 0 ≤ q) (q1 : q < 6) : kMid (kSend κ d q) := by
  have bT := rgS_1_10 h.1
  have b := rgS_16_2 h.1
  have f := kFr_send (κ := κ) (d := d) (q := q)
  refine kMid_fr h f (kSend_rg h.1 d0 (by omega) q0 q1) ?_ (gK_fr h.k f kSend_24)
  intro i hi
  rw [f.lo 1 (by omega) (by omega) (by omega) (by omega) (by omega)]
  revert hi
  unfold kSend
  split
  · simp (disch := omega) only [zu_ne, zu_nj]; exact h.h i
  · simp (disch := omega) only [zu_ne, zu_same, zu_row]
    intro hi
    split
    · exact d1
    · exact h.h i (by omega)
theorem kFr_drop0 : ∀ (n j : Nat) (κ : Zt), kFr κ (kDrop n j κ) := by
  intro n
  induction n with
  | zero => intro j κ; exact kFr_rf κ
  | succ n ih => intro j κ; rw [kDrop]; exact kFr_tr (kFr_tr (kFr_zu (by omega)) (kFr_zu (by omega))) (ih _ _)
theorem kFr_drop {κ : Zt} {i : Int} : kFr κ (kDropS κ i) := kFr_tr (kFr_zu (by omega)) (kFr_drop0 _ _ _)
theorem kDrop_17 : ∀ (n j : Nat) (κ : Zt) (i : Nat), kDrop n j κ 17 i = if j ≤ i ∧ i < j + n then κ 17 (i + 1) else κ 17 i := by
  intro n
  induction n with
  | zero => intro j κ i; rw [kDrop, if_neg (by omega)]
  | succ n ih =>
    intro j κ i
    rw [kDrop, ih, zu_ne (by omega), zu_row]
    dsimp only
    by_cases e : i = j
    · subst e
      rw [if_neg (by omega), if_pos rfl, if_pos (by omega)]
    · by_cases g : j + 1 ≤ i ∧ i < j + 1 + n
      · rw [if_pos g, if_neg (by omega), if_pos (by omega)]
      · rw [if_neg g, if_neg e, if_neg (by omega)]
theorem kMid_drop {κ : Zt} (h : kMid κ) {i : Int} (hi : kHolds κ i = true) : kMid (kDropS κ i) := by
  have q := kHolds_t hi
  have b := rgS_16_2 h.1
  have f := kFr_drop (κ := κ) (i := i)
  refine kMid_fr h f (kDropS_rg h.1 q.1 q.2) ?_ (gK_fr h.k f (fun t => kDropS_fr (by omega) (by omega) (by omega)))
  intro j hj
  rw [f.lo 1 (by omega) (by omega) (by omega) (by omega) (by omega)]
  rw [kDropS_16] at hj
  unfold kDropS
  rw [kDrop_17, zu_ne (by omega)]
  split
  · exact h.h _ (by omega)
  · exact h.h _ (by omega)
-- a stream, a cursor, what may be undone
theorem kMid_str {κ : Zt} (h : kMid κ) {x : Nat} {v : Int} (hx : x < 6) : kMid (zu κ (20 + 6 * x) 3 v) := by
  have f : kFr κ (zu κ (20 + 6 * x) 3 v) := kFr_zu (Or.inr (Or.inr (Or.inr (Or.inr (Or.inr ⟨x, rfl, rfl⟩)))))
  exact kMid_fr h f (rzS_20_3 h.1 hx) (gH_fr h.h f (zu_ne (by omega)) (zu_ne (by omega))) (gK_fr h.k f (fun t => zu_ne (by omega)))
theorem kMid_cur {κ : Zt} (h : kMid κ) {x k : Nat} {v : Int} (hx : x < 6) (hv : v = -1 ∨ (0 ≤ v ∧ v < κ 1 10 ∧ κ 5 v.toNat = 0)) : kMid (zu κ (24 + 6 * x) k v) := by
  have bT := rgS_1_10 h.1
  have f : kFr κ (zu κ (24 + 6 * x) k v) := kFr_zu (Or.inr (Or.inr (Or.inr (Or.inr (Or.inl ⟨x, rfl⟩)))))
  refine kMid_fr h f (rzS_24 h.1 hx (by omega) (by omega)) (gH_fr h.h f (zu_ne (by omega)) (zu_ne (by omega))) ?_
  intro r hr j hj
  rw [zu_ne (show 1 ≠ 24 + 6 * x by omega), zu_ne (show 5 ≠ 24 + 6 * x by omega)]
  by_cases e : r = x
  · subst e
    rw [zu_row]
    dsimp only
    by_cases g : j = k
    · rw [if_pos g]; exact hv
    · rw [if_neg g]; exact h.k r hr j hj
  · rw [zu_ne (by omega)]; exact h.k r hr j hj
theorem kMid_9 {κ : Zt} (h : kMid κ) {i : Nat} {v : Int} (v0 : 0 ≤ v) (v1 : v < 2) : kMid (zu κ 9 i v) := by
  have f : kFr κ (zu κ 9 i v) := kFr_zu (by omega)
  exact kMid_fr h f (rzS_9 h.1 v0 v1) (gH_fr h.h f (zu_ne (by omega)) (zu_ne (by omega))) (gK_fr h.k f (fun t => zu_ne (by omega)))
theorem kGood_send {κ : Zt} (h : kGood κ) {d q : Int} (d0 : 0 ≤ d) (d1 : d < κ 1 10) (q0 : 0 ≤ q) (q1 : q < 6) : kGood (kSend κ d q) := ⟨kMid_send h.1 d0 d1 q0 q1, fun t ht => gR_fr kFr_send (h.2 t ht)⟩
theorem kGood_drop {κ : Zt} (h : kGood κ) {i : Int} (hi : kHolds κ i = true) : kGood (kDropS κ i) := ⟨kMid_drop h.1 hi, fun t ht => gR_fr kFr_drop (h.2 t ht)⟩
theorem kGood_str {κ : Zt} (h : kGood κ) {x : Nat} {v : Int} (hx : x < 6) : kGood (zu κ (20 + 6 * x) 3 v) := ⟨kMid_str h.1 hx, fun t ht => gR_fr (kFr_zu (Or.inr (Or.inr (Or.inr (Or.inr (Or.inr ⟨x, rfl, rfl⟩)))))) (h.2 t ht)⟩
theorem kGood_cur {κ : Zt} (h : kGood κ) {x k : Nat} {v : Int} (hx : x < 6) (hv : v = -1 ∨ (0 ≤ v ∧ v < κ 1 10 ∧ κ 5 v.toNat = 0)) : kGood (zu κ (24 + 6 * x) k v) := ⟨kMid_cur h.1 hx hv, fun t ht => gR_fr (kFr_zu (Or.inr (Or.inr (Or.inr (Or.inr (Or.inl ⟨x, rfl⟩)))))) (h.2 t ht)⟩
theorem kGood_9 {κ : Zt} (h : kGood κ) {i : Nat} {v : Int} (v0 : 0 ≤ v) (v1 : v < 2) : kGood (zu κ 9 i v) := ⟨kMid_9 h.1 v0 v1, fun t ht => gR_fr (kFr_zu (by omega)) (h.2 t ht)⟩
-- signs of the text
theorem kSignAt_ok {κ : Zt} (h : kMid κ) (r : Nat) (q : Int) : kSignAt κ r q = -1 ∨ (0 ≤ kSignAt κ r q ∧ kSignAt κ r q < κ 1 10 ∧ κ 5 (kSignAt κ r q).toNat = 0 ∧ kDid κ r (kSignAt κ r q) = true) := by
  rcases kSignAt_is h.1 r q with e | ⟨j, h1, h2, h3⟩
  · exact Or.inl e
  · have b := rgS_14 h.1 j
    have c := h.e.2.1 j h1
    rw [h2]
    refine Or.inr ⟨b.1, c.1, c.2.1, ?_⟩
    unfold kAlive at h3
    simp only [Bool.and_eq_true] at h3
    exact h3.1
theorem kBefore_ok {κ : Zt} (h : kMid κ) (r : Nat) (q : Int) : kBefore κ r q = -1 ∨ (0 ≤ kBefore κ r q ∧ kBefore κ r q < κ 1 10 ∧ κ 5 (kBefore κ r q).toNat = 0 ∧ kDid κ r (kBefore κ r q) = true) := by
  unfold kBefore
  split
  · exact Or.inl rfl
  · exact kSignAt_ok h r _
-- with numbers of the reference
theorem RR_doI {κ μ : Zt} (h : RR κ μ) (hG : kMid κ) {x d : Int} (x0 : 0 ≤ x) (x1 : x < 6) (d0 : 0 ≤ d) (hd : d < κ 1 10) (hrd : kReady κ x.toNat d = true) : RR (kDo κ x.toNat d) (mDone μ x d) := by
  obtain ⟨r, rfl⟩ : ∃ n : Nat, x = n := ⟨x.toNat, by omega⟩
  obtain ⟨e, rfl⟩ : ∃ n : Nat, d = n := ⟨d.toNat, by omega⟩
  exact RR_do h hG (by omega) hd hrd
theorem kMid_doI {κ : Zt} (hG : kMid κ) {x d : Int} (x0 : 0 ≤ x) (x1 : x < 6) (d0 : 0 ≤ d) (hd : d < κ 1 10) (hnd : kDid κ x.toNat d = false ∨ κ (22 + 6 * x.toNat) d.toNat ≠ 0) (hrd : kReady κ x.toNat d = true) : kMid (kDo κ x.toNat d) := by
  obtain ⟨e, rfl⟩ : ∃ n : Nat, d = n := ⟨d.toNat, by omega⟩
  rcases hnd with h | h
  · exact kMid_do hG (by omega) hd h hrd
  · exact kMid_doW hG (by omega) hd (by simpa using h) hrd
theorem RR_wtI {κ μ : Zt} (h : RR κ μ) {x d : Int} (x0 : 0 ≤ x) (x1 : x < 6) (d0 : 0 ≤ d) (hd : d < 400) : RR (kWt κ x.toNat d) (zu μ 17 (400 * x + d).toNat (bI true)) := by
  have q := RR_wt h (r := x.toNat) (d := d.toNat) (by omega) (by omega)
  rw [Int.toNat_of_nonneg d0] at q
  rw [show (400 * x + d).toNat = 400 * x.toNat + d.toNat by omega]
  exact q
theorem kMid_wtI {κ : Zt} (hG : kMid κ) {x d : Int} (x0 : 0 ≤ x) (x1 : x < 6) (d0 : 0 ≤ d) (hd : d < κ 1 10) (hnd : kDid κ x.toNat d = false) (hw : κ (22 + 6 * x.toNat) d.toNat = 0) : kMid (kWt κ x.toNat d) := by
  obtain ⟨e, rfl⟩ : ∃ n : Nat, d = n := ⟨d.toNat, by omega⟩
  exact kMid_wt hG (by omega) hd hnd (by simpa using hw)
/-- the reference's raw precondition of isDone -/
theorem rr_dn {κ μ : Zt} (h : RR κ μ) (hG : kMid κ) {x d : Int} (x0 : 0 ≤ x) (x1 : x < 6) (hrd : kReady κ x.toNat d = true) : μ 19 (6 * x + μ 1 d.toNat).toNat < 400 := by
  have b := rgS_2 hG.1 d.toNat
  rw [rr_1 h, rr_19 h x0 x1 (by omega) (by omega)]
  exact kReady_dn hG.1 hrd
theorem kWaited_goI {κ : Zt} (h : kMid κ) {x d : Int} (x0 : 0 ≤ x) (x1 : x < 6) (d0 : 0 ≤ d) (hf : kFirst κ x.toNat (κ 1 10).toNat 0 = kFirst κ x.toNat (κ 1 10 - d).toNat d.toNat) (hd : d < κ 1 10) (hw : κ (22 + 6 * x.toNat) d.toNat ≠ 0) (hrd : kReady κ x.toNat d = true) : kWaited x.toNat 400 κ = kWaited x.toNat 400 (kDo κ x.toNat d) := by
  have q := hf.trans (kFirst_hit d0 hd hw hrd)
  obtain ⟨e, rfl⟩ : ∃ n : Nat, d = n := ⟨d.toNat, by omega⟩
  exact kWaited_go h (by omega) q hd (by simpa using hw) hrd
