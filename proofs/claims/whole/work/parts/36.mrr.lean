/-! HOW THE TWO GO ON TOGETHER -/
theorem kDid_congr {κ ρ : Zt} {r : Nat} (h2 : ρ 2 = κ 2) (h3 : ρ 3 = κ 3) (h : ρ (21 + 6 * r) = κ (21 + 6 * r)) : kDid ρ r = kDid κ r := by
  funext d; unfold kDid; rw [h2, h3, h]
theorem RR_21 {κ μ : Zt} (h : RR κ μ) {x : Nat} (hx : x < 6) {v : Int} : RR (zu κ (20 + 6 * x) 3 v) (zu μ 21 x v) := by
  unfold RR kDid at *
  simp (disch := omega) only [zu_ne]
  obtain ⟨h1, h2, h3, h4, h5, h6⟩ := h
  refine ⟨h1, h2, h3, h4, h5, fun r hr => ?_⟩
  obtain ⟨a, b, c, d, e, f⟩ := h6 r hr
  refine ⟨a, b, c, ?_, ?_, f⟩
  · by_cases q : r = x
    · subst q; rw [zu_nj (by omega)]; exact d
    · rw [zu_ne (by omega)]; exact d
  · by_cases q : r = x
    · subst q; rw [zu_same, zu_same]
    · rw [zu_ne (show 20 + 6 * r ≠ 20 + 6 * x by omega), zu_nj q]; exact e
theorem RR_22 {κ μ : Zt} (h : RR κ μ) {x k : Nat} (hx : x < 6) (hk : k < 4) {v : Int} : RR (zu κ (24 + 6 * x) k v) (zu μ 22 (4 * x + k) v) := by
  unfold RR kDid at *
  simp (disch := omega) only [zu_ne]
  obtain ⟨h1, h2, h3, h4, h5, h6⟩ := h
  refine ⟨h1, h2, h3, h4, h5, fun r hr => ?_⟩
  obtain ⟨a, b, c, d, e, f⟩ := h6 r hr
  refine ⟨a, b, c, d, e, fun j hj => ?_⟩
  by_cases q : r = x
  · subst q
    by_cases p : j = k
    · subst p; rw [zu_same, zu_same]
    · rw [zu_nj p, zu_nj (by omega)]; exact f j hj
  · rw [zu_ne (show 24 + 6 * r ≠ 24 + 6 * x by omega), zu_nj (by omega)]; exact f j hj
theorem RR_23 {κ μ : Zt} (h : RR κ μ) {i : Nat} {v : Int} : RR (zu κ 17 i v) (zu μ 23 i v) := by
  unfold RR kDid at *
  simp (disch := omega) only [zu_ne, zu_row]
  obtain ⟨h1, ⟨b1, b2, b3, b4, b5, b6, b7, b8, b9, b10, b11⟩, h3⟩ := h
  exact ⟨h1, ⟨b1, b2, b3, b4, b5, b6, b7, b8, b9, by rw [b10], b11⟩, h3⟩
theorem RR_24 {κ μ : Zt} (h : RR κ μ) {i : Nat} {v : Int} : RR (zu κ 18 i v) (zu μ 24 i v) := by
  unfold RR kDid at *
  simp (disch := omega) only [zu_ne, zu_row]
  obtain ⟨h1, ⟨b1, b2, b3, b4, b5, b6, b7, b8, b9, b10, b11⟩, h3⟩ := h
  exact ⟨h1, ⟨b1, b2, b3, b4, b5, b6, b7, b8, b9, b10, by rw [b11]⟩, h3⟩
theorem RR_25 {κ μ : Zt} (h : RR κ μ) {v : Int} : RR (zu κ 16 2 v) (zu μ 0 25 v) := by
  unfold RR kDid at *
  simp (disch := omega) only [zu_ne, zu_nj, zu_same]
  obtain ⟨⟨a1, a2, a3, a4⟩, h2⟩ := h
  exact ⟨⟨a1, a2, trivial, a4⟩, h2⟩
theorem RR_28 {κ μ : Zt} (h : RR κ μ) {v : Int} : RR (zu κ 16 3 v) (zu μ 0 28 v) := by
  unfold RR kDid at *
  simp (disch := omega) only [zu_ne, zu_nj, zu_same]
  obtain ⟨⟨a1, a2, a3, a4⟩, h2⟩ := h
  exact ⟨⟨a1, a2, a3, trivial⟩, h2⟩
theorem RR_send {κ μ : Zt} (h : RR κ μ) (hk : rgS κ) {d q : Int} : RR (kSend κ d q) (mSend μ d q) := by
  have b := rgS_16_2 hk
  unfold kSend mSend
  rw [rr_0_25 h, rr_0_28 h]
  by_cases e : κ 16 2 = 300
  · rw [if_pos (by omega), if_pos e]; exact RR_28 h
  · rw [if_neg (by omega), if_neg e]; exact RR_25 (RR_24 (RR_23 h))
theorem RR_drop0 : ∀ (n j : Nat) (κ μ : Zt), RR κ μ → RR (kDrop n j κ) (mDrop n j μ) := by
  intro n
  induction n with
  | zero => intro j κ μ h; exact h
  | succ n ih =>
    intro j κ μ h
    rw [kDrop, mDrop, rr_23 h, rr_24 h]
    exact ih _ _ _ (RR_24 (RR_23 h))
theorem RR_drop {κ μ : Zt} (h : RR κ μ) {i : Int} : RR (kDropS κ i) (mDropS μ i) := by
  unfold kDropS mDropS
  rw [rr_0_25 h]
  exact RR_drop0 _ _ _ _ (RR_25 h)
/-- deed d is done at r, that may have waited -/
def kDo (κ : Zt) (r : Nat) (d : Int) : Zt := if κ (22 + 6 * r) d.toNat = 0 then kCarry κ r d else kCarry (kUnwait κ r d) r d
