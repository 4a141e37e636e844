/-! FOR undo OF THE REFERENCE -/
theorem rr_89 {κ μ : Zt} (h : RR κ μ) {d : Int} (d0 : 0 ≤ d) (d1 : d < κ 1 10) : κ 9 d.toNat ≠ 0 ↔ (κ 5 d.toNat = 0 ∨ κ 5 d.toNat = 1) ∧ μ 8 d.toNat = 0 ∧ μ 9 d.toNat = 0 := h.2.2.2.1 d.toNat (by omega)
theorem RR_8 {κ μ : Zt} (h : RR κ μ) {i : Nat} : RR (zu κ 9 i 0) (zu μ 8 i (bI true)) := by
  unfold RR kDid at *
  simp (disch := omega) only [zu_ne, zu_row]
  obtain ⟨h1, h2, h3, h4, h5⟩ := h
  refine ⟨h1, h2, h3, fun d hd => ?_, h5⟩
  by_cases e : d = i
  · simp [e, bI]
  · simp only [if_neg e]; exact h4 d hd
theorem RR_9 {κ μ : Zt} (h : RR κ μ) {i : Nat} : RR (zu κ 9 i 0) (zu μ 9 i (bI true)) := by
  unfold RR kDid at *
  simp (disch := omega) only [zu_ne, zu_row]
  obtain ⟨h1, h2, h3, h4, h5⟩ := h
  refine ⟨h1, h2, h3, fun d hd => ?_, h5⟩
  by_cases e : d = i
  · simp [e, bI]
  · simp only [if_neg e]; exact h4 d hd
theorem kSignAt_in {κ : Zt} (h : kMid κ) {r : Nat} {q : Int} (q0 : 0 ≤ q) (q1 : q ≤ kLen κ r - 1) : kSignAt κ r q ≠ -1 ∧ 0 ≤ kSignAt κ r q ∧ kSignAt κ r q < κ 1 10 ∧ κ 5 (kSignAt κ r q).toNat = 0 := by
  have h2 : kSignAt κ r q ≠ -1 := fun e => by have := (kSignAt_len h.1 r q).mp e; omega
  obtain ⟨h3, h4, h6, h7⟩ := (kSignAt_ok h r q).resolve_left h2
  exact ⟨h2, h3, h4, h6⟩
theorem kSignAt_out {κ : Zt} (h : kMid κ) {r : Nat} {q : Int} (q0 : q < 0 ∨ kLen κ r - 1 < q) : kSignAt κ r q = -1 := (kSignAt_len h.1 r q).mpr (by omega)
theorem kMarB_t {κ : Zt} {x f t k : Int} (h1 : kSignAt κ x.toNat f ≠ -1) (h2 : kSignAt κ x.toNat t ≠ -1) (h3 : f ≤ t) (h4 : 0 ≤ k) (h5 : k < 8) : kMarB κ x f t k = true := by
  unfold kMarB
  simp [h1, h2, h3, h4, h5]
theorem kMarB_f {κ : Zt} (h : kMid κ) {x f t k : Int} (hh : (f < 0 ∨ t < f) ∨ (t < 0 ∨ kLen κ x.toNat - 1 < t) ∨ (k < 0 ∨ 7 < k)) : kMarB κ x f t k = false := by
  unfold kMarB
  have a := kSignAt_len h.1 x.toNat f
  have b := kSignAt_len h.1 x.toNat t
  by_cases e1 : kSignAt κ x.toNat f = -1
  · simp [e1]
  · by_cases e2 : kSignAt κ x.toNat t = -1
    · simp [e2]
    · have : ¬ (f ≤ t ∧ 0 ≤ k ∧ k < 8) := by omega
      simp only [ne_eq, e1, e2, not_false_eq_true, decide_true, Bool.true_and]
      by_cases c1 : f ≤ t
      · by_cases c2 : 0 ≤ k
        · rw [decide_eq_true c1, decide_eq_true c2, decide_eq_false (by omega)]; rfl
        · rw [decide_eq_false c2]; simp
      · rw [decide_eq_false c1]; rfl
