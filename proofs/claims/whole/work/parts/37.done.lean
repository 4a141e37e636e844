/-! A DEED IS DONE, on both sides -/
section CR
variable {σ : Zt} {r : Nat} {d : Int}
theorem kCarry_21 (j : Nat) : kCarry σ r d (21 + 6 * r) j = if j = (σ 2 d.toNat).toNat then σ (21 + 6 * r) (σ 2 d.toNat).toNat + 1 else σ (21 + 6 * r) j := by
  have h0 : kCarry0 σ r d (21 + 6 * r) = fun j => if j = (σ 2 d.toNat).toNat then σ (21 + 6 * r) (σ 2 d.toNat).toNat + 1 else σ (21 + 6 * r) j := by
    unfold kCarry0
    rw [zu_ne (by omega), zu_row]
  have h1 : kCarry σ r d (21 + 6 * r) = kCarry0 σ r d (21 + 6 * r) := by
    unfold kCarry
    split
    · rw [zu_ne (by omega)]
    · split
      · rfl
      · split
        · rw [zu_ne (by omega)]
        · rfl
  rw [h1, h0]
theorem kCarry_22 : kCarry σ r d (22 + 6 * r) = σ (22 + 6 * r) := by
  unfold kCarry kCarry0
  repeat' split
  all_goals simp (disch := omega) only [zu_ne]
theorem kCarry_24 : kCarry σ r d (24 + 6 * r) = σ (24 + 6 * r) := by
  unfold kCarry kCarry0
  repeat' split
  all_goals simp (disch := omega) only [zu_ne]
theorem kCarry_20_3 : kCarry σ r d (20 + 6 * r) 3 = σ (20 + 6 * r) 3 := by
  unfold kCarry kCarry0
  repeat' split
  all_goals simp (disch := omega) only [zu_ne, zu_nj]
theorem kCarry_20_4 : kCarry σ r d (20 + 6 * r) 4 = max (σ (20 + 6 * r) 4) (σ 4 d.toNat) := by
  unfold kCarry kCarry0
  repeat' split
  all_goals simp (disch := omega) only [zu_ne, zu_nj, zu_same]
theorem kCarry_20_5 : kCarry σ r d (20 + 6 * r) 5 = if σ 5 d.toNat = 0 then σ (20 + 6 * r) 5 + 1 else σ (20 + 6 * r) 5 := by
  unfold kCarry kCarry0
  repeat' split
  all_goals simp (disch := omega) only [zu_ne, zu_nj, zu_same]
theorem kCarry_20_6 : kCarry σ r d (20 + 6 * r) 6 = σ (20 + 6 * r) 6 := by
  unfold kCarry kCarry0
  repeat' split
  all_goals simp (disch := omega) only [zu_ne, zu_nj, zu_same]
theorem kCarry_23 (j : Nat) : kCarry σ r d (23 + 6 * r) j = if (σ 5 d.toNat ≠ 0 ∧ σ 5 d.toNat ≠ 3 ∧ j = (σ 7 d.toNat).toNat) ∧ (σ (23 + 6 * r) (σ 7 d.toNat).toNat = -1 ∨ kLater σ d (σ (23 + 6 * r) (σ 7 d.toNat).toNat) = true) then d else σ (23 + 6 * r) j := by
  unfold kCarry kCarry0
  by_cases h0 : σ 5 d.toNat = 0
  · rw [if_pos h0, if_neg (fun q => q.1.1 h0)]
    simp (disch := omega) only [zu_ne]
  · rw [if_neg h0]
    by_cases h3 : σ 5 d.toNat = 3
    · rw [if_pos h3, if_neg (fun q => q.1.2.1 h3)]
      simp (disch := omega) only [zu_ne]
    · rw [if_neg h3]
      by_cases hl : σ (23 + 6 * r) (σ 7 d.toNat).toNat = -1 ∨ kLater σ d (σ (23 + 6 * r) (σ 7 d.toNat).toNat) = true
      · rw [if_pos hl, zu_row]
        dsimp only
        by_cases hj : j = (σ 7 d.toNat).toNat
        · rw [if_pos hj, if_pos ⟨⟨h0, h3, hj⟩, hl⟩]
        · rw [if_neg hj, if_neg (fun q => hj q.1.2.2)]
          simp (disch := omega) only [zu_ne]
      · rw [if_neg hl, if_neg (fun q => hl q.2)]
        simp (disch := omega) only [zu_ne]
theorem kCarry_oth {t k : Nat} (ht : t ≠ r) (hk : k < 6) : kCarry σ r d (20 + k + 6 * t) = σ (20 + k + 6 * t) := by
  unfold kCarry kCarry0
  repeat' split
  all_goals simp (disch := omega) only [zu_ne]
end CR
theorem kUnwait_lo {σ : Zt} {r : Nat} {d : Int} {q : Nat} (h : q < 20) : kUnwait σ r d q = σ q := by
  unfold kUnwait
  simp (disch := omega) only [zu_ne]
theorem kDo_lo {σ : Zt} {r : Nat} {d : Int} {q : Nat} (h : q < 20) : kDo σ r d q = σ q := by
  unfold kDo
  split
  · exact kCarry_fr h
  · rw [kCarry_fr h, kUnwait_lo h]
section DR
variable {σ : Zt} {r : Nat} {d : Int}
theorem kDo_21 (j : Nat) : kDo σ r d (21 + 6 * r) j = if j = (σ 2 d.toNat).toNat then σ (21 + 6 * r) (σ 2 d.toNat).toNat + 1 else σ (21 + 6 * r) j := by
  unfold kDo
  split
  · exact kCarry_21 j
  · rw [kCarry_21, kUnwait_lo (q := 2) (by omega)]
    unfold kUnwait
    simp (disch := omega) only [zu_ne]
theorem kDo_22 (j : Nat) : kDo σ r d (22 + 6 * r) j = if j = d.toNat then 0 else σ (22 + 6 * r) j := by
  unfold kDo
  split
  · rename_i h
    rw [kCarry_22]
    split
    · rename_i q; rw [q, h]
    · rfl
  · rw [kCarry_22]
    unfold kUnwait
    rw [zu_ne (by omega), zu_row]
theorem kDo_23 (j : Nat) : kDo σ r d (23 + 6 * r) j = if (σ 5 d.toNat ≠ 0 ∧ σ 5 d.toNat ≠ 3 ∧ j = (σ 7 d.toNat).toNat) ∧ (σ (23 + 6 * r) (σ 7 d.toNat).toNat = -1 ∨ kLater σ d (σ (23 + 6 * r) (σ 7 d.toNat).toNat) = true) then d else σ (23 + 6 * r) j := by
  unfold kDo
  split
  · exact kCarry_23 j
  · have e : kLater (kUnwait σ r d) = kLater σ := by
      funext a b
      unfold kLater
      rw [kUnwait_lo (q := 4) (by omega), kUnwait_lo (q := 2) (by omega)]
    rw [kCarry_23, e, kUnwait_lo (q := 5) (by omega), kUnwait_lo (q := 7) (by omega)]
    unfold kUnwait
    simp (disch := omega) only [zu_ne]
theorem kDo_24 : kDo σ r d (24 + 6 * r) = σ (24 + 6 * r) := by
  unfold kDo
  split
  · exact kCarry_24
  · rw [kCarry_24]; unfold kUnwait; simp (disch := omega) only [zu_ne]
theorem kDo_20_3 : kDo σ r d (20 + 6 * r) 3 = σ (20 + 6 * r) 3 := by
  unfold kDo
  split
  · exact kCarry_20_3
  · rw [kCarry_20_3]; unfold kUnwait; simp (disch := omega) only [zu_ne, zu_nj]
theorem kDo_20_4 : kDo σ r d (20 + 6 * r) 4 = max (σ (20 + 6 * r) 4) (σ 4 d.toNat) := by
  unfold kDo
  split
  · exact kCarry_20_4
  · rw [kCarry_20_4, kUnwait_lo (q := 4) (by omega)]; unfold kUnwait; simp (disch := omega) only [zu_ne, zu_nj]
theorem kDo_20_5 : kDo σ r d (20 + 6 * r) 5 = if σ 5 d.toNat = 0 then σ (20 + 6 * r) 5 + 1 else σ (20 + 6 * r) 5 := by
  unfold kDo
  split
  · exact kCarry_20_5
  · rw [kCarry_20_5, kUnwait_lo (q := 5) (by omega)]; unfold kUnwait; simp (disch := omega) only [zu_ne, zu_nj]
theorem kDo_20_6 : kDo σ r d (20 + 6 * r) 6 = if σ (22 + 6 * r) d.toNat = 0 then σ (20 + 6 * r) 6 else σ (20 + 6 * r) 6 - 1 := by
  unfold kDo
  split
  · exact kCarry_20_6
  · rw [kCarry_20_6]; unfold kUnwait; rw [zu_same]
theorem kDo_oth {t k : Nat} (ht : t ≠ r) (hk : k < 6) : kDo σ r d (20 + k + 6 * t) = σ (20 + k + 6 * t) := by
  unfold kDo
  split
  · exact kCarry_oth ht hk
  · rw [kCarry_oth ht hk]; unfold kUnwait; simp (disch := omega) only [zu_ne]
end DR
/-- what is done at r after deed d is done there -/
theorem kDo_did {κ : Zt} {r : Nat} {d : Nat} (hd : (d : Int) < κ 1 10) (hn : κ 3 d - 1 = κ (21 + 6 * r) (κ 2 d).toNat) (hk : rgS κ) (hc : ∀ f : Nat, (f : Int) < κ 1 10 → κ 2 f = κ 2 d → κ 3 f = κ 3 d → f = d) {f : Nat} (hf : (f : Int) < κ 1 10) :
    kDid (kDo κ r d) r f = if f = d then true else kDid κ r f := by
  have b1 := rgS_2 hk d
  have b2 := rgS_2 hk f
  unfold kDid
  rw [kDo_lo (q := 2) (by omega), kDo_lo (q := 3) (by omega), kDo_21, Int.toNat_natCast, Int.toNat_natCast]
  by_cases e : f = d
  · subst e
    rw [if_pos rfl, if_pos rfl, decide_eq_true (by omega)]
  · rw [if_neg e]
    by_cases q : (κ 2 f).toNat = (κ 2 d).toNat
    · rw [if_pos q, q]
      have h1 : κ 3 f ≠ κ 3 d := fun h => e (hc f hf (by omega) h)
      exact decide_eq_decide.mpr (by omega)
    · rw [if_neg q]
theorem kDo_didO {κ : Zt} {r t : Nat} {d : Int} (ht : t ≠ r) : kDid (kDo κ r d) t = kDid κ t := kDid_congr (kDo_lo (by omega)) (kDo_lo (by omega)) (by have := kDo_oth (σ := κ) (d := d) (k := 1) ht (by omega); simpa using this)
theorem RR_done {κ μ : Zt} (h : RR κ μ) (hk : rgS κ) {r d : Nat} (hr : r < 6) (hd : (d : Int) < κ 1 10) (hn : κ 3 d - 1 = κ (21 + 6 * r) (κ 2 d).toNat) (hc : ∀ f : Nat, (f : Int) < κ 1 10 → κ 2 f = κ 2 d → κ 3 f = κ 3 d → f = d) : RR (kDo κ r d) (mDone μ r d) := by
  have b1 := rgS_2 hk d
  have b0 := rgS_1_10 hk
  have b5 := rgS_5 hk d
  have b7 := rgS_7 hk d
  have eL : ∀ f, mLater μ d f = (decide (f = -1) || kLater κ d f) := fun f => by unfold mLater kLater; rw [rr_1 h, rr_3 h]
  have m0 : ∀ q, q ≠ 16 → q ≠ 17 → q ≠ 18 → q ≠ 19 → q ≠ 20 → mDone μ r d q = μ q := fun q h1 h2 h3 h4 h5 => by
    unfold mDone mDone0
    split <;> simp (disch := omega) only [zu_ne]
  have m16 : ∀ j, mDone μ r d 16 j = if j = 400 * r + d then 1 else μ 16 j := fun j => by
    unfold mDone mDone0
    split <;> simp (disch := omega) only [zu_ne, zu_row] <;> rw [show (400 * (r : Int) + (d : Int)).toNat = 400 * r + d by omega]
  have m17 : ∀ j, mDone μ r d 17 j = if j = 400 * r + d then 0 else μ 17 j := fun j => by
    unfold mDone mDone0
    split <;> simp (disch := omega) only [zu_ne, zu_row] <;> rw [show (400 * (r : Int) + (d : Int)).toNat = 400 * r + d by omega]
  have m19 : ∀ j, mDone μ r d 19 j = if j = 6 * r + (κ 2 d).toNat then μ 19 j + 1 else μ 19 j := fun j => by
    unfold mDone mDone0
    rw [rr_1 h]
    split <;> simp (disch := omega) only [zu_ne, zu_row, Int.toNat_natCast] <;> rw [show (6 * (r : Int) + κ 2 d).toNat = 6 * r + (κ 2 d).toNat by omega] <;> split <;> simp_all
  have m20 : ∀ j, mDone μ r d 20 j = if j = r then max (μ 20 r) (κ 4 d) else μ 20 j := fun j => by
    unfold mDone mDone0
    rw [rr_3 h]
    split <;> simp (disch := omega) only [zu_ne, zu_row, Int.toNat_natCast] <;> split <;> first | rfl | (split <;> omega)
  have m18 : ∀ j, mDone μ r d 18 j = if (κ 5 d = 1 ∨ κ 5 d = 2) ∧ j = 400 * r + (κ 7 d).toNat then (if μ 18 j = -1 ∨ kLater κ d (μ 18 j) = true then (d : Int) else μ 18 j) else μ 18 j := fun j => by
    unfold mDone mDone0
    rw [rr_4 h, rr_6 h, Int.toNat_natCast, show (400 * (r : Int) + κ 7 d).toNat = 400 * r + (κ 7 d).toNat by omega]
    by_cases q : κ 5 d = 1 ∨ κ 5 d = 2
    · rw [if_pos q, zu_row]
      dsimp only
      by_cases e : j = 400 * r + (κ 7 d).toNat
      · rw [if_pos (show (κ 5 d = 1 ∨ κ 5 d = 2) ∧ j = 400 * r + (κ 7 d).toNat from ⟨q, e⟩), if_pos e, eL, ← e]
        simp only [Bool.or_eq_true, decide_eq_true_eq]
      · rw [if_neg (show ¬ ((κ 5 d = 1 ∨ κ 5 d = 2) ∧ j = 400 * r + (κ 7 d).toNat) from fun x => e x.2), if_neg e]
        simp (disch := omega) only [zu_ne]
    · rw [if_neg (show ¬ ((κ 5 d = 1 ∨ κ 5 d = 2) ∧ j = 400 * r + (κ 7 d).toNat) from fun x => q x.1), if_neg q]
      simp (disch := omega) only [zu_ne]
  obtain ⟨h1, h2, h3, h4, h5, h6⟩ := h
  unfold RR
  rw [m0 0 (by omega) (by omega) (by omega) (by omega) (by omega), m0 1 (by omega) (by omega) (by omega) (by omega) (by omega), m0 2 (by omega) (by omega) (by omega) (by omega) (by omega), m0 3 (by omega) (by omega) (by omega) (by omega) (by omega), m0 4 (by omega) (by omega) (by omega) (by omega) (by omega), m0 5 (by omega) (by omega) (by omega) (by omega) (by omega), m0 6 (by omega) (by omega) (by omega) (by omega) (by omega), m0 7 (by omega) (by omega) (by omega) (by omega) (by omega), m0 8 (by omega) (by omega) (by omega) (by omega) (by omega), m0 9 (by omega) (by omega) (by omega) (by omega) (by omega), m0 10 (by omega) (by omega) (by omega) (by omega) (by omega), m0 11 (by omega) (by omega) (by omega) (by omega) (by omega), m0 12 (by omega) (by omega) (by omega) (by omega) (by omega), m0 13 (by omega) (by omega) (by omega) (by omega) (by omega), m0 14 (by omega) (by omega) (by omega) (by omega) (by omega), m0 15 (by omega) (by omega) (by omega) (by omega) (by omega), m0 21 (by omega) (by omega) (by omega) (by omega) (by omega), m0 22 (by omega) (by omega) (by omega) (by omega) (by omega), m0 23 (by omega) (by omega) (by omega) (by omega) (by omega), m0 24 (by omega) (by omega) (by omega) (by omega) (by omega)]
  rw [kDo_lo (q := 1) (by omega), kDo_lo (q := 2) (by omega), kDo_lo (q := 3) (by omega), kDo_lo (q := 4) (by omega), kDo_lo (q := 5) (by omega), kDo_lo (q := 6) (by omega), kDo_lo (q := 7) (by omega), kDo_lo (q := 8) (by omega), kDo_lo (q := 9) (by omega), kDo_lo (q := 11) (by omega), kDo_lo (q := 12) (by omega), kDo_lo (q := 13) (by omega), kDo_lo (q := 14) (by omega), kDo_lo (q := 15) (by omega), kDo_lo (q := 16) (by omega), kDo_lo (q := 17) (by omega), kDo_lo (q := 18) (by omega)]
  refine ⟨h1, h2, h3, h4, ⟨h5.1, fun t j ht a b => by rw [m16, if_neg (by omega)]; exact h5.2 t j ht a b⟩, fun t ht => ?_⟩
  obtain ⟨a, b, c, e, f, g⟩ := h6 t ht
  by_cases q : t = r
  · subst q
    refine ⟨fun j hj => ?_, fun j hj => ⟨?_, ?_⟩, fun j hj => ?_, ?_, ?_, ?_⟩
    · rw [m16, kDo_did hd hn hk hc hj]
      by_cases x : j = d
      · rw [if_pos (by omega), if_pos x]; rfl
      · rw [if_neg (by omega), if_neg x]; exact a j hj
    · rw [m17, kDo_22, Int.toNat_natCast]
      by_cases x : j = d
      · rw [if_pos (by omega), if_pos x]
      · rw [if_neg (by omega), if_neg x]; exact (b j hj).1
    · rw [m18, kDo_23, Int.toNat_natCast]
      by_cases x : (κ 5 d = 1 ∨ κ 5 d = 2) ∧ j = (κ 7 d).toNat
      · rw [if_pos ⟨x.1, by omega⟩, (b j hj).2]
        by_cases y : κ (23 + 6 * t) j = -1 ∨ kLater κ d (κ (23 + 6 * t) j) = true
        · rw [if_pos y, if_pos ⟨⟨by omega, by omega, x.2⟩, by rw [← x.2]; exact y⟩]
        · rw [if_neg y, if_neg (fun z => y (by rw [x.2]; exact z.2))]
      · rw [if_neg (fun z => x ⟨z.1, by omega⟩), if_neg (fun z => x ⟨by omega, z.1.2.2⟩)]; exact (b j hj).2
    · rw [m19, kDo_21, Int.toNat_natCast]
      by_cases x : j = (κ 2 d).toNat
      · rw [if_pos (by omega), if_pos x, c j hj, x]
      · rw [if_neg (by omega), if_neg x]; exact c j hj
    · rw [m20, kDo_20_4, if_pos rfl, e, Int.toNat_natCast]
    · rw [kDo_20_3]; exact f
    · rw [kDo_24]; exact g
  · have o1 := kDo_oth (σ := κ) (r := r) (d := d) (t := t) (k := 0) q (by omega)
    have o2 := kDo_oth (σ := κ) (r := r) (d := d) (t := t) (k := 1) q (by omega)
    have o3 := kDo_oth (σ := κ) (r := r) (d := d) (t := t) (k := 2) q (by omega)
    have o4 := kDo_oth (σ := κ) (r := r) (d := d) (t := t) (k := 3) q (by omega)
    have o5 := kDo_oth (σ := κ) (r := r) (d := d) (t := t) (k := 4) q (by omega)
    simp only [Nat.add_zero] at o1 o2 o3 o4 o5
    rw [kDo_didO q, o1, o2, o3, o4, o5]
    refine ⟨fun j hj => ?_, fun j hj => ⟨?_, ?_⟩, fun j hj => ?_, ?_, f, g⟩
    · rw [m16, if_neg (by omega)]; exact a j hj
    · rw [m17, if_neg (by omega)]; exact (b j hj).1
    · rw [m18, if_neg (by omega)]; exact (b j hj).2
    · rw [m19, if_neg (by omega)]; exact c j hj
    · rw [m20, if_neg q]; exact e
