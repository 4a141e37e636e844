/-! WHAT HOLDS IS KEPT when a deed is done, or waits -/
theorem kSum_congr {f g : Nat → Int} : ∀ n, (∀ j, j < n → f j = g j) → kSum f n = kSum g n := by
  intro n
  induction n with
  | zero => intro _; rfl
  | succ n ih => intro h; rw [kSum, kSum, ih (fun j hj => h j (by omega)), h n (by omega)]
theorem kSum_upd {f g : Nat → Int} {d : Nat} : ∀ n, d < n → (∀ j, j < n → j ≠ d → g j = f j) → kSum g n = kSum f n + (g d - f d) := by
  intro n
  induction n with
  | zero => intro h; omega
  | succ n ih =>
    intro hd h
    rw [kSum, kSum]
    by_cases e : d = n
    · subst e
      rw [kSum_congr d (fun j hj => h j (by omega) (by omega))]
      omega
    · rw [ih (by omega) (fun j hj hne => h j (by omega) hne), h n (by omega) (by omega)]
      omega
theorem kSum_pos {f : Nat → Int} (h0 : ∀ j, 0 ≤ f j) : ∀ n d, d < n → f d ≤ kSum f n := by
  intro n
  induction n with
  | zero => intro d h; omega
  | succ n ih =>
    intro d h
    rw [kSum]
    have hn := h0 n
    by_cases e : d = n
    · subst e
      have : ∀ m, 0 ≤ kSum f m := fun m => by
        induction m with
        | zero => simp [kSum]
        | succ m im => have := h0 m; rw [kSum]; omega
      have := this d
      omega
    · have := ih d (by omega); omega
theorem kLevel_congr {κ ρ : Zt} (h12 : ρ 12 = κ 12) (h13 : ρ 13 = κ 13) : kLevel ρ = kLevel κ := by
  funext d k; unfold kLevel; rw [h12, h13]
theorem kIsBe_congr {κ ρ : Zt} (h12 : ρ 12 = κ 12) (h13 : ρ 13 = κ 13) : ∀ (d f : Int) (n : Nat) (k : Int), kIsBe ρ d f n k = kIsBe κ d f n k := by
  intro d f n
  induction n with
  | zero => intro k; rfl
  | succ n ih => intro k; rw [kIsBe, kIsBe, ih, kLevel_congr h12 h13]
theorem gI_congr {κ ρ : Zt} (h1 : ρ 1 = κ 1) (h2 : ρ 2 = κ 2) (h3 : ρ 3 = κ 3) (h5 : ρ 5 = κ 5) (h11 : ρ 11 = κ 11) (h12 : ρ 12 = κ 12) (h13 : ρ 13 = κ 13) (h14 : ρ 14 = κ 14) (h : gI κ) : gI ρ := by
  unfold gI at *
  rw [h1, h2, h3, h5, h11, h13, h14, kLevel_congr h12 h13]
  exact ⟨h.1, h.2.1, fun i j a b => by rw [kIsBe_congr h12 h13]; exact h.2.2 i j a b⟩
/-- what isn't of a replica stays -/
theorem kMid_lo {κ ρ : Zt} (h : ∀ q, q < 20 → ρ q = κ q) : (gC κ → gC ρ) ∧ (gD κ → gD ρ) ∧ (gE κ → gE ρ) ∧ (gG κ → gG ρ) ∧ (gH κ → gH ρ) ∧ (gI κ → gI ρ) := by
  have r1 := h 1 (by omega)
  have r2 := h 2 (by omega)
  have r3 := h 3 (by omega)
  have r5 := h 5 (by omega)
  have r7 := h 7 (by omega)
  have r8 := h 8 (by omega)
  have r10 := h 10 (by omega)
  have r11 := h 11 (by omega)
  have r14 := h 14 (by omega)
  have r15 := h 15 (by omega)
  have r16 := h 16 (by omega)
  have r17 := h 17 (by omega)
  refine ⟨?_, ?_, ?_, ?_, ?_, gI_congr r1 r2 r3 r5 r11 (h 12 (by omega)) (h 13 (by omega)) r14⟩
  · unfold gC; rw [r1, r2, r3]; exact id
  · unfold gD; rw [r1, r5, r7, r8]; exact id
  · unfold gE; rw [r1, r5, r11, r14, r15]; exact id
  · unfold gG; rw [r1, r5, r10]; exact id
  · unfold gH; rw [r1, r16, r17]; exact id
/-- one's own deeds are done at one -/
theorem own_did {κ : Zt} (h : kMid κ) {r d : Nat} (hd : (d : Int) < κ 1 10) (ho : κ 2 d = r) : kDid κ r d = true := by
  have b := (h.b d hd).2.1
  have b2 := rgS_2 h.1 d
  unfold kDid
  rw [Int.toNat_natCast]
  rw [ho, Int.toNat_natCast] at b
  rw [ho, Int.toNat_natCast]
  exact decide_eq_true b
theorem kMid_do {κ : Zt} (h : kMid κ) {r d : Nat} (hr : r < 6) (hd : (d : Int) < κ 1 10) (hnd : kDid κ r d = false) (hrd : kReady κ r d = true) : kMid (kDo κ r d) := by
  have hk := h.1
  have bT := rgS_1_10 hk
  have b2 := rgS_2 hk d
  have hw := (h.f r hr).2
  have hn : κ 3 d - 1 = κ (21 + 6 * r) (κ 2 d).toNat := by
    have := hrd
    simp only [kReady, Bool.and_eq_true, decide_eq_true_eq, Int.toNat_natCast] at this
    exact this.1
  have ho : κ 2 d ≠ r := fun q => by rw [own_did h hd q] at hnd; cases hnd
  have hon : (κ 2 d).toNat ≠ r := by omega
  have hc : ∀ f : Nat, (f : Int) < κ 1 10 → κ 2 f = κ 2 d → κ 3 f = κ 3 d → f = d := fun f hf a b => h.c f d hf hd a b
  have hB := h.b d hd
  have lo := kMid_lo (κ := κ) (ρ := kDo κ r d) (fun q hq => kDo_lo hq)
  have l1 : kDo κ r d 1 = κ 1 := kDo_lo (by omega)
  have l2 : kDo κ r d 2 = κ 2 := kDo_lo (by omega)
  have l3 : kDo κ r d 3 = κ 3 := kDo_lo (by omega)
  have l4 : kDo κ r d 4 = κ 4 := kDo_lo (by omega)
  have l5 : kDo κ r d 5 = κ 5 := kDo_lo (by omega)
  have o0 : ∀ t, t ≠ r → kDo κ r d (20 + 6 * t) = κ (20 + 6 * t) := fun t q => kDo_oth (k := 0) q (by omega)
  have o1 : ∀ t, t ≠ r → kDo κ r d (21 + 6 * t) = κ (21 + 6 * t) := fun t q => kDo_oth (k := 1) q (by omega)
  have o2 : ∀ t, t ≠ r → kDo κ r d (22 + 6 * t) = κ (22 + 6 * t) := fun t q => kDo_oth (k := 2) q (by omega)
  have o3 : ∀ t, t ≠ r → kDo κ r d (23 + 6 * t) = κ (23 + 6 * t) := fun t q => kDo_oth (k := 3) q (by omega)
  have o4 : ∀ t, t ≠ r → kDo κ r d (24 + 6 * t) = κ (24 + 6 * t) := fun t q => kDo_oth (k := 4) q (by omega)
  have diag : ∀ t, kDo κ r d (21 + 6 * t) t = κ (21 + 6 * t) t := fun t => by
    by_cases q : t = r
    · subst q; rw [kDo_21, Int.toNat_natCast, if_neg (fun x => hon x.symm)]
    · rw [o1 t q]
  have w0 : ∀ j, 0 ≤ κ (22 + 6 * r) j := fun j => (rgS_22 hk hr j).1
  have hrg : rgS (kDo κ r d) := by
    have hdn := kReady_dn hk hrd
    unfold kDo
    split
    · exact kCarry_rg hk hr (by omega) (by omega) hdn
    · rename_i q
      have p := kSum_pos w0 400 d (by omega)
      have w1 := rgS_22 hk hr d
      rw [Int.toNat_natCast] at q
      refine kCarry_rg (kUnwait_rg hk hr (by omega)) hr (by omega) (by omega) ?_
      unfold kUnwait
      simp (disch := omega) only [zu_ne]
      exact hdn
  refine ⟨hrg, ⟨fun t q ht hq => ?_, fun t ht => ⟨?_, ?_⟩⟩, fun f hf => ?_, lo.1 h.c, lo.2.1 h.d, lo.2.2.1 h.e, fun t ht => ⟨fun f hf => ?_, ?_⟩, lo.2.2.2.1 h.g, lo.2.2.2.2.1 h.h, lo.2.2.2.2.2 h.i, fun t ht => ?_, fun t ht k hk4 => ?_, fun t ht f => ?_⟩
  · rw [diag q]
    by_cases e : t = r
    · subst e
      rw [kDo_21, Int.toNat_natCast]
      split
      · rename_i x; rw [x]; omega
      · exact h.a.1 t q ht hq
    · rw [o1 t e]; exact h.a.1 t q ht hq
  · rw [diag t, l1]; exact (h.a.2 t ht).1
  · rw [l1]
    by_cases e : t = r
    · subst e
      rw [kDo_20_4, Int.toNat_natCast]
      have := (h.a.2 t ht).2
      omega
    · rw [o0 t e]; exact (h.a.2 t ht).2
  · rw [l1] at hf
    rw [l1, l2, l3, l4, diag]
    exact h.b f hf
  · rw [l1, l2]
    by_cases e : t = r
    · subst e
      rw [kDo_22, Int.toNat_natCast] at hf
      by_cases x : f = d
      · rw [if_pos x] at hf; exact absurd rfl hf
      · rw [if_neg x] at hf
        obtain ⟨a1, a2, a3⟩ := (h.f t ht).1 f hf
        refine ⟨a1, a2, ?_⟩
        rw [kDo_did hd hn hk hc a1, if_neg x]
        exact a3
    · rw [o2 t e] at hf
      rw [kDo_didO e]
      exact (h.f t ht).1 f hf
  · by_cases e : t = r
    · subst e
      rw [kDo_20_6, Int.toNat_natCast, kSum_upd (f := κ (22 + 6 * t)) (g := kDo κ t d (22 + 6 * t)) (d := d) 400 (by omega) (fun j _ hj => by rw [kDo_22, Int.toNat_natCast, if_neg hj]), kDo_22, Int.toNat_natCast, if_pos rfl, ← hw]
      have w1 := rgS_22 hk ht d
      split <;> omega
    · rw [o0 t e, o2 t e]; exact (h.f t ht).2
  · rw [l1, l5]
    by_cases e : t = r
    · subst e
      rw [kDo_20_5, Int.toNat_natCast]
      rw [kSum_upd (f := fun f => bI (decide (κ 5 f = 0) && kDid κ t f)) (g := fun f => bI (decide (κ 5 f = 0) && kDid (kDo κ t d) t f)) (d := d) (κ 1 10).toNat (by omega) (fun j hj hne => by rw [kDo_did hd hn hk hc (by omega), if_neg hne])]
      try dsimp only
      rw [kDo_did hd hn hk hc hd, if_pos rfl, hnd, ← h.j t ht]
      split
      · rename_i x; rw [decide_eq_true x]; simp [bI]
      · rename_i x; rw [decide_eq_false x]; simp
    · rw [o0 t e, kDo_didO e]; exact h.j t ht
  · rw [l1, l5]
    by_cases e : t = r
    · subst e; rw [kDo_24]; exact h.k t ht k hk4
    · rw [o4 t e]; exact h.k t ht k hk4
  · rw [l1]
    by_cases e : t = r
    · subst e
      rw [kDo_23]
      split
      · exact Or.inl hd
      · exact h.l t ht f
    · rw [o3 t e]; exact h.l t ht f
/-- deed d waits at r -/
def kWt (κ : Zt) (r : Nat) (d : Int) : Zt := zu (zu κ (22 + 6 * r) d.toNat 1) (20 + 6 * r) 6 (κ (20 + 6 * r) 6 + 1)
theorem kMid_wt {κ : Zt} (h : kMid κ) {r d : Nat} (hr : r < 6) (hd : (d : Int) < κ 1 10) (hnd : kDid κ r d = false) (hw : κ (22 + 6 * r) d = 0) : kMid (kWt κ r d) := by
  have hk := h.1
  have bT := rgS_1_10 hk
  have ho : κ 2 d ≠ r := fun q => by rw [own_did h hd q] at hnd; cases hnd
  have e0 : ∀ q, q ≠ 22 + 6 * r → q ≠ 20 + 6 * r → kWt κ r d q = κ q := fun q a b => by unfold kWt; rw [zu_ne b, zu_ne a]
  have e1 : ∀ j, kWt κ r d (22 + 6 * r) j = if j = d then 1 else κ (22 + 6 * r) j := fun j => by unfold kWt; rw [zu_ne (by omega), zu_row, Int.toNat_natCast]
  have e2 : ∀ j, j ≠ 6 → kWt κ r d (20 + 6 * r) j = κ (20 + 6 * r) j := fun j q => by unfold kWt; rw [zu_nj q, zu_ne (by omega)]
  have e3 : kWt κ r d (20 + 6 * r) 6 = κ (20 + 6 * r) 6 + 1 := by unfold kWt; rw [zu_same]
  have lo := kMid_lo (κ := κ) (ρ := kWt κ r d) (fun q hq => e0 q (by omega) (by omega))
  have dd : ∀ t, kDid (kWt κ r d) t = kDid κ t := fun t => kDid_congr (e0 2 (by omega) (by omega)) (e0 3 (by omega) (by omega)) (e0 (21 + 6 * t) (by omega) (by omega))
  have l1 := e0 1 (by omega) (by omega)
  have l2 := e0 2 (by omega) (by omega)
  have l3 := e0 3 (by omega) (by omega)
  have l4 := e0 4 (by omega) (by omega)
  have l5 := e0 5 (by omega) (by omega)
  have d1 : ∀ t, kWt κ r d (21 + 6 * t) = κ (21 + 6 * t) := fun t => e0 _ (by omega) (by omega)
  have f20 : ∀ t j, j ≠ 6 → kWt κ r d (20 + 6 * t) j = κ (20 + 6 * t) j := fun t j q => by
    by_cases e : t = r
    · subst e; exact e2 j q
    · rw [e0 _ (by omega) (by omega)]
  have hlt : κ (20 + 6 * r) 6 < 400 := by
    rw [(h.f r hr).2]
    exact kSum_lt 400 (fun j => by have := rgS_22 hk hr j; omega) d (by omega) hw
  have b6 := rgS_20_6 hk hr
  refine ⟨rzS_20_6 (rzS_22 hk hr (by omega) (by omega)) hr (by omega) (by omega), ⟨fun t q ht hq => ?_, fun t ht => ⟨?_, ?_⟩⟩, fun f hf => ?_, lo.1 h.c, lo.2.1 h.d, lo.2.2.1 h.e, fun t ht => ⟨fun f hf => ?_, ?_⟩, lo.2.2.2.1 h.g, lo.2.2.2.2.1 h.h, lo.2.2.2.2.2 h.i, fun t ht => ?_, fun t ht k hk4 => ?_, fun t ht f => ?_⟩
  · rw [d1, d1]; exact h.a.1 t q ht hq
  · rw [d1, l1]; exact (h.a.2 t ht).1
  · rw [f20 t 4 (by omega), l1]; exact (h.a.2 t ht).2
  · rw [l1] at hf
    rw [l1, l2, l3, l4, d1]; exact h.b f hf
  · rw [l1, l2, dd]
    by_cases e : t = r
    · subst e
      rw [e1] at hf
      by_cases x : f = d
      · subst x; exact ⟨hd, ho, hnd⟩
      · rw [if_neg x] at hf; exact (h.f t ht).1 f hf
    · rw [e0 _ (by omega) (by omega)] at hf; exact (h.f t ht).1 f hf
  · by_cases e : t = r
    · subst e
      rw [e3, kSum_upd (f := κ (22 + 6 * t)) (g := kWt κ t d (22 + 6 * t)) (d := d) 400 (by omega) (fun j _ hj => by rw [e1, if_neg hj]), e1, if_pos rfl, hw, (h.f t ht).2]
      omega
    · rw [e0 (20 + 6 * t) (by omega) (by omega), e0 (22 + 6 * t) (by omega) (by omega)]; exact (h.f t ht).2
  · rw [f20 t 5 (by omega), l1, l5, dd]; exact h.j t ht
  · rw [l1, l5, e0 (24 + 6 * t) (by omega) (by omega)]; exact h.k t ht k hk4
  · rw [l1, e0 (23 + 6 * t) (by omega) (by omega)]; exact h.l t ht f
