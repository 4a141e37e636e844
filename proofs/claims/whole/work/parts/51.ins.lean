/-! A SIGN IS PUT INTO THE ORDER -/
theorem kNext_is {κ : Zt} {r : Nat} : ∀ (n i : Nat), kNext κ r n i = -1 ∨ ∃ j : Nat, i ≤ j ∧ j < i + n ∧ kNext κ r n i = κ 14 j := by
  intro n
  induction n with
  | zero => intro i; exact Or.inl rfl
  | succ n ih =>
    intro i
    rw [kNext]
    split
    · exact Or.inr ⟨i, by omega, by omega, rfl⟩
    · rcases ih (i + 1) with h | ⟨j, h1, h2, h3⟩
      · exact Or.inl h
      · exact Or.inr ⟨j, by omega, by omega, h3⟩
theorem kSg_ord {κ : Zt} (h : kMid κ) {j : Nat} (hj : (j : Int) < κ 11 4) : kSg κ (κ 14 j) := by
  have b := rgS_14 h.1 j
  have e := h.e.2.1 j hj
  exact Or.inr ⟨b.1, e.1, e.2.1⟩
theorem kBehind_ok {κ : Zt} (h : kMid κ) {r : Nat} {be : Int} (hbe : kSg κ be) : kSg κ (kBehind κ r be) ∧ (be ≠ -1 → kBehind κ r be ≠ -1 → kIsBe κ be (kBehind κ r be) 12 1 = true) := by
  have bP := rgS_11_4 h.1
  unfold kBehind
  by_cases e : be = -1
  · rw [if_pos e]
    rcases kNext_is (κ := κ) (r := r) (κ 11 4).toNat 0 with q | ⟨j, j0, j1, q⟩
    · rw [q]; exact ⟨Or.inl rfl, fun a => absurd e a⟩
    · rw [q]; exact ⟨kSg_ord h (by omega), fun a => absurd e a⟩
  · rw [if_neg e]
    have s := hbe.resolve_left e
    have k := h.e.2.2 be.toNat (by omega) s.2.2
    have b15 := rgS_15 h.1 be.toNat
    rcases kNext_is (κ := κ) (r := r) (κ 11 4 - (κ 15 be.toNat + 1)).toNat (κ 15 be.toNat + 1).toNat with q | ⟨j, j0, j1, q⟩
    · rw [q]; exact ⟨Or.inl rfl, fun _ a => absurd rfl a⟩
    · rw [q]
      refine ⟨kSg_ord h (by omega), fun _ _ => ?_⟩
      have := h.i.2.2 (κ 15 be.toNat).toNat j (by omega) (by omega)
      rw [k.2, Int.toNat_of_nonneg s.1] at this
      exact this
theorem kBefore_sg {κ : Zt} (h : kMid κ) (r : Nat) (q : Int) : kSg κ (kBefore κ r q) := by
  rcases kBefore_ok h r q with e | ⟨a, b, c, _⟩
  · exact Or.inl e
  · exact Or.inr ⟨a, b, c⟩
section FD
variable {κ F : Zt} {r T : Nat} {be K : Int}
theorem fd_rows (H : kFound κ F r T be K) (q : Nat) (h12 : q ≠ 12) (h13 : q ≠ 13) (hr : q ≠ 20 + 6 * r) : F q = κ q := by
  rw [H.2.2.2.1 q h12 h13]; unfold kCoinS; rw [zu_ne hr]
theorem fd_lev (H : kFound κ F r T be K) {d k : Int} (d0 : -1 ≤ d) (dT : d ≠ T) (k0 : 1 ≤ k) (k1 : k ≤ 12) : kLevel F d k = kLevel κ d k := by
  by_cases e : d = -1
  · rw [e, kLevel_no, kLevel_no]
  · have e13 : F 13 d.toNat = κ 13 d.toNat := by rw [H.2.1]; exact if_neg (by omega)
    unfold kLevel
    rw [e13]
    split
    · rfl
    · exact H.2.2.1 _ (by omega)
theorem fd_new (H : kFound κ F r T be K) {k : Int} : kLevel F T k = if K < k then 0 else nl F T k := by
  have e13 : F 13 T = K := by rw [H.2.1]; exact if_pos rfl
  unfold kLevel
  rw [Int.toNat_natCast, e13]
  by_cases e : K < k
  · rw [if_pos (Or.inr e), if_pos e]
  · rw [if_neg (by omega), if_neg e]
    rfl
theorem fd_isBe (H : kFound κ F r T be K) {d f : Int} (d0 : -1 ≤ d) (dT : d ≠ T) (f0 : -1 ≤ f) (fT : f ≠ T) : kIsBe F d f 12 1 = kIsBe κ d f 12 1 := by
  rw [kIsBe_lx, kIsBe_lx]
  exact lx_congr 12 1 (fun j j0 j1 => ⟨fd_lev H d0 dT j0 (by omega), fd_lev H f0 fT j0 (by omega)⟩)
theorem fd_be (H : kFound κ F r T be K) (b0 : -1 ≤ be) (bT : be < T) : kIsBe F be T 12 1 = true := by
  rw [kIsBe_lx]
  refine lx_dom (K := K) 12 1 H.1.1 (by have := H.1.2; omega) (fun j j0 j1 => ?_) ?_
  · rw [fd_lev H b0 (by omega) j0 (by have := H.1.2; omega), fd_new H, if_neg (by omega)]
    exact H.2.2.2.2.2.2.2.2.1 j j0 j1
  · rw [fd_lev H b0 (by omega) H.1.1 H.1.2, fd_new H, if_neg (by omega)]
    exact H.2.2.2.2.2.2.2.2.2
/-- no sign has its path -/
theorem fd_tri (h : kMid κ) (hF : rgS F) (H : kFound κ F r T be K) (hT : κ 1 10 = (T : Int)) (hr : r < 6) {d : Int} (d0 : 0 ≤ d) (d1 : d < κ 1 10) (d5 : κ 5 d.toNat = 0) : kIsBe F d T 12 1 = true ∨ kIsBe F T d 12 1 = true := by
  rw [kIsBe_lx, kIsBe_lx]
  cases e1 : lx (kLevel F d) (kLevel F T) 12 1 with
  | true => exact Or.inl rfl
  | false =>
    cases e2 : lx (kLevel F T) (kLevel F d) 12 1 with
    | true => exact Or.inr rfl
    | false =>
      exfalso
      have q := lx_tri 12 1 e1 e2
      obtain ⟨a, b, c, d', e, f⟩ := sg_lev h d0 d1 d5
      have H' := H
      obtain ⟨⟨K0, K1⟩, -, -, -, cK, dK, sK, nK, -⟩ := H'
      have l : ∀ k, 1 ≤ k → k ≤ 12 → kLevel κ d k = if K < k then 0 else nl F T k := fun k k0 k1 => by rw [← fd_lev H (by omega) (by omega) k0 k1, q k k0 (by omega), fd_new H]
      have eK : κ 13 d.toNat = K := by
        by_cases x : κ 13 d.toNat < K
        · have := l K K0 K1
          rw [kLevel_beyond x, if_neg (by omega)] at this
          have c2 := cK K K0 (by omega)
          rw [← this] at c2
          exact absurd c2 (by decide)
        · by_cases y : K < κ 13 d.toNat
          · have := l (κ 13 d.toNat) a b
            rw [if_pos y] at this
            have c2 := c _ a (by omega)
            rw [this] at c2
            exact absurd c2 (by decide)
          · omega
      have lK := l K K0 K1
      rw [if_neg (by omega)] at lK
      rw [eK, lK] at e f
      rw [sK] at e
      rw [nK] at f
      have := (h.b d.toNat (by omega)).2.1
      rw [← e, Int.toNat_natCast] at this
      omega
end FD
theorem kGoal_spec {F : Zt} {T : Int} : ∀ (n : Nat) (g : Int), (∀ i : Int, g ≤ i → i < kGoal F T n g → kIsBe F (F 14 i.toNat) T 12 1 = true) ∧ (kGoal F T n g < g + n → kIsBe F (F 14 (kGoal F T n g).toNat) T 12 1 = false) := by
  intro n
  induction n with
  | zero => intro g; rw [kGoal]; exact ⟨fun i a b => by omega, fun a => by omega⟩
  | succ n ih =>
    intro g
    rw [kGoal]
    by_cases e : kIsBe F (F 14 g.toNat) T 12 1 = true
    · rw [if_pos e]
      have q := ih (g + 1)
      refine ⟨fun i a b => ?_, fun a => q.2 (by omega)⟩
      by_cases x : i = g
      · rw [x]; exact e
      · exact q.1 i (by omega) b
    · rw [if_neg e]
      exact ⟨fun i a b => by omega, fun _ => by simpa using e⟩
/-- where it goes: all before it are less, all behind it are greater -/
theorem kGoal_is {κ F : Zt} {r T : Nat} {be K : Int} (h : kMid κ) (hF : rgS F) (H : kFound κ F r T be K) (hT : κ 1 10 = (T : Int)) (hr : r < 6) (hbe : kSg κ be) :
    0 ≤ kGoalOf F T be ∧ kGoalOf F T be ≤ κ 11 4 ∧ (∀ i : Nat, (i : Int) < kGoalOf F T be → kIsBe F (κ 14 i) T 12 1 = true) ∧ ∀ i : Nat, kGoalOf F T be ≤ i → (i : Int) < κ 11 4 → kIsBe F T (κ 14 i) 12 1 = true := by
  have bP := rgS_11_4 h.1
  have beT : -1 ≤ be ∧ be < T := by rcases hbe with e | ⟨e, f, -⟩ <;> omega
  have e11 : F 11 = κ 11 := fd_rows H 11 (by omega) (by omega) (by omega)
  have e14 : F 14 = κ 14 := fd_rows H 14 (by omega) (by omega) (by omega)
  have e15 : F 15 = κ 15 := fd_rows H 15 (by omega) (by omega) (by omega)
  -- order in F of signs
  have sT : ∀ i : Nat, (i : Int) < κ 11 4 → -1 ≤ κ 14 i ∧ κ 14 i ≠ T := fun i hi => by
    have b := rgS_14 h.1 i
    have := (h.e.2.1 i hi).1
    omega
  have mono : ∀ i j : Nat, i < j → (j : Int) < κ 11 4 → kIsBe F (κ 14 j) T 12 1 = true → kIsBe F (κ 14 i) T 12 1 = true := fun i j hij hj ht => by
    have s := h.i.2.2 i j hij hj
    rw [← fd_isBe H (sT i (by omega)).1 (sT i (by omega)).2 (sT j hj).1 (sT j hj).2] at s
    rw [kIsBe_lx] at *
    exact lx_trans 12 1 s ht
  -- the start of the search
  obtain ⟨s, hs0, hsP, hs, hG⟩ : ∃ s : Int, 0 ≤ s ∧ s ≤ κ 11 4 ∧ (∀ i : Nat, (i : Int) < s → kIsBe F (κ 14 i) T 12 1 = true) ∧ kGoalOf F T be = kGoal F T (κ 11 4 - s).toNat s := by
    by_cases e : be = -1
    · refine ⟨0, by omega, by omega, fun i hi => by omega, ?_⟩
      unfold kGoalOf
      rw [if_pos e, e11, Int.sub_zero]
    · have sg := hbe.resolve_left e
      have k := h.e.2.2 be.toNat (by omega) sg.2.2
      have b15 := rgS_15 h.1 be.toNat
      refine ⟨κ 15 be.toNat + 1, by omega, by omega, fun i hi => ?_, ?_⟩
      · have q : kIsBe F (κ 14 (κ 15 be.toNat).toNat) T 12 1 = true := by
          rw [k.2, Int.toNat_of_nonneg sg.1]
          exact fd_be H beT.1 beT.2
        by_cases x : i = (κ 15 be.toNat).toNat
        · rw [x]; exact q
        · exact mono i _ (by omega) (by omega) q
      · unfold kGoalOf
        rw [if_neg e, e11, e15]
  rw [hG]
  have sp := kGoal_spec (F := F) (T := T) (κ 11 4 - s).toNat s
  have rg := kGoal_rg (σ := F) (f := T) (κ 11 4 - s).toNat s
  rw [e14] at sp
  refine ⟨by omega, by omega, fun i hi => ?_, fun i hi hP => ?_⟩
  · by_cases x : (i : Int) < s
    · exact hs i x
    · have := sp.1 i (by omega) hi
      rwa [Int.toNat_natCast] at this
  · have sg := (kSg_ord h hP).resolve_left (by have := rgS_14 h.1 i; omega)
    rcases fd_tri h hF H hT hr sg.1 sg.2.1 sg.2.2 with x | x
    · exfalso
      have nx := sp.2 (by omega)
      by_cases y : i = (kGoal F T (κ 11 4 - s).toNat s).toNat
      · rw [← y, x] at nx; cases nx
      · have := mono (kGoal F T (κ 11 4 - s).toNat s).toNat i (by omega) hP x
        rw [nx] at this; cases this
    · exact x
theorem kShift_14 : ∀ (n : Nat) (i : Int) (τ : Zt) (j : Nat), n ≤ i → kShift n i τ 14 j = if i - n < j ∧ (j : Int) ≤ i then τ 14 (j - 1) else τ 14 j := by
  intro n
  induction n with
  | zero => intro i τ j _; rw [kShift, if_neg (by omega)]
  | succ n ih =>
    intro i τ j hn
    rw [kShift, ih (i - 1) _ j (by omega)]
    simp (disch := omega) only [zu_ne, zu_row]
    by_cases e : i - 1 - n < j ∧ (j : Int) ≤ i - 1
    · rw [if_pos e, if_neg (by omega), if_pos (by omega)]
    · rw [if_neg e]
      by_cases x : j = i.toNat
      · rw [if_pos x, if_pos (by omega), show (i - 1).toNat = j - 1 by omega]
      · rw [if_neg x, if_neg (by omega)]
theorem kShift_15 {d p : Nat} : ∀ (n : Nat) (i : Int) (τ : Zt), n ≤ i → (∀ j : Nat, (j : Int) < i → 0 ≤ τ 14 j) → (∀ j : Nat, (j : Int) < i → (τ 14 j = d ↔ j = p)) → kShift n i τ 15 d = if i - n ≤ p ∧ (p : Int) < i then (p : Int) + 1 else τ 15 d := by
  intro n
  induction n with
  | zero => intro i τ _ _ _; rw [kShift, if_neg (by omega)]
  | succ n ih =>
    intro i τ hn hp hu
    have h0 := hp (i - 1).toNat (by omega)
    have h1 := hu (i - 1).toNat (by omega)
    have e : ∀ j : Nat, (j : Int) < i - 1 → zu (zu τ 14 i.toNat (τ 14 (i - 1).toNat)) 15 (τ 14 (i - 1).toNat).toNat i 14 j = τ 14 j := fun j hj => by
      rw [zu_ne (by omega), zu_nj (by omega)]
    rw [kShift, ih (i - 1) _ (by omega) (fun j hj => by rw [e j hj]; exact hp j (by omega)) (fun j hj => by rw [e j hj]; exact hu j (by omega)), zu_row, zu_ne (by omega)]
    dsimp only
    by_cases x : p = (i - 1).toNat
    · have := h1.mpr x.symm
      rw [if_neg (by omega), if_pos (by omega), if_pos (by omega)]
      omega
    · have : τ 14 (i - 1).toNat ≠ d := fun q => x (h1.mp q).symm
      by_cases y : i - 1 - n ≤ p ∧ (p : Int) < i - 1
      · rw [if_pos y, if_pos (by omega)]
      · rw [if_neg y, if_neg (by omega), if_neg (by omega)]
section IN
variable {κ F ρ : Zt} {r T : Nat} {be K : Int}
theorem in_14 (h : kMid κ) (H : kFound κ F r T be K) (g0 : 0 ≤ kGoalOf F T be) (gP : kGoalOf F T be ≤ κ 11 4) (j : Nat) : kInsert F T be 14 j = if (j : Int) = kGoalOf F T be then (T : Int) else if kGoalOf F T be < j ∧ (j : Int) ≤ κ 11 4 then κ 14 (j - 1) else κ 14 j := by
  have e11 : F 11 = κ 11 := fd_rows H 11 (by omega) (by omega) (by omega)
  have e14 : F 14 = κ 14 := fd_rows H 14 (by omega) (by omega) (by omega)
  unfold kInsert
  rw [zu_ne (by omega), zu_ne (by omega), zu_row, e11]
  dsimp only
  by_cases e : (j : Int) = kGoalOf F T be
  · rw [if_pos (by omega), if_pos e]
  · rw [if_neg (by omega), if_neg e, kShift_14 _ _ _ _ (by omega), e14]
    by_cases x : kGoalOf F T be < j ∧ (j : Int) ≤ κ 11 4
    · rw [if_pos (by omega), if_pos x]
    · rw [if_neg (by omega), if_neg x]
theorem in_15T (H : kFound κ F r T be K) : kInsert F T be 15 T = kGoalOf F T be := by
  unfold kInsert
  rw [zu_ne (by omega), Int.toNat_natCast, zu_same]
theorem in_15 (h : kMid κ) (hT : κ 1 10 = (T : Int)) (H : kFound κ F r T be K) (g0 : 0 ≤ kGoalOf F T be) (gP : kGoalOf F T be ≤ κ 11 4) {d : Nat} (hd : d < T) (d5 : κ 5 d = 0) : kInsert F T be 15 d = if kGoalOf F T be ≤ κ 15 d then κ 15 d + 1 else κ 15 d := by
  have e11 : F 11 = κ 11 := fd_rows H 11 (by omega) (by omega) (by omega)
  have e14 : F 14 = κ 14 := fd_rows H 14 (by omega) (by omega) (by omega)
  have e15 : F 15 = κ 15 := fd_rows H 15 (by omega) (by omega) (by omega)
  have b15 := rgS_15 h.1 d
  have k := h.e.2.2 d (by omega) d5
  unfold kInsert
  rw [zu_ne (by omega), Int.toNat_natCast, zu_nj (by omega), zu_ne (by omega), e11, kShift_15 (d := d) (p := (κ 15 d).toNat) _ _ F (by omega) (fun j _ => by rw [e14]; exact (rgS_14 h.1 j).1) (fun j hj => ?_), e15]
  · by_cases x : kGoalOf F T be ≤ κ 15 d
    · rw [if_pos (by omega), if_pos x]; omega
    · rw [if_neg (by omega), if_neg x]
  · rw [e14]
    constructor
    · intro q
      have := (h.e.2.1 j hj).2.2
      rw [q, Int.toNat_natCast] at this
      omega
    · intro q
      rw [q]; exact k.2
theorem in_11 (H : kFound κ F r T be K) : kInsert F T be 11 4 = κ 11 4 + 1 := by
  have e11 : F 11 = κ 11 := fd_rows H 11 (by omega) (by omega) (by omega)
  unfold kInsert
  rw [zu_same, e11]
theorem gE_put (h : kMid κ) (hT : κ 1 10 = (T : Int)) (H : kFound κ F r T be K) (g0 : 0 ≤ kGoalOf F T be) (gP : kGoalOf F T be ≤ κ 11 4)
    (r1 : ρ 1 10 = (T : Int) + 1) (r5 : ∀ j, ρ 5 j = if j = T then 0 else κ 5 j) (r11 : ρ 11 = kInsert F T be 11) (r14 : ρ 14 = kInsert F T be 14) (r15 : ρ 15 = kInsert F T be 15) : gE ρ := by
  have e := h.e
  refine ⟨by rw [r11, in_11 H, r1]; have := e.1; omega, fun i hi => ?_, fun d hd h0 => ?_⟩
  · rw [r11, in_11 H] at hi
    rw [r14, r15, r1, r5, in_14 h H g0 gP]
    by_cases x : (i : Int) = kGoalOf F T be
    · rw [if_pos x, Int.toNat_natCast, if_pos rfl, in_15T H]
      exact ⟨by omega, rfl, by omega⟩
    · rw [if_neg x]
      by_cases y : kGoalOf F T be < i ∧ (i : Int) ≤ κ 11 4
      · rw [if_pos y]
        obtain ⟨a, b, c⟩ := e.2.1 (i - 1) (by omega)
        have b14 := rgS_14 h.1 (i - 1)
        rw [if_neg (by omega), in_15 h hT H g0 gP (by omega) b, c]
        refine ⟨by omega, b, ?_⟩
        rw [if_pos (by omega)]
        omega
      · rw [if_neg y]
        obtain ⟨a, b, c⟩ := e.2.1 i (by omega)
        have b14 := rgS_14 h.1 i
        rw [if_neg (by omega), in_15 h hT H g0 gP (by omega) b, c]
        refine ⟨by omega, b, ?_⟩
        rw [if_neg (by omega)]
  · rw [r1] at hd
    rw [r5] at h0
    rw [r11, in_11 H, r14, r15]
    by_cases x : d = T
    · rw [x, in_15T H, in_14 h H g0 gP, if_pos (by omega)]
      exact ⟨by omega, rfl⟩
    · rw [if_neg x] at h0
      obtain ⟨a, b⟩ := e.2.2 d (by omega) h0
      have b15 := rgS_15 h.1 d
      rw [in_15 h hT H g0 gP (by omega) h0, in_14 h H g0 gP]
      by_cases y : kGoalOf F T be ≤ κ 15 d
      · rw [if_pos y, if_neg (by omega), if_pos (by omega), show (κ 15 d + 1).toNat - 1 = (κ 15 d).toNat by omega]
        exact ⟨by omega, b⟩
      · rw [if_neg y, if_neg (by omega), if_neg (by omega)]
        exact ⟨by omega, b⟩
theorem gI_put (h : kMid κ) (hT : κ 1 10 = (T : Int)) (hr : r < 6) (H : kFound κ F r T be K) (g0 : 0 ≤ kGoalOf F T be) (gP : kGoalOf F T be ≤ κ 11 4) (lo : ∀ i : Nat, (i : Int) < kGoalOf F T be → kIsBe F (κ 14 i) T 12 1 = true) (hi : ∀ i : Nat, kGoalOf F T be ≤ i → (i : Int) < κ 11 4 → kIsBe F T (κ 14 i) 12 1 = true)
    (r1 : ρ 1 10 = (T : Int) + 1) (r2 : ∀ j, ρ 2 j = if j = T then (r : Int) else κ 2 j) (r3 : ∀ j, ρ 3 j = if j = T then κ (21 + 6 * r) r + 1 else κ 3 j) (r5 : ∀ j, ρ 5 j = if j = T then 0 else κ 5 j) (r11 : ρ 11 = kInsert F T be 11) (r12 : ρ 12 = F 12) (r13 : ρ 13 = F 13) (r14 : ρ 14 = kInsert F T be 14) : gI ρ := by
  have e13 : ∀ j, F 13 j = if j = T then K else κ 13 j := fun j => by rw [H.2.1]
  have sT : ∀ i : Nat, (i : Int) < κ 11 4 → -1 ≤ κ 14 i ∧ κ 14 i ≠ T := fun i hi => by
    have b := rgS_14 h.1 i
    have := (h.e.2.1 i hi).1
    omega
  refine ⟨fun d hd h0 => ?_, fun d hd => ?_, fun i j hij hj => ?_⟩
  · rw [r1] at hd
    rw [r5] at h0
    rw [r13, r2, r3, kLevel_congr r12 r13, e13]
    by_cases x : d = T
    · rw [if_pos x, if_pos x, if_pos x, x, fd_new H, if_neg (by omega)]
      refine ⟨H.1.1, fun k k0 k1 => ?_, H.2.2.2.2.2.1, H.2.2.2.2.2.2.1, H.2.2.2.2.2.2.2.1⟩
      rw [fd_new H, if_neg (by omega)]
      exact H.2.2.2.2.1 k k0 k1
    · rw [if_neg x] at h0
      rw [if_neg x, if_neg x, if_neg x]
      have q := h.i.1 d (by omega) h0
      have b := rgS_13 h.1 d
      rw [fd_lev H (by omega) (by omega) q.1 (by omega)]
      exact ⟨q.1, fun k k0 k1 => by rw [fd_lev H (by omega) (by omega) k0 (by omega)]; exact q.2.1 k k0 k1, q.2.2⟩
  · rw [r1] at hd
    rw [r13, e13, if_neg (by omega)]
    exact h.i.2.1 d (by omega)
  · rw [r11, in_11 H] at hj
    rw [kIsBe_congr r12 r13, r14, in_14 h H g0 gP, in_14 h H g0 gP]
    by_cases x : (i : Int) = kGoalOf F T be
    · rw [if_pos x, if_neg (by omega), if_pos (by omega)]
      exact hi (j - 1) (by omega) (by omega)
    · rw [if_neg x]
      by_cases y : (j : Int) = kGoalOf F T be
      · rw [if_pos y, if_neg (by omega)]
        exact lo i (by omega)
      · rw [if_neg y]
        have go : ∀ a b : Nat, a < b → (b : Int) < κ 11 4 → kIsBe F (κ 14 a) (κ 14 b) 12 1 = true := fun a b hab hb => by
          rw [fd_isBe H (sT a (by omega)).1 (sT a (by omega)).2 (sT b hb).1 (sT b hb).2]
          exact h.i.2.2 a b hab hb
        by_cases z : kGoalOf F T be < i ∧ (i : Int) ≤ κ 11 4
        · rw [if_pos z, if_pos (by omega)]; exact go _ _ (by omega) (by omega)
        · rw [if_neg z]
          by_cases u : kGoalOf F T be < j ∧ (j : Int) ≤ κ 11 4
          · rw [if_pos u]; exact go _ _ (by omega) (by omega)
          · rw [if_neg u]; exact go _ _ hij (by omega)
end IN
