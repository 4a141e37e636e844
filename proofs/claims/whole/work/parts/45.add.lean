/-! A DEED IS ADDED, and done at its own replica -/
section AR
variable {σ : Zt} {w n t q v f g : Int}
theorem kAdd_1 : kAdd σ w n t q v f g 1 10 = σ 1 10 + 1 := by unfold kAdd; rw [zu_same]
theorem kAdd_9 : kAdd σ w n t q v f g 1 9 = if q = 3 then σ 1 9 + 1 else σ 1 9 := by
  unfold kAdd kAdd0
  split <;> simp (disch := omega) only [zu_ne, zu_nj, zu_same]
theorem kAdd_10 (j : Nat) : kAdd σ w n t q v f g 10 j = if q = 3 ∧ j = (σ 1 9).toNat then σ 1 10 else σ 10 j := by
  unfold kAdd kAdd0
  by_cases e : q = 3
  · rw [if_pos e]
    simp (disch := omega) only [zu_ne, zu_row]
    by_cases x : j = (σ 1 9).toNat
    · rw [if_pos x, if_pos ⟨e, x⟩]
    · rw [if_neg x, if_neg (fun y => x y.2)]
  · rw [if_neg e, if_neg (fun y => e y.1)]
    simp (disch := omega) only [zu_ne]
theorem kAdd_up {k : Nat} (h : 11 ≤ k) : kAdd σ w n t q v f g k = σ k := by
  unfold kAdd kAdd0
  split <;> simp (disch := omega) only [zu_ne]
theorem kAdd_row {k : Nat} {x : Int} (h : (k = 2 ∧ x = w) ∨ (k = 3 ∧ x = n) ∨ (k = 4 ∧ x = t) ∨ (k = 5 ∧ x = q) ∨ (k = 6 ∧ x = v) ∨ (k = 7 ∧ x = f) ∨ (k = 8 ∧ x = g) ∨ (k = 9 ∧ x = bI (decide (q = 0) || decide (q = 1)))) : kAdd σ w n t q v f g k = fun j => if j = (σ 1 10).toNat then x else σ k j := by
  unfold kAdd kAdd0
  rcases h with ⟨rfl, rfl⟩ | ⟨rfl, rfl⟩ | ⟨rfl, rfl⟩ | ⟨rfl, rfl⟩ | ⟨rfl, rfl⟩ | ⟨rfl, rfl⟩ | ⟨rfl, rfl⟩ | ⟨rfl, rfl⟩ <;> split <;> simp (disch := omega) only [zu_ne, zu_row]
end AR
/-- what a state is in which r has made deed T, of which κ is the state before -/
def kNew (κ ρ : Zt) (r T : Nat) (q f g : Int) : Prop :=
  (ρ 1 10 = (T : Int) + 1 ∧ (∀ j, ρ 2 j = if j = T then (r : Int) else κ 2 j) ∧ (∀ j, ρ 3 j = if j = T then κ (21 + 6 * r) r + 1 else κ 3 j) ∧ (∀ j, ρ 4 j = if j = T then κ (20 + 6 * r) 4 + 1 else κ 4 j) ∧ (∀ j, ρ 5 j = if j = T then q else κ 5 j) ∧ (∀ j, ρ 7 j = if j = T then f else κ 7 j) ∧ (∀ j, ρ 8 j = if j = T then g else κ 8 j)) ∧
  (ρ 1 9 = (if q = 3 then κ 1 9 + 1 else κ 1 9) ∧ ∀ j, ρ 10 j = if q = 3 ∧ j = (κ 1 9).toNat then (T : Int) else κ 10 j) ∧
  (ρ 16 = κ 16 ∧ ρ 17 = κ 17) ∧
  (∀ t j, ρ (21 + 6 * t) j = if t = r ∧ j = r then κ (21 + 6 * r) r + 1 else κ (21 + 6 * t) j) ∧
  (∀ t, ρ (20 + 6 * t) 4 = (if t = r then κ (20 + 6 * r) 4 + 1 else κ (20 + 6 * t) 4) ∧ ρ (20 + 6 * t) 5 = (if t = r ∧ q = 0 then κ (20 + 6 * r) 5 + 1 else κ (20 + 6 * t) 5) ∧ ρ (20 + 6 * t) 6 = κ (20 + 6 * t) 6) ∧
  (∀ t, ρ (22 + 6 * t) = κ (22 + 6 * t) ∧ ρ (24 + 6 * t) = κ (24 + 6 * t) ∧ ∀ d, ρ (23 + 6 * t) d = κ (23 + 6 * t) d ∨ ρ (23 + 6 * t) d = (T : Int))
theorem kMid_add {κ ρ : Zt} (h : kMid κ) {r T : Nat} {q f g : Int} (hr : r < 6) (hT : κ 1 10 = (T : Int)) (H : kNew κ ρ r T q f g) (hrg : rgS ρ) (hE : gE ρ) (hI : gI ρ)
    (hq : (q = 0 ∧ f = T ∧ g = T) ∨ (q ≠ 0 ∧ 0 ≤ f ∧ f < T ∧ κ 5 f.toNat = 0 ∧ 0 ≤ g ∧ g < T ∧ κ 5 g.toNat = 0 ∧ (q ≠ 3 → g = f))) : kMid ρ ∧ ∀ t, t < 6 → gR κ t → gR ρ t := by
  obtain ⟨⟨r1, r2, r3, r4, r5, r7, r8⟩, ⟨r9, r10⟩, ⟨r16, r17⟩, r21, r20, r22⟩ := H
  have hk := h.1
  have b21 := rgS_21 hk hr r
  have b204 := rgS_20_4 hk hr
  have aT := h.a.2 r hr
  -- what was done before stays so, and the new one is done at r alone
  have did : ∀ t, t < 6 → ∀ d : Nat, d < T → kDid ρ t d = kDid κ t d := by
    intro t ht d hd
    have bo := rgS_2 hk d
    unfold kDid
    rw [Int.toNat_natCast, r3, r2, if_neg (by omega), if_neg (by omega), r21]
    by_cases e : t = r ∧ (κ 2 d).toNat = r
    · rw [if_pos e]
      have := (h.b d (by omega)).2.1
      rw [e.2] at this ⊢
      rw [e.1, decide_eq_true (show κ 3 d ≤ κ (21 + 6 * r) r + 1 by omega), decide_eq_true this]
    · rw [if_neg e]
  have didI : ∀ t, t < 6 → ∀ d : Int, 0 ≤ d → d < T → kDid ρ t d = kDid κ t d := by
    intro t ht d d0 d1
    obtain ⟨m, rfl⟩ : ∃ m : Nat, d = m := ⟨d.toNat, by omega⟩
    exact did t ht m (by omega)
  have didT : ∀ t, t < 6 → kDid ρ t T = decide (t = r) := by
    intro t ht
    unfold kDid
    rw [Int.toNat_natCast, r3, r2, if_pos rfl, if_pos rfl, r21, Int.toNat_natCast]
    by_cases e : t = r
    · rw [if_pos ⟨e, rfl⟩]; simp [e]
    · rw [if_neg (fun y => e y.1)]
      have := h.a.1 t r ht hr
      rw [decide_eq_false (by omega), decide_eq_false e]
  refine ⟨⟨hrg, ⟨fun t u ht hu => ?_, fun t ht => ⟨?_, ?_⟩⟩, fun d hd => ?_, fun d e hd he a b => ?_, fun d hd => ?_, hE, fun t ht => ⟨fun d hd => ?_, ?_⟩, ⟨?_, fun i hi => ?_, fun i j hij hj => ?_, fun d hd h3 => ?_⟩, fun i hi => ?_, hI, fun t ht => ?_, fun t ht k hk4 => ?_, fun t ht d => ?_⟩, fun t ht gt d hd => ?_⟩
  · rw [r21, r21]
    have := h.a.1 t u ht hu
    by_cases e : u = r
    · subst e
      rw [if_pos (show u = u ∧ u = u from ⟨rfl, rfl⟩)]
      split <;> omega
    · rw [if_neg (fun y => e y.2), if_neg (fun y => e y.2)]; exact this
  · rw [r21, r1]
    have := (h.a.2 t ht).1
    split
    · omega
    · omega
  · rw [(r20 t).1, r1]
    have := (h.a.2 t ht).2
    split <;> omega
  · rw [r1] at hd
    rw [r3, r2, r4, r1]
    by_cases e : d = T
    · rw [if_pos e, if_pos e, if_pos e, Int.toNat_natCast, r21, if_pos ⟨rfl, rfl⟩]
      omega
    · rw [if_neg e, if_neg e, if_neg e, r21]
      have b := h.b d (by omega)
      by_cases x : (κ 2 d).toNat = r
      · rw [if_pos ⟨x, x⟩]; rw [x] at b; omega
      · rw [if_neg (fun y => x y.1)]; omega
  · rw [r1] at hd he
    rw [r2, r2] at a
    rw [r3, r3] at b
    by_cases x : d = T
    · by_cases y : e = T
      · omega
      · rw [if_pos x, if_neg y] at a b
        have b' := (h.b e (by omega)).2.1
        rw [← a, Int.toNat_natCast] at b'
        omega
    · by_cases y : e = T
      · rw [if_neg x, if_pos y] at a b
        have b' := (h.b d (by omega)).2.1
        rw [a, Int.toNat_natCast] at b'
        omega
      · rw [if_neg x, if_neg y] at a b
        exact h.c d e (by omega) (by omega) a b
  · rw [r1] at hd
    rw [r7, r8, r5 d]
    by_cases e : d = T
    · rw [if_pos e, if_pos e, if_pos e, r5, r5]
      rcases hq with ⟨a, b, c⟩ | ⟨a, b, c, i, j, k, l, o⟩
      · subst a
        rw [b, c, Int.toNat_natCast, if_pos rfl]
        refine ⟨by omega, by omega, rfl, rfl, fun _ => rfl, fun _ => by omega⟩
      · rw [if_neg (by omega), if_neg (by omega)]
        exact ⟨by omega, by omega, i, l, o, fun y => absurd y a⟩
    · rw [if_neg e, if_neg e, if_neg e, r5, r5]
      have b := h.d d (by omega)
      have b7 := rgS_7 hk d
      have b8 := rgS_8 hk d
      rw [if_neg (by omega), if_neg (by omega)]
      exact b
  · rw [(r22 t).1] at hd
    obtain ⟨a, b, c⟩ := (h.f t ht).1 d hd
    rw [r1, r2, if_neg (by omega), did t ht d (by omega)]
    exact ⟨by omega, b, c⟩
  · rw [(r20 t).2.2, (r22 t).1]; exact (h.f t ht).2
  · rw [r9, r1]
    have := h.g.1
    split <;> omega
  · rw [r9] at hi
    rw [r10, r1]
    by_cases e : q = 3 ∧ i = (κ 1 9).toNat
    · rw [if_pos e, r5, Int.toNat_natCast, if_pos rfl]
      exact ⟨by omega, e.1⟩
    · rw [if_neg e]
      have bm := rgS_1_9 hk
      have hi' : (i : Int) < κ 1 9 := by
        by_cases x : q = 3
        · rw [if_pos x] at hi
          have : i ≠ (κ 1 9).toNat := fun y => e ⟨x, y⟩
          omega
        · rwa [if_neg x] at hi
      obtain ⟨a, b⟩ := h.g.2.1 i hi'
      have b10 := rgS_10 hk i
      rw [r5, if_neg (by omega)]
      exact ⟨by omega, b⟩
  · rw [r9] at hj
    have bm := rgS_1_9 hk
    rw [r10, r10]
    by_cases x : q = 3
    · rw [if_pos x] at hj
      rw [if_neg (show ¬ (q = 3 ∧ i = (κ 1 9).toNat) by omega)]
      by_cases e : j = (κ 1 9).toNat
      · rw [if_pos ⟨x, e⟩]
        have := (h.g.2.1 i (by omega)).1
        omega
      · rw [if_neg (fun y => e y.2)]
        exact h.g.2.2.1 i j hij (by omega)
    · rw [if_neg x] at hj
      rw [if_neg (fun y => x y.1), if_neg (fun y => x y.1)]
      exact h.g.2.2.1 i j hij hj
  · rw [r1] at hd
    rw [r5] at h3
    have bm := rgS_1_9 hk
    by_cases e : d = T
    · rw [if_pos e] at h3
      refine ⟨(κ 1 9).toNat, ?_, ?_⟩
      · rw [r9, if_pos h3]; omega
      · rw [r10, if_pos ⟨h3, rfl⟩, e]
    · rw [if_neg e] at h3
      obtain ⟨i, a, b⟩ := h.g.2.2.2 d (by omega) h3
      refine ⟨i, ?_, ?_⟩
      · rw [r9]; split <;> omega
      · rw [r10, if_neg (by omega)]; exact b
  · rw [r16] at hi
    rw [r17, r1]
    have := h.h i hi
    omega
  · rw [(r20 t).2.1, r1, show ((T : Int) + 1).toNat = T + 1 by omega, kSum, didT t ht, r5, if_pos rfl]
    have e : kSum (fun d => bI (decide (ρ 5 d = 0) && kDid ρ t d)) T = kSum (fun d => bI (decide (κ 5 d = 0) && kDid κ t d)) T := kSum_congr T (fun j hj => by rw [did t ht j hj, r5, if_neg (by omega)])
    have j := h.j t ht
    rw [hT, Int.toNat_natCast] at j
    rw [e, ← j]
    by_cases x : t = r
    · by_cases y : q = 0
      · rw [if_pos ⟨x, y⟩, decide_eq_true x, decide_eq_true y, x]; rfl
      · rw [if_neg (fun z => y z.2), decide_eq_false y]; simp [bI]
    · rw [if_neg (fun z => x z.1), decide_eq_false x]; simp [bI]
  · rw [(r22 t).2.1, r1]
    rcases h.k t ht k hk4 with a | ⟨a, b, c⟩
    · exact Or.inl a
    · refine Or.inr ⟨a, by omega, ?_⟩
      rw [r5, if_neg (by omega)]; exact c
  · rw [r1]
    rcases (r22 t).2.2 d with a | a
    · rw [a]
      rcases h.l t ht d with b | b
      · exact Or.inl (by omega)
      · exact Or.inr b
    · rw [a]; exact Or.inl (by omega)
  · rw [(r22 t).1] at hd
    obtain ⟨a, b, c⟩ := (h.f t ht).1 d hd
    have g0 := gt d hd
    have bd := h.d d a
    have b7 := rgS_7 hk d
    have b8 := rgS_8 hk d
    have b2 := rgS_2 hk d
    unfold kReady at *
    rw [Int.toNat_natCast] at *
    rw [r3, r2, r5, r7, r8, if_neg (by omega), if_neg (by omega), if_neg (by omega), if_neg (by omega), if_neg (by omega), r21, if_neg (by omega), didI t ht _ b7.1 (by omega), didI t ht _ b8.1 (by omega)]
    exact g0
/-- the class's own steps make such a state -/
theorem kNew_carry {κ κ' : Zt} (h : kMid κ) {r T : Nat} {q v f g : Int} (hr : r < 6) (hT : κ 1 10 = (T : Int)) (hq : q = 0 ∨ q = 1 ∨ q = 2 ∨ q = 3) (F : ∀ k, k ≤ 10 ∨ 16 ≤ k → κ' k = κ k) :
    kNew κ (kCarry (kAdd κ' r (κ' (21 + 6 * r) r + 1) (κ' (20 + 6 * r) 4 + 1) q v f g) r (κ' 1 10)) r T q f g := by
  have f1 : κ' 1 = κ 1 := F 1 (by omega)
  have fr : ∀ t k, κ' (20 + k + 6 * t) = κ (20 + k + 6 * t) := fun t k => F _ (by omega)
  have fr0 : ∀ t, κ' (20 + 6 * t) = κ (20 + 6 * t) := fun t => F _ (by omega)
  have fr1 : ∀ t, κ' (21 + 6 * t) = κ (21 + 6 * t) := fun t => F _ (by omega)
  have fr2 : ∀ t, κ' (22 + 6 * t) = κ (22 + 6 * t) := fun t => F _ (by omega)
  have fr3 : ∀ t, κ' (23 + 6 * t) = κ (23 + 6 * t) := fun t => F _ (by omega)
  have fr4 : ∀ t, κ' (24 + 6 * t) = κ (24 + 6 * t) := fun t => F _ (by omega)
  rw [fr1, fr0, f1, hT]
  generalize hA : kAdd κ' r (κ (21 + 6 * r) r + 1) (κ (20 + 6 * r) 4 + 1) q v f g = A
  have eT : (κ' 1 10).toNat = T := by rw [f1, hT, Int.toNat_natCast]
  have a2 : A 2 = fun j => if j = T then (r : Int) else κ 2 j := by rw [← hA, kAdd_row (x := (r : Int)) (by simp), eT, F 2 (by omega)]
  have a3 : A 3 = fun j => if j = T then κ (21 + 6 * r) r + 1 else κ 3 j := by rw [← hA, kAdd_row (x := κ (21 + 6 * r) r + 1) (by simp), eT, F 3 (by omega)]
  have a4 : A 4 = fun j => if j = T then κ (20 + 6 * r) 4 + 1 else κ 4 j := by rw [← hA, kAdd_row (x := κ (20 + 6 * r) 4 + 1) (by simp), eT, F 4 (by omega)]
  have a5 : A 5 = fun j => if j = T then q else κ 5 j := by rw [← hA, kAdd_row (x := q) (by simp), eT, F 5 (by omega)]
  have a7 : A 7 = fun j => if j = T then f else κ 7 j := by rw [← hA, kAdd_row (x := f) (by simp), eT, F 7 (by omega)]
  have a8 : A 8 = fun j => if j = T then g else κ 8 j := by rw [← hA, kAdd_row (x := g) (by simp), eT, F 8 (by omega)]
  have up : ∀ k, 11 ≤ k → A k = κ' k := fun k hk => by rw [← hA]; exact kAdd_up hk
  have A2 : A 2 T = r := by rw [a2]; simp
  have A4 : A 4 T = κ (20 + 6 * r) 4 + 1 := by rw [a4]; simp
  have A5 : A 5 T = q := by rw [a5]; simp
  have lo : ∀ k, k < 20 → kCarry A r T k = A k := fun k hk => kCarry_fr hk
  have oth : ∀ t k, t ≠ r → k < 6 → kCarry A r T (20 + k + 6 * t) = κ (20 + k + 6 * t) := fun t k ht hk => by rw [kCarry_oth ht hk, up _ (by omega), fr]
  refine ⟨⟨?_, ?_, ?_, ?_, ?_, ?_, ?_⟩, ⟨?_, ?_⟩, ⟨?_, ?_⟩, fun t j => ?_, fun t => ⟨?_, ?_, ?_⟩, fun t => ⟨?_, ?_, fun d => ?_⟩⟩
  · rw [lo 1 (by omega), ← hA, kAdd_1, f1, hT]
  · intro j; rw [lo 2 (by omega), a2]
  · intro j; rw [lo 3 (by omega), a3]
  · intro j; rw [lo 4 (by omega), a4]
  · intro j; rw [lo 5 (by omega), a5]
  · intro j; rw [lo 7 (by omega), a7]
  · intro j; rw [lo 8 (by omega), a8]
  · rw [lo 1 (by omega), ← hA, kAdd_9, f1]
  · intro j; rw [lo 10 (by omega), ← hA, kAdd_10, f1, hT, F 10 (by omega)]
  · rw [lo 16 (by omega), up 16 (by omega), F 16 (by omega)]
  · rw [lo 17 (by omega), up 17 (by omega), F 17 (by omega)]
  · by_cases e : t = r
    · subst e
      rw [kCarry_21, Int.toNat_natCast, A2, Int.toNat_natCast, up _ (by omega), fr1]
      by_cases x : j = t
      · rw [if_pos x, if_pos ⟨rfl, x⟩]
      · rw [if_neg x, if_neg (fun y => x y.2)]
    · rw [if_neg (fun y => e y.1)]
      have := congrFun (oth t 1 e (by omega)) j
      simpa using this
  · by_cases e : t = r
    · subst e
      rw [kCarry_20_4, Int.toNat_natCast, A4, up _ (by omega), fr0, if_pos rfl]
      omega
    · rw [if_neg e]
      have := congrFun (oth t 0 e (by omega)) 4
      simpa using this
  · by_cases e : t = r
    · subst e
      rw [kCarry_20_5, Int.toNat_natCast, A5, up _ (by omega), fr0]
      by_cases x : q = 0
      · rw [if_pos x, if_pos ⟨rfl, x⟩]
      · rw [if_neg x, if_neg (fun y => x y.2)]
    · rw [if_neg (fun y => e y.1)]
      have := congrFun (oth t 0 e (by omega)) 5
      simpa using this
  · by_cases e : t = r
    · subst e
      rw [kCarry_20_6, up _ (by omega), fr0]
    · have := congrFun (oth t 0 e (by omega)) 6
      simpa using this
  · by_cases e : t = r
    · subst e; rw [kCarry_22, up _ (by omega), fr2]
    · have := oth t 2 e (by omega)
      simpa using this
  · by_cases e : t = r
    · subst e; rw [kCarry_24, up _ (by omega), fr4]
    · have := oth t 4 e (by omega)
      simpa using this
  · by_cases e : t = r
    · subst e
      rw [kCarry_23]
      split
      · exact Or.inr rfl
      · rw [up _ (by omega), fr3]; exact Or.inl rfl
    · have := congrFun (oth t 3 e (by omega)) d
      exact Or.inl (by simpa using this)
