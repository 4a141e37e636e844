/-! WORLD of the class: its cells by numbers, their layout, the ranges of their numbers. Laid by program. -/
abbrev tyS (cI cZ cR : ClassId) : List (ClassId × FieldType) := [(cI, .int), (cZ, .boolean), (cR, .object "SignRow$Replica")]
def laySF (cI cZ cR : ClassId) (a : Nat → Nat) (k : Nat) (x : Nat → Int) : va_E := match k with
  | 0 => .inr (4, [.ref (a 1), .ref (a 11), .ref (a 16), .ref (a 19)])
  | 1 => .inr (0, [.ref (a 2), .ref (a 3), .ref (a 4), .ref (a 5), .ref (a 6), .ref (a 7), .ref (a 8), .ref (a 9), .ref (a 10), .int (jI (x 9)), .int (jI (x 10))])
  | 2 => .inl (cI, 400, .inl (fun j => jI (x j)))
  | 3 => .inl (cI, 400, .inl (fun j => jI (x j)))
  | 4 => .inl (cI, 400, .inl (fun j => jI (x j)))
  | 5 => .inl (cI, 400, .inl (fun j => jI (x j)))
  | 6 => .inl (cI, 400, .inl (fun j => jI (x j)))
  | 7 => .inl (cI, 400, .inl (fun j => jI (x j)))
  | 8 => .inl (cI, 400, .inl (fun j => jI (x j)))
  | 9 => .inl (cZ, 400, .inl (fun j => jI (x j)))
  | 10 => .inl (cI, 400, .inl (fun j => jI (x j)))
  | 11 => .inr (1, [.ref (a 12), .ref (a 13), .ref (a 14), .ref (a 15), .int (jI (x 4))])
  | 12 => .inl (cI, 4800, .inl (fun j => jI (x j)))
  | 13 => .inl (cI, 400, .inl (fun j => jI (x j)))
  | 14 => .inl (cI, 400, .inl (fun j => jI (x j)))
  | 15 => .inl (cI, 400, .inl (fun j => jI (x j)))
  | 16 => .inr (3, [.ref (a 17), .ref (a 18), .int (jI (x 2)), .int (jI (x 3))])
  | 17 => .inl (cI, 300, .inl (fun j => jI (x j)))
  | 18 => .inl (cI, 300, .inl (fun j => jI (x j)))
  | _ => .inl (cR, 6, .inr (.inr (.inr (.inr (fun j => some (a (20 + 6 * j)))))))
def laySR (cI cZ cR : ClassId) (a : Nat → Nat) (r k : Nat) (x : Nat → Int) : va_E := match k with
  | 0 => .inr (2, [.int (jI (x 0)), .ref (a 1), .ref (a 11), .int (jI (x 3)), .int (jI (x 4)), .int (jI (x 5)), .int (jI (x 6)), .ref (a (21 + 6 * r)), .ref (a (22 + 6 * r)), .ref (a (23 + 6 * r)), .ref (a (24 + 6 * r)), .ref (a (25 + 6 * r))])
  | 1 => .inl (cI, 6, .inl (fun j => jI (x j)))
  | 2 => .inl (cZ, 400, .inl (fun j => jI (x j)))
  | 3 => .inl (cI, 400, .inl (fun j => jI (x j)))
  | 4 => .inl (cI, 4, .inl (fun j => jI (x j)))
  | _ => .inl (cI, 8, .inl (fun j => jI (x j)))
def layS (cI cZ cR : ClassId) (a : Nat → Nat) (k : Nat) (x : Nat → Int) : va_E := if k < 20 then laySF cI cZ cR a k x else laySR cI cZ cR a ((k - 20) / 6) ((k - 20) % 6) x
theorem lyS_0 {cI cZ cR : ClassId} {a : Nat → Nat} {x : Nat → Int} : layS cI cZ cR a 0 x = .inr (4, [.ref (a 1), .ref (a 11), .ref (a 16), .ref (a 19)]) := rfl
theorem lyS_1 {cI cZ cR : ClassId} {a : Nat → Nat} {x : Nat → Int} : layS cI cZ cR a 1 x = .inr (0, [.ref (a 2), .ref (a 3), .ref (a 4), .ref (a 5), .ref (a 6), .ref (a 7), .ref (a 8), .ref (a 9), .ref (a 10), .int (jI (x 9)), .int (jI (x 10))]) := rfl
theorem lyS_2 {cI cZ cR : ClassId} {a : Nat → Nat} {x : Nat → Int} : layS cI cZ cR a 2 x = .inl (cI, 400, .inl (fun j => jI (x j))) := rfl
theorem lyS_3 {cI cZ cR : ClassId} {a : Nat → Nat} {x : Nat → Int} : layS cI cZ cR a 3 x = .inl (cI, 400, .inl (fun j => jI (x j))) := rfl
theorem lyS_4 {cI cZ cR : ClassId} {a : Nat → Nat} {x : Nat → Int} : layS cI cZ cR a 4 x = .inl (cI, 400, .inl (fun j => jI (x j))) := rfl
theorem lyS_5 {cI cZ cR : ClassId} {a : Nat → Nat} {x : Nat → Int} : layS cI cZ cR a 5 x = .inl (cI, 400, .inl (fun j => jI (x j))) := rfl
theorem lyS_6 {cI cZ cR : ClassId} {a : Nat → Nat} {x : Nat → Int} : layS cI cZ cR a 6 x = .inl (cI, 400, .inl (fun j => jI (x j))) := rfl
theorem lyS_7 {cI cZ cR : ClassId} {a : Nat → Nat} {x : Nat → Int} : layS cI cZ cR a 7 x = .inl (cI, 400, .inl (fun j => jI (x j))) := rfl
theorem lyS_8 {cI cZ cR : ClassId} {a : Nat → Nat} {x : Nat → Int} : layS cI cZ cR a 8 x = .inl (cI, 400, .inl (fun j => jI (x j))) := rfl
theorem lyS_9 {cI cZ cR : ClassId} {a : Nat → Nat} {x : Nat → Int} : layS cI cZ cR a 9 x = .inl (cZ, 400, .inl (fun j => jI (x j))) := rfl
theorem lyS_10 {cI cZ cR : ClassId} {a : Nat → Nat} {x : Nat → Int} : layS cI cZ cR a 10 x = .inl (cI, 400, .inl (fun j => jI (x j))) := rfl
theorem lyS_11 {cI cZ cR : ClassId} {a : Nat → Nat} {x : Nat → Int} : layS cI cZ cR a 11 x = .inr (1, [.ref (a 12), .ref (a 13), .ref (a 14), .ref (a 15), .int (jI (x 4))]) := rfl
theorem lyS_12 {cI cZ cR : ClassId} {a : Nat → Nat} {x : Nat → Int} : layS cI cZ cR a 12 x = .inl (cI, 4800, .inl (fun j => jI (x j))) := rfl
theorem lyS_13 {cI cZ cR : ClassId} {a : Nat → Nat} {x : Nat → Int} : layS cI cZ cR a 13 x = .inl (cI, 400, .inl (fun j => jI (x j))) := rfl
theorem lyS_14 {cI cZ cR : ClassId} {a : Nat → Nat} {x : Nat → Int} : layS cI cZ cR a 14 x = .inl (cI, 400, .inl (fun j => jI (x j))) := rfl
theorem lyS_15 {cI cZ cR : ClassId} {a : Nat → Nat} {x : Nat → Int} : layS cI cZ cR a 15 x = .inl (cI, 400, .inl (fun j => jI (x j))) := rfl
theorem lyS_16 {cI cZ cR : ClassId} {a : Nat → Nat} {x : Nat → Int} : layS cI cZ cR a 16 x = .inr (3, [.ref (a 17), .ref (a 18), .int (jI (x 2)), .int (jI (x 3))]) := rfl
theorem lyS_17 {cI cZ cR : ClassId} {a : Nat → Nat} {x : Nat → Int} : layS cI cZ cR a 17 x = .inl (cI, 300, .inl (fun j => jI (x j))) := rfl
theorem lyS_18 {cI cZ cR : ClassId} {a : Nat → Nat} {x : Nat → Int} : layS cI cZ cR a 18 x = .inl (cI, 300, .inl (fun j => jI (x j))) := rfl
theorem lyS_19 {cI cZ cR : ClassId} {a : Nat → Nat} {x : Nat → Int} : layS cI cZ cR a 19 x = .inl (cR, 6, .inr (.inr (.inr (.inr (fun j => some (a (20 + 6 * j))))))) := rfl
theorem hkS_20 {r : Nat} (hr : r < 6) : 20 + 6 * r < 56 := by omega
theorem lyS_20 {cI cZ cR : ClassId} {a : Nat → Nat} {x : Nat → Int} {r : Nat} (_ : r < 6) : layS cI cZ cR a (20 + 6 * r) x = .inr (2, [.int (jI (x 0)), .ref (a 1), .ref (a 11), .int (jI (x 3)), .int (jI (x 4)), .int (jI (x 5)), .int (jI (x 6)), .ref (a (21 + 6 * r)), .ref (a (22 + 6 * r)), .ref (a (23 + 6 * r)), .ref (a (24 + 6 * r)), .ref (a (25 + 6 * r))]) := by
  unfold layS
  rw [if_neg (by omega), show (20 + 6 * r - 20) / 6 = r by omega, show (20 + 6 * r - 20) % 6 = 0 by omega]
  rfl
theorem hkS_21 {r : Nat} (hr : r < 6) : 21 + 6 * r < 56 := by omega
theorem lyS_21 {cI cZ cR : ClassId} {a : Nat → Nat} {x : Nat → Int} {r : Nat} (_ : r < 6) : layS cI cZ cR a (21 + 6 * r) x = .inl (cI, 6, .inl (fun j => jI (x j))) := by
  unfold layS
  rw [if_neg (by omega), show (21 + 6 * r - 20) / 6 = r by omega, show (21 + 6 * r - 20) % 6 = 1 by omega]
  rfl
theorem hkS_22 {r : Nat} (hr : r < 6) : 22 + 6 * r < 56 := by omega
theorem lyS_22 {cI cZ cR : ClassId} {a : Nat → Nat} {x : Nat → Int} {r : Nat} (_ : r < 6) : layS cI cZ cR a (22 + 6 * r) x = .inl (cZ, 400, .inl (fun j => jI (x j))) := by
  unfold layS
  rw [if_neg (by omega), show (22 + 6 * r - 20) / 6 = r by omega, show (22 + 6 * r - 20) % 6 = 2 by omega]
  rfl
theorem hkS_23 {r : Nat} (hr : r < 6) : 23 + 6 * r < 56 := by omega
theorem lyS_23 {cI cZ cR : ClassId} {a : Nat → Nat} {x : Nat → Int} {r : Nat} (_ : r < 6) : layS cI cZ cR a (23 + 6 * r) x = .inl (cI, 400, .inl (fun j => jI (x j))) := by
  unfold layS
  rw [if_neg (by omega), show (23 + 6 * r - 20) / 6 = r by omega, show (23 + 6 * r - 20) % 6 = 3 by omega]
  rfl
theorem hkS_24 {r : Nat} (hr : r < 6) : 24 + 6 * r < 56 := by omega
theorem lyS_24 {cI cZ cR : ClassId} {a : Nat → Nat} {x : Nat → Int} {r : Nat} (_ : r < 6) : layS cI cZ cR a (24 + 6 * r) x = .inl (cI, 4, .inl (fun j => jI (x j))) := by
  unfold layS
  rw [if_neg (by omega), show (24 + 6 * r - 20) / 6 = r by omega, show (24 + 6 * r - 20) % 6 = 4 by omega]
  rfl
theorem hkS_25 {r : Nat} (hr : r < 6) : 25 + 6 * r < 56 := by omega
theorem lyS_25 {cI cZ cR : ClassId} {a : Nat → Nat} {x : Nat → Int} {r : Nat} (_ : r < 6) : layS cI cZ cR a (25 + 6 * r) x = .inl (cI, 8, .inl (fun j => jI (x j))) := by
  unfold layS
  rw [if_neg (by omega), show (25 + 6 * r - 20) / 6 = r by omega, show (25 + 6 * r - 20) % 6 = 5 by omega]
  rfl
def okSF (k i : Nat) (v : Int) : Prop := match k with
  | 1 => if i = 9 then 0 ≤ v ∧ v < 401 else if i = 10 then 0 ≤ v ∧ v < 401 else True
  | 2 => 0 ≤ v ∧ v < 6
  | 3 => 0 ≤ v ∧ v < 401
  | 4 => 0 ≤ v ∧ v < 401
  | 5 => 0 ≤ v ∧ v < 4
  | 6 => 0 ≤ v ∧ v < 127
  | 7 => 0 ≤ v ∧ v < 400
  | 8 => 0 ≤ v ∧ v < 400
  | 9 => 0 ≤ v ∧ v < 2
  | 10 => 0 ≤ v ∧ v < 400
  | 11 => if i = 4 then 0 ≤ v ∧ v < 401 else True
  | 12 => 0 ≤ v ∧ v < 16777216
  | 13 => 0 ≤ v ∧ v < 13
  | 14 => 0 ≤ v ∧ v < 400
  | 15 => 0 ≤ v ∧ v < 400
  | 16 => if i = 2 then 0 ≤ v ∧ v < 301 else True
  | 17 => 0 ≤ v ∧ v < 400
  | 18 => 0 ≤ v ∧ v < 6
  | _ => True
def okSR (r : Int) (k i : Nat) (v : Int) : Prop := match k with
  | 0 => if i = 0 then r ≤ v ∧ v < r + 1 else if i = 4 then 0 ≤ v ∧ v < 401 else if i = 6 then 0 ≤ v ∧ v < 401 else True
  | 1 => 0 ≤ v ∧ v < 401
  | 2 => 0 ≤ v ∧ v < 2
  | 3 => -1 ≤ v ∧ v < 400
  | 4 => -1 ≤ v ∧ v < 400
  | 5 => -1 ≤ v ∧ v < 400
  | _ => True
def okS (k i : Nat) (v : Int) : Prop := if k < 20 then okSF k i v else okSR (((k - 20) / 6 : Nat) : Int) ((k - 20) % 6) i v
def rgS (σ : Zt) : Prop := ∀ k i, okS k i (σ k i)
theorem rgS_zu {σ : Zt} {k i : Nat} {v : Int} (h : rgS σ) (hv : okS k i v) : rgS (zu σ k i v) := by
  intro k2 i2
  by_cases hk : k2 = k
  · subst hk
    rw [zu_row]
    by_cases hi : i2 = i
    · subst hi; simpa using hv
    · simpa [hi] using h k2 i2
  · rw [zu_ne hk]; exact h k2 i2
theorem okS_20 {r : Nat} {i : Nat} {v : Int} : okS (20 + 6 * r) i v = okSR (r : Int) 0 i v := by
  unfold okS
  rw [if_neg (by omega), show (20 + 6 * r - 20) / 6 = r by omega, show (20 + 6 * r - 20) % 6 = 0 by omega]
theorem okS_21 {r : Nat} {i : Nat} {v : Int} : okS (21 + 6 * r) i v = okSR (r : Int) 1 i v := by
  unfold okS
  rw [if_neg (by omega), show (21 + 6 * r - 20) / 6 = r by omega, show (21 + 6 * r - 20) % 6 = 1 by omega]
theorem okS_22 {r : Nat} {i : Nat} {v : Int} : okS (22 + 6 * r) i v = okSR (r : Int) 2 i v := by
  unfold okS
  rw [if_neg (by omega), show (22 + 6 * r - 20) / 6 = r by omega, show (22 + 6 * r - 20) % 6 = 2 by omega]
theorem okS_23 {r : Nat} {i : Nat} {v : Int} : okS (23 + 6 * r) i v = okSR (r : Int) 3 i v := by
  unfold okS
  rw [if_neg (by omega), show (23 + 6 * r - 20) / 6 = r by omega, show (23 + 6 * r - 20) % 6 = 3 by omega]
theorem okS_24 {r : Nat} {i : Nat} {v : Int} : okS (24 + 6 * r) i v = okSR (r : Int) 4 i v := by
  unfold okS
  rw [if_neg (by omega), show (24 + 6 * r - 20) / 6 = r by omega, show (24 + 6 * r - 20) % 6 = 4 by omega]
theorem okS_25 {r : Nat} {i : Nat} {v : Int} : okS (25 + 6 * r) i v = okSR (r : Int) 5 i v := by
  unfold okS
  rw [if_neg (by omega), show (25 + 6 * r - 20) / 6 = r by omega, show (25 + 6 * r - 20) % 6 = 5 by omega]
theorem rgS_1_9 {σ : Zt} (h : rgS σ) : 0 ≤ σ 1 9 ∧ σ 1 9 < 401 := h 1 9
theorem rzS_1_9 {σ : Zt} (h : rgS σ) {v : Int} (h1 : 0 ≤ v) (h2 : v < 401) : rgS (zu σ 1 9 v) := rgS_zu h ⟨h1, h2⟩
theorem rgS_1_10 {σ : Zt} (h : rgS σ) : 0 ≤ σ 1 10 ∧ σ 1 10 < 401 := h 1 10
theorem rzS_1_10 {σ : Zt} (h : rgS σ) {v : Int} (h1 : 0 ≤ v) (h2 : v < 401) : rgS (zu σ 1 10 v) := rgS_zu h ⟨h1, h2⟩
theorem rgS_2 {σ : Zt} (h : rgS σ) (i : Nat) : 0 ≤ σ 2 i ∧ σ 2 i < 6 := h 2 i
theorem rzS_2 {σ : Zt} (h : rgS σ) {i : Nat} {v : Int} (h1 : 0 ≤ v) (h2 : v < 6) : rgS (zu σ 2 i v) := rgS_zu h ⟨h1, h2⟩
theorem rgS_3 {σ : Zt} (h : rgS σ) (i : Nat) : 0 ≤ σ 3 i ∧ σ 3 i < 401 := h 3 i
theorem rzS_3 {σ : Zt} (h : rgS σ) {i : Nat} {v : Int} (h1 : 0 ≤ v) (h2 : v < 401) : rgS (zu σ 3 i v) := rgS_zu h ⟨h1, h2⟩
theorem rgS_4 {σ : Zt} (h : rgS σ) (i : Nat) : 0 ≤ σ 4 i ∧ σ 4 i < 401 := h 4 i
theorem rzS_4 {σ : Zt} (h : rgS σ) {i : Nat} {v : Int} (h1 : 0 ≤ v) (h2 : v < 401) : rgS (zu σ 4 i v) := rgS_zu h ⟨h1, h2⟩
theorem rgS_5 {σ : Zt} (h : rgS σ) (i : Nat) : 0 ≤ σ 5 i ∧ σ 5 i < 4 := h 5 i
theorem rzS_5 {σ : Zt} (h : rgS σ) {i : Nat} {v : Int} (h1 : 0 ≤ v) (h2 : v < 4) : rgS (zu σ 5 i v) := rgS_zu h ⟨h1, h2⟩
theorem rgS_6 {σ : Zt} (h : rgS σ) (i : Nat) : 0 ≤ σ 6 i ∧ σ 6 i < 127 := h 6 i
theorem rzS_6 {σ : Zt} (h : rgS σ) {i : Nat} {v : Int} (h1 : 0 ≤ v) (h2 : v < 127) : rgS (zu σ 6 i v) := rgS_zu h ⟨h1, h2⟩
theorem rgS_7 {σ : Zt} (h : rgS σ) (i : Nat) : 0 ≤ σ 7 i ∧ σ 7 i < 400 := h 7 i
theorem rzS_7 {σ : Zt} (h : rgS σ) {i : Nat} {v : Int} (h1 : 0 ≤ v) (h2 : v < 400) : rgS (zu σ 7 i v) := rgS_zu h ⟨h1, h2⟩
theorem rgS_8 {σ : Zt} (h : rgS σ) (i : Nat) : 0 ≤ σ 8 i ∧ σ 8 i < 400 := h 8 i
theorem rzS_8 {σ : Zt} (h : rgS σ) {i : Nat} {v : Int} (h1 : 0 ≤ v) (h2 : v < 400) : rgS (zu σ 8 i v) := rgS_zu h ⟨h1, h2⟩
theorem rgS_9 {σ : Zt} (h : rgS σ) (i : Nat) : 0 ≤ σ 9 i ∧ σ 9 i < 2 := h 9 i
theorem rzS_9 {σ : Zt} (h : rgS σ) {i : Nat} {v : Int} (h1 : 0 ≤ v) (h2 : v < 2) : rgS (zu σ 9 i v) := rgS_zu h ⟨h1, h2⟩
theorem rgS_10 {σ : Zt} (h : rgS σ) (i : Nat) : 0 ≤ σ 10 i ∧ σ 10 i < 400 := h 10 i
theorem rzS_10 {σ : Zt} (h : rgS σ) {i : Nat} {v : Int} (h1 : 0 ≤ v) (h2 : v < 400) : rgS (zu σ 10 i v) := rgS_zu h ⟨h1, h2⟩
theorem rgS_11_4 {σ : Zt} (h : rgS σ) : 0 ≤ σ 11 4 ∧ σ 11 4 < 401 := h 11 4
theorem rzS_11_4 {σ : Zt} (h : rgS σ) {v : Int} (h1 : 0 ≤ v) (h2 : v < 401) : rgS (zu σ 11 4 v) := rgS_zu h ⟨h1, h2⟩
theorem rgS_12 {σ : Zt} (h : rgS σ) (i : Nat) : 0 ≤ σ 12 i ∧ σ 12 i < 16777216 := h 12 i
theorem rzS_12 {σ : Zt} (h : rgS σ) {i : Nat} {v : Int} (h1 : 0 ≤ v) (h2 : v < 16777216) : rgS (zu σ 12 i v) := rgS_zu h ⟨h1, h2⟩
theorem rgS_13 {σ : Zt} (h : rgS σ) (i : Nat) : 0 ≤ σ 13 i ∧ σ 13 i < 13 := h 13 i
theorem rzS_13 {σ : Zt} (h : rgS σ) {i : Nat} {v : Int} (h1 : 0 ≤ v) (h2 : v < 13) : rgS (zu σ 13 i v) := rgS_zu h ⟨h1, h2⟩
theorem rgS_14 {σ : Zt} (h : rgS σ) (i : Nat) : 0 ≤ σ 14 i ∧ σ 14 i < 400 := h 14 i
theorem rzS_14 {σ : Zt} (h : rgS σ) {i : Nat} {v : Int} (h1 : 0 ≤ v) (h2 : v < 400) : rgS (zu σ 14 i v) := rgS_zu h ⟨h1, h2⟩
theorem rgS_15 {σ : Zt} (h : rgS σ) (i : Nat) : 0 ≤ σ 15 i ∧ σ 15 i < 400 := h 15 i
theorem rzS_15 {σ : Zt} (h : rgS σ) {i : Nat} {v : Int} (h1 : 0 ≤ v) (h2 : v < 400) : rgS (zu σ 15 i v) := rgS_zu h ⟨h1, h2⟩
theorem rgS_16_2 {σ : Zt} (h : rgS σ) : 0 ≤ σ 16 2 ∧ σ 16 2 < 301 := h 16 2
theorem rzS_16_2 {σ : Zt} (h : rgS σ) {v : Int} (h1 : 0 ≤ v) (h2 : v < 301) : rgS (zu σ 16 2 v) := rgS_zu h ⟨h1, h2⟩
theorem rzS_16_3 {σ : Zt} (h : rgS σ) {v : Int} : rgS (zu σ 16 3 v) := rgS_zu h trivial
theorem rgS_17 {σ : Zt} (h : rgS σ) (i : Nat) : 0 ≤ σ 17 i ∧ σ 17 i < 400 := h 17 i
theorem rzS_17 {σ : Zt} (h : rgS σ) {i : Nat} {v : Int} (h1 : 0 ≤ v) (h2 : v < 400) : rgS (zu σ 17 i v) := rgS_zu h ⟨h1, h2⟩
theorem rgS_18 {σ : Zt} (h : rgS σ) (i : Nat) : 0 ≤ σ 18 i ∧ σ 18 i < 6 := h 18 i
theorem rzS_18 {σ : Zt} (h : rgS σ) {i : Nat} {v : Int} (h1 : 0 ≤ v) (h2 : v < 6) : rgS (zu σ 18 i v) := rgS_zu h ⟨h1, h2⟩
theorem rgS_20_0 {σ : Zt} (h : rgS σ) {r : Nat} (_ : r < 6) : (r : Int) ≤ σ (20 + 6 * r) 0 ∧ σ (20 + 6 * r) 0 < (r : Int) + 1 := by
  have h9 := h (20 + 6 * r) 0
  rw [okS_20] at h9
  exact h9
theorem rzS_20_0 {σ : Zt} (h : rgS σ) {r : Nat} (_ : r < 6) {v : Int} (h1 : (r : Int) ≤ v) (h2 : v < (r : Int) + 1) : rgS (zu σ (20 + 6 * r) 0 v) := rgS_zu h (by rw [okS_20]; exact ⟨h1, h2⟩)
theorem rzS_20_3 {σ : Zt} (h : rgS σ) {r : Nat} (_ : r < 6) {v : Int} : rgS (zu σ (20 + 6 * r) 3 v) := rgS_zu h (by rw [okS_20]; exact trivial)
theorem rgS_20_4 {σ : Zt} (h : rgS σ) {r : Nat} (_ : r < 6) : 0 ≤ σ (20 + 6 * r) 4 ∧ σ (20 + 6 * r) 4 < 401 := by
  have h9 := h (20 + 6 * r) 4
  rw [okS_20] at h9
  exact h9
theorem rzS_20_4 {σ : Zt} (h : rgS σ) {r : Nat} (_ : r < 6) {v : Int} (h1 : 0 ≤ v) (h2 : v < 401) : rgS (zu σ (20 + 6 * r) 4 v) := rgS_zu h (by rw [okS_20]; exact ⟨h1, h2⟩)
theorem rzS_20_5 {σ : Zt} (h : rgS σ) {r : Nat} (_ : r < 6) {v : Int} : rgS (zu σ (20 + 6 * r) 5 v) := rgS_zu h (by rw [okS_20]; exact trivial)
theorem rgS_20_6 {σ : Zt} (h : rgS σ) {r : Nat} (_ : r < 6) : 0 ≤ σ (20 + 6 * r) 6 ∧ σ (20 + 6 * r) 6 < 401 := by
  have h9 := h (20 + 6 * r) 6
  rw [okS_20] at h9
  exact h9
theorem rzS_20_6 {σ : Zt} (h : rgS σ) {r : Nat} (_ : r < 6) {v : Int} (h1 : 0 ≤ v) (h2 : v < 401) : rgS (zu σ (20 + 6 * r) 6 v) := rgS_zu h (by rw [okS_20]; exact ⟨h1, h2⟩)
theorem rgS_21 {σ : Zt} (h : rgS σ) {r : Nat} (_ : r < 6) (i : Nat) : 0 ≤ σ (21 + 6 * r) i ∧ σ (21 + 6 * r) i < 401 := by
  have h9 := h (21 + 6 * r) i
  rw [okS_21] at h9
  exact h9
theorem rzS_21 {σ : Zt} (h : rgS σ) {r : Nat} (_ : r < 6) {i : Nat} {v : Int} (h1 : 0 ≤ v) (h2 : v < 401) : rgS (zu σ (21 + 6 * r) i v) := rgS_zu h (by rw [okS_21]; exact ⟨h1, h2⟩)
theorem rgS_22 {σ : Zt} (h : rgS σ) {r : Nat} (_ : r < 6) (i : Nat) : 0 ≤ σ (22 + 6 * r) i ∧ σ (22 + 6 * r) i < 2 := by
  have h9 := h (22 + 6 * r) i
  rw [okS_22] at h9
  exact h9
theorem rzS_22 {σ : Zt} (h : rgS σ) {r : Nat} (_ : r < 6) {i : Nat} {v : Int} (h1 : 0 ≤ v) (h2 : v < 2) : rgS (zu σ (22 + 6 * r) i v) := rgS_zu h (by rw [okS_22]; exact ⟨h1, h2⟩)
theorem rgS_23 {σ : Zt} (h : rgS σ) {r : Nat} (_ : r < 6) (i : Nat) : -1 ≤ σ (23 + 6 * r) i ∧ σ (23 + 6 * r) i < 400 := by
  have h9 := h (23 + 6 * r) i
  rw [okS_23] at h9
  exact h9
theorem rzS_23 {σ : Zt} (h : rgS σ) {r : Nat} (_ : r < 6) {i : Nat} {v : Int} (h1 : -1 ≤ v) (h2 : v < 400) : rgS (zu σ (23 + 6 * r) i v) := rgS_zu h (by rw [okS_23]; exact ⟨h1, h2⟩)
theorem rgS_24 {σ : Zt} (h : rgS σ) {r : Nat} (_ : r < 6) (i : Nat) : -1 ≤ σ (24 + 6 * r) i ∧ σ (24 + 6 * r) i < 400 := by
  have h9 := h (24 + 6 * r) i
  rw [okS_24] at h9
  exact h9
theorem rzS_24 {σ : Zt} (h : rgS σ) {r : Nat} (_ : r < 6) {i : Nat} {v : Int} (h1 : -1 ≤ v) (h2 : v < 400) : rgS (zu σ (24 + 6 * r) i v) := rgS_zu h (by rw [okS_24]; exact ⟨h1, h2⟩)
theorem rgS_25 {σ : Zt} (h : rgS σ) {r : Nat} (_ : r < 6) (i : Nat) : -1 ≤ σ (25 + 6 * r) i ∧ σ (25 + 6 * r) i < 400 := by
  have h9 := h (25 + 6 * r) i
  rw [okS_25] at h9
  exact h9
theorem rzS_25 {σ : Zt} (h : rgS σ) {r : Nat} (_ : r < 6) {i : Nat} {v : Int} (h1 : -1 ≤ v) (h2 : v < 400) : rgS (zu σ (25 + 6 * r) i v) := rgS_zu h (by rw [okS_25]; exact ⟨h1, h2⟩)
