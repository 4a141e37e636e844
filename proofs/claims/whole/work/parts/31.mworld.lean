/-! WORLD of the reference. Laid by program. -/
abbrev tyM (cI cZ : ClassId) : List (ClassId × FieldType) := [(cI, .int), (cZ, .boolean)]
def layM (cI cZ : ClassId) (a : Nat → Nat) (k : Nat) (x : Nat → Int) : va_E := match k with
  | 0 => .inr (5, [.int (jI (x 0)), .int (jI (x 1)), .ref (a 1), .ref (a 2), .ref (a 3), .ref (a 4), .ref (a 5), .ref (a 6), .ref (a 7), .ref (a 8), .ref (a 9), .ref (a 10), .ref (a 11), .ref (a 12), .ref (a 13), .int (jI (x 15)), .ref (a 14), .ref (a 15), .ref (a 16), .ref (a 17), .ref (a 18), .ref (a 19), .ref (a 20), .ref (a 21), .ref (a 22), .int (jI (x 25)), .ref (a 23), .ref (a 24), .int (jI (x 28)), .ref (a 25), .ref (a 26), .ref (a 27), .int (jI (x 32))])
  | 1 => .inl (cI, 400, .inl (fun j => jI (x j)))
  | 2 => .inl (cI, 400, .inl (fun j => jI (x j)))
  | 3 => .inl (cI, 400, .inl (fun j => jI (x j)))
  | 4 => .inl (cI, 400, .inl (fun j => jI (x j)))
  | 5 => .inl (cI, 400, .inl (fun j => jI (x j)))
  | 6 => .inl (cI, 400, .inl (fun j => jI (x j)))
  | 7 => .inl (cI, 400, .inl (fun j => jI (x j)))
  | 8 => .inl (cZ, 400, .inl (fun j => jI (x j)))
  | 9 => .inl (cZ, 400, .inl (fun j => jI (x j)))
  | 10 => .inl (cI, 400, .inl (fun j => jI (x j)))
  | 11 => .inl (cI, 4800, .inl (fun j => jI (x j)))
  | 12 => .inl (cI, 4800, .inl (fun j => jI (x j)))
  | 13 => .inl (cI, 4800, .inl (fun j => jI (x j)))
  | 14 => .inl (cI, 400, .inl (fun j => jI (x j)))
  | 15 => .inl (cI, 400, .inl (fun j => jI (x j)))
  | 16 => .inl (cZ, 2400, .inl (fun j => jI (x j)))
  | 17 => .inl (cZ, 2400, .inl (fun j => jI (x j)))
  | 18 => .inl (cI, 2400, .inl (fun j => jI (x j)))
  | 19 => .inl (cI, 36, .inl (fun j => jI (x j)))
  | 20 => .inl (cI, 6, .inl (fun j => jI (x j)))
  | 21 => .inl (cI, 6, .inl (fun j => jI (x j)))
  | 22 => .inl (cI, 24, .inl (fun j => jI (x j)))
  | 23 => .inl (cI, 300, .inl (fun j => jI (x j)))
  | 24 => .inl (cI, 300, .inl (fun j => jI (x j)))
  | 25 => .inl (cI, 12, .inl (fun j => jI (x j)))
  | 26 => .inl (cI, 12, .inl (fun j => jI (x j)))
  | _ => .inl (cI, 12, .inl (fun j => jI (x j)))
theorem lyM_0 {cI cZ : ClassId} {a : Nat → Nat} {x : Nat → Int} : layM cI cZ a 0 x = .inr (5, [.int (jI (x 0)), .int (jI (x 1)), .ref (a 1), .ref (a 2), .ref (a 3), .ref (a 4), .ref (a 5), .ref (a 6), .ref (a 7), .ref (a 8), .ref (a 9), .ref (a 10), .ref (a 11), .ref (a 12), .ref (a 13), .int (jI (x 15)), .ref (a 14), .ref (a 15), .ref (a 16), .ref (a 17), .ref (a 18), .ref (a 19), .ref (a 20), .ref (a 21), .ref (a 22), .int (jI (x 25)), .ref (a 23), .ref (a 24), .int (jI (x 28)), .ref (a 25), .ref (a 26), .ref (a 27), .int (jI (x 32))]) := rfl
theorem lyM_1 {cI cZ : ClassId} {a : Nat → Nat} {x : Nat → Int} : layM cI cZ a 1 x = .inl (cI, 400, .inl (fun j => jI (x j))) := rfl
theorem lyM_2 {cI cZ : ClassId} {a : Nat → Nat} {x : Nat → Int} : layM cI cZ a 2 x = .inl (cI, 400, .inl (fun j => jI (x j))) := rfl
theorem lyM_3 {cI cZ : ClassId} {a : Nat → Nat} {x : Nat → Int} : layM cI cZ a 3 x = .inl (cI, 400, .inl (fun j => jI (x j))) := rfl
theorem lyM_4 {cI cZ : ClassId} {a : Nat → Nat} {x : Nat → Int} : layM cI cZ a 4 x = .inl (cI, 400, .inl (fun j => jI (x j))) := rfl
theorem lyM_5 {cI cZ : ClassId} {a : Nat → Nat} {x : Nat → Int} : layM cI cZ a 5 x = .inl (cI, 400, .inl (fun j => jI (x j))) := rfl
theorem lyM_6 {cI cZ : ClassId} {a : Nat → Nat} {x : Nat → Int} : layM cI cZ a 6 x = .inl (cI, 400, .inl (fun j => jI (x j))) := rfl
theorem lyM_7 {cI cZ : ClassId} {a : Nat → Nat} {x : Nat → Int} : layM cI cZ a 7 x = .inl (cI, 400, .inl (fun j => jI (x j))) := rfl
theorem lyM_8 {cI cZ : ClassId} {a : Nat → Nat} {x : Nat → Int} : layM cI cZ a 8 x = .inl (cZ, 400, .inl (fun j => jI (x j))) := rfl
theorem lyM_9 {cI cZ : ClassId} {a : Nat → Nat} {x : Nat → Int} : layM cI cZ a 9 x = .inl (cZ, 400, .inl (fun j => jI (x j))) := rfl
theorem lyM_10 {cI cZ : ClassId} {a : Nat → Nat} {x : Nat → Int} : layM cI cZ a 10 x = .inl (cI, 400, .inl (fun j => jI (x j))) := rfl
theorem lyM_11 {cI cZ : ClassId} {a : Nat → Nat} {x : Nat → Int} : layM cI cZ a 11 x = .inl (cI, 4800, .inl (fun j => jI (x j))) := rfl
theorem lyM_12 {cI cZ : ClassId} {a : Nat → Nat} {x : Nat → Int} : layM cI cZ a 12 x = .inl (cI, 4800, .inl (fun j => jI (x j))) := rfl
theorem lyM_13 {cI cZ : ClassId} {a : Nat → Nat} {x : Nat → Int} : layM cI cZ a 13 x = .inl (cI, 4800, .inl (fun j => jI (x j))) := rfl
theorem lyM_14 {cI cZ : ClassId} {a : Nat → Nat} {x : Nat → Int} : layM cI cZ a 14 x = .inl (cI, 400, .inl (fun j => jI (x j))) := rfl
theorem lyM_15 {cI cZ : ClassId} {a : Nat → Nat} {x : Nat → Int} : layM cI cZ a 15 x = .inl (cI, 400, .inl (fun j => jI (x j))) := rfl
theorem lyM_16 {cI cZ : ClassId} {a : Nat → Nat} {x : Nat → Int} : layM cI cZ a 16 x = .inl (cZ, 2400, .inl (fun j => jI (x j))) := rfl
theorem lyM_17 {cI cZ : ClassId} {a : Nat → Nat} {x : Nat → Int} : layM cI cZ a 17 x = .inl (cZ, 2400, .inl (fun j => jI (x j))) := rfl
theorem lyM_18 {cI cZ : ClassId} {a : Nat → Nat} {x : Nat → Int} : layM cI cZ a 18 x = .inl (cI, 2400, .inl (fun j => jI (x j))) := rfl
theorem lyM_19 {cI cZ : ClassId} {a : Nat → Nat} {x : Nat → Int} : layM cI cZ a 19 x = .inl (cI, 36, .inl (fun j => jI (x j))) := rfl
theorem lyM_20 {cI cZ : ClassId} {a : Nat → Nat} {x : Nat → Int} : layM cI cZ a 20 x = .inl (cI, 6, .inl (fun j => jI (x j))) := rfl
theorem lyM_21 {cI cZ : ClassId} {a : Nat → Nat} {x : Nat → Int} : layM cI cZ a 21 x = .inl (cI, 6, .inl (fun j => jI (x j))) := rfl
theorem lyM_22 {cI cZ : ClassId} {a : Nat → Nat} {x : Nat → Int} : layM cI cZ a 22 x = .inl (cI, 24, .inl (fun j => jI (x j))) := rfl
theorem lyM_23 {cI cZ : ClassId} {a : Nat → Nat} {x : Nat → Int} : layM cI cZ a 23 x = .inl (cI, 300, .inl (fun j => jI (x j))) := rfl
theorem lyM_24 {cI cZ : ClassId} {a : Nat → Nat} {x : Nat → Int} : layM cI cZ a 24 x = .inl (cI, 300, .inl (fun j => jI (x j))) := rfl
theorem lyM_25 {cI cZ : ClassId} {a : Nat → Nat} {x : Nat → Int} : layM cI cZ a 25 x = .inl (cI, 12, .inl (fun j => jI (x j))) := rfl
theorem lyM_26 {cI cZ : ClassId} {a : Nat → Nat} {x : Nat → Int} : layM cI cZ a 26 x = .inl (cI, 12, .inl (fun j => jI (x j))) := rfl
theorem lyM_27 {cI cZ : ClassId} {a : Nat → Nat} {x : Nat → Int} : layM cI cZ a 27 x = .inl (cI, 12, .inl (fun j => jI (x j))) := rfl
def okM (k i : Nat) (v : Int) : Prop := match k with
  | 0 => if i = 0 then 0 ≤ v ∧ v < 2 else if i = 1 then 0 ≤ v ∧ v < 401 else if i = 15 then 0 ≤ v ∧ v < 401 else if i = 25 then 0 ≤ v ∧ v < 301 else if i = 32 then 0 ≤ v ∧ v < 13 else True
  | 1 => 0 ≤ v ∧ v < 6
  | 2 => 0 ≤ v ∧ v < 401
  | 3 => 0 ≤ v ∧ v < 401
  | 4 => 0 ≤ v ∧ v < 4
  | 5 => 0 ≤ v ∧ v < 127
  | 6 => 0 ≤ v ∧ v < 400
  | 7 => -1 ≤ v ∧ v < 400
  | 8 => 0 ≤ v ∧ v < 2
  | 9 => 0 ≤ v ∧ v < 2
  | 10 => 0 ≤ v ∧ v < 13
  | 11 => 0 ≤ v ∧ v < 4096
  | 12 => 0 ≤ v ∧ v < 6
  | 13 => 0 ≤ v ∧ v < 512
  | 14 => 0 ≤ v ∧ v < 400
  | 15 => 0 ≤ v ∧ v < 400
  | 16 => 0 ≤ v ∧ v < 2
  | 17 => 0 ≤ v ∧ v < 2
  | 18 => -1 ≤ v ∧ v < 400
  | 19 => 0 ≤ v ∧ v < 401
  | 20 => 0 ≤ v ∧ v < 401
  | 22 => -1 ≤ v ∧ v < 400
  | 23 => 0 ≤ v ∧ v < 400
  | 24 => 0 ≤ v ∧ v < 6
  | 25 => 0 ≤ v ∧ v < 4096
  | 26 => 0 ≤ v ∧ v < 6
  | 27 => 0 ≤ v ∧ v < 512
  | _ => True
def rgM (σ : Zt) : Prop := ∀ k i, okM k i (σ k i)
theorem rgM_zu {σ : Zt} {k i : Nat} {v : Int} (h : rgM σ) (hv : okM k i v) : rgM (zu σ k i v) := by
  intro k2 i2
  by_cases hk : k2 = k
  · subst hk
    rw [zu_row]
    by_cases hi : i2 = i
    · subst hi; simpa using hv
    · simpa [hi] using h k2 i2
  · rw [zu_ne hk]; exact h k2 i2
theorem rgM_0_0 {σ : Zt} (h : rgM σ) : 0 ≤ σ 0 0 ∧ σ 0 0 < 2 := h 0 0
theorem rzM_0_0 {σ : Zt} (h : rgM σ) {v : Int} (h1 : 0 ≤ v) (h2 : v < 2) : rgM (zu σ 0 0 v) := rgM_zu h ⟨h1, h2⟩
theorem rgM_0_1 {σ : Zt} (h : rgM σ) : 0 ≤ σ 0 1 ∧ σ 0 1 < 401 := h 0 1
theorem rzM_0_1 {σ : Zt} (h : rgM σ) {v : Int} (h1 : 0 ≤ v) (h2 : v < 401) : rgM (zu σ 0 1 v) := rgM_zu h ⟨h1, h2⟩
theorem rgM_0_15 {σ : Zt} (h : rgM σ) : 0 ≤ σ 0 15 ∧ σ 0 15 < 401 := h 0 15
theorem rzM_0_15 {σ : Zt} (h : rgM σ) {v : Int} (h1 : 0 ≤ v) (h2 : v < 401) : rgM (zu σ 0 15 v) := rgM_zu h ⟨h1, h2⟩
theorem rgM_0_25 {σ : Zt} (h : rgM σ) : 0 ≤ σ 0 25 ∧ σ 0 25 < 301 := h 0 25
theorem rzM_0_25 {σ : Zt} (h : rgM σ) {v : Int} (h1 : 0 ≤ v) (h2 : v < 301) : rgM (zu σ 0 25 v) := rgM_zu h ⟨h1, h2⟩
theorem rzM_0_28 {σ : Zt} (h : rgM σ) {v : Int} : rgM (zu σ 0 28 v) := rgM_zu h trivial
theorem rgM_0_32 {σ : Zt} (h : rgM σ) : 0 ≤ σ 0 32 ∧ σ 0 32 < 13 := h 0 32
theorem rzM_0_32 {σ : Zt} (h : rgM σ) {v : Int} (h1 : 0 ≤ v) (h2 : v < 13) : rgM (zu σ 0 32 v) := rgM_zu h ⟨h1, h2⟩
theorem rgM_1 {σ : Zt} (h : rgM σ) (i : Nat) : 0 ≤ σ 1 i ∧ σ 1 i < 6 := h 1 i
theorem rzM_1 {σ : Zt} (h : rgM σ) {i : Nat} {v : Int} (h1 : 0 ≤ v) (h2 : v < 6) : rgM (zu σ 1 i v) := rgM_zu h ⟨h1, h2⟩
theorem rgM_2 {σ : Zt} (h : rgM σ) (i : Nat) : 0 ≤ σ 2 i ∧ σ 2 i < 401 := h 2 i
theorem rzM_2 {σ : Zt} (h : rgM σ) {i : Nat} {v : Int} (h1 : 0 ≤ v) (h2 : v < 401) : rgM (zu σ 2 i v) := rgM_zu h ⟨h1, h2⟩
theorem rgM_3 {σ : Zt} (h : rgM σ) (i : Nat) : 0 ≤ σ 3 i ∧ σ 3 i < 401 := h 3 i
theorem rzM_3 {σ : Zt} (h : rgM σ) {i : Nat} {v : Int} (h1 : 0 ≤ v) (h2 : v < 401) : rgM (zu σ 3 i v) := rgM_zu h ⟨h1, h2⟩
theorem rgM_4 {σ : Zt} (h : rgM σ) (i : Nat) : 0 ≤ σ 4 i ∧ σ 4 i < 4 := h 4 i
theorem rzM_4 {σ : Zt} (h : rgM σ) {i : Nat} {v : Int} (h1 : 0 ≤ v) (h2 : v < 4) : rgM (zu σ 4 i v) := rgM_zu h ⟨h1, h2⟩
theorem rgM_5 {σ : Zt} (h : rgM σ) (i : Nat) : 0 ≤ σ 5 i ∧ σ 5 i < 127 := h 5 i
theorem rzM_5 {σ : Zt} (h : rgM σ) {i : Nat} {v : Int} (h1 : 0 ≤ v) (h2 : v < 127) : rgM (zu σ 5 i v) := rgM_zu h ⟨h1, h2⟩
theorem rgM_6 {σ : Zt} (h : rgM σ) (i : Nat) : 0 ≤ σ 6 i ∧ σ 6 i < 400 := h 6 i
theorem rzM_6 {σ : Zt} (h : rgM σ) {i : Nat} {v : Int} (h1 : 0 ≤ v) (h2 : v < 400) : rgM (zu σ 6 i v) := rgM_zu h ⟨h1, h2⟩
theorem rgM_7 {σ : Zt} (h : rgM σ) (i : Nat) : -1 ≤ σ 7 i ∧ σ 7 i < 400 := h 7 i
theorem rzM_7 {σ : Zt} (h : rgM σ) {i : Nat} {v : Int} (h1 : -1 ≤ v) (h2 : v < 400) : rgM (zu σ 7 i v) := rgM_zu h ⟨h1, h2⟩
theorem rgM_8 {σ : Zt} (h : rgM σ) (i : Nat) : 0 ≤ σ 8 i ∧ σ 8 i < 2 := h 8 i
theorem rzM_8 {σ : Zt} (h : rgM σ) {i : Nat} {v : Int} (h1 : 0 ≤ v) (h2 : v < 2) : rgM (zu σ 8 i v) := rgM_zu h ⟨h1, h2⟩
theorem rgM_9 {σ : Zt} (h : rgM σ) (i : Nat) : 0 ≤ σ 9 i ∧ σ 9 i < 2 := h 9 i
theorem rzM_9 {σ : Zt} (h : rgM σ) {i : Nat} {v : Int} (h1 : 0 ≤ v) (h2 : v < 2) : rgM (zu σ 9 i v) := rgM_zu h ⟨h1, h2⟩
theorem rgM_10 {σ : Zt} (h : rgM σ) (i : Nat) : 0 ≤ σ 10 i ∧ σ 10 i < 13 := h 10 i
theorem rzM_10 {σ : Zt} (h : rgM σ) {i : Nat} {v : Int} (h1 : 0 ≤ v) (h2 : v < 13) : rgM (zu σ 10 i v) := rgM_zu h ⟨h1, h2⟩
theorem rgM_11 {σ : Zt} (h : rgM σ) (i : Nat) : 0 ≤ σ 11 i ∧ σ 11 i < 4096 := h 11 i
theorem rzM_11 {σ : Zt} (h : rgM σ) {i : Nat} {v : Int} (h1 : 0 ≤ v) (h2 : v < 4096) : rgM (zu σ 11 i v) := rgM_zu h ⟨h1, h2⟩
theorem rgM_12 {σ : Zt} (h : rgM σ) (i : Nat) : 0 ≤ σ 12 i ∧ σ 12 i < 6 := h 12 i
theorem rzM_12 {σ : Zt} (h : rgM σ) {i : Nat} {v : Int} (h1 : 0 ≤ v) (h2 : v < 6) : rgM (zu σ 12 i v) := rgM_zu h ⟨h1, h2⟩
theorem rgM_13 {σ : Zt} (h : rgM σ) (i : Nat) : 0 ≤ σ 13 i ∧ σ 13 i < 512 := h 13 i
theorem rzM_13 {σ : Zt} (h : rgM σ) {i : Nat} {v : Int} (h1 : 0 ≤ v) (h2 : v < 512) : rgM (zu σ 13 i v) := rgM_zu h ⟨h1, h2⟩
theorem rgM_14 {σ : Zt} (h : rgM σ) (i : Nat) : 0 ≤ σ 14 i ∧ σ 14 i < 400 := h 14 i
theorem rzM_14 {σ : Zt} (h : rgM σ) {i : Nat} {v : Int} (h1 : 0 ≤ v) (h2 : v < 400) : rgM (zu σ 14 i v) := rgM_zu h ⟨h1, h2⟩
theorem rgM_15 {σ : Zt} (h : rgM σ) (i : Nat) : 0 ≤ σ 15 i ∧ σ 15 i < 400 := h 15 i
theorem rzM_15 {σ : Zt} (h : rgM σ) {i : Nat} {v : Int} (h1 : 0 ≤ v) (h2 : v < 400) : rgM (zu σ 15 i v) := rgM_zu h ⟨h1, h2⟩
theorem rgM_16 {σ : Zt} (h : rgM σ) (i : Nat) : 0 ≤ σ 16 i ∧ σ 16 i < 2 := h 16 i
theorem rzM_16 {σ : Zt} (h : rgM σ) {i : Nat} {v : Int} (h1 : 0 ≤ v) (h2 : v < 2) : rgM (zu σ 16 i v) := rgM_zu h ⟨h1, h2⟩
theorem rgM_17 {σ : Zt} (h : rgM σ) (i : Nat) : 0 ≤ σ 17 i ∧ σ 17 i < 2 := h 17 i
theorem rzM_17 {σ : Zt} (h : rgM σ) {i : Nat} {v : Int} (h1 : 0 ≤ v) (h2 : v < 2) : rgM (zu σ 17 i v) := rgM_zu h ⟨h1, h2⟩
theorem rgM_18 {σ : Zt} (h : rgM σ) (i : Nat) : -1 ≤ σ 18 i ∧ σ 18 i < 400 := h 18 i
theorem rzM_18 {σ : Zt} (h : rgM σ) {i : Nat} {v : Int} (h1 : -1 ≤ v) (h2 : v < 400) : rgM (zu σ 18 i v) := rgM_zu h ⟨h1, h2⟩
theorem rgM_19 {σ : Zt} (h : rgM σ) (i : Nat) : 0 ≤ σ 19 i ∧ σ 19 i < 401 := h 19 i
theorem rzM_19 {σ : Zt} (h : rgM σ) {i : Nat} {v : Int} (h1 : 0 ≤ v) (h2 : v < 401) : rgM (zu σ 19 i v) := rgM_zu h ⟨h1, h2⟩
theorem rgM_20 {σ : Zt} (h : rgM σ) (i : Nat) : 0 ≤ σ 20 i ∧ σ 20 i < 401 := h 20 i
theorem rzM_20 {σ : Zt} (h : rgM σ) {i : Nat} {v : Int} (h1 : 0 ≤ v) (h2 : v < 401) : rgM (zu σ 20 i v) := rgM_zu h ⟨h1, h2⟩
theorem rzM_21 {σ : Zt} (h : rgM σ) {i : Nat} {v : Int} : rgM (zu σ 21 i v) := rgM_zu h trivial
theorem rgM_22 {σ : Zt} (h : rgM σ) (i : Nat) : -1 ≤ σ 22 i ∧ σ 22 i < 400 := h 22 i
theorem rzM_22 {σ : Zt} (h : rgM σ) {i : Nat} {v : Int} (h1 : -1 ≤ v) (h2 : v < 400) : rgM (zu σ 22 i v) := rgM_zu h ⟨h1, h2⟩
theorem rgM_23 {σ : Zt} (h : rgM σ) (i : Nat) : 0 ≤ σ 23 i ∧ σ 23 i < 400 := h 23 i
theorem rzM_23 {σ : Zt} (h : rgM σ) {i : Nat} {v : Int} (h1 : 0 ≤ v) (h2 : v < 400) : rgM (zu σ 23 i v) := rgM_zu h ⟨h1, h2⟩
theorem rgM_24 {σ : Zt} (h : rgM σ) (i : Nat) : 0 ≤ σ 24 i ∧ σ 24 i < 6 := h 24 i
theorem rzM_24 {σ : Zt} (h : rgM σ) {i : Nat} {v : Int} (h1 : 0 ≤ v) (h2 : v < 6) : rgM (zu σ 24 i v) := rgM_zu h ⟨h1, h2⟩
theorem rgM_25 {σ : Zt} (h : rgM σ) (i : Nat) : 0 ≤ σ 25 i ∧ σ 25 i < 4096 := h 25 i
theorem rzM_25 {σ : Zt} (h : rgM σ) {i : Nat} {v : Int} (h1 : 0 ≤ v) (h2 : v < 4096) : rgM (zu σ 25 i v) := rgM_zu h ⟨h1, h2⟩
theorem rgM_26 {σ : Zt} (h : rgM σ) (i : Nat) : 0 ≤ σ 26 i ∧ σ 26 i < 6 := h 26 i
theorem rzM_26 {σ : Zt} (h : rgM σ) {i : Nat} {v : Int} (h1 : 0 ≤ v) (h2 : v < 6) : rgM (zu σ 26 i v) := rgM_zu h ⟨h1, h2⟩
theorem rgM_27 {σ : Zt} (h : rgM σ) (i : Nat) : 0 ≤ σ 27 i ∧ σ 27 i < 512 := h 27 i
theorem rzM_27 {σ : Zt} (h : rgM σ) {i : Nat} {v : Int} (h1 : 0 ≤ v) (h2 : v < 512) : rgM (zu σ 27 i v) := rgM_zu h ⟨h1, h2⟩
