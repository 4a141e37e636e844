/-! BASE: numbers as Int, a world by numbered cells, rows over it. -/
/-- an Int32 by its number -/
def jI (x : Int) : Int32 := Int32.ofInt x
theorem jI_toInt {x : Int} (h1 : -2147483648 ≤ x) (h2 : x < 2147483648) : (jI x).toInt = x := Int32.toInt_ofInt_of_le (by omega) (by omega)
theorem jI_of (x : Int32) : jI x.toInt = x := Int32.ofInt_toInt x
theorem jI_lo (x : Int32) : -2147483648 ≤ x.toInt := by have := Int32.le_toInt x; omega
theorem jI_hi (x : Int32) : x.toInt < 2147483648 := by have := Int32.toInt_lt x; omega
theorem jI_add (x y : Int) : jI x + jI y = jI (x + y) := (Int32.ofInt_add x y).symm
theorem jI_sub (x y : Int) : jI x - jI y = jI (x - y) := (Int32.ofInt_sub x y).symm
theorem jI_mul (x y : Int) : jI x * jI y = jI (x * y) := (Int32.ofInt_mul x y).symm
theorem jI_neg (x : Int) : -jI x = jI (-x) := (Int32.ofInt_neg x).symm
theorem jI_0 : jI 0 = 0 := rfl
theorem jI_lt {x y : Int} (a1 : -2147483648 ≤ x) (a2 : x < 2147483648) (b1 : -2147483648 ≤ y) (b2 : y < 2147483648) : jI x < jI y ↔ x < y := by
  rw [Int32.lt_iff_toInt_lt, jI_toInt a1 a2, jI_toInt b1 b2]
theorem jI_le {x y : Int} (a1 : -2147483648 ≤ x) (a2 : x < 2147483648) (b1 : -2147483648 ≤ y) (b2 : y < 2147483648) : jI x ≤ jI y ↔ x ≤ y := by
  rw [Int32.le_iff_toInt_le, jI_toInt a1 a2, jI_toInt b1 b2]
theorem jI_eq {x y : Int} (a1 : -2147483648 ≤ x) (a2 : x < 2147483648) (b1 : -2147483648 ≤ y) (b2 : y < 2147483648) : jI x = jI y ↔ x = y := by
  rw [← Int32.toInt_inj, jI_toInt a1 a2, jI_toInt b1 b2]
theorem jI_clamp {x : Int} (h0 : 0 ≤ x) (h2 : x < 2147483648) : (jI x).toNatClampNeg = x.toNat := by
  rw [← Int32.toNat_toInt, jI_toInt (by omega) h2]
theorem jI_in {x : Int} {n : Nat} (h0 : 0 ≤ x) (h : x < n) (hn : n < 2147483648) : vp_in (jI x) n := by
  rw [vp_in_iff, jI_toInt (by omega) (by omega)]
  exact ⟨h0, h⟩
theorem jI_nI (n : Nat) : jI (n : Int) = nI n := Int32.ofInt_eq_ofNat
theorem jI_toNat {x : Int} (h : 0 ≤ x) : jI x = nI x.toNat := by
  rw [← jI_nI, Int.toNat_of_nonneg h]
theorem jI_mod (x : Int) : jI x = jI (x % 4294967296) := by
  rw [← Int32.toInt_inj]
  unfold jI
  rw [Int32.toInt_ofInt, Int32.toInt_ofInt]
  exact (Int.emod_bmod x 4294967296).symm
/-- a truth as a number -/
def bI : Bool → Int
  | true => 1
  | false => 0
theorem bI_t : bI true = 1 := rfl
theorem bI_f : bI false = 0 := rfl
theorem bI_01 (b : Bool) : 0 ≤ bI b ∧ bI b ≤ 1 := by cases b <;> decide
theorem bI_ne (b : Bool) : bI b ≠ 0 ↔ b = true := by cases b <;> decide
theorem bI_eq (b : Bool) : bI b = 0 ↔ b = false := by cases b <;> decide
theorem jb_eq (b : Bool) : jI (bI b) = 0 ↔ b = false := by cases b <;> decide
theorem jb_ne (b : Bool) : ¬ jI (bI b) = 0 ↔ b = true := by cases b <;> decide
theorem jb_nar (b : Bool) : narrow .boolean (.int (jI (bI b))) = .int (jI (bI b)) := by cases b <;> decide
theorem jb_vnar (b : Bool) : vp_nar .boolean (jI (bI b)) = jI (bI b) := by cases b <;> decide

/-- a long by its number -/
def jL (x : Int) : Int64 := Int64.ofInt x
theorem jL_toInt {x : Int} (h1 : -2147483648 ≤ x) (h2 : x < 2147483648) : (jL x).toInt = x := Int64.toInt_ofInt_of_le (by omega) (by omega)
theorem jI_toL {x : Int} (h1 : -2147483648 ≤ x) (h2 : x < 2147483648) : (jI x).toInt64 = jL x := by
  rw [← Int64.toInt_inj, Int32.toInt_toInt64, jI_toInt h1 h2, jL_toInt h1 h2]
/-- as lcmp tells -/
def cmpI (x y : Int) : Int := if y < x then 1 else if x = y then 0 else -1
theorem cmpI_rg (x y : Int) : -1 ≤ cmpI x y ∧ cmpI x y ≤ 1 ∧ (0 < cmpI x y ↔ y < x) ∧ (cmpI x y < 0 ↔ x < y) := by
  unfold cmpI
  split
  · omega
  · split <;> omega
/-- what a world holds: cell k, number i -/
abbrev Zt : Type := Nat → Nat → Int
def zu (σ : Zt) (k i : Nat) (v : Int) : Zt := fun k' => if k' = k then (fun j => if j = i then v else σ k j) else σ k'
theorem zu_same (σ : Zt) (k i : Nat) (v : Int) : zu σ k i v k i = v := by simp [zu]
theorem zu_row (σ : Zt) (k i : Nat) (v : Int) : zu σ k i v k = fun j => if j = i then v else σ k j := by simp [zu]
theorem zu_ne {σ : Zt} {k k' i : Nat} {v : Int} (h : k' ≠ k) : zu σ k i v k' = σ k' := by simp [zu, h]
theorem zu_nj {σ : Zt} {k i j : Nat} {v : Int} (h : j ≠ i) : zu σ k i v k j = σ k j := by simp [zu, h]
/-- the world by numbers: cell k lies at a k and holds what the layout says of its row -/
def zw (N : Nat) (lay : Nat → (Nat → Int) → va_E) (a : Nat → Nat) (σ : Zt) : va_W := (List.range N).map (fun k => (a k, lay k (σ k)))
theorem zw_get {N : Nat} {lay : Nat → (Nat → Int) → va_E} {a : Nat → Nat} {σ : Zt} {k : Nat} (h : k < N) : (zw N lay a σ)[k]? = some (a k, lay k (σ k)) := by
  simp [zw, h]
theorem zw_len {N : Nat} {lay : Nat → (Nat → Int) → va_E} {a : Nat → Nat} {σ : Zt} : (zw N lay a σ).length = N := by simp [zw]
theorem zw_none {N : Nat} {lay : Nat → (Nat → Int) → va_E} {a : Nat → Nat} {σ : Zt} {k : Nat} (h : ¬ k < N) : (zw N lay a σ)[k]? = none := by
  rw [List.getElem?_eq_none_iff, zw_len]; omega
theorem zw_inv {N : Nat} {lay : Nat → (Nat → Int) → va_E} {a : Nat → Nat} {σ : Zt} {k : Nat} {q : Nat × va_E} (h : (zw N lay a σ)[k]? = some q) : k < N ∧ q = (a k, lay k (σ k)) := by
  by_cases hk : k < N
  · rw [zw_get hk] at h
    exact ⟨hk, (Option.some.inj h).symm⟩
  · rw [zw_none hk] at h
    cases h
theorem zw_set {N : Nat} {lay : Nat → (Nat → Int) → va_E} {a : Nat → Nat} {σ : Zt} {k i : Nat} {v : Int} {e : va_E} (h : k < N) (he : lay k (fun j => if j = i then v else σ k j) = e) : (zw N lay a σ).set k (a k, e) = zw N lay a (zu σ k i v) := by
  apply List.ext_getElem?
  intro j
  rw [List.getElem?_set]
  by_cases hj : k = j
  · subst hj
    rw [if_pos rfl, if_pos (by rw [zw_len]; exact h), zw_get h, zu_row, he]
  · rw [if_neg hj]
    by_cases hN : j < N
    · rw [zw_get hN, zw_get hN, zu_ne (fun q => hj q.symm)]
    · rw [zw_none hN, zw_none hN]
/-- the world's constants: classes and arrays as the tables have them; the addresses are apart, and in A -/
def zx (D : va_G) (cl : List vw_C) (tys : List (ClassId × FieldType)) (A : Nat → Prop) (a : Nat → Nat) (N : Nat) (s : State) : Prop :=
  va_K D cl tys s ∧ (∀ i j, i < N → j < N → a i = a j → i = j) ∧ (∀ i, i < N → A (a i)) ∧ ∀ q, s.heap.size ≤ q → A q
theorem zw_D {A : Nat → Prop} {a : Nat → Nat} {N : Nat} {lay : Nat → (Nat → Int) → va_E} {σ : Zt} (h1 : ∀ i j, i < N → j < N → a i = a j → i = j) (h2 : ∀ i, i < N → A (a i)) : va_D A (zw N lay a σ) := by
  refine ⟨fun i j p q hi hj e => ?_, fun k q hk => ?_⟩
  · obtain ⟨i1, rfl⟩ := zw_inv hi
    obtain ⟨j1, rfl⟩ := zw_inv hj
    exact h1 i j i1 j1 e
  · obtain ⟨k1, rfl⟩ := zw_inv hk
    exact h2 k k1
theorem zx.D {D : va_G} {cl : List vw_C} {tys : List (ClassId × FieldType)} {A : Nat → Prop} {a : Nat → Nat} {N : Nat} {s : State} {lay : Nat → (Nat → Int) → va_E} (h : zx D cl tys A a N s) (σ : Zt) : va_D A (zw N lay a σ) := zw_D h.2.1 h.2.2.1
theorem zw_Dinv {A : Nat → Prop} {a : Nat → Nat} {N : Nat} {lay : Nat → (Nat → Int) → va_E} {σ : Zt} (h : va_D A (zw N lay a σ)) : (∀ i j, i < N → j < N → a i = a j → i = j) ∧ ∀ i, i < N → A (a i) :=
  ⟨fun i j hi hj e => h.1 i j _ _ (zw_get hi) (zw_get hj) e, fun i hi => h.2 i _ (zw_get hi)⟩
theorem zw_A {a : Nat → Nat} {N sz : Nat} {lay : Nat → (Nat → Int) → va_E} {σ : Zt} {q : Nat} : va_A (zw N lay a σ) sz q ↔ (∃ k, k < N ∧ q = a k) ∨ sz ≤ q := by
  constructor
  · rintro (⟨k, e, h⟩ | h)
    · obtain ⟨k1, h2⟩ := zw_inv h
      exact Or.inl ⟨k, k1, (Prod.mk.inj h2).1⟩
    · exact Or.inr h
  · rintro (⟨k, k1, rfl⟩ | h)
    · exact Or.inl ⟨k, _, zw_get k1⟩
    · exact Or.inr h
/-- a contract over the world: an answer that is an int -/
def zc (l : Launch) (D : va_G) (cl : List vw_C) (tys : List (ClassId × FieldType)) (N : Nat) (lay : Nat → (Nat → Int) → va_E) (a : Nat → Nat) (y : MethodName) (ws : List Cond) (rm : Room) (av : List Value) (σ : Zt) (post : Int32 → Zt → Prop) : Prop :=
  ∀ sz : Nat, Met l y ws rm (va_Pc av (fun U => U.heap.size = sz ∧ va_P D cl (zw N lay a σ) U.heap ∧ va_K D cl tys U ∧ va_D (fun _ => True) (zw N lay a σ)))
    (va_Qi post (fun (u : Zt) t => va_P D cl (zw N lay a u) t.heap) (va_A (zw N lay a σ) sz)) 0 0 (va_A (zw N lay a σ) sz)
/-- no answer -/
def zv (l : Launch) (D : va_G) (cl : List vw_C) (tys : List (ClassId × FieldType)) (N : Nat) (lay : Nat → (Nat → Int) → va_E) (a : Nat → Nat) (y : MethodName) (ws : List Cond) (rm : Room) (av : List Value) (σ : Zt) (post : Zt → Prop) : Prop :=
  ∀ sz : Nat, Met l y ws rm (va_Pc av (fun U => U.heap.size = sz ∧ va_P D cl (zw N lay a σ) U.heap ∧ va_K D cl tys U ∧ va_D (fun _ => True) (zw N lay a σ)))
    (va_Qv post (fun (u : Zt) t => va_P D cl (zw N lay a u) t.heap) (va_A (zw N lay a σ) sz)) 0 0 (va_A (zw N lay a σ) sz)
/-- the method's constants -/
def zk (p : Program) (s : State) (m : MethodId) (args : Array Value) (meth : Method) (c : Code) (cc : ByteArray) (nL : Nat) (ret : Option FieldType) (Ts : List Cond) (own : String) : Prop :=
  CallFix p m c cc nL s args Ts own ∧ meth.sig.returnType = ret ∧ meth.locks = false
theorem zk.ts {p : Program} {s : State} {m : MethodId} {args : Array Value} {meth : Method} {c : Code} {cc : ByteArray} {nL : Nat} {ret : Option FieldType} {Ts : List Cond} {own : String} (C : zk p s m args meth c cc nL ret Ts own) : ∀ w ∈ Ts, w.before args s = true := C.1.2.2.2.2
theorem zk.tb {p : Program} {s : State} {m : MethodId} {args : Array Value} {meth : Method} {c : Code} {cc : ByteArray} {nL : Nat} {ret : Option FieldType} {c0 : Cond} {own : String} (C : zk p s m args meth c cc nL ret (c0 :: zt) own) {w : Cond} (h : w ∈ zt) : w.before args s = true := C.1.2.2.2.2 w (List.mem_cons_of_mem _ h)
theorem zmem {c0 : Cond} {l : List Cond} (h : ∀ w ∈ l, w ∈ zt) : ∀ w ∈ l, w ∈ c0 :: zt := fun w q => List.mem_cons_of_mem _ (h w q)
/-- words of a call: an object's method, a static one -/
theorem zgV {c0 c1 : Cond} {own Cn : String} {idx : Nat} {y : MethodName} (h1 : Cond.methodLink own idx y ∈ zt) (h2 : Cond.instanceMethod y ∈ zt) (h3 : Cond.selects Cn y y ∈ zt) (h4 : Cond.initialized Cn ∈ zt) (h5 : c1 ∈ zt) : GoodIn (c0 :: zt) (wsV own idx Cn y (c1 :: zt)) := by
  have k : ∀ w ∈ wsV own idx Cn y (c1 :: zt), w ∈ zt := by
    intro w hw
    simp only [wsV, List.mem_append, List.mem_cons, List.not_mem_nil, or_false] at hw
    rcases hw with (rfl | rfl | rfl | rfl) | rfl | hw <;> assumption
  exact fun w hw => ⟨List.mem_cons_of_mem _ (k w hw), zt_good (k w hw)⟩
theorem zgS {c0 c1 : Cond} {own : String} {idx : Nat} {y : MethodName} (h1 : Cond.methodLink own idx y ∈ zt) (h2 : Cond.static y ∈ zt) (h4 : Cond.initialized own ∈ zt) (h5 : c1 ∈ zt) : GoodIn (c0 :: zt) (wsS own idx y (c1 :: zt)) := by
  have k : ∀ w ∈ wsS own idx y (c1 :: zt), w ∈ zt := by
    intro w hw
    simp only [wsS, List.mem_append, List.mem_cons, List.not_mem_nil, or_false] at hw
    rcases hw with (rfl | rfl | rfl) | rfl | hw <;> assumption
  exact fun w hw => ⟨List.mem_cons_of_mem _ (k w hw), zt_good (k w hw)⟩
theorem zgI {c0 c1 : Cond} (h5 : c1 ∈ zt) : GoodIn (c0 :: zt) (c1 :: zt) := by
  have k : ∀ w ∈ c1 :: zt, w ∈ zt := fun w hw => (List.mem_cons.mp hw).elim (fun e => e ▸ h5) id
  exact fun w hw => ⟨List.mem_cons_of_mem _ (k w hw), zt_good (k w hw)⟩
section ZG
variable {p : Program} {l : Launch} {e : Env} {R : Room} {s : State} {m : MethodId} {args : Array Value} {below : List Frame} {meth : Method} {c : Code} {H : Heap} {locs : List Loc} {cells slots : Nat} {Q : State → Prop}
variable {cc : ByteArray} {pc : Nat} {ls : Array Slot} {rest : List Value} {nL : Nat} {ret : Option FieldType} {Ts : List Cond} {own : String}
variable {D : va_G} {cl : List vw_C} {tys : List (ClassId × FieldType)} {A : Nat → Prop} {a : Nat → Nat} {N : Nat} {lay : Nat → (Nat → Int) → va_E} {σ : Zt}
theorem zg_iconst {n : Int} (C : zk p s m args meth c cc nL ret Ts own) (hdg : decode cc pc = .ok (.iconst n, 1))
    (k : W p l e R s m args below meth c H locs cells slots Q (F0 m (pc + 1) ls (.int (jI n) :: rest))) : W p l e R s m args below meth c H locs cells slots Q (F0 m pc ls rest) := lv_iconst C.1.1 C.1.2.1 hdg rfl k
theorem zg_bipush {n : Int} (C : zk p s m args meth c cc nL ret Ts own) (hdg : decode cc pc = .ok (.bipush n, 2)) (hv : (Int8.ofInt n).toInt32 = jI n)
    (k : W p l e R s m args below meth c H locs cells slots Q (F0 m (pc + 2) ls (.int (jI n) :: rest))) : W p l e R s m args below meth c H locs cells slots Q (F0 m pc ls rest) := lv_bipush C.1.1 C.1.2.1 hdg hv k
theorem zg_sipush {n : Int} (C : zk p s m args meth c cc nL ret Ts own) (hdg : decode cc pc = .ok (.sipush n, 3)) (hv : (Int16.ofInt n).toInt32 = jI n)
    (k : W p l e R s m args below meth c H locs cells slots Q (F0 m (pc + 3) ls (.int (jI n) :: rest))) : W p l e R s m args below meth c H locs cells slots Q (F0 m pc ls rest) := lv_sipush C.1.1 C.1.2.1 hdg hv k
theorem zg_iadd {x y : Int} (C : zk p s m args meth c cc nL ret Ts own) (hdg : decode cc pc = .ok (.iadd, 1))
    (k : W p l e R s m args below meth c H locs cells slots Q (F0 m (pc + 1) ls (.int (jI (x + y)) :: rest))) : W p l e R s m args below meth c H locs cells slots Q (F0 m pc ls (.int (jI y) :: .int (jI x) :: rest)) := lv_iadd C.1.1 C.1.2.1 hdg (by rw [jI_add]; exact k)
theorem zg_isub {x y : Int} (C : zk p s m args meth c cc nL ret Ts own) (hdg : decode cc pc = .ok (.isub, 1))
    (k : W p l e R s m args below meth c H locs cells slots Q (F0 m (pc + 1) ls (.int (jI (x - y)) :: rest))) : W p l e R s m args below meth c H locs cells slots Q (F0 m pc ls (.int (jI y) :: .int (jI x) :: rest)) := lv_isub C.1.1 C.1.2.1 hdg (by rw [jI_sub]; exact k)
theorem zg_imul {x y : Int} (C : zk p s m args meth c cc nL ret Ts own) (hdg : decode cc pc = .ok (.imul, 1))
    (k : W p l e R s m args below meth c H locs cells slots Q (F0 m (pc + 1) ls (.int (jI (x * y)) :: rest))) : W p l e R s m args below meth c H locs cells slots Q (F0 m pc ls (.int (jI y) :: .int (jI x) :: rest)) := lv_imul C.1.1 C.1.2.1 hdg (by rw [jI_mul]; exact k)
theorem zg_irem {x y : Int} (C : zk p s m args meth c cc nL ret Ts own) (x0 : 0 ≤ x) (x1 : x < 2147483648) (y0 : 0 < y) (y1 : y < 2147483648) (hdg : decode cc pc = .ok (.irem, 1))
    (k : W p l e R s m args below meth c H locs cells slots Q (F0 m (pc + 1) ls (.int (jI (x % y)) :: rest))) : W p l e R s m args below meth c H locs cells slots Q (F0 m pc ls (.int (jI y) :: .int (jI x) :: rest)) := by
  have h1 : jI (x % y) = jI x - jI x / jI y * jI y := by
    rw [jI_toNat x0, jI_toNat (Int.le_of_lt y0), pk_rem (by omega) (by omega) (by omega), jI_toNat (Int.emod_nonneg x (by omega)), Int.toNat_emod x0 (Int.le_of_lt y0)]
  rw [h1] at k
  exact lv_irem C.1.1 C.1.2.1 hdg (fun h => by rw [← jI_0, jI_eq (by omega) y1 (by omega) (by omega)] at h; omega) k
theorem zg_iushr {x z : Int} (C : zk p s m args meth c cc nL ret Ts own) (n : Nat) (hs : (((jI z).toUInt32 &&& Int32.toUInt32 31).toBitVec % 32).toNat = n) (hdg : decode cc pc = .ok (.iushr, 1))
    (k : W p l e R s m args below meth c H locs cells slots Q (F0 m (pc + 1) ls (.int (jI (x % 4294967296 / 2 ^ n)) :: rest))) : W p l e R s m args below meth c H locs cells slots Q (F0 m pc ls (.int (jI z) :: .int (jI x) :: rest)) := by
  have h0 : 0 ≤ x % 4294967296 := Int.emod_nonneg x (by omega)
  have h1 : x % 4294967296 < 4294967296 := Int.emod_lt_of_pos x (by omega)
  refine lv_iushr C.1.1 C.1.2.1 hdg ?_ k
  rw [jI_mod x, jI_toNat h0, pk_ushrN (by omega) (jI z) n hs, ← jI_nI]
  congr 1
  rw [Int.natCast_ediv, Int.toNat_of_nonneg h0]
  simp
theorem zg_iand {x z : Int} (C : zk p s m args meth c cc nL ret Ts own) (n : Nat) (hs : (jI z).toBitVec.toNat = 2 ^ n - 1) (x0 : 0 ≤ x) (x1 : x < 2147483648) (hdg : decode cc pc = .ok (.iand, 1))
    (k : W p l e R s m args below meth c H locs cells slots Q (F0 m (pc + 1) ls (.int (jI (x % 2 ^ n)) :: rest))) : W p l e R s m args below meth c H locs cells slots Q (F0 m pc ls (.int (jI z) :: .int (jI x) :: rest)) := by
  refine lv_iand C.1.1 C.1.2.1 hdg ?_
  rw [jI_toNat x0, pk_andN (by omega) n hs, ← jI_nI]
  have h2 : ((x.toNat % 2 ^ n : Nat) : Int) = x % 2 ^ n := by
    rw [Int.natCast_emod, Int.toNat_of_nonneg x0]; simp
  rw [h2]
  exact k
theorem zg_shl {x z : Int} (C : zk p s m args meth c cc nL ret Ts own) (n : Nat) (hs : ((jI z &&& 31).toBitVec.smod 32).toNat = n) (x0 : 0 ≤ x) (x1 : x * 2 ^ n < 4294967296) (hdg : decode cc pc = .ok (.ishl, 1))
    (k : W p l e R s m args below meth c H locs cells slots Q (F0 m (pc + 1) ls (.int (jI (x * 2 ^ n)) :: rest))) : W p l e R s m args below meth c H locs cells slots Q (F0 m pc ls (.int (jI z) :: .int (jI x) :: rest)) := by
  refine lv_ishl C.1.1 C.1.2.1 hdg ?_
  have h3 : ((x.toNat * 2 ^ n : Nat) : Int) = x * 2 ^ n := by
    rw [Int.natCast_mul, Int.toNat_of_nonneg x0]; simp
  rw [jI_toNat x0, pk_shlN (jI z &&& 31) n hs (by omega), ← jI_nI, h3]
  exact k
theorem zg_or {x y : Int} (C : zk p s m args meth c cc nL ret Ts own) (n : Nat) (w : Int) (w0 : 0 ≤ w) (hx : x = w * 2 ^ n) (hy0 : 0 ≤ y) (hy1 : y < 2 ^ n) (hb : x + y < 2147483648) (hdg : decode cc pc = .ok (.ior, 1))
    (k : W p l e R s m args below meth c H locs cells slots Q (F0 m (pc + 1) ls (.int (jI (x + y)) :: rest))) : W p l e R s m args below meth c H locs cells slots Q (F0 m pc ls (.int (jI y) :: .int (jI x) :: rest)) := by
  refine lv_ior C.1.1 C.1.2.1 hdg ?_
  have hp : (0 : Int) < 2 ^ n := Int.pow_pos (by omega)
  have x0 : 0 ≤ x := by rw [hx]; exact Int.mul_nonneg w0 (Int.le_of_lt hp)
  have e1 : x.toNat = 2 ^ n * w.toNat := by
    have h : ((x.toNat : Nat) : Int) = ((2 ^ n * w.toNat : Nat) : Int) := by
      rw [Int.toNat_of_nonneg x0, Int.natCast_mul, Int.toNat_of_nonneg w0, hx, Int.mul_comm]; simp
    exact Int.ofNat.inj h
  have e2 : y.toNat < 2 ^ n := by
    have h : ((y.toNat : Nat) : Int) < ((2 ^ n : Nat) : Int) := by
      rw [Int.toNat_of_nonneg hy0]; simpa using hy1
    exact Int.ofNat_lt.mp h
  have h1 : jI x ||| jI y = jI (x + y) := by
    rw [jI_toNat x0, jI_toNat hy0, jI_toNat (by omega), Int.toNat_add x0 hy0, e1, Nat.two_pow_add_eq_or_of_lt e2]
    apply Int32.toBitVec_inj.mp
    show (BitVec.ofNat 32 _) ||| (BitVec.ofNat 32 _) = BitVec.ofNat 32 _
    rw [BitVec.ofNat_or]
  rw [h1]
  exact k
theorem zg_orr {x y : Int} (C : zk p s m args meth c cc nL ret Ts own) (n : Nat) (w : Int) (w0 : 0 ≤ w) (hy : y = w * 2 ^ n) (hx0 : 0 ≤ x) (hx1 : x < 2 ^ n) (hb : x + y < 2147483648) (hdg : decode cc pc = .ok (.ior, 1))
    (k : W p l e R s m args below meth c H locs cells slots Q (F0 m (pc + 1) ls (.int (jI (x + y)) :: rest))) : W p l e R s m args below meth c H locs cells slots Q (F0 m pc ls (.int (jI y) :: .int (jI x) :: rest)) := by
  refine lv_ior C.1.1 C.1.2.1 hdg ?_
  have hp : (0 : Int) < 2 ^ n := Int.pow_pos (by omega)
  have y0 : 0 ≤ y := by rw [hy]; exact Int.mul_nonneg w0 (Int.le_of_lt hp)
  have e1 : y.toNat = 2 ^ n * w.toNat := by
    have h : ((y.toNat : Nat) : Int) = ((2 ^ n * w.toNat : Nat) : Int) := by
      rw [Int.toNat_of_nonneg y0, Int.natCast_mul, Int.toNat_of_nonneg w0, hy, Int.mul_comm]; simp
    exact Int.ofNat.inj h
  have e2 : x.toNat < 2 ^ n := by
    have h : ((x.toNat : Nat) : Int) < ((2 ^ n : Nat) : Int) := by
      rw [Int.toNat_of_nonneg hx0]; simpa using hx1
    exact Int.ofNat_lt.mp h
  have h1 : jI x ||| jI y = jI (x + y) := by
    rw [jI_toNat hx0, jI_toNat y0, jI_toNat (by omega), Int.toNat_add hx0 y0, e1, Nat.add_comm, Nat.two_pow_add_eq_or_of_lt e2, Nat.or_comm]
    apply Int32.toBitVec_inj.mp
    show (BitVec.ofNat 32 _) ||| (BitVec.ofNat 32 _) = BitVec.ofNat 32 _
    rw [BitVec.ofNat_or]
  rw [h1]
  exact k
-- branches
theorem zg_ifeqB {b : Bool} {off : Int} {tgt : Nat} (C : zk p s m args meth c cc nL ret Ts own) (hdg : decode cc pc = .ok (.ifCond .eq off, 3)) (ht : (pc : Int) + off = (tgt : Int))
    (kt : b = false → W p l e R s m args below meth c H locs cells slots Q (F0 m tgt ls rest)) (kf : b = true → W p l e R s m args below meth c H locs cells slots Q (F0 m (pc + 3) ls rest)) : W p l e R s m args below meth c H locs cells slots Q (F0 m pc ls (.int (jI (bI b)) :: rest)) :=
  lv_if_eq C.1.1 C.1.2.1 hdg ht (fun h => kt ((jb_eq b).mp h)) (fun h => kf ((jb_ne b).mp h))
theorem zg_ifneB {b : Bool} {off : Int} {tgt : Nat} (C : zk p s m args meth c cc nL ret Ts own) (hdg : decode cc pc = .ok (.ifCond .ne off, 3)) (ht : (pc : Int) + off = (tgt : Int))
    (kt : b = true → W p l e R s m args below meth c H locs cells slots Q (F0 m tgt ls rest)) (kf : b = false → W p l e R s m args below meth c H locs cells slots Q (F0 m (pc + 3) ls rest)) : W p l e R s m args below meth c H locs cells slots Q (F0 m pc ls (.int (jI (bI b)) :: rest)) :=
  lv_if_ne C.1.1 C.1.2.1 hdg ht (fun h => kt ((jb_ne b).mp h)) (fun h => kf ((jb_eq b).mp h))
theorem zg_icmp_eq {x y : Int} {off : Int} {tgt : Nat} (C : zk p s m args meth c cc nL ret Ts own) (x1 : -2147483648 ≤ x) (x2 : x < 2147483648) (y1 : -2147483648 ≤ y) (y2 : y < 2147483648) (hdg : decode cc pc = .ok (.if_icmp .eq off, 3)) (ht : (pc : Int) + off = (tgt : Int))
    (kt : x = y → W p l e R s m args below meth c H locs cells slots Q (F0 m tgt ls rest)) (kf : x ≠ y → W p l e R s m args below meth c H locs cells slots Q (F0 m (pc + 3) ls rest)) : W p l e R s m args below meth c H locs cells slots Q (F0 m pc ls (.int (jI y) :: .int (jI x) :: rest)) :=
  lv_icmp_eq C.1.1 C.1.2.1 hdg ht (fun h => kt ((jI_eq x1 x2 y1 y2).mp h)) (fun h => kf (fun q => h (by rw [q])))
theorem zg_if_eq {x : Int} {off : Int} {tgt : Nat} (C : zk p s m args meth c cc nL ret Ts own) (x1 : -2147483648 ≤ x) (x2 : x < 2147483648) (hdg : decode cc pc = .ok (.ifCond .eq off, 3)) (ht : (pc : Int) + off = (tgt : Int))
    (kt : x = 0 → W p l e R s m args below meth c H locs cells slots Q (F0 m tgt ls rest)) (kf : x ≠ 0 → W p l e R s m args below meth c H locs cells slots Q (F0 m (pc + 3) ls rest)) : W p l e R s m args below meth c H locs cells slots Q (F0 m pc ls (.int (jI x) :: rest)) :=
  lv_if_eq C.1.1 C.1.2.1 hdg ht (fun h => kt ((jI_eq x1 x2 (by omega) (by omega)).mp h)) (fun h => kf (fun q => h (by rw [q]; rfl)))
theorem zg_icmp_ne {x y : Int} {off : Int} {tgt : Nat} (C : zk p s m args meth c cc nL ret Ts own) (x1 : -2147483648 ≤ x) (x2 : x < 2147483648) (y1 : -2147483648 ≤ y) (y2 : y < 2147483648) (hdg : decode cc pc = .ok (.if_icmp .ne off, 3)) (ht : (pc : Int) + off = (tgt : Int))
    (kt : x ≠ y → W p l e R s m args below meth c H locs cells slots Q (F0 m tgt ls rest)) (kf : x = y → W p l e R s m args below meth c H locs cells slots Q (F0 m (pc + 3) ls rest)) : W p l e R s m args below meth c H locs cells slots Q (F0 m pc ls (.int (jI y) :: .int (jI x) :: rest)) :=
  lv_icmp_ne C.1.1 C.1.2.1 hdg ht (fun h => kt (fun q => h (by rw [q]))) (fun h => kf ((jI_eq x1 x2 y1 y2).mp h))
theorem zg_if_ne {x : Int} {off : Int} {tgt : Nat} (C : zk p s m args meth c cc nL ret Ts own) (x1 : -2147483648 ≤ x) (x2 : x < 2147483648) (hdg : decode cc pc = .ok (.ifCond .ne off, 3)) (ht : (pc : Int) + off = (tgt : Int))
    (kt : x ≠ 0 → W p l e R s m args below meth c H locs cells slots Q (F0 m tgt ls rest)) (kf : x = 0 → W p l e R s m args below meth c H locs cells slots Q (F0 m (pc + 3) ls rest)) : W p l e R s m args below meth c H locs cells slots Q (F0 m pc ls (.int (jI x) :: rest)) :=
  lv_if_ne C.1.1 C.1.2.1 hdg ht (fun h => kt (fun q => h (by rw [q]; rfl))) (fun h => kf ((jI_eq x1 x2 (by omega) (by omega)).mp h))
theorem zg_icmp_lt {x y : Int} {off : Int} {tgt : Nat} (C : zk p s m args meth c cc nL ret Ts own) (x1 : -2147483648 ≤ x) (x2 : x < 2147483648) (y1 : -2147483648 ≤ y) (y2 : y < 2147483648) (hdg : decode cc pc = .ok (.if_icmp .lt off, 3)) (ht : (pc : Int) + off = (tgt : Int))
    (kt : x < y → W p l e R s m args below meth c H locs cells slots Q (F0 m tgt ls rest)) (kf : y ≤ x → W p l e R s m args below meth c H locs cells slots Q (F0 m (pc + 3) ls rest)) : W p l e R s m args below meth c H locs cells slots Q (F0 m pc ls (.int (jI y) :: .int (jI x) :: rest)) :=
  lv_icmp_lt C.1.1 C.1.2.1 hdg ht (fun h => kt ((jI_lt x1 x2 y1 y2).mp h)) (fun h => kf (Int.not_lt.mp (fun q => h ((jI_lt x1 x2 y1 y2).mpr q))))
theorem zg_if_lt {x : Int} {off : Int} {tgt : Nat} (C : zk p s m args meth c cc nL ret Ts own) (x1 : -2147483648 ≤ x) (x2 : x < 2147483648) (hdg : decode cc pc = .ok (.ifCond .lt off, 3)) (ht : (pc : Int) + off = (tgt : Int))
    (kt : x < 0 → W p l e R s m args below meth c H locs cells slots Q (F0 m tgt ls rest)) (kf : 0 ≤ x → W p l e R s m args below meth c H locs cells slots Q (F0 m (pc + 3) ls rest)) : W p l e R s m args below meth c H locs cells slots Q (F0 m pc ls (.int (jI x) :: rest)) :=
  lv_if_lt C.1.1 C.1.2.1 hdg ht (fun h => kt ((jI_lt x1 x2 (by omega) (by omega)).mp h)) (fun h => kf (Int.not_lt.mp (fun q => h ((jI_lt x1 x2 (by omega) (by omega)).mpr q))))
theorem zg_icmp_ge {x y : Int} {off : Int} {tgt : Nat} (C : zk p s m args meth c cc nL ret Ts own) (x1 : -2147483648 ≤ x) (x2 : x < 2147483648) (y1 : -2147483648 ≤ y) (y2 : y < 2147483648) (hdg : decode cc pc = .ok (.if_icmp .ge off, 3)) (ht : (pc : Int) + off = (tgt : Int))
    (kt : y ≤ x → W p l e R s m args below meth c H locs cells slots Q (F0 m tgt ls rest)) (kf : x < y → W p l e R s m args below meth c H locs cells slots Q (F0 m (pc + 3) ls rest)) : W p l e R s m args below meth c H locs cells slots Q (F0 m pc ls (.int (jI y) :: .int (jI x) :: rest)) :=
  lv_icmp_ge C.1.1 C.1.2.1 hdg ht (fun h => kt ((jI_le y1 y2 x1 x2).mp h)) (fun h => kf (Int.not_le.mp (fun q => h ((jI_le y1 y2 x1 x2).mpr q))))
theorem zg_if_ge {x : Int} {off : Int} {tgt : Nat} (C : zk p s m args meth c cc nL ret Ts own) (x1 : -2147483648 ≤ x) (x2 : x < 2147483648) (hdg : decode cc pc = .ok (.ifCond .ge off, 3)) (ht : (pc : Int) + off = (tgt : Int))
    (kt : 0 ≤ x → W p l e R s m args below meth c H locs cells slots Q (F0 m tgt ls rest)) (kf : x < 0 → W p l e R s m args below meth c H locs cells slots Q (F0 m (pc + 3) ls rest)) : W p l e R s m args below meth c H locs cells slots Q (F0 m pc ls (.int (jI x) :: rest)) :=
  lv_if_ge C.1.1 C.1.2.1 hdg ht (fun h => kt ((jI_le (by omega) (by omega) x1 x2).mp h)) (fun h => kf (Int.not_le.mp (fun q => h ((jI_le (by omega) (by omega) x1 x2).mpr q))))
theorem zg_icmp_gt {x y : Int} {off : Int} {tgt : Nat} (C : zk p s m args meth c cc nL ret Ts own) (x1 : -2147483648 ≤ x) (x2 : x < 2147483648) (y1 : -2147483648 ≤ y) (y2 : y < 2147483648) (hdg : decode cc pc = .ok (.if_icmp .gt off, 3)) (ht : (pc : Int) + off = (tgt : Int))
    (kt : y < x → W p l e R s m args below meth c H locs cells slots Q (F0 m tgt ls rest)) (kf : x ≤ y → W p l e R s m args below meth c H locs cells slots Q (F0 m (pc + 3) ls rest)) : W p l e R s m args below meth c H locs cells slots Q (F0 m pc ls (.int (jI y) :: .int (jI x) :: rest)) :=
  lv_icmp_gt C.1.1 C.1.2.1 hdg ht (fun h => kt ((jI_lt y1 y2 x1 x2).mp h)) (fun h => kf (Int.not_lt.mp (fun q => h ((jI_lt y1 y2 x1 x2).mpr q))))
theorem zg_if_gt {x : Int} {off : Int} {tgt : Nat} (C : zk p s m args meth c cc nL ret Ts own) (x1 : -2147483648 ≤ x) (x2 : x < 2147483648) (hdg : decode cc pc = .ok (.ifCond .gt off, 3)) (ht : (pc : Int) + off = (tgt : Int))
    (kt : 0 < x → W p l e R s m args below meth c H locs cells slots Q (F0 m tgt ls rest)) (kf : x ≤ 0 → W p l e R s m args below meth c H locs cells slots Q (F0 m (pc + 3) ls rest)) : W p l e R s m args below meth c H locs cells slots Q (F0 m pc ls (.int (jI x) :: rest)) :=
  lv_if_gt C.1.1 C.1.2.1 hdg ht (fun h => kt ((jI_lt (by omega) (by omega) x1 x2).mp h)) (fun h => kf (Int.not_lt.mp (fun q => h ((jI_lt (by omega) (by omega) x1 x2).mpr q))))
theorem zg_icmp_le {x y : Int} {off : Int} {tgt : Nat} (C : zk p s m args meth c cc nL ret Ts own) (x1 : -2147483648 ≤ x) (x2 : x < 2147483648) (y1 : -2147483648 ≤ y) (y2 : y < 2147483648) (hdg : decode cc pc = .ok (.if_icmp .le off, 3)) (ht : (pc : Int) + off = (tgt : Int))
    (kt : x ≤ y → W p l e R s m args below meth c H locs cells slots Q (F0 m tgt ls rest)) (kf : y < x → W p l e R s m args below meth c H locs cells slots Q (F0 m (pc + 3) ls rest)) : W p l e R s m args below meth c H locs cells slots Q (F0 m pc ls (.int (jI y) :: .int (jI x) :: rest)) :=
  lv_icmp_le C.1.1 C.1.2.1 hdg ht (fun h => kt ((jI_le x1 x2 y1 y2).mp h)) (fun h => kf (Int.not_le.mp (fun q => h ((jI_le x1 x2 y1 y2).mpr q))))
theorem zg_if_le {x : Int} {off : Int} {tgt : Nat} (C : zk p s m args meth c cc nL ret Ts own) (x1 : -2147483648 ≤ x) (x2 : x < 2147483648) (hdg : decode cc pc = .ok (.ifCond .le off, 3)) (ht : (pc : Int) + off = (tgt : Int))
    (kt : x ≤ 0 → W p l e R s m args below meth c H locs cells slots Q (F0 m tgt ls rest)) (kf : 0 < x → W p l e R s m args below meth c H locs cells slots Q (F0 m (pc + 3) ls rest)) : W p l e R s m args below meth c H locs cells slots Q (F0 m pc ls (.int (jI x) :: rest)) :=
  lv_if_le C.1.1 C.1.2.1 hdg ht (fun h => kt ((jI_le x1 x2 (by omega) (by omega)).mp h)) (fun h => kf (Int.not_le.mp (fun q => h ((jI_le x1 x2 (by omega) (by omega)).mpr q))))
theorem zg_tswO {x : Int} {dflt lo hi : Int} {offs : Array Int} {len tgt : Nat} (C : zk p s m args meth c cc nL ret Ts own) (x1 : -2147483648 ≤ x) (x2 : x < 2147483648) (hdg : decode cc pc = .ok (.tableswitch dflt lo hi offs, len)) (h : x < lo ∨ hi < x) (ht : (pc : Int) + dflt = (tgt : Int))
    (k : W p l e R s m args below meth c H locs cells slots Q (F0 m tgt ls rest)) : W p l e R s m args below meth c H locs cells slots Q (F0 m pc ls (.int (jI x) :: rest)) := lv_tableOut C.1.1 C.1.2.1 hdg (by rw [jI_toInt x1 x2]; exact h) ht k
theorem zg_tswI {x v : Int} {dflt lo hi off : Int} {offs : Array Int} {len tgt : Nat} (C : zk p s m args meth c cc nL ret Ts own) (hx : x = v) (x1 : -2147483648 ≤ v) (x2 : v < 2147483648) (hdg : decode cc pc = .ok (.tableswitch dflt lo hi offs, len)) (h1 : ¬ v < lo) (h2 : ¬ hi < v) (ho : offs[(v - lo).toNat]? = some off) (ht : (pc : Int) + off = (tgt : Int))
    (k : W p l e R s m args below meth c H locs cells slots Q (F0 m tgt ls rest)) : W p l e R s m args below meth c H locs cells slots Q (F0 m pc ls (.int (jI x) :: rest)) := by
  subst hx
  exact lv_tableIn C.1.1 C.1.2.1 hdg (by rw [jI_toInt x1 x2]; exact h1) (by rw [jI_toInt x1 x2]; exact h2) (by rw [jI_toInt x1 x2]; exact ho) ht k
-- loads and stores of locals: the kit's own rows, by C
theorem zg_iload_n {k : Fin 4} {i : Nat} {x : Int32} (C : zk p s m args meth c cc nL ret Ts own) (hdg : decode cc pc = .ok (.iload_n k, 1)) (hi : (k : Nat) = i) (hl : ls[i]? = some (.val (.int x)))
    (kk : W p l e R s m args below meth c H locs cells slots Q (F0 m (pc + 1) ls (.int x :: rest))) : W p l e R s m args below meth c H locs cells slots Q (F0 m pc ls rest) := lv_iload_n C.1.1 C.1.2.1 hdg hi hl kk
theorem zg_iload {i : Nat} {x : Int32} (C : zk p s m args meth c cc nL ret Ts own) (hdg : decode cc pc = .ok (.iload i, 2)) (hl : ls[i]? = some (.val (.int x)))
    (kk : W p l e R s m args below meth c H locs cells slots Q (F0 m (pc + 2) ls (.int x :: rest))) : W p l e R s m args below meth c H locs cells slots Q (F0 m pc ls rest) := lv_iload C.1.1 C.1.2.1 hdg hl kk
theorem zg_aload_n {k : Fin 4} {i x : Nat} (C : zk p s m args meth c cc nL ret Ts own) (hdg : decode cc pc = .ok (.aload_n k, 1)) (hi : (k : Nat) = i) (hl : ls[i]? = some (.val (.ref x)))
    (kk : W p l e R s m args below meth c H locs cells slots Q (F0 m (pc + 1) ls (.ref x :: rest))) : W p l e R s m args below meth c H locs cells slots Q (F0 m pc ls rest) := lv_aload_n C.1.1 C.1.2.1 hdg hi hl kk
theorem zg_aload {i x : Nat} (C : zk p s m args meth c cc nL ret Ts own) (hdg : decode cc pc = .ok (.aload i, 2)) (hl : ls[i]? = some (.val (.ref x)))
    (kk : W p l e R s m args below meth c H locs cells slots Q (F0 m (pc + 2) ls (.ref x :: rest))) : W p l e R s m args below meth c H locs cells slots Q (F0 m pc ls rest) := lv_aload C.1.1 C.1.2.1 hdg hl kk
theorem zg_istore_n {k : Fin 4} {i : Nat} {x : Int32} {lv lv' : List (Nat × Value)} (C : zk p s m args meth c cc nL ret Ts own) (hdg : decode cc pc = .ok (.istore_n k, 1)) (hi : (k : Nat) = i) (h : lv_has ls nL lv) (hn : i < nL) (hl : (i, Value.int x) :: lv.filter (fun q => !(q.1 == i) && !(q.1 + 1 == i && q.2.category == 2)) = lv')
    (kk : ∀ ls' : Array Slot, lv_has ls' nL lv' → W p l e R s m args below meth c H locs cells slots Q (F0 m (pc + 1) ls' rest)) : W p l e R s m args below meth c H locs cells slots Q (F0 m pc ls (.int x :: rest)) := lv_istore_n C.1.1 C.1.2.1 hdg hi h hn hl kk
theorem zg_istore {i : Nat} {x : Int32} {lv lv' : List (Nat × Value)} (C : zk p s m args meth c cc nL ret Ts own) (hdg : decode cc pc = .ok (.istore i, 2)) (h : lv_has ls nL lv) (hn : i < nL) (hl : (i, Value.int x) :: lv.filter (fun q => !(q.1 == i) && !(q.1 + 1 == i && q.2.category == 2)) = lv')
    (kk : ∀ ls' : Array Slot, lv_has ls' nL lv' → W p l e R s m args below meth c H locs cells slots Q (F0 m (pc + 2) ls' rest)) : W p l e R s m args below meth c H locs cells slots Q (F0 m pc ls (.int x :: rest)) := lv_istore C.1.1 C.1.2.1 hdg h hn hl kk
theorem zg_astore_n {k : Fin 4} {i x : Nat} {lv lv' : List (Nat × Value)} (C : zk p s m args meth c cc nL ret Ts own) (hdg : decode cc pc = .ok (.astore_n k, 1)) (hi : (k : Nat) = i) (h : lv_has ls nL lv) (hn : i < nL) (hl : (i, Value.ref x) :: lv.filter (fun q => !(q.1 == i) && !(q.1 + 1 == i && q.2.category == 2)) = lv')
    (kk : ∀ ls' : Array Slot, lv_has ls' nL lv' → W p l e R s m args below meth c H locs cells slots Q (F0 m (pc + 1) ls' rest)) : W p l e R s m args below meth c H locs cells slots Q (F0 m pc ls (.ref x :: rest)) := lv_astore_n C.1.1 C.1.2.1 hdg hi h hn hl kk
theorem zg_astore {i x : Nat} {lv lv' : List (Nat × Value)} (C : zk p s m args meth c cc nL ret Ts own) (hdg : decode cc pc = .ok (.astore i, 2)) (h : lv_has ls nL lv) (hn : i < nL) (hl : (i, Value.ref x) :: lv.filter (fun q => !(q.1 == i) && !(q.1 + 1 == i && q.2.category == 2)) = lv')
    (kk : ∀ ls' : Array Slot, lv_has ls' nL lv' → W p l e R s m args below meth c H locs cells slots Q (F0 m (pc + 2) ls' rest)) : W p l e R s m args below meth c H locs cells slots Q (F0 m pc ls (.ref x :: rest)) := lv_astore C.1.1 C.1.2.1 hdg h hn hl kk
theorem zg_iinc {i k : Nat} {n x : Int} {lv lv' : List (Nat × Value)} (C : zk p s m args meth c cc nL ret Ts own) (hdg : decode cc pc = .ok (.iinc i n, 3)) (h : lv_has ls nL lv) (hk : lv[k]? = some (i, .int (jI x))) (hn : i < nL) (hl : (i, Value.int (jI (x + n))) :: lv.filter (fun q => !(q.1 == i) && !(q.1 + 1 == i && q.2.category == 2)) = lv')
    (kk : ∀ ls' : Array Slot, lv_has ls' nL lv' → W p l e R s m args below meth c H locs cells slots Q (F0 m (pc + 3) ls' rest)) : W p l e R s m args below meth c H locs cells slots Q (F0 m pc ls rest) := lv_iinc C.1.1 C.1.2.1 hdg h hk (jI_add x n) hn hl kk
theorem zg_dup {v : Value} (C : zk p s m args meth c cc nL ret Ts own) (hdg : decode cc pc = .ok (.dup, 1)) (hv : v.category = 1)
    (k : W p l e R s m args below meth c H locs cells slots Q (F0 m (pc + 1) ls (v :: v :: rest))) : W p l e R s m args below meth c H locs cells slots Q (F0 m pc ls (v :: rest)) := lv_dup C.1.1 C.1.2.1 hdg hv k
theorem zg_pop {v : Value} (C : zk p s m args meth c cc nL ret Ts own) (hdg : decode cc pc = .ok (.pop, 1)) (hv : v.category = 1)
    (k : W p l e R s m args below meth c H locs cells slots Q (F0 m (pc + 1) ls rest)) : W p l e R s m args below meth c H locs cells slots Q (F0 m pc ls (v :: rest)) := lv_pop C.1.1 C.1.2.1 hdg hv k
theorem zg_dup2 {v w : Value} (C : zk p s m args meth c cc nL ret Ts own) (hdg : decode cc pc = .ok (.dup2, 1)) (hv : v.category = 1) (hw : w.category = 1)
    (k : W p l e R s m args below meth c H locs cells slots Q (F0 m (pc + 1) ls (v :: w :: v :: w :: rest))) : W p l e R s m args below meth c H locs cells slots Q (F0 m pc ls (v :: w :: rest)) := lv_dup2_11 C.1.1 C.1.2.1 hdg hv hw k
theorem zg_goto {off : Int} {tgt : Nat} (C : zk p s m args meth c cc nL ret Ts own) (hdg : decode cc pc = .ok (.goto off, 3)) (ht : (pc : Int) + off = (tgt : Int)) (k : W p l e R s m args below meth c H locs cells slots Q (F0 m tgt ls rest)) : W p l e R s m args below meth c H locs cells slots Q (F0 m pc ls rest) := lv_goto C.1.1 C.1.2.1 hdg ht k
theorem zg_ldc {index : Nat} {v : Int} {v' : Int32} (C : zk p s m args meth c cc nL ret Ts own) (hconst : (Jvm.Cond.constant own index v').before args s = true) (hv : v' = jI v) (hdg : decode cc pc = .ok (.ldc index, 2)) (k : W p l e R s m args below meth c H locs cells slots Q (F0 m (pc + 2) ls (.int (jI v) :: rest))) : W p l e R s m args below meth c H locs cells slots Q (F0 m pc ls rest) := lv_ldc C.1.1 C.1.2.1 C.1.2.2.2.1 hconst hdg (by rw [hv]; exact k)
theorem zg_lload_n {k : Fin 4} {i : Nat} {x : Int64} (C : zk p s m args meth c cc nL ret Ts own) (hdg : decode cc pc = .ok (.lload_n k, 1)) (hi : (k : Nat) = i) (hl : ls[i]? = some (.val (.long x)))
    (kk : W p l e R s m args below meth c H locs cells slots Q (F0 m (pc + 1) ls (.long x :: rest))) : W p l e R s m args below meth c H locs cells slots Q (F0 m pc ls rest) := lv_lload_n C.1.1 C.1.2.1 hdg hi hl kk
theorem zg_lload {i : Nat} {x : Int64} (C : zk p s m args meth c cc nL ret Ts own) (hdg : decode cc pc = .ok (.lload i, 2)) (hl : ls[i]? = some (.val (.long x)))
    (kk : W p l e R s m args below meth c H locs cells slots Q (F0 m (pc + 2) ls (.long x :: rest))) : W p l e R s m args below meth c H locs cells slots Q (F0 m pc ls rest) := lv_lload C.1.1 C.1.2.1 hdg hl kk
theorem zg_i2l {x : Int} (C : zk p s m args meth c cc nL ret Ts own) (x1 : -2147483648 ≤ x) (x2 : x < 2147483648) (hdg : decode cc pc = .ok (.i2l, 1))
    (k : W p l e R s m args below meth c H locs cells slots Q (F0 m (pc + 1) ls (.long (jL x) :: rest))) : W p l e R s m args below meth c H locs cells slots Q (F0 m pc ls (.int (jI x) :: rest)) := lv_i2l C.1.1 C.1.2.1 hdg (jI_toL x1 x2) k
theorem zg_lconst {n : Fin 2} (C : zk p s m args meth c cc nL ret Ts own) (v : Int) (hv : Int64.ofNat (n : Nat) = jL v) (hdg : decode cc pc = .ok (.lconst n, 1))
    (k : W p l e R s m args below meth c H locs cells slots Q (F0 m (pc + 1) ls (.long (jL v) :: rest))) : W p l e R s m args below meth c H locs cells slots Q (F0 m pc ls rest) := lv_lconst C.1.1 C.1.2.1 hdg hv k
theorem zg_ldc2 {index : Nat} {v : Int} {v' : Int64} (C : zk p s m args meth c cc nL ret Ts own) (hconst : (Jvm.Cond.constantLong own index v').before args s = true) (hv : v' = jL v) (hdg : decode cc pc = .ok (.ldc2_w index, 3)) (k : W p l e R s m args below meth c H locs cells slots Q (F0 m (pc + 3) ls (.long (jL v) :: rest))) : W p l e R s m args below meth c H locs cells slots Q (F0 m pc ls rest) := lv_ldc2 C.1.1 C.1.2.1 C.1.2.2.2.1 hconst hdg (by rw [hv]; exact k)
theorem zg_lcmp {x y : Int} (C : zk p s m args meth c cc nL ret Ts own) (x1 : -2147483648 ≤ x) (x2 : x < 2147483648) (y1 : -2147483648 ≤ y) (y2 : y < 2147483648) (hdg : decode cc pc = .ok (.lcmp, 1))
    (k : W p l e R s m args below meth c H locs cells slots Q (F0 m (pc + 1) ls (.int (jI (cmpI x y)) :: rest))) : W p l e R s m args below meth c H locs cells slots Q (F0 m pc ls (.long (jL y) :: .long (jL x) :: rest)) := by
  have e1 : lg_cmp (jL x) (jL y) = jI (cmpI x y) := by
    unfold lg_cmp cmpI
    simp only [gt_iff_lt, Int64.lt_iff_toInt_lt, ← Int64.toInt_inj, jL_toInt x1 x2, jL_toInt y1 y2]
    split
    · rfl
    · split <;> rfl
  exact W.lcmp C.1.1 C.1.2.1 hdg (by rw [e1]; exact k)
-- fields
theorem zg_get {k ci j index M : Nat} {fs : List Value} {ref Cn : String} {T : u_T} {v : Value} (C : zk p s m args meth c cc nL ret Ts own) (X : zx D cl tys A a N s) (hP : va_P D cl (zw N lay a σ) H) (hk : k < N) (hlay : lay k (σ k) = .inr (ci, fs)) (hc : cl[ci]? = some (Cn, T, M)) (hin : ∀ w ∈ u_ws Cn T M, w ∈ Ts) (hj : j < M)
    (hlink : (Cond.fieldLink own index ref (T j).2.1 (T j).2.2.1).before args s = true) (hsame : ∀ x, s.fieldFound? (T j).1 (T j).2.1 (T j).2.2.1 = some x → s.fieldFound? ref (T j).2.1 (T j).2.2.1 = some x) (hv : fs[j]? = some v) (hdg : decode cc pc = .ok (.getfield index, 3))
    (kk : W p l e R s m args below meth c H locs cells slots Q (F0 m (pc + 3) ls (v :: rest))) : W p l e R s m args below meth c H locs cells slots Q (F0 m pc ls (.ref (a k) :: rest)) :=
  va_get C.1.1 C.1.2.1 C.1.2.2.2.2 hin C.1.2.2.2.1 X.1 hP k (by rw [zw_get hk, hlay]) hc j hj hlink hsame hv hdg kk
theorem zg_put {k ci j index M : Nat} {fs : List Value} {ref Cn : String} {T : u_T} {v : Int} (C : zk p s m args meth c cc nL ret Ts own) (X : zx D cl tys A a N s) (hP : va_P D cl (zw N lay a σ) H) (hS : va_S A s.heap H locs) (hk : k < N) (hlay : lay k (σ k) = .inr (ci, fs)) (hc : cl[ci]? = some (Cn, T, M)) (hin : ∀ w ∈ u_ws Cn T M, w ∈ Ts)
    (ty0 : Nat → FieldType) (hty : ∀ k, k < M → parseFieldDescriptor (T k).2.2.1 = some (ty0 k)) (hnm : ∀ a, a < M → ∀ b, b < M → a ≠ b → (T a).2.1 ≠ (T b).2.1) (hj : j < M)
    (hlink : (Cond.fieldLink own index ref (T j).2.1 (T j).2.2.1).before args s = true) (hsame : ∀ x, s.fieldFound? (T j).1 (T j).2.1 (T j).2.2.1 = some x → s.fieldFound? ref (T j).2.1 (T j).2.2.1 = some x) (hfin : (T j).2.2.2 = false) (hd : parseFieldDescriptor (T j).2.2.1 = some .int) (hl : j < fs.length)
    (hset : lay k (fun i => if i = j then v else σ k i) = .inr (ci, fs.set j (.int (jI v)))) (hdg : decode cc pc = .ok (.putfield index, 3))
    (kk : ∀ (H1 : Heap) (locs1 : List Loc), va_P D cl (zw N lay a (zu σ k j v)) H1 → va_S A s.heap H1 locs1 → W p l e R s m args below meth c H1 locs1 cells slots Q (F0 m (pc + 3) ls rest)) : W p l e R s m args below meth c H locs cells slots Q (F0 m pc ls (.int (jI v) :: .ref (a k) :: rest)) :=
  va_put C.1.1 C.1.2.1 C.1.2.2.2.2 hin ty0 hty hnm C.1.2.2.2.1 X.1 hP (X.D σ) hS k (by rw [zw_get hk, hlay]) hc j hj hlink hsame hfin hd rfl rfl hl hdg
    (fun H1 locs1 hP1 _ hS1 => kk H1 locs1 (by rw [zw_set hk hset] at hP1; exact hP1) hS1)
-- arrays of ints and of truths
theorem zg_iald {k n t0 : Nat} {cA : ClassId} {i : Int} (C : zk p s m args meth c cc nL ret Ts own) (X : zx D cl tys A a N s) (hP : va_P D cl (zw N lay a σ) H) (hk : k < N) (hlay : lay k (σ k) = .inl (cA, n, .inl (fun j => jI (σ k j)))) (ht : tys[t0]? = some (cA, .int)) (hn : n < 2147483648) (i0 : 0 ≤ i) (i1 : i < n) (hdg : decode cc pc = .ok (.iaload, 1))
    (kk : W p l e R s m args below meth c H locs cells slots Q (F0 m (pc + 1) ls (.int (jI (σ k i.toNat)) :: rest))) : W p l e R s m args below meth c H locs cells slots Q (F0 m pc ls (.int (jI i) :: .ref (a k) :: rest)) :=
  va_iald C.1.1 C.1.2.1 X.1 hP k t0 (by rw [zw_get hk, hlay]) ht (jI_in i0 i1 hn) hdg (by rw [jI_clamp i0 (by omega)]; exact kk)
theorem zg_zald {k n t0 : Nat} {cA : ClassId} {i : Int} (C : zk p s m args meth c cc nL ret Ts own) (X : zx D cl tys A a N s) (hP : va_P D cl (zw N lay a σ) H) (hk : k < N) (hlay : lay k (σ k) = .inl (cA, n, .inl (fun j => jI (σ k j)))) (ht : tys[t0]? = some (cA, .boolean)) (hn : n < 2147483648) (i0 : 0 ≤ i) (i1 : i < n) (hdg : decode cc pc = .ok (.baload, 1))
    (kk : W p l e R s m args below meth c H locs cells slots Q (F0 m (pc + 1) ls (.int (jI (σ k i.toNat)) :: rest))) : W p l e R s m args below meth c H locs cells slots Q (F0 m pc ls (.int (jI i) :: .ref (a k) :: rest)) :=
  va_zald C.1.1 C.1.2.1 X.1 hP k t0 (by rw [zw_get hk, hlay]) ht (jI_in i0 i1 hn) hdg (by rw [jI_clamp i0 (by omega)]; exact kk)
theorem zg_upd {f : Nat → Int} {i : Nat} {v : Int} : upd (fun j => jI (f j)) i (jI v) = fun j => jI (if j = i then v else f j) := by
  funext j
  simp only [upd]
  split <;> rfl
theorem zg_iast {k n t0 : Nat} {cA : ClassId} {i v : Int} (C : zk p s m args meth c cc nL ret Ts own) (X : zx D cl tys A a N s) (hP : va_P D cl (zw N lay a σ) H) (hS : va_S A s.heap H locs) (hk : k < N) (hlay : ∀ x, lay k x = .inl (cA, n, .inl (fun j => jI (x j)))) (ht : tys[t0]? = some (cA, .int)) (hn : n < 2147483648) (i0 : 0 ≤ i) (i1 : i < n) (hdg : decode cc pc = .ok (.iastore, 1))
    (kk : ∀ (H1 : Heap) (locs1 : List Loc), va_P D cl (zw N lay a (zu σ k i.toNat v)) H1 → va_S A s.heap H1 locs1 → W p l e R s m args below meth c H1 locs1 cells slots Q (F0 m (pc + 1) ls rest)) : W p l e R s m args below meth c H locs cells slots Q (F0 m pc ls (.int (jI v) :: .int (jI i) :: .ref (a k) :: rest)) :=
  va_iast C.1.1 C.1.2.1 X.1 hP (X.D σ) hS k t0 (by rw [zw_get hk, hlay]) ht (jI_in i0 i1 hn) hdg
    (fun H1 locs1 hP1 _ hS1 => kk H1 locs1 (by rw [jI_clamp i0 (by omega), zg_upd, zw_set (i := i.toNat) (v := v) hk (hlay _)] at hP1; exact hP1) hS1)
theorem zg_zast {k n t0 : Nat} {cA : ClassId} {i : Int} {b : Bool} (C : zk p s m args meth c cc nL ret Ts own) (X : zx D cl tys A a N s) (hP : va_P D cl (zw N lay a σ) H) (hS : va_S A s.heap H locs) (hk : k < N) (hlay : ∀ x, lay k x = .inl (cA, n, .inl (fun j => jI (x j)))) (ht : tys[t0]? = some (cA, .boolean)) (hn : n < 2147483648) (i0 : 0 ≤ i) (i1 : i < n) (hdg : decode cc pc = .ok (.bastore, 1))
    (kk : ∀ (H1 : Heap) (locs1 : List Loc), va_P D cl (zw N lay a (zu σ k i.toNat (bI b))) H1 → va_S A s.heap H1 locs1 → W p l e R s m args below meth c H1 locs1 cells slots Q (F0 m (pc + 1) ls rest)) : W p l e R s m args below meth c H locs cells slots Q (F0 m pc ls (.int (jI (bI b)) :: .int (jI i) :: .ref (a k) :: rest)) :=
  va_zast C.1.1 C.1.2.1 X.1 hP (X.D σ) hS k t0 (by rw [zw_get hk, hlay]) ht (jI_in i0 i1 hn) hdg
    (fun H1 locs1 hP1 _ hS1 => kk H1 locs1 (by rw [jI_clamp i0 (by omega), jb_vnar, zg_upd, zw_set (i := i.toNat) (v := bI b) hk (hlay _)] at hP1; exact hP1) hS1)
theorem zg_aald {k n t0 : Nat} {cA : ClassId} {i : Int} {f : Nat → Option Nat} {Cn : String} {r : Nat} (C : zk p s m args meth c cc nL ret Ts own) (X : zx D cl tys A a N s) (hP : va_P D cl (zw N lay a σ) H) (hk : k < N) (hlay : lay k (σ k) = .inl (cA, n, .inr (.inr (.inr (.inr f))))) (ht : tys[t0]? = some (cA, .object Cn)) (hn : n < 2147483648) (i0 : 0 ≤ i) (i1 : i < n) (hf : f i.toNat = some r) (hdg : decode cc pc = .ok (.aaload, 1))
    (kk : W p l e R s m args below meth c H locs cells slots Q (F0 m (pc + 1) ls (.ref r :: rest))) : W p l e R s m args below meth c H locs cells slots Q (F0 m pc ls (.int (jI i) :: .ref (a k) :: rest)) :=
  va_aldq C.1.1 C.1.2.1 X.1 hP k t0 (by rw [zw_get hk, hlay]) ht (jI_in i0 i1 hn) hdg (by rw [jI_clamp i0 (by omega), hf]; exact kk)
-- Math
theorem zg_mmax {index : Nat} {x y : Int} (C : zk p s m args meth c cc nL ret Ts own) (x1 : -2147483648 ≤ x) (x2 : x < 2147483648) (y1 : -2147483648 ≤ y) (y2 : y < 2147483648) (hls : ls.size = nL) (h1 : Cond.methodLink own index Lib.Math.max.name ∈ Ts) (h2 : Cond.static Lib.Math.max.name ∈ Ts) (h3 : Cond.initialized "java/lang/Math" ∈ Ts) (h4 : Cond.code Lib.Math.max.name Lib.Math.max.code 2 (some .int) ∈ Ts)
    (hframes : 1 ≤ R.frames) (hlocals : (rest.map fun v => v.category).sum + 13 ≤ R.locals) (hc : cells ≤ R.cells) (hs : slots ≤ R.slots) (hdg : decode cc pc = .ok (.invokestatic index, 3))
    (kk : W p l e R s m args below meth c H locs cells slots Q (F0 m (pc + 3) ls (.int (jI (max x y)) :: rest))) : W p l e R s m args below meth c H locs cells slots Q (F0 m pc ls (.int (jI y) :: .int (jI x) :: rest)) := by
  have e1 : (if jI x < jI y then jI y else jI x) = jI (max x y) := by
    by_cases h : x < y
    · rw [if_pos ((jI_lt x1 x2 y1 y2).mpr h), show max x y = y by omega]
    · rw [if_neg (fun q => h ((jI_lt x1 x2 y1 y2).mp q)), show max x y = x by omega]
  exact va_mmax C.1.1 C.1.2.1 (C.1.2.2.1.trans hls.symm) C.1.2.2.2.1 (C.ts _ h1) (C.ts _ h2) (C.ts _ h3) (C.ts _ h4) hframes hlocals hc hs hdg (by rw [e1]; exact kk)
theorem zg_mmin {index : Nat} {x y : Int} (C : zk p s m args meth c cc nL ret Ts own) (x1 : -2147483648 ≤ x) (x2 : x < 2147483648) (y1 : -2147483648 ≤ y) (y2 : y < 2147483648) (hls : ls.size = nL) (h1 : Cond.methodLink own index Lib.Math.min.name ∈ Ts) (h2 : Cond.static Lib.Math.min.name ∈ Ts) (h3 : Cond.initialized "java/lang/Math" ∈ Ts) (h4 : Cond.code Lib.Math.min.name Lib.Math.min.code 2 (some .int) ∈ Ts)
    (hframes : 1 ≤ R.frames) (hlocals : (rest.map fun v => v.category).sum + 13 ≤ R.locals) (hc : cells ≤ R.cells) (hs : slots ≤ R.slots) (hdg : decode cc pc = .ok (.invokestatic index, 3))
    (kk : W p l e R s m args below meth c H locs cells slots Q (F0 m (pc + 3) ls (.int (jI (min x y)) :: rest))) : W p l e R s m args below meth c H locs cells slots Q (F0 m pc ls (.int (jI y) :: .int (jI x) :: rest)) := by
  have e1 : (if jI y < jI x then jI y else jI x) = jI (min x y) := by
    by_cases h : y < x
    · rw [if_pos ((jI_lt y1 y2 x1 x2).mpr h), show min x y = y by omega]
    · rw [if_neg (fun q => h ((jI_lt y1 y2 x1 x2).mp q)), show min x y = x by omega]
  exact va_mmin C.1.1 C.1.2.1 (C.1.2.2.1.trans hls.symm) C.1.2.2.2.1 (C.ts _ h1) (C.ts _ h2) (C.ts _ h3) (C.ts _ h4) hframes hlocals hc hs hdg (by rw [e1]; exact kk)
-- ends
theorem zg_iret {r : Int32} {u : Zt} {post : Int32 → Zt → Prop} (C : zk p s m args meth c cc nL (some .int) Ts own) (hP : va_P D cl (zw N lay a u) H) (hS : va_S A s.heap H locs) (hdg : decode cc pc = .ok (.ireturn, 1)) (hq : post r u) :
    W p l e R s m args below meth c H locs 0 0 (MQ below (va_Qi post (fun (u : Zt) t => va_P D cl (zw N lay a u) t.heap) A) args s 0 0 A) (F0 m pc ls [.int r]) :=
  W.iret C.1.1 C.1.2.1 C.2.1 (fun t ht hW => ⟨⟨r, u, rfl, hq, by show va_P D cl (zw N lay a u) t.heap; rw [ht]; exact hP⟩, hS.F ht⟩) hS.2.2 hdg C.2.2
theorem zg_zret {b : Bool} {u : Zt} {post : Int32 → Zt → Prop} (C : zk p s m args meth c cc nL (some .boolean) Ts own) (hP : va_P D cl (zw N lay a u) H) (hS : va_S A s.heap H locs) (hdg : decode cc pc = .ok (.ireturn, 1)) (hq : post (jI (bI b)) u) :
    W p l e R s m args below meth c H locs 0 0 (MQ below (va_Qi post (fun (u : Zt) t => va_P D cl (zw N lay a u) t.heap) A) args s 0 0 A) (F0 m pc ls [.int (jI (bI b))]) :=
  W.zret C.1.1 C.1.2.1 C.2.1 (jb_nar b) (fun t ht hW => ⟨⟨_, u, rfl, hq, by show va_P D cl (zw N lay a u) t.heap; rw [ht]; exact hP⟩, hS.F ht⟩) hS.2.2 hdg C.2.2
theorem zg_vret {u : Zt} {post : Zt → Prop} (C : zk p s m args meth c cc nL none Ts own) (hP : va_P D cl (zw N lay a u) H) (hS : va_S A s.heap H locs) (hdg : decode cc pc = .ok (.return_, 1)) (hq : post u) :
    W p l e R s m args below meth c H locs 0 0 (MQ below (va_Qv post (fun (u : Zt) t => va_P D cl (zw N lay a u) t.heap) A) args s 0 0 A) (F0 m pc ls []) :=
  W.vret C.1.1 C.1.2.1 C.2.1 (fun t ht hW => ⟨⟨u, rfl, hq, by show va_P D cl (zw N lay a u) t.heap; rw [ht]; exact hP⟩, hS.F ht⟩) hS.2.2 hdg C.2.2
end ZG
section ZE
variable {l : Launch} {D : va_G} {cl : List vw_C} {tys : List (ClassId × FieldType)} {a : Nat → Nat} {N : Nat} {lay : Nat → (Nat → Int) → va_E} {σ : Zt} {y : MethodName} {ws ws' : List Cond} {rm : Room} {av : List Value}
theorem zx_of {s : State} (hK : va_K D cl tys s) (hD : va_D (fun _ => True) (zw N lay a σ)) : zx D cl tys (va_A (zw N lay a σ) s.heap.size) a N s :=
  ⟨hK, (zw_Dinv hD).1, fun i hi => zw_A.mpr (Or.inl ⟨i, hi, rfl⟩), fun q h => zw_A.mpr (Or.inr h)⟩
/-- a contract out of a walk -/
theorem zc_of {post : Int32 → Zt → Prop} {cc : ByteArray} {maxL : Nat} {ret : Option FieldType} {own : String} (hy : plainName y.cls = true) (hw : ws = Cond.code y cc maxL ret :: ws') (ho : y.cls = own) (hlen : (lg_sl av).length ≤ maxL) {lv : List (Nat × Value)} (hlv : lv_args 0 av = lv)
    (body : ∀ (p : Program) (e : Env) (s : State) (m : MethodId) (below : List Frame) (meth : Method) (c : Code) (A : Nat → Prop) (ls : Array Slot), zk p s m av.toArray meth c cc maxL ret ws own → zx D cl tys A a N s → va_P D cl (zw N lay a σ) s.heap → va_S A s.heap s.heap [] → lv_has ls maxL lv →
      W p l e rm s m av.toArray below meth c s.heap [] 0 0 (MQ below (va_Qi post (fun (u : Zt) t => va_P D cl (zw N lay a u) t.heap) A) av.toArray s 0 0 A) (F0 m 0 ls [])) : zc l D cl tys N lay a y ws rm av σ post := by
  intro sz
  refine Met.ofW (cc := cc) (maxL := maxL) (ret := ret) hy hw ?_
  intro p e s m args below meth c s₁ B hml hv
  obtain ⟨rfl, hsz, hP, hK, hD0⟩ := hv
  subst hsz
  have hown : s.vm.findClass own = some m.cls := by rw [← ho]; exact findClass_of_methodNamed B.named
  have hl := lv_entry av (n := maxL) hlen
  rw [lg_entry_eq]
  generalize (lg_sl av ++ List.replicate (maxL - (lg_sl av).length) Slot.unset).toArray = ls at hl ⊢
  rw [hlv] at hl
  exact body p e s m below meth c _ ls ⟨⟨B.exec, B.bytes, hml, hown, atoms_spec (ws := ws) B.pre⟩, B.returns, B.notSynchronized⟩ (zx_of hK hD0) hP va_S.rf hl
theorem zv_of {post : Zt → Prop} {cc : ByteArray} {maxL : Nat} {own : String} (hy : plainName y.cls = true) (hw : ws = Cond.code y cc maxL none :: ws') (ho : y.cls = own) (hlen : (lg_sl av).length ≤ maxL) {lv : List (Nat × Value)} (hlv : lv_args 0 av = lv)
    (body : ∀ (p : Program) (e : Env) (s : State) (m : MethodId) (below : List Frame) (meth : Method) (c : Code) (A : Nat → Prop) (ls : Array Slot), zk p s m av.toArray meth c cc maxL none ws own → zx D cl tys A a N s → va_P D cl (zw N lay a σ) s.heap → va_S A s.heap s.heap [] → lv_has ls maxL lv →
      W p l e rm s m av.toArray below meth c s.heap [] 0 0 (MQ below (va_Qv post (fun (u : Zt) t => va_P D cl (zw N lay a u) t.heap) A) av.toArray s 0 0 A) (F0 m 0 ls [])) : zv l D cl tys N lay a y ws rm av σ post := by
  intro sz
  refine Met.ofW (cc := cc) (maxL := maxL) (ret := none) hy hw ?_
  intro p e s m args below meth c s₁ B hml hv
  obtain ⟨rfl, hsz, hP, hK, hD0⟩ := hv
  subst hsz
  have hown : s.vm.findClass own = some m.cls := by rw [← ho]; exact findClass_of_methodNamed B.named
  have hl := lv_entry av (n := maxL) hlen
  rw [lg_entry_eq]
  generalize (lg_sl av ++ List.replicate (maxL - (lg_sl av).length) Slot.unset).toArray = ls at hl ⊢
  rw [hlv] at hl
  exact body p e s m below meth c _ ls ⟨⟨B.exec, B.bytes, hml, hown, atoms_spec (ws := ws) B.pre⟩, B.returns, B.notSynchronized⟩ (zx_of hK hD0) hP va_S.rf hl
end ZE
section ZC
variable {p : Program} {l : Launch} {e : Env} {R : Room} {s : State} {m : MethodId} {args : Array Value} {below : List Frame} {meth : Method} {c : Code} {H : Heap} {locs : List Loc} {cells slots : Nat} {Q : State → Prop}
variable {cc : ByteArray} {pc : Nat} {ls : Array Slot} {rest st0 : List Value} {nL : Nat} {ret : Option FieldType} {Ts : List Cond} {own : String}
variable {D : va_G} {cl : List vw_C} {tys : List (ClassId × FieldType)} {A : Nat → Prop} {a : Nat → Nat} {N : Nat} {lay : Nat → (Nat → Int) → va_E} {σ : Zt}
variable {y : MethodName} {bytes : ByteArray} {maxL n index : Nat} {ret' : Option FieldType} {ws : List Cond} {rm : Room} {As : List Value} {Cn : String}
theorem zpre {av : List Value} {sz : Nat} : FrameBlind (va_Pc av (fun U => U.heap.size = sz ∧ va_P D cl (zw N lay a σ) U.heap ∧ va_K D cl tys U ∧ va_D (fun _ => True) (zw N lay a σ))) := fun b U g mk q => by
  obtain ⟨q0, q1, qP, qK, qD⟩ := q
  exact ⟨q0, q1, qP, va_K.moved (u := U) (U := U.calling g mk b) (Vm.Alike.refl U.vm) qK, qD⟩
theorem zfree (X : zx D cl tys A a N s) (hS : va_S A s.heap H locs) : ∀ q, va_A (zw N lay a σ) H.size q → A q := fun q h => by
  rcases zw_A.mp h with ⟨k, hk, rfl⟩ | h
  · exact X.2.2.1 k hk
  · exact X.2.2.2 q (Nat.le_trans hS.1 h)
theorem zstart (X : zx D cl tys A a N s) (hP : va_P D cl (zw N lay a σ) H) {av : List Value} : ∀ U : State, U.heap = H → s.WarmedH U.vm → va_Pc av (fun U => U.heap.size = H.size ∧ va_P D cl (zw N lay a σ) U.heap ∧ va_K D cl tys U ∧ va_D (fun _ => True) (zw N lay a σ)) av.toArray U := fun U hU hW =>
  ⟨rfl, by rw [hU], by rw [hU]; exact hP, va_K.moved hW.alike X.1, zw_D X.2.1 (fun _ _ => trivial)⟩
/-- a call of a method of an object of the world: an int comes back -/
theorem zg_callV {k ci : Nat} {fs : List Value} {q : vw_C} {post : Int32 → Zt → Prop} (C : zk p s m args meth c cc nL ret Ts own) (X : zx D cl tys A a N s) (hP : va_P D cl (zw N lay a σ) H) (hS : va_S A s.heap H locs) (hM : zc l D cl tys N lay a y ws rm (.ref (a k) :: As) σ post)
    (cw : CallW R s args own Cn index y bytes maxL ret' ws rm 0 0 n) (hk : k < N) (hlay : lay k (σ k) = .inr (ci, fs)) (hc : cl[ci]? = some q) (hq : q.1 = Cn) (hn : As.length = n) (hsize : ls.size = nL) (hst : st0 = As.reverse ++ .ref (a k) :: rest) (hW : (rest.map fun v => v.category).sum ≤ 8) (hdg : decode cc pc = .ok (.invokevirtual index, 3)) (hf : cells ≤ R.cells ∧ slots ≤ R.slots)
    (kk : ∀ (r : Int32) (u : Zt) (H1 : Heap) (locs1 : List Loc), post r u → va_P D cl (zw N lay a u) H1 → va_S A s.heap H1 locs1 → W p l e R s m args below meth c H1 locs1 cells slots Q (F0 m (pc + 3) ls (.int r :: rest))) : W p l e R s m args below meth c H locs cells slots Q (F0 m pc ls st0) := by
  refine va_calli (va_runV C.1 (hM H.size) cw ⟨zpre, by rw [← hq]; exact va_recv X.1 hP hc (by rw [zw_get hk, hlay]), zstart X hP⟩ rfl hn hsize hst (lv_room hW) hdg hf) hS (fun q _ h => zfree X hS q h) (zfree X hS) (fun r u t H1 locs1 ht hvm hw hB hz1 hk1 hS => ?_)
  rw [ht] at hB
  exact kk r u H1 locs1 hw hB hS
theorem zg_callVv {k ci : Nat} {fs : List Value} {q : vw_C} {post : Zt → Prop} (C : zk p s m args meth c cc nL ret Ts own) (X : zx D cl tys A a N s) (hP : va_P D cl (zw N lay a σ) H) (hS : va_S A s.heap H locs) (hM : zv l D cl tys N lay a y ws rm (.ref (a k) :: As) σ post)
    (cw : CallW R s args own Cn index y bytes maxL ret' ws rm 0 0 n) (hk : k < N) (hlay : lay k (σ k) = .inr (ci, fs)) (hc : cl[ci]? = some q) (hq : q.1 = Cn) (hn : As.length = n) (hsize : ls.size = nL) (hst : st0 = As.reverse ++ .ref (a k) :: rest) (hW : (rest.map fun v => v.category).sum ≤ 8) (hdg : decode cc pc = .ok (.invokevirtual index, 3)) (hf : cells ≤ R.cells ∧ slots ≤ R.slots)
    (kk : ∀ (u : Zt) (H1 : Heap) (locs1 : List Loc), post u → va_P D cl (zw N lay a u) H1 → va_S A s.heap H1 locs1 → W p l e R s m args below meth c H1 locs1 cells slots Q (F0 m (pc + 3) ls rest)) : W p l e R s m args below meth c H locs cells slots Q (F0 m pc ls st0) := by
  refine va_callv (va_runV C.1 (hM H.size) cw ⟨zpre, by rw [← hq]; exact va_recv X.1 hP hc (by rw [zw_get hk, hlay]), zstart X hP⟩ rfl hn hsize hst (lv_room hW) hdg hf) hS (fun q _ h => zfree X hS q h) (zfree X hS) (fun u t H1 locs1 ht hvm hw hB hz1 hk1 hS => ?_)
  rw [ht] at hB
  exact kk u H1 locs1 hw hB hS
theorem zg_callS {post : Int32 → Zt → Prop} (C : zk p s m args meth c cc nL ret Ts own) (X : zx D cl tys A a N s) (hP : va_P D cl (zw N lay a σ) H) (hS : va_S A s.heap H locs) (hM : zc l D cl tys N lay a y ws rm As σ post)
    (cw : CallB R s args own index y bytes maxL ret' ws rm 0 0 n ∧ (Cond.static y).before args s = true) (hn : As.length = n) (hsize : ls.size = nL) (hst : st0 = As.reverse ++ rest) (hW : (rest.map fun v => v.category).sum ≤ 8) (hdg : decode cc pc = .ok (.invokestatic index, 3)) (hf : cells ≤ R.cells ∧ slots ≤ R.slots)
    (kk : ∀ (r : Int32) (u : Zt) (H1 : Heap) (locs1 : List Loc), post r u → va_P D cl (zw N lay a u) H1 → va_S A s.heap H1 locs1 → W p l e R s m args below meth c H1 locs1 cells slots Q (F0 m (pc + 3) ls (.int r :: rest))) : W p l e R s m args below meth c H locs cells slots Q (F0 m pc ls st0) := by
  refine va_calli (va_runS C.1 (hM H.size) cw ⟨zpre, zstart X hP⟩ rfl hn hsize hst (lv_room hW) hdg hf) hS (fun q _ h => zfree X hS q h) (zfree X hS) (fun r u t H1 locs1 ht hvm hw hB hz1 hk1 hS => ?_)
  rw [ht] at hB
  exact kk r u H1 locs1 hw hB hS
end ZC
