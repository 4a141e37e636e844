/-! THE LAW: where its cells lie, what holds between its calls -/
theorem kSigR_rg {κ : Zt} (h : kMid κ) (x q : Int) : -2147483648 ≤ kSigR κ x q ∧ kSigR κ x q < 2147483648 := by
  unfold kSigR
  split
  · omega
  · have := rgS_6 h.1 (kOf κ x q).toNat; omega
theorem kKinR_rg {κ : Zt} (_ : kMid κ) (x q : Int) : -2147483648 ≤ kKinR κ x q ∧ kKinR κ x q < 2147483648 := by
  unfold kKinR
  split
  · omega
  · have := kKinds_rg κ x.toNat (kOf κ x q); omega
theorem kPatR_rg {κ : Zt} (h : kMid κ) (x q k w : Int) : -2147483648 ≤ kPatR κ x q k w ∧ kPatR κ x q k w < 2147483648 := by
  have a := rgS_13 h.1 (kOf κ x q).toNat
  have b := kLevel_rg h.1 (kOf κ x q) k
  have c := kDigit_rg b.1 b.2
  unfold kPatR
  split
  · omega
  · split
    · omega
    · split
      · omega
      · split
        · unfold kSite; omega
        · unfold kCount; omega
theorem cmpI_self (x : Int) : cmpI x x = 0 := by simp [cmpI]
theorem kGoodI : ∀ τ : Zt, kGood τ → rgS τ ∧ kPre τ := fun _ h => ⟨h.1.1, kGood_pre h.1⟩
abbrev lwR : Room := { frames := 11, cells := 601024, slots := 7293034, locals := 404 }
abbrev aS (d : Nat) : Nat → Nat := fun k => d + k
abbrev aM (d : Nat) : Nat → Nat := fun k => d + 56 + k
theorem hdSM {d : Nat} : ∀ i j, i < 56 → j < 28 → aS d i ≠ aM d j := fun i j _ _ => by show d + i ≠ d + 56 + j; omega
theorem hdMS {d : Nat} : ∀ i j, i < 28 → j < 56 → aM d i ≠ aS d j := fun i j _ _ => by show d + 56 + i ≠ d + j; omega
theorem hdSO {d : Nat} : ∀ i, i < 56 → aS d i ≠ d + 84 := fun i _ => by show d + i ≠ d + 84; omega
theorem hdMO {d : Nat} : ∀ i, i < 28 → aM d i ≠ d + 84 := fun i _ => by show d + 56 + i ≠ d + 84; omega
/-- what holds all along -/
def lwE (p : Program) (l : Launch) (s : State) (m : MethodId) (args : Array Value) (_ : List Frame) (meth : Method) (c : Code) (D : va_G) (cI cZ cR cJ : ClassId) (b L d : Nat) (xs : Nat → Int32) : Prop :=
  zk p s m args meth c cL_law 7 (some .boolean) wsL_law RL ∧ zx D vwCl (tyS cI cZ cR) (fun q => d ≤ q) (aS d) 56 s ∧ zx D vwCl (tyM cI cZ) (fun q => d ≤ q) (aM d) 28 s ∧ va_K D vwCl [(cJ, .long)] s ∧ zst s ∧ va_X b L xs s s.heap ∧ b < s.heap.size ∧ L < 2147483648 ∧ d = s.heap.size ∧
  (Cond.codeWith yL_sign cL_sign 5 (some .int) [(0, 10, 13, 13)]).before args s = true ∧ (Cond.codeWith yL_path cL_path 7 (some .int) [(0, 14, 17, 13)]).before args s = true ∧ (Cond.codeWith yL_kinds cL_kinds 5 (some .int) [(0, 10, 13, 13)]).before args s = true ∧ l.stackTraces = false
/-- what holds between two calls -/
def lwI (D : va_G) (cI cZ cR cJ : ClassId) (d : Nat) (s : State) (κ μ : Zt) (H : Heap) (locs : List Loc) : Prop :=
  kGood κ ∧ RR κ μ ∧ rgM μ ∧ va_P D vwCl (zw 56 (layS cI cZ cR (aS d)) (aS d) κ) H ∧ va_P D vwCl (zw 28 (layM cI cZ (aM d)) (aM d) μ) H ∧ (∃ v : Int, va_at D vwCl (d + 84, zO cJ v) H) ∧ va_S (fun q => d ≤ q) s.heap H locs
/-- how it goes on behind a call -/
def lwK (p : Program) (l : Launch) (e : Env) (s : State) (m : MethodId) (args : Array Value) (below : List Frame) (meth : Method) (c : Code) (D : va_G) (cI cZ cR cJ : ClassId) (b d : Nat) (i : Int) (cells slots : Nat) (Q : State → Prop) : Prop :=
  ∀ (κ μ : Zt) (H : Heap) (locs : List Loc) (ls : Array Slot) (cells1 slots1 : Nat), cells1 ≤ cells + 1 → slots1 ≤ slots + 6 → lwI D cI cZ cR cJ d s κ μ H locs → lv_has ls 7 [(0, .ref b), (1, .ref (aS d 0)), (2, .ref (aM d 0)), (3, .ref (d + 84)), (4, .int (jI i))] → W p l e lwR s m args below meth c H locs cells1 slots1 Q (F0 m 1074 ls [])
theorem zj_lald {p : Program} {l : Launch} {e : Env} {R : Room} {s : State} {m : MethodId} {args : Array Value} {below : List Frame} {meth : Method} {c : Code} {H : Heap} {locs : List Loc} {cells slots : Nat} {Q : State → Prop} {cc : ByteArray} {pc : Nat} {ls : Array Slot} {rest : List Value} {nL : Nat} {ret : Option FieldType} {Ts : List Cond} {own : String} {D : va_G} {cl : List vw_C} {cJ : ClassId} {o : Nat} {v : Int}
    (C : zk p s m args meth c cc nL ret Ts own) (KJ : va_K D cl [(cJ, .long)] s) (hO : va_at D cl (o, zO cJ v) H) (hdg : decode cc pc = .ok (.laload, 1)) (kk : W p l e R s m args below meth c H locs cells slots Q (F0 m (pc + 1) ls (.long (jL v) :: rest))) : W p l e R s m args below meth c H locs cells slots Q (F0 m pc ls (.int (jI 0) :: .ref o :: rest)) := by
  have hP : va_P D cl [(o, zO cJ v)] H := fun k q h => by
    have hz : k < 1 := (List.getElem?_eq_some_iff.mp h).1
    rw [show k = 0 by omega] at h
    cases h
    exact hO
  exact va_lald C.1.1 C.1.2.1 KJ hP 0 0 rfl rfl (jI_in (by omega) (by omega) (by omega)) hdg kk
