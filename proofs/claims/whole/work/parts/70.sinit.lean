/-! THE CLASS'S CONSTRUCTOR. Laid by program. -/
def rpB (cI cZ : ClassId) (d r : Nat) : List va_E := [.inr (2, [.int (jI (r : Int)), .ref (d + 1), .ref (d + 11), .int (jI (r : Int)), .int 0, .int 0, .int 0, .ref (d + (20 + 6 * r) + 1), .ref (d + (20 + 6 * r) + 2), .ref (d + (20 + 6 * r) + 3), .ref (d + (20 + 6 * r) + 4), .ref (d + (20 + 6 * r) + 5)]), aI cI 6, aI cZ 400, .inl (cI, 400, .inl (fun _ => jI (-1))), .inl (cI, 4, .inl (fun _ => jI (-1))), aI cI 8]
def flB (cI cZ : ClassId) (d : Nat) : Nat → List va_E
  | 0 => []
  | r + 1 => flB cI cZ d r ++ rpB cI cZ d r
def preB (cI cZ cR : ClassId) (d : Nat) (f : Nat → Option Nat) : List va_E := [.inr (4, [.ref (d + 1), .ref (d + 11), .ref (d + 16), .ref (d + 19)]), .inr (0, [.ref (d + 2), .ref (d + 3), .ref (d + 4), .ref (d + 5), .ref (d + 6), .ref (d + 7), .ref (d + 8), .ref (d + 9), .ref (d + 10), .int 0, .int 0]), aI cI 400, aI cI 400, aI cI 400, aI cI 400, aI cI 400, aI cI 400, aI cI 400, aI cZ 400, aI cI 400, .inr (1, [.ref (d + 12), .ref (d + 13), .ref (d + 14), .ref (d + 15), .int 0]), aI cI 4800, aI cI 400, aI cI 400, aI cI 400, .inr (3, [.ref (d + 17), .ref (d + 18), .int 0, .int 0]), aI cI 300, aI cI 300, .inl (cR, 6, .inr (.inr (.inr (.inr f))))]
def esR (cI cZ cR : ClassId) (d r : Nat) : List va_E := preB cI cZ cR d (fun j => if j < r then some (d + (20 + 6 * j)) else none) ++ flB cI cZ d r
theorem flB_len {cI cZ : ClassId} {d : Nat} : ∀ r : Nat, (flB cI cZ d r).length = 6 * r := by
  intro r
  induction r with
  | zero => rfl
  | succ r ih => rw [flB, List.length_append, ih]; show 6 * r + 6 = _; omega
theorem esR_len {cI cZ cR : ClassId} {d r : Nat} : (esR cI cZ cR d r).length = 20 + 6 * r := by
  unfold esR
  rw [List.length_append, flB_len]
  rfl
theorem preB_set {cI cZ cR : ClassId} {d : Nat} {f g : Nat → Option Nat} {tl : List va_E} : (preB cI cZ cR d f ++ tl).set 19 (.inl (cR, 6, .inr (.inr (.inr (.inr g))))) = preB cI cZ cR d g ++ tl := rfl
theorem esR_set {cI cZ cR : ClassId} {d r : Nat} : (esR cI cZ cR d r ++ rpB cI cZ d r).set 19 (.inl (cR, 6, .inr (.inr (.inr (.inr (fun j => if j = (r : Int).toNat then some (d + (20 + 6 * r)) else (fun j => if j < r then some (d + (20 + 6 * j)) else none) j)))))) = esR cI cZ cR d (r + 1) := by
  have e : (fun j => if j = (r : Int).toNat then some (d + (20 + 6 * r)) else (fun j => if j < r then some (d + (20 + 6 * j)) else none) j) = (fun j => if j < r + 1 then some (d + (20 + 6 * j)) else none) := by
    funext j
    by_cases h : j = r
    · subst h; simp
    · by_cases h2 : j < r
      · simp [h, h2, show j < r + 1 by omega]
      · simp [h, h2, show ¬ j < r + 1 by omega]
  rw [e]
  unfold esR
  rw [List.append_assoc, preB_set]
  rfl
set_option maxHeartbeats 4000000 in
set_option maxRecDepth 100000 in
theorem lpX4_init_48 {l : Launch} {D : va_G} {cI cZ cR : ClassId} {p : Program} {e : Env} {s : State} {m : MethodId} {below : List Frame} {meth : Method} {c : Code} (d : Nat) (C : zk p s m (.ref d :: [] : List Value).toArray meth c cX4_init 2 (none) wsX4_init RX4) (K : va_K D vwCl (tyS cI cZ cR) s) (h0 : s.heap.size = d + 1) :
    ∀ (n r : Nat) (H : Heap) (locs : List Loc) (ls : Array Slot), 6 - r < n → r ≤ 6 → zn D vwCl d (esR cI cZ cR d r) H → va_S (fun q => d ≤ q) s.heap H locs → lv_has ls 2 [(0, .ref d), (1, .int (jI (r : Int)))] →
      W p l e ({ frames := 2, cells := 55, slots := 15206, locals := 36 }) s m (.ref d :: [] : List Value).toArray below meth c H locs (19 + 6 * r) (10226 + 830 * r) (MQ below (fun _ st o t => o = .returned none ∧ zn D vwCl d (esR cI cZ cR d 6) t.heap ∧ ∀ q : Nat, q < d → t.heap[q]? = st.heap[q]?) (.ref d :: [] : List Value).toArray s 55 15206 (fun q => d ≤ q)) (F0 m 48 ls []) := by
  intro n
  induction n with
  | zero => intro r H locs ls hn; exact absurd hn (by omega)
  | succ n ih =>
    intro r H locs ls hn hr hZ hS hl
    refine zg_iload_n C dX4_init_48 rfl (lv_at hl 1 rfl) ?_
    refine zg_bipush C dX4_init_49 (by decide) ?_
    refine zg_icmp_ge (tgt := 82) C (by omega) (by omega) (by omega) (by omega) dX4_init_51 (by decide) (fun c1 => ?_) (fun c1 => ?_)
    · have e6 : r = 6 := by omega
      subst e6
      exact zn_ret (mc := 55) (ms := 15206) C h0 hZ hS rfl dX4_init_82
    · refine zg_aload_n C dX4_init_54 rfl (lv_at hl 0 rfl) ?_
      refine zn_get (k := 0) (j := 3) (v := .ref (d + 19)) C K hZ rfl rfl (zmem uwX4) (by decide) (C.tb flX4_32) rfl rfl dX4_init_55 ?_
      refine zg_iload_n C dX4_init_58 rfl (lv_at hl 1 rfl) ?_
      refine zn_newo (ci := 2) (fs := [.int 0, .null, .null, .int 0, .int 0, .int 0, .int 0, .null, .null, .null, .null, .null]) C K hZ hS (zmem uwX2) tyX2 tyX2_ok clX4_30 insX2 iniX2 rfl frX2 (by show 19 + 6 * r + 1 ≤ 55; omega) (by show 10226 + 830 * r + 12 ≤ 15206; omega) dX4_init_59 (fun H hZ hS => ?_)
      rw [esR_len]
      refine zg_dup C dX4_init_62 rfl ?_
      refine zg_iload_n C dX4_init_63 rfl (lv_at hl 1 rfl) ?_
      refine zg_aload_n C dX4_init_64 rfl (lv_at hl 0 rfl) ?_
      refine zn_get (k := 0) (j := 0) (v := .ref (d + 1)) C K hZ rfl rfl (zmem uwX4) (by decide) (C.tb flX4_10) rfl rfl dX4_init_65 ?_
      refine zg_aload_n C dX4_init_68 rfl (lv_at hl 0 rfl) ?_
      refine zn_get (k := 0) (j := 1) (v := .ref (d + 11)) C K hZ rfl rfl (zmem uwX4) (by decide) (C.tb flX4_19) rfl rfl dX4_init_69 ?_
      refine zn_cont (av := #[]) (es := esR cI cZ cR d r) (b := d + (20 + 6 * r)) (by rw [esR_len]) hZ hS (Nat.le_of_ble_eq_true rfl) (va_runI C.1 (kX2_init l (cI := cI) (cZ := cZ) (cR := cR) (d + (20 + 6 * r)) r (d + 1) (d + 11)) (cwI 3 C.ts (zgI cdX2_init) rfl rfl rfl (C.tb iniX2) (C.tb mlX4_36) (C.tb imX2_init) rfl (by decide +kernel) ⟨Nat.le_of_ble_eq_true rfl, Nat.le_of_ble_eq_true rfl⟩) (zn_pre (es := esR cI cZ cR d r) (by rw [esR_len]) K hZ (fun _ _ => trivial) (fun _ _ _ _ _ => trivial)) rfl rfl hl.1 rfl (lv_room (Nat.le_of_ble_eq_true rfl)) dX4_init_72 ⟨by show 19 + 6 * r + 1 + 5 ≤ 55; omega, by show 10226 + 830 * r + 12 + 818 ≤ 15206; omega⟩) (fun H locs hZ hS => ?_)
      have hZ : zn D vwCl d (esR cI cZ cR d r ++ rpB cI cZ d r) H := hZ
      refine zn_astq (k := 19) (kv := 20 + 6 * r) (ci := 2) (t0 := 2) (n := 6) (i := (r : Int)) C K hZ hS (by rw [List.length_append, esR_len, h0]; show d + 1 + (19 + 6 * r + 1 + 5) ≤ d + (20 + 6 * r + 6); omega) rfl (by rw [List.getElem?_append_right (by rw [esR_len]; exact Nat.le_refl _), esR_len, Nat.sub_self]; rfl) rfl rfl (by decide) (by omega) (by omega) dX4_init_75 (fun H locs hZ hS => ?_)
      rw [esR_set] at hZ
      refine zg_iinc (k := 1) (lv' := [(1, .int (jI ((r : Int) + 1))), (0, .ref d)]) C dX4_init_76 hl rfl (by decide) rfl (fun ls hl => ?_)
      refine zg_goto (tgt := 48) C dX4_init_79 (by decide) ?_
      refine W.cs (show 19 + 6 * r + 1 + 5 = 19 + 6 * (r + 1) by omega) (show 10226 + 830 * r + 12 + 818 = 10226 + 830 * (r + 1) by omega) ?_
      exact ih (r + 1) H locs ls (by omega) (by omega) hZ hS (by have h9 := lv_sub hl [1, 0] rfl; exact h9)
set_option maxHeartbeats 4000000 in
set_option maxRecDepth 100000 in
theorem kX4_init (l : Launch) {D : va_G} {cI cZ cR : ClassId} (d : Nat) : zi l D vwCl (tyS cI cZ cR) yX4_init wsX4_init ({ frames := 2, cells := 55, slots := 15206, locals := 36 }) 55 15206 d [] 4 [.null, .null, .null, .null] (esR cI cZ cR d 6) eS := by
  refine zi_of (cc := cX4_init) (maxL := 2) (own := RX4) (by decide) rfl rfl rfl (Nat.le_of_ble_eq_true rfl) rfl ?_
  intro p e s m below meth c ls C hin2 K hE h0 hZ hS hl
  obtain ⟨hEX0, hEX1, hEX3, hEA⟩ := hE
  refine zg_aload_n C dX4_init_0 rfl (lv_at hl 0 rfl) ?_
  refine zn_obj C olX4_1 olI olC hl.1 dX4_init_1 (Nat.le_of_ble_eq_true rfl) (Nat.le_of_ble_eq_true rfl) ?_
  refine zg_aload_n C dX4_init_4 rfl (lv_at hl 0 rfl) ?_
  refine zn_newo (ci := 0) (fs := [.null, .null, .null, .null, .null, .null, .null, .null, .null, .int 0, .int 0]) C K hZ hS (zmem uwX0) tyX0 tyX0_ok clX4_7 insX0 iniX0 rfl frX0 (Nat.le_of_ble_eq_true rfl) (Nat.le_of_ble_eq_true rfl) dX4_init_5 (fun H hZ hS => ?_)
  have hZ : zn D vwCl d ([.inr (4, [.null, .null, .null, .null]), .inr (0, [.null, .null, .null, .null, .null, .null, .null, .null, .null, .int 0, .int 0])]) H := hZ
  refine zg_dup C dX4_init_8 rfl ?_
  refine zn_cont (av := #[]) (es := [.inr (4, [.null, .null, .null, .null])]) (b := d + 1) rfl hZ hS (Nat.le_of_ble_eq_true rfl) (va_runIN C.1 (kX0_init l (cI := cI) (cZ := cZ) (cR := cR) (d + 1)) ⟨va_cnB 0 C.ts (zgI cdX0_init) rfl rfl rfl hEX0 (C.tb iniX0) (by decide +kernel) ⟨Nat.le_of_ble_eq_true rfl, Nat.le_of_ble_eq_true rfl⟩, rfl, C.tb imX0_init⟩ (zn_pre (es := [.inr (4, [.null, .null, .null, .null])]) rfl K hZ (fun _ _ => trivial) (fun _ _ _ _ _ => trivial)) rfl rfl hl.1 rfl (lv_room (Nat.le_of_ble_eq_true rfl)) dX4_init_9 ⟨Nat.le_of_ble_eq_true rfl, Nat.le_of_ble_eq_true rfl⟩) (fun H locs hZ hS => ?_)
  have hZ : zn D vwCl d ([.inr (4, [.null, .null, .null, .null]), .inr (0, [.ref (d + 2), .ref (d + 3), .ref (d + 4), .ref (d + 5), .ref (d + 6), .ref (d + 7), .ref (d + 8), .ref (d + 9), .ref (d + 10), .int 0, .int 0]), aI cI 400, aI cI 400, aI cI 400, aI cI 400, aI cI 400, aI cI 400, aI cI 400, aI cZ 400, aI cI 400]) H := hZ
  refine zn_putF (k := 0) (j := 0) (v := .ref (d + 1)) C hin2 K hZ hS (show s.heap.size + 10 ≤ d + 11 by omega) rfl rfl (zmem uwX4) tyX4 tyX4_ok nmX4 (by decide) (C.tb flX4_10) rfl rfl rfl rfl rfl (Nat.le_of_ble_eq_true rfl) dX4_init_12 (fun H locs hZ hS => ?_)
  have hZ : zn D vwCl d ([.inr (4, [.ref (d + 1), .null, .null, .null]), .inr (0, [.ref (d + 2), .ref (d + 3), .ref (d + 4), .ref (d + 5), .ref (d + 6), .ref (d + 7), .ref (d + 8), .ref (d + 9), .ref (d + 10), .int 0, .int 0]), aI cI 400, aI cI 400, aI cI 400, aI cI 400, aI cI 400, aI cI 400, aI cI 400, aI cZ 400, aI cI 400]) H := hZ
  refine zg_aload_n C dX4_init_15 rfl (lv_at hl 0 rfl) ?_
  refine zn_newo (ci := 1) (fs := [.null, .null, .null, .null, .int 0]) C K hZ hS (zmem uwX1) tyX1 tyX1_ok clX4_16 insX1 iniX1 rfl frX1 (Nat.le_of_ble_eq_true rfl) (Nat.le_of_ble_eq_true rfl) dX4_init_16 (fun H hZ hS => ?_)
  have hZ : zn D vwCl d ([.inr (4, [.ref (d + 1), .null, .null, .null]), .inr (0, [.ref (d + 2), .ref (d + 3), .ref (d + 4), .ref (d + 5), .ref (d + 6), .ref (d + 7), .ref (d + 8), .ref (d + 9), .ref (d + 10), .int 0, .int 0]), aI cI 400, aI cI 400, aI cI 400, aI cI 400, aI cI 400, aI cI 400, aI cI 400, aI cZ 400, aI cI 400, .inr (1, [.null, .null, .null, .null, .int 0])]) H := hZ
  refine zg_dup C dX4_init_19 rfl ?_
  refine zn_cont (av := #[]) (es := [.inr (4, [.ref (d + 1), .null, .null, .null]), .inr (0, [.ref (d + 2), .ref (d + 3), .ref (d + 4), .ref (d + 5), .ref (d + 6), .ref (d + 7), .ref (d + 8), .ref (d + 9), .ref (d + 10), .int 0, .int 0]), aI cI 400, aI cI 400, aI cI 400, aI cI 400, aI cI 400, aI cI 400, aI cI 400, aI cZ 400, aI cI 400]) (b := d + 11) rfl hZ hS (Nat.le_of_ble_eq_true rfl) (va_runIN C.1 (kX1_init l (cI := cI) (cZ := cZ) (cR := cR) (d + 11)) ⟨va_cnB 0 C.ts (zgI cdX1_init) rfl rfl rfl hEX1 (C.tb iniX1) (by decide +kernel) ⟨Nat.le_of_ble_eq_true rfl, Nat.le_of_ble_eq_true rfl⟩, rfl, C.tb imX1_init⟩ (zn_pre (es := [.inr (4, [.ref (d + 1), .null, .null, .null]), .inr (0, [.ref (d + 2), .ref (d + 3), .ref (d + 4), .ref (d + 5), .ref (d + 6), .ref (d + 7), .ref (d + 8), .ref (d + 9), .ref (d + 10), .int 0, .int 0]), aI cI 400, aI cI 400, aI cI 400, aI cI 400, aI cI 400, aI cI 400, aI cI 400, aI cZ 400, aI cI 400]) rfl K hZ (fun _ _ => trivial) (fun _ _ _ _ _ => trivial)) rfl rfl hl.1 rfl (lv_room (Nat.le_of_ble_eq_true rfl)) dX4_init_20 ⟨Nat.le_of_ble_eq_true rfl, Nat.le_of_ble_eq_true rfl⟩) (fun H locs hZ hS => ?_)
  have hZ : zn D vwCl d ([.inr (4, [.ref (d + 1), .null, .null, .null]), .inr (0, [.ref (d + 2), .ref (d + 3), .ref (d + 4), .ref (d + 5), .ref (d + 6), .ref (d + 7), .ref (d + 8), .ref (d + 9), .ref (d + 10), .int 0, .int 0]), aI cI 400, aI cI 400, aI cI 400, aI cI 400, aI cI 400, aI cI 400, aI cI 400, aI cZ 400, aI cI 400, .inr (1, [.ref (d + 12), .ref (d + 13), .ref (d + 14), .ref (d + 15), .int 0]), aI cI 4800, aI cI 400, aI cI 400, aI cI 400]) H := hZ
  refine zn_putF (k := 0) (j := 1) (v := .ref (d + 11)) C hin2 K hZ hS (show s.heap.size + 15 ≤ d + 16 by omega) rfl rfl (zmem uwX4) tyX4 tyX4_ok nmX4 (by decide) (C.tb flX4_19) rfl rfl rfl rfl rfl (Nat.le_of_ble_eq_true rfl) dX4_init_23 (fun H locs hZ hS => ?_)
  have hZ : zn D vwCl d ([.inr (4, [.ref (d + 1), .ref (d + 11), .null, .null]), .inr (0, [.ref (d + 2), .ref (d + 3), .ref (d + 4), .ref (d + 5), .ref (d + 6), .ref (d + 7), .ref (d + 8), .ref (d + 9), .ref (d + 10), .int 0, .int 0]), aI cI 400, aI cI 400, aI cI 400, aI cI 400, aI cI 400, aI cI 400, aI cI 400, aI cZ 400, aI cI 400, .inr (1, [.ref (d + 12), .ref (d + 13), .ref (d + 14), .ref (d + 15), .int 0]), aI cI 4800, aI cI 400, aI cI 400, aI cI 400]) H := hZ
  refine zg_aload_n C dX4_init_26 rfl (lv_at hl 0 rfl) ?_
  refine zn_newo (ci := 3) (fs := [.null, .null, .int 0, .int 0]) C K hZ hS (zmem uwX3) tyX3 tyX3_ok clX4_23 insX3 iniX3 rfl frX3 (Nat.le_of_ble_eq_true rfl) (Nat.le_of_ble_eq_true rfl) dX4_init_27 (fun H hZ hS => ?_)
  have hZ : zn D vwCl d ([.inr (4, [.ref (d + 1), .ref (d + 11), .null, .null]), .inr (0, [.ref (d + 2), .ref (d + 3), .ref (d + 4), .ref (d + 5), .ref (d + 6), .ref (d + 7), .ref (d + 8), .ref (d + 9), .ref (d + 10), .int 0, .int 0]), aI cI 400, aI cI 400, aI cI 400, aI cI 400, aI cI 400, aI cI 400, aI cI 400, aI cZ 400, aI cI 400, .inr (1, [.ref (d + 12), .ref (d + 13), .ref (d + 14), .ref (d + 15), .int 0]), aI cI 4800, aI cI 400, aI cI 400, aI cI 400, .inr (3, [.null, .null, .int 0, .int 0])]) H := hZ
  refine zg_dup C dX4_init_30 rfl ?_
  refine zn_cont (av := #[]) (es := [.inr (4, [.ref (d + 1), .ref (d + 11), .null, .null]), .inr (0, [.ref (d + 2), .ref (d + 3), .ref (d + 4), .ref (d + 5), .ref (d + 6), .ref (d + 7), .ref (d + 8), .ref (d + 9), .ref (d + 10), .int 0, .int 0]), aI cI 400, aI cI 400, aI cI 400, aI cI 400, aI cI 400, aI cI 400, aI cI 400, aI cZ 400, aI cI 400, .inr (1, [.ref (d + 12), .ref (d + 13), .ref (d + 14), .ref (d + 15), .int 0]), aI cI 4800, aI cI 400, aI cI 400, aI cI 400]) (b := d + 16) rfl hZ hS (Nat.le_of_ble_eq_true rfl) (va_runIN C.1 (kX3_init l (cI := cI) (cZ := cZ) (cR := cR) (d + 16)) ⟨va_cnB 0 C.ts (zgI cdX3_init) rfl rfl rfl hEX3 (C.tb iniX3) (by decide +kernel) ⟨Nat.le_of_ble_eq_true rfl, Nat.le_of_ble_eq_true rfl⟩, rfl, C.tb imX3_init⟩ (zn_pre (es := [.inr (4, [.ref (d + 1), .ref (d + 11), .null, .null]), .inr (0, [.ref (d + 2), .ref (d + 3), .ref (d + 4), .ref (d + 5), .ref (d + 6), .ref (d + 7), .ref (d + 8), .ref (d + 9), .ref (d + 10), .int 0, .int 0]), aI cI 400, aI cI 400, aI cI 400, aI cI 400, aI cI 400, aI cI 400, aI cI 400, aI cZ 400, aI cI 400, .inr (1, [.ref (d + 12), .ref (d + 13), .ref (d + 14), .ref (d + 15), .int 0]), aI cI 4800, aI cI 400, aI cI 400, aI cI 400]) rfl K hZ (fun _ _ => trivial) (fun _ _ _ _ _ => trivial)) rfl rfl hl.1 rfl (lv_room (Nat.le_of_ble_eq_true rfl)) dX4_init_31 ⟨Nat.le_of_ble_eq_true rfl, Nat.le_of_ble_eq_true rfl⟩) (fun H locs hZ hS => ?_)
  have hZ : zn D vwCl d ([.inr (4, [.ref (d + 1), .ref (d + 11), .null, .null]), .inr (0, [.ref (d + 2), .ref (d + 3), .ref (d + 4), .ref (d + 5), .ref (d + 6), .ref (d + 7), .ref (d + 8), .ref (d + 9), .ref (d + 10), .int 0, .int 0]), aI cI 400, aI cI 400, aI cI 400, aI cI 400, aI cI 400, aI cI 400, aI cI 400, aI cZ 400, aI cI 400, .inr (1, [.ref (d + 12), .ref (d + 13), .ref (d + 14), .ref (d + 15), .int 0]), aI cI 4800, aI cI 400, aI cI 400, aI cI 400, .inr (3, [.ref (d + 17), .ref (d + 18), .int 0, .int 0]), aI cI 300, aI cI 300]) H := hZ
  refine zn_putF (k := 0) (j := 2) (v := .ref (d + 16)) C hin2 K hZ hS (show s.heap.size + 18 ≤ d + 19 by omega) rfl rfl (zmem uwX4) tyX4 tyX4_ok nmX4 (by decide) (C.tb flX4_26) rfl rfl rfl rfl rfl (Nat.le_of_ble_eq_true rfl) dX4_init_34 (fun H locs hZ hS => ?_)
  have hZ : zn D vwCl d ([.inr (4, [.ref (d + 1), .ref (d + 11), .ref (d + 16), .null]), .inr (0, [.ref (d + 2), .ref (d + 3), .ref (d + 4), .ref (d + 5), .ref (d + 6), .ref (d + 7), .ref (d + 8), .ref (d + 9), .ref (d + 10), .int 0, .int 0]), aI cI 400, aI cI 400, aI cI 400, aI cI 400, aI cI 400, aI cI 400, aI cI 400, aI cZ 400, aI cI 400, .inr (1, [.ref (d + 12), .ref (d + 13), .ref (d + 14), .ref (d + 15), .int 0]), aI cI 4800, aI cI 400, aI cI 400, aI cI 400, .inr (3, [.ref (d + 17), .ref (d + 18), .int 0, .int 0]), aI cI 300, aI cI 300]) H := hZ
  refine zg_aload_n C dX4_init_37 rfl (lv_at hl 0 rfl) ?_
  refine zg_bipush C dX4_init_38 (by decide) ?_
  refine zn_newq (n := 6) (t0 := 2) C K hZ hS clX4_30 hEA rfl rfl (by decide) (by decide) (Nat.le_of_ble_eq_true rfl) (Nat.le_of_ble_eq_true rfl) dX4_init_40 (fun H hZ hS => ?_)
  have hZ : zn D vwCl d ([.inr (4, [.ref (d + 1), .ref (d + 11), .ref (d + 16), .null]), .inr (0, [.ref (d + 2), .ref (d + 3), .ref (d + 4), .ref (d + 5), .ref (d + 6), .ref (d + 7), .ref (d + 8), .ref (d + 9), .ref (d + 10), .int 0, .int 0]), aI cI 400, aI cI 400, aI cI 400, aI cI 400, aI cI 400, aI cI 400, aI cI 400, aI cZ 400, aI cI 400, .inr (1, [.ref (d + 12), .ref (d + 13), .ref (d + 14), .ref (d + 15), .int 0]), aI cI 4800, aI cI 400, aI cI 400, aI cI 400, .inr (3, [.ref (d + 17), .ref (d + 18), .int 0, .int 0]), aI cI 300, aI cI 300, .inl (cR, 6, .inr (.inr (.inr (.inr (fun _ => none)))))]) H := hZ
  refine zn_putF (k := 0) (j := 3) (v := .ref (d + 19)) C hin2 K hZ hS (show s.heap.size + 19 ≤ d + 20 by omega) rfl rfl (zmem uwX4) tyX4 tyX4_ok nmX4 (by decide) (C.tb flX4_32) rfl rfl rfl rfl rfl (Nat.le_of_ble_eq_true rfl) dX4_init_43 (fun H locs hZ hS => ?_)
  have hZ : zn D vwCl d ([.inr (4, [.ref (d + 1), .ref (d + 11), .ref (d + 16), .ref (d + 19)]), .inr (0, [.ref (d + 2), .ref (d + 3), .ref (d + 4), .ref (d + 5), .ref (d + 6), .ref (d + 7), .ref (d + 8), .ref (d + 9), .ref (d + 10), .int 0, .int 0]), aI cI 400, aI cI 400, aI cI 400, aI cI 400, aI cI 400, aI cI 400, aI cI 400, aI cZ 400, aI cI 400, .inr (1, [.ref (d + 12), .ref (d + 13), .ref (d + 14), .ref (d + 15), .int 0]), aI cI 4800, aI cI 400, aI cI 400, aI cI 400, .inr (3, [.ref (d + 17), .ref (d + 18), .int 0, .int 0]), aI cI 300, aI cI 300, .inl (cR, 6, .inr (.inr (.inr (.inr (fun _ => none)))))]) H := hZ
  refine zg_iconst C dX4_init_46 ?_
  refine zg_istore_n (lv' := [(1, .int (jI 0)), (0, .ref d)]) C dX4_init_47 rfl hl (by decide) rfl (fun ls hl => ?_)
  have hZ := zn_congq (k := 19) (n := 6) (g := fun j => if j < 0 then some (d + (20 + 6 * j)) else none) hZ rfl (fun j _ => by simp)
  exact lpX4_init_48 d C K h0 7 0 _ _ _ (by omega) (by omega) hZ hS (lv_sub hl [1, 0] rfl)
