/-! ROWS OF THE LAW: two worlds side by side, the cell for an answer, the script -/
theorem zj_keep {D : va_G} {cl : List vw_C} {N1 N2 : Nat} {lay1 lay2 : Nat → (Nat → Int) → va_E} {a1 a2 : Nat → Nat} {σ1 σ2 : Zt} {H H1 : Heap} (hP : va_P D cl (zw N2 lay2 a2 σ2) H) (hd : ∀ i j, i < N1 → j < N2 → a1 i ≠ a2 j)
    (hk : ∀ q : Nat, q < H.size → ¬ va_A (zw N1 lay1 a1 σ1) H.size q → H1[q]? = H[q]?) : va_P D cl (zw N2 lay2 a2 σ2) H1 := by
  refine hP.kept (fun k q hq => ?_)
  have hlt := (hP k q hq).lt
  obtain ⟨h1, rfl⟩ := zw_inv hq
  refine hk _ hlt (fun h => ?_)
  rcases zw_A.mp h with ⟨i, hi, e⟩ | h
  · exact hd i k hi h1 e.symm
  · exact absurd hlt (by omega)
theorem zj_keepO {D : va_G} {cl : List vw_C} {N1 : Nat} {lay1 : Nat → (Nat → Int) → va_E} {a1 : Nat → Nat} {σ1 : Zt} {H H1 : Heap} {o : Nat × va_E} (hO : va_at D cl o H) (hd : ∀ i, i < N1 → a1 i ≠ o.1)
    (hk : ∀ q : Nat, q < H.size → ¬ va_A (zw N1 lay1 a1 σ1) H.size q → H1[q]? = H[q]?) : va_at D cl o H1 := by
  have hlt := hO.lt
  refine hO.kept (hk _ hlt (fun h => ?_))
  rcases zw_A.mp h with ⟨i, hi, e⟩ | h
  · exact hd i hi e.symm
  · exact absurd hlt (by omega)
section ZJ
variable {p : Program} {l : Launch} {e : Env} {R : Room} {s : State} {m : MethodId} {args : Array Value} {below : List Frame} {meth : Method} {c : Code} {H : Heap} {locs : List Loc} {cells slots : Nat} {Q : State → Prop}
variable {cc : ByteArray} {pc : Nat} {ls : Array Slot} {rest st0 : List Value} {nL : Nat} {ret : Option FieldType} {Ts : List Cond} {own : String}
variable {D : va_G} {cl : List vw_C} {tys : List (ClassId × FieldType)} {A : Nat → Prop} {a a2 : Nat → Nat} {N N2 : Nat} {lay lay2 : Nat → (Nat → Int) → va_E} {σ σ2 : Zt}
variable {y : MethodName} {bytes : ByteArray} {maxL n index : Nat} {ret' : Option FieldType} {ws : List Cond} {rm : Room} {As : List Value} {Cn : String}
theorem zj_callV {k ci : Nat} {fs : List Value} {q : vw_C} {o : Nat × va_E} {post : Int32 → Zt → Prop} (C : zk p s m args meth c cc nL ret Ts own) (X : zx D cl tys A a N s) (hP : va_P D cl (zw N lay a σ) H) (hP2 : va_P D cl (zw N2 lay2 a2 σ2) H) (hO : va_at D cl o H) (hS : va_S A s.heap H locs) (hd : ∀ i j, i < N → j < N2 → a i ≠ a2 j) (ho : ∀ i, i < N → a i ≠ o.1) (hM : zc l D cl tys N lay a y ws rm (.ref (a k) :: As) σ post)
    (cw : CallW R s args own Cn index y bytes maxL ret' ws rm 0 0 n) (hk : k < N) (hlay : lay k (σ k) = .inr (ci, fs)) (hc : cl[ci]? = some q) (hq : q.1 = Cn) (hn : As.length = n) (hsize : ls.size = nL) (hst : st0 = As.reverse ++ .ref (a k) :: rest) (hW : (rest.map fun v => v.category).sum ≤ 8) (hdg : decode cc pc = .ok (.invokevirtual index, 3)) (hf : cells ≤ R.cells ∧ slots ≤ R.slots)
    (kk : ∀ (r : Int32) (u : Zt) (H1 : Heap) (locs1 : List Loc), post r u → va_P D cl (zw N lay a u) H1 → va_P D cl (zw N2 lay2 a2 σ2) H1 → va_at D cl o H1 → va_S A s.heap H1 locs1 → W p l e R s m args below meth c H1 locs1 cells slots Q (F0 m (pc + 3) ls (.int r :: rest))) : W p l e R s m args below meth c H locs cells slots Q (F0 m pc ls st0) := by
  refine va_calli (va_runV C.1 (hM H.size) cw ⟨zpre, by rw [← hq]; exact va_recv X.1 hP hc (by rw [zw_get hk, hlay]), zstart X hP⟩ rfl hn hsize hst (lv_room hW) hdg hf) hS (fun q _ h => zfree X hS q h) (zfree X hS) (fun r u t H1 locs1 ht hvm hw hB hz1 hk1 hS => ?_)
  rw [ht] at hB
  exact kk r u H1 locs1 hw hB (zj_keep hP2 hd hk1) (zj_keepO hO ho hk1) hS
theorem zj_same {x : Int32} {off : Int} {tgt : Nat} (C : zk p s m args meth c cc nL ret Ts own) (hdg : decode cc pc = .ok (.if_icmp .eq off, 3)) (ht : (pc : Int) + off = (tgt : Int))
    (kt : W p l e R s m args below meth c H locs cells slots Q (F0 m tgt ls rest)) : W p l e R s m args below meth c H locs cells slots Q (F0 m pc ls (.int x :: .int x :: rest)) :=
  lv_icmp_eq C.1.1 C.1.2.1 hdg ht (fun _ => kt) (fun h => absurd rfl h)
theorem zj_iand {x z : Int32} (C : zk p s m args meth c cc nL ret Ts own) (hdg : decode cc pc = .ok (.iand, 1))
    (k : ∀ w : Int, -2147483648 ≤ w → w < 2147483648 → W p l e R s m args below meth c H locs cells slots Q (F0 m (pc + 1) ls (.int (jI w) :: rest))) : W p l e R s m args below meth c H locs cells slots Q (F0 m pc ls (.int z :: .int x :: rest)) := by
  refine lv_iand C.1.1 C.1.2.1 hdg ?_
  have h := k ((x &&& z).toInt) (jI_lo _) (jI_hi _)
  rw [jI_of] at h
  exact h
theorem zj_sld {b L : Nat} {xs : Nat → Int32} {i : Int} (C : zk p s m args meth c cc nL ret Ts own) (hX : va_X b L xs s s.heap) (hbl : b < s.heap.size) (hbA : ¬ A b) (hS : va_S A s.heap H locs) (hL : L < 2147483648) (i0 : 0 ≤ i) (i1 : i < L) (hdg : decode cc pc = .ok (.iaload, 1))
    (kk : W p l e R s m args below meth c H locs cells slots Q (F0 m (pc + 1) ls (.int (jI (xs i.toNat).toInt) :: rest))) : W p l e R s m args below meth c H locs cells slots Q (F0 m pc ls (.int (jI i) :: .ref b :: rest)) := by
  refine va_sld C.1.1 C.1.2.1 hX hbl hbA hS (jI_in i0 i1 hL) hdg ?_
  rw [jI_clamp i0 (by omega), ← jI_of (xs i.toNat)]
  exact kk
theorem zj_slen {b L : Nat} {xs : Nat → Int32} (C : zk p s m args meth c cc nL ret Ts own) (hX : va_X b L xs s s.heap) (hbl : b < s.heap.size) (hbA : ¬ A b) (hS : va_S A s.heap H locs) (hdg : decode cc pc = .ok (.arraylength, 1))
    (kk : W p l e R s m args below meth c H locs cells slots Q (F0 m (pc + 1) ls (.int (jI L) :: rest))) : W p l e R s m args below meth c H locs cells slots Q (F0 m pc ls (.ref b :: rest)) := by
  refine va_slen C.1.1 C.1.2.1 hX hbl hbA hS hdg ?_
  rw [show Int32.ofNat L = jI L from (jI_nI L).symm]
  exact kk
end ZJ
