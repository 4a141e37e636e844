/-! WHAT THE CONSTRUCTORS MADE IS THE TWO WORLDS AT THEIR START -/
theorem zn_zw {D : va_G} {cl : List vw_C} {d b N : Nat} {es0 es es2 : List va_E} {H : Heap} {lay : Nat → (Nat → Int) → va_E} {a : Nat → Nat} {σ : Zt} (hZ : zn D cl d (es0 ++ (es ++ es2)) H) (hb : b = d + es0.length) (he : es = (List.range N).map (fun k => lay k (σ k))) (ha : ∀ k, a k = b + k) : va_P D cl (zw N lay a σ) H := by
  intro k q hq
  obtain ⟨hk, rfl⟩ := zw_inv hq
  have h1 : es[k]? = some (lay k (σ k)) := by rw [he]; simp [hk]
  have h2 : (es0 ++ (es ++ es2))[es0.length + k]? = some (lay k (σ k)) := by
    rw [List.getElem?_append_right (by omega), show es0.length + k - es0.length = k by omega, List.getElem?_append_left (List.getElem?_eq_some_iff.mp h1).1]
    exact h1
  have h3 := hZ.2 _ _ (zl_get (d := d) h2)
  rw [ha, hb, Nat.add_assoc]
  exact h3
set_option maxRecDepth 100000 in
theorem esS_lay {cI cZ cR : ClassId} {d : Nat} : preB cI cZ cR d (fun j => some (aS d (20 + 6 * j))) ++ flB cI cZ d 6 = (List.range 56).map (fun k => layS cI cZ cR (aS d) k (kap0 k)) := rfl
