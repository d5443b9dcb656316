/-! THE START: the fresh objects are related -/
theorem g0_a (f : Nat → Int32) (f2 : Nat → Int32) (h : iniF12 f f2) : ∀ j, j < 439 → f j = nI 0 := by
  rw [h.1]
  decide +kernel
theorem g0_b (f : Nat → Int32) (f2 : Nat → Int32) (h : iniF12 f f2) : ∀ j, j < 8 → f (439 + j) = -nI 1 := by
  rw [h.1]
  decide +kernel
theorem g0_c (f : Nat → Int32) (f2 : Nat → Int32) (h : iniF12 f f2) : ∀ j, j < 24 → f (447 + j) = nI 0 := by
  rw [h.1]
  decide +kernel
theorem g0_d (f : Nat → Int32) (f2 : Nat → Int32) (h : iniF12 f f2) : f 471 = nI 5 ∧ f 472 = nI 9 ∧ f 473 = nI 3 ∧ f 474 = nI 0 ∧ f 475 = nI 0 ∧ f 476 = nI 0 ∧ f 477 = -nI 1 := by
  rw [h.1]
  decide +kernel
theorem g0_w (f : Nat → Int32) (f2 : Nat → Int32) (h : iniF12 f f2) : ∀ j, j < 137 → f2 j = rWords j := by
  rw [h.2]
  decide +kernel
theorem t0_v : ∀ j, j < 5 → va_cpy (ph_tf 3) (fun _ => 0) 0 0 5 j = ([nI 0, nI 5, nI 9, nI 3, nI 0] : List Int32).getD j 0 := by decide +kernel
theorem ini_rel (f16 f17 f18 f19 f20 f38 f39 f40 f41 f42 f61 f62 f63 f64 f65 f83 f84 f85 f86 f87 f323 f279 : Nat → Int32) (h1 : iniF11 f16 f17 f18 f19 f20 f38 f39 f40 f41 f42 f61 f62 f63 f64 f65 f83 f84 f85 f86 f87) (h2 : iniF12 f323 f279) : RelF (ph_kdX, 88) (ini11 f16 f17 f18 f19 f20 f38 f39 f40 f41 f42 f61 f62 f63 f64 f65 f83 f84 f85 f86 f87) (ini12 f323 f279) := by
  obtain ⟨a16, a17, a18, a19, a20, _⟩ := h1
  obtain ⟨d1, d2, d3, d4, d5, d6, d7⟩ := g0_d _ _ h2
  have ga := g0_a _ _ h2
  have gb := g0_b _ _ h2
  have gc := g0_c _ _ h2
  have x21 : ∀ j, j < 5 → (ini11 f16 f17 f18 f19 f20 f38 f39 f40 f41 f42 f61 f62 f63 f64 f65 f83 f84 f85 f86 f87).1 21 j = ([nI 0, nI 5, nI 9, nI 3, nI 0] : List Int32).getD j 0 := fun j hj => t0_v j hj
  have xr : ∀ e i, e ≠ 1 → (ini11 f16 f17 f18 f19 f20 f38 f39 f40 f41 f42 f61 f62 f63 f64 f65 f83 f84 f85 f86 f87).2.2 e i = none := fun e i he => if_neg he
  refine ⟨⟨⟨⟨Nat.le_refl _, fun _ _ => rfl⟩, fun e i he _ => by rw [xr e i (by omega)]; rfl⟩, ⟨rfl, fun _ _ => rfl, rfl, rfl, rfl, ⟨0, 0, by omega, by omega, rfl, rfl⟩, ⟨0, by omega, rfl, rfl, fun p hp => absurd hp (by omega)⟩, rfl, fun _ _ _ => rfl, rfl, rfl, g0_w _ _ h2⟩, ⟨0, by omega, rfl, rfl, fun j hj => absurd hj (by omega)⟩, ⟨rfl, Or.inl rfl⟩, ⟨rfl, Or.inl rfl⟩, 0, 0, ⟨⟨by omega, by omega, rfl, d5, rfl, d6, d7.symm, Or.inl d7⟩, ⟨⟨0, by omega, x21 0 (by omega), ga 222 (by omega), fun j hj => absurd hj (by omega)⟩, fun j _ hj => ⟨rfl, a18 j hj, a19 j hj, ga j (by omega)⟩, fun p hp => ⟨(ga (216 + p) (by omega)).symm, ⟨0, by omega, ga (216 + p) (by omega)⟩, fun _ => rfl⟩⟩, ⟨fun j hj => absurd hj (by omega), fun j _ hj => ⟨a16 j hj, rfl, a17 j hj⟩⟩, fun f hf => ⟨(a20 f hf).trans (gb f hf).symm, Or.inl (gb f hf)⟩, fun j hj => ⟨(gc j hj).symm, ⟨0, by omega, gc j hj⟩⟩, ⟨⟨(x21 1 (by omega)).trans d1.symm, ⟨5, by omega, d1⟩⟩, ⟨(x21 2 (by omega)).trans d2.symm, ⟨9, by omega, d2⟩⟩, ⟨(x21 3 (by omega)).trans d3.symm, ⟨3, by omega, d3⟩⟩, ⟨(x21 4 (by omega)).trans d4.symm, ⟨0, by omega, d4⟩⟩⟩, fun i _ => by rw [xr 22 i (by omega)]; rfl, fun i hi => absurd hi (by omega)⟩, ⟨0, 0, by omega, by omega, rfl, rfl, rfl, trivial⟩⟩, fun c c1 c2 => ?_⟩
  have c2 : c < 88 := c2
  omega
