/-! PURE HALF: orders: one order is carried out, in both -/
theorem m_sm {K : ph_Mem} (v : Int64) : ∃ y, f12_small K v = some y ∧ ∀ h, h < 2 ^ 20 → (y = nI h → v = lN h ∨ (1000000 < h)) ∧ (v = lN h → h ≤ 1000000 → y = nI h) := by
  have ne : ∀ h, h < 2 ^ 20 → ¬ -nI 1 = nI h := fun h hh q => by
    have q := q.symm
    rw [q_eqn (by omega) (by omega)] at q
    omega
  unfold f12_small
  by_cases v0 : v < 0
  · refine ⟨-nI 1, by rw [if_pos ((lg_cmp_lt _ _).mpr v0)]; rfl, fun h hh => ⟨fun q => absurd q (ne h hh), fun q _ => ?_⟩⟩
    subst q
    exact absurd ((pk_lLT (a := h) (b := 0) (by omega) (by omega)).mp v0) (by omega)
  · obtain ⟨k, k1, rfl⟩ := pk_lOf v0
    rw [if_neg (fun q => v0 ((lg_cmp_lt _ _).mp q))]
    by_cases k2 : k ≤ 1000000
    · rw [if_pos (show lg_cmp (lN k) 1000000 ≤ 0 from (lg_cmp_le _ _).mpr ((pk_lLE (a := k) (b := 1000000) k1 (by omega)).mpr k2))]
      refine ⟨_, rfl, fun h hh => ⟨fun q => ?_, fun q _ => ?_⟩⟩
      · rw [lN_i] at q
        rw [(nI_eq (by omega) (by omega)).mp q]
        exact Or.inl rfl
      · rw [q, lN_i]
    · rw [if_neg (show ¬ lg_cmp (lN k) 1000000 ≤ 0 from fun q => k2 ((pk_lLE (a := k) (b := 1000000) k1 (by omega)).mp ((lg_cmp_le _ _).mp q)))]
      refine ⟨-nI 1, rfl, fun h hh => ⟨fun q => absurd q (ne h hh), fun q z => ?_⟩⟩
      have : k = h := by
        have a1 := (pk_lLE (a := k) (b := h) k1 (by omega)).mp (by rw [q]; exact Int64.le_refl _)
        omega
      omega
/-- a clause whose sums name no hour or no person: the class does nothing -/
theorem x_bad {S : ph_Sh} {X X1 X2 : ph_Mem} {q i kd n : Nat} {v0 v1 : Int64} (hk : f4_kindOf S X q (nI i) = some (nI kd)) (hkd : kd < 2) (e0 : f2_value S X 8 q (nI i) (nI 0) = some (v0, X1)) (e1 : f2_value S X1 8 q (nI i) (nI 1) = some (v1, X2)) (hn : n ≤ 6) (hX : X2.1 11 1 = nI n) (hb : ∀ h p, h < 12 → p < n → ¬ (v0 = lN h ∧ v1 = lN p)) : f8_runOnce S X q (nI i) 11 59 = some (nI 0, X2) := by
  unfold f8_runOnce
  simp only [q_lit]
  rw [hk, q_bd, if_neg (by rw [q_eq (by omega) (by omega)]; omega), e0, q_bd, e1, q_bd]
  by_cases a0 : v0 < 0
  · rw [if_pos (show lg_cmp v0 0 < nI 0 from (lg_cmp_lt _ _).mpr a0)]
  · rw [if_neg (show ¬ lg_cmp v0 0 < nI 0 from fun z => a0 ((lg_cmp_lt _ _).mp z))]
    obtain ⟨h, h1, rfl⟩ := pk_lOf a0
    by_cases a1 : 12 ≤ h
    · rw [if_pos (show nI 0 ≤ lg_cmp (lN h) 12 from (lg_cmp_ge _ _).mpr ((pk_lLE (a := 12) (b := h) (by omega) h1).mpr a1))]
    · rw [if_neg (show ¬ nI 0 ≤ lg_cmp (lN h) 12 from fun z => a1 ((pk_lLE (a := 12) (b := h) (by omega) h1).mp ((lg_cmp_ge _ _).mp z)))]
      by_cases b0 : v1 < 0
      · rw [if_pos (show lg_cmp v1 0 < nI 0 from (lg_cmp_lt _ _).mpr b0)]
      · rw [if_neg (show ¬ lg_cmp v1 0 < nI 0 from fun z => b0 ((lg_cmp_lt _ _).mp z))]
        obtain ⟨p, p1, rfl⟩ := pk_lOf b0
        rw [hX, nI_l (by omega)]
        rw [if_neg (show ¬ lg_cmp (lN p) (lN n) < nI 0 from fun z => hb h p (by omega) ((pk_lLT p1 (by omega)).mp ((lg_cmp_lt _ _).mp z)) ⟨rfl, rfl⟩)]
theorem x_good {S : ph_Sh} {X X1 X2 : ph_Mem} {q i kd n h p : Nat} (hk : f4_kindOf S X q (nI i) = some (nI kd)) (hkd : kd < 2) (e0 : f2_value S X 8 q (nI i) (nI 0) = some (lN h, X1)) (e1 : f2_value S X1 8 q (nI i) (nI 1) = some (lN p, X2)) (hn : n ≤ 6) (hX : X2.1 11 1 = nI n) (hh : h < 12) (hp : p < n) : f8_runOnce S X q (nI i) 11 59 = if kd = 0 then ((f9_tryPawn S X2 11 (nI p) (nI h) 59).bind fun q5 => f8_runOnce_j146 S q 11 59 (lN p) q5.1 q5.2) else ((f9_tryRedeem S X2 11 (nI p) (nI h) 59).bind fun q4 => f8_runOnce_j146 S q 11 59 (lN p) q4.1 q4.2) := by
  unfold f8_runOnce
  simp only [q_lit]
  rw [hk, q_bd, if_neg (by rw [q_eq (by omega) (by omega)]; omega), e0, q_bd, e1, q_bd]
  rw [if_neg (show ¬ lg_cmp (lN h) 0 < nI 0 from fun z => absurd ((pk_lLT (a := h) (b := 0) (by omega) (by omega)).mp ((lg_cmp_lt _ _).mp z)) (by omega)), if_neg (show ¬ nI 0 ≤ lg_cmp (lN h) 12 from fun z => absurd ((pk_lLE (a := 12) (b := h) (by omega) (by omega)).mp ((lg_cmp_ge _ _).mp z)) (by omega)), if_neg (show ¬ lg_cmp (lN p) 0 < nI 0 from fun z => absurd ((pk_lLT (a := p) (b := 0) (by omega) (by omega)).mp ((lg_cmp_lt _ _).mp z)) (by omega)), hX, nI_l (by omega), if_pos (show lg_cmp (lN p) (lN n) < nI 0 from (lg_cmp_lt _ _).mpr ((pk_lLT (by omega) (by omega)).mpr hp)), lN_i, lN_i]
  by_cases k0 : kd = 0
  · rw [if_pos (by rw [k0]), if_pos k0]
  · rw [if_neg (by rw [q_eq (by omega) (by omega)]; exact k0), if_neg k0]
/-- the model: no such hour or person -/
theorem m_whyB {K : ph_Mem} {n : Nat} {x y : Int32} (hK : K.1 2 475 = nI n) (hn : n ≤ 6) (hb : ∀ h p, h < 12 → p < n → ¬ (y = nI h ∧ x = nI p)) : ∃ v, f12_whyNot K x y = some v ∧ v < 0 ∧ ¬ 0 ≤ v := by
  obtain ⟨b, _, b2, b3⟩ := d_hour (fun _ => .inl (0, 0), 0) K K y
  unfold f12_whyNot
  rw [b2, q_bd]
  cases b
  · rw [if_pos (by first | rfl | trivial | decide)]
    exact ⟨-1, rfl, by decide, by decide⟩
  · rw [if_neg (by first | decide | exact fun q => absurd (show nI 1 = nI 0 from q) (by decide))]
    obtain ⟨h, h1, h2⟩ := b3 rfl
    obtain ⟨c, _, c2, c3, _⟩ := d_pers (fun _ => .inl (0, 0), 0) (X := ph_wi K 11 1 (nI n)) (c := 11) wi_s hK hn x
    rw [c2, q_bd]
    cases c
    · rw [if_pos (by first | rfl | trivial | decide)]
      exact ⟨-2, rfl, by decide, by decide⟩
    · obtain ⟨p, p1, p2⟩ := c3 rfl
      exact absurd ⟨h2, p2⟩ (hb h p h1 p1)
