/-! PURE HALF: pawn, redeem, pass, auction, undo -/
theorem kSc_t {A B C : ph_Mem} (h1 : kSc A B) (h2 : kSc B C) : kSc A C := ⟨fun d j a b => (h2.1 d j a b).trans (h1.1 d j a b), h2.2.trans h1.2⟩
theorem kSc_r {A : ph_Mem} : kSc A A := ⟨fun _ _ _ _ => rfl, rfl⟩
theorem m_canPawn {K : ph_Mem} {p h s v : Nat} (hp : p < 6) (hh : h < 12) (hs : s ≤ 2) (h1 : K.1 2 (12 * p + h) = nI s) (hv : v ≤ 1) (hb : ∃ K', f12_isBarred K (nI p) (nI h) = some (nI v, K') ∧ kSc K K') : ∃ K', f12_canPawn K (nI p) (nI h) = some (nI (decide (s = 0 ∧ v = 0)).toNat, K') ∧ kSc K K' := by
  obtain ⟨K', b1, b2⟩ := hb
  have e := m_holds (K := K) hp hh
  unfold f12_canPawn
  by_cases s0 : s = 0
  · subst s0
    have e1 : hP (K.1 2) p 0 h = true := by unfold hP; exact decide_eq_true h1
    by_cases v0 : v = 0
    · subst v0
      rw [decide_eq_true ⟨rfl, rfl⟩]
      refine ⟨K', ?_, b2⟩
      simp (disch := first | assumption | omega) only [q_lit, Int32.neg_neg, nI_add, pk_mul, q_sub, q_addn, q_nadd, q_lt, q_le, q_eq, q_eqn, q_neq, q_nen, q_ltn, q_nlt, q_len, q_nle, q_nltn, q_nlen, q_cl, q_ib, q_ibn, q_isz0, q_isz1, q_iszb, q_b0, q_b1, q_ng1, q_ng2, q_ng3, q_ng4, q_ng5, q_ng6, Bool.toNat_true, Bool.toNat_false, if_pos, if_neg, q_ct, q_cf, q_let, q_bd, q_it, q_if, Nat.zero_add, Nat.add_zero, true_and, and_true, false_and, and_false, or_false, false_or, or_true, true_or, Bool.true_eq_false, Bool.false_eq_true, wi_s, wi_o, wi_r, e, e1, b1]
    · rw [decide_eq_false (fun q => v0 q.2)]
      have v1 : v = 1 := by omega
      subst v1
      refine ⟨K', ?_, b2⟩
      simp (disch := first | assumption | omega) only [q_lit, Int32.neg_neg, nI_add, pk_mul, q_sub, q_addn, q_nadd, q_lt, q_le, q_eq, q_eqn, q_neq, q_nen, q_ltn, q_nlt, q_len, q_nle, q_nltn, q_nlen, q_cl, q_ib, q_ibn, q_isz0, q_isz1, q_iszb, q_b0, q_b1, q_ng1, q_ng2, q_ng3, q_ng4, q_ng5, q_ng6, Bool.toNat_true, Bool.toNat_false, if_pos, if_neg, q_ct, q_cf, q_let, q_bd, q_it, q_if, Nat.zero_add, Nat.add_zero, true_and, and_true, false_and, and_false, or_false, false_or, or_true, true_or, Bool.true_eq_false, Bool.false_eq_true, wi_s, wi_o, wi_r, e, e1, b1]
  · have e1 : hP (K.1 2) p 0 h = false := by
      unfold hP
      apply decide_eq_false
      rw [h1, q_eq (by omega) (by omega)]
      exact s0
    rw [decide_eq_false (fun q => s0 q.1)]
    refine ⟨K, ?_, kSc_r⟩
    simp (disch := first | assumption | omega) only [q_lit, Int32.neg_neg, nI_add, pk_mul, q_sub, q_addn, q_nadd, q_lt, q_le, q_eq, q_eqn, q_neq, q_nen, q_ltn, q_nlt, q_len, q_nle, q_nltn, q_nlen, q_cl, q_ib, q_ibn, q_isz0, q_isz1, q_iszb, q_b0, q_b1, q_ng1, q_ng2, q_ng3, q_ng4, q_ng5, q_ng6, Bool.toNat_true, Bool.toNat_false, if_pos, if_neg, q_ct, q_cf, q_let, q_bd, q_it, q_if, Nat.zero_add, Nat.add_zero, true_and, and_true, false_and, and_false, or_false, false_or, or_true, true_or, Bool.true_eq_false, Bool.false_eq_true, wi_s, wi_o, wi_r, e, e1]
theorem m_pawns {K : ph_Mem} {p h v d u : Nat} (hp : p < 6) (hh : h < 12) (hv : v ≤ 999) (hd : K.1 2 222 = nI d) (hu : K.1 2 (216 + p) = nI u) (hu2 : u ≤ 99999) (hb : ∃ K', f12_lendsFor K (nI p) (nI h) = some (nI v, K') ∧ kSc K K') : ∃ K', f12_pawns K (nI p) (nI h) = some (nI v, K') ∧ (∀ j, K'.1 2 j = gPawn (K.1 2) p (12 * p + h) v d (min 99999 (u + v)) j) ∧ (∀ e j, e ≠ 2 → e ≠ 12 → (e ≠ 0 ∨ (j ≠ 8 ∧ j ≠ 22 ∧ j ≠ 23 ∧ j ≠ 24)) → K'.1 e j = K.1 e j) ∧ K'.2 = K.2 := by
  obtain ⟨K1, b1, b2⟩ := hb
  have e2 : ∀ j, K1.1 2 j = K.1 2 j := fun j => b2.1 2 j (by omega) (by omega)
  refine ⟨ph_wi (ph_wi (ph_wi (ph_wi K1 2 (12 * p + h) (nI 1)) 2 (72 + (12 * p + h)) (nI v)) 2 (144 + (12 * p + h)) (nI d)) 2 (216 + p) (nI (min 99999 (u + v))), ?_, fun j => ?_, fun e j h1 h2 h3 => ?_, b2.2⟩
  · unfold f12_pawns
    simp (disch := first | assumption | omega) only [q_lit, Int32.neg_neg, nI_add, pk_mul, q_sub, q_addn, q_nadd, q_lt, q_le, q_eq, q_eqn, q_neq, q_nen, q_ltn, q_nlt, q_len, q_nle, q_nltn, q_nlen, q_cl, q_ib, q_ibn, q_isz0, q_isz1, q_iszb, q_b0, q_b1, q_ng1, q_ng2, q_ng3, q_ng4, q_ng5, q_ng6, Bool.toNat_true, Bool.toNat_false, if_pos, if_neg, q_ct, q_cf, q_let, q_bd, q_it, q_if, Nat.zero_add, Nat.add_zero, true_and, and_true, false_and, and_false, or_false, false_or, or_true, true_or, Bool.true_eq_false, Bool.false_eq_true, wi_s, wi_o, wi_r, m_place, b1, e2, hd, hu, m_lesser]
  · unfold gPawn
    rw [wi_if, wi_if, wi_if, wi_if, e2]
    simp only [true_and]
  · simp (disch := first | assumption | omega) only [q_lit, Int32.neg_neg, nI_add, pk_mul, q_sub, q_addn, q_nadd, q_lt, q_le, q_eq, q_eqn, q_neq, q_nen, q_ltn, q_nlt, q_len, q_nle, q_nltn, q_nlen, q_cl, q_ib, q_ibn, q_isz0, q_isz1, q_iszb, q_b0, q_b1, q_ng1, q_ng2, q_ng3, q_ng4, q_ng5, q_ng6, Bool.toNat_true, Bool.toNat_false, if_pos, if_neg, q_ct, q_cf, q_let, q_bd, q_it, q_if, Nat.zero_add, Nat.add_zero, true_and, and_true, false_and, and_false, or_false, false_or, or_true, true_or, Bool.true_eq_false, Bool.false_eq_true, wi_s, wi_o, wi_r]; exact b2.1 e j h2 h3
theorem m_canRed {K : ph_Mem} {p h s v u : Nat} (hp : p < 6) (hh : h < 12) (hs : s ≤ 2) (h1 : K.1 2 (12 * p + h) = nI s) (hv : s = 1 → v ≤ 9999) (hu : K.1 2 (216 + p) = nI u) (hu2 : u ≤ 99999) (hb : s = 1 → ∃ K', f12_costsFor K (nI p) (nI h) = some (nI v, K') ∧ kSc K K') : ∃ K', f12_canRedeem K (nI p) (nI h) = some (nI (decide (s = 1 ∧ v ≤ u)).toNat, K') ∧ kSc K K' := by
  unfold f12_canRedeem
  by_cases s1 : s = 1
  · subst s1
    obtain ⟨K', b1, b2⟩ := hb rfl
    have := hv rfl
    by_cases v0 : v ≤ u
    · rw [decide_eq_true ⟨rfl, v0⟩]
      refine ⟨K', ?_, b2⟩
      simp (disch := first | assumption | omega) only [q_lit, Int32.neg_neg, nI_add, pk_mul, q_sub, q_addn, q_nadd, q_lt, q_le, q_eq, q_eqn, q_neq, q_nen, q_ltn, q_nlt, q_len, q_nle, q_nltn, q_nlen, q_cl, q_ib, q_ibn, q_isz0, q_isz1, q_iszb, q_b0, q_b1, q_ng1, q_ng2, q_ng3, q_ng4, q_ng5, q_ng6, Bool.toNat_true, Bool.toNat_false, if_pos, if_neg, q_ct, q_cf, q_let, q_bd, q_it, q_if, Nat.zero_add, Nat.add_zero, true_and, and_true, false_and, and_false, or_false, false_or, or_true, true_or, Bool.true_eq_false, Bool.false_eq_true, wi_s, wi_o, wi_r, m_state, h1, hu, b1]
    · rw [decide_eq_false (fun q => v0 q.2)]
      refine ⟨K', ?_, b2⟩
      simp (disch := first | assumption | omega) only [q_lit, Int32.neg_neg, nI_add, pk_mul, q_sub, q_addn, q_nadd, q_lt, q_le, q_eq, q_eqn, q_neq, q_nen, q_ltn, q_nlt, q_len, q_nle, q_nltn, q_nlen, q_cl, q_ib, q_ibn, q_isz0, q_isz1, q_iszb, q_b0, q_b1, q_ng1, q_ng2, q_ng3, q_ng4, q_ng5, q_ng6, Bool.toNat_true, Bool.toNat_false, if_pos, if_neg, q_ct, q_cf, q_let, q_bd, q_it, q_if, Nat.zero_add, Nat.add_zero, true_and, and_true, false_and, and_false, or_false, false_or, or_true, true_or, Bool.true_eq_false, Bool.false_eq_true, wi_s, wi_o, wi_r, m_state, h1, hu, b1]
  · rw [decide_eq_false (fun q => s1 q.1)]
    refine ⟨K, ?_, kSc_r⟩
    simp (disch := first | assumption | omega) only [q_lit, Int32.neg_neg, nI_add, pk_mul, q_sub, q_addn, q_nadd, q_lt, q_le, q_eq, q_eqn, q_neq, q_nen, q_ltn, q_nlt, q_len, q_nle, q_nltn, q_nlen, q_cl, q_ib, q_ibn, q_isz0, q_isz1, q_iszb, q_b0, q_b1, q_ng1, q_ng2, q_ng3, q_ng4, q_ng5, q_ng6, Bool.toNat_true, Bool.toNat_false, if_pos, if_neg, q_ct, q_cf, q_let, q_bd, q_it, q_if, Nat.zero_add, Nat.add_zero, true_and, and_true, false_and, and_false, or_false, false_or, or_true, true_or, Bool.true_eq_false, Bool.false_eq_true, wi_s, wi_o, wi_r, m_state, h1]
theorem m_redeems {K : ph_Mem} {p h v u : Nat} (hp : p < 6) (hh : h < 12) (hv : v ≤ 9999) (hvu : v ≤ u) (hu : K.1 2 (216 + p) = nI u) (hu2 : u ≤ 99999) (hb : ∃ K', f12_costsFor K (nI p) (nI h) = some (nI v, K') ∧ kSc K K') : ∃ K', f12_redeems K (nI p) (nI h) = some (nI v, K') ∧ (∀ j, K'.1 2 j = gRed (K.1 2) p (12 * p + h) (u - v) j) ∧ (∀ e j, e ≠ 2 → e ≠ 12 → (e ≠ 0 ∨ (j ≠ 8 ∧ j ≠ 22 ∧ j ≠ 23 ∧ j ≠ 24)) → K'.1 e j = K.1 e j) ∧ K'.2 = K.2 := by
  obtain ⟨K1, b1, b2⟩ := hb
  have e2 : ∀ j, K1.1 2 j = K.1 2 j := fun j => b2.1 2 j (by omega) (by omega)
  refine ⟨ph_wi (ph_wi K1 2 (216 + p) (nI (u - v))) 2 (12 * p + h) (nI 0), ?_, fun j => ?_, fun e j h1 h2 h3 => ?_, b2.2⟩
  · unfold f12_redeems
    simp (disch := first | assumption | omega) only [q_lit, Int32.neg_neg, nI_add, pk_mul, q_sub, q_addn, q_nadd, q_lt, q_le, q_eq, q_eqn, q_neq, q_nen, q_ltn, q_nlt, q_len, q_nle, q_nltn, q_nlen, q_cl, q_ib, q_ibn, q_isz0, q_isz1, q_iszb, q_b0, q_b1, q_ng1, q_ng2, q_ng3, q_ng4, q_ng5, q_ng6, Bool.toNat_true, Bool.toNat_false, if_pos, if_neg, q_ct, q_cf, q_let, q_bd, q_it, q_if, Nat.zero_add, Nat.add_zero, true_and, and_true, false_and, and_false, or_false, false_or, or_true, true_or, Bool.true_eq_false, Bool.false_eq_true, wi_s, wi_o, wi_r, m_place, b1, e2, hu]
  · unfold gRed
    rw [wi_if, wi_if, e2]
    simp only [true_and]
  · simp (disch := first | assumption | omega) only [q_lit, Int32.neg_neg, nI_add, pk_mul, q_sub, q_addn, q_nadd, q_lt, q_le, q_eq, q_eqn, q_neq, q_nen, q_ltn, q_nlt, q_len, q_nle, q_nltn, q_nlen, q_cl, q_ib, q_ibn, q_isz0, q_isz1, q_iszb, q_b0, q_b1, q_ng1, q_ng2, q_ng3, q_ng4, q_ng5, q_ng6, Bool.toNat_true, Bool.toNat_false, if_pos, if_neg, q_ct, q_cf, q_let, q_bd, q_it, q_if, Nat.zero_add, Nat.add_zero, true_and, and_true, false_and, and_false, or_false, false_or, or_true, true_or, Bool.true_eq_false, Bool.false_eq_true, wi_s, wi_o, wi_r]; exact b2.1 e j h2 h3
theorem m_day_l {n inc : Nat} (hn : n ≤ 6) (hinc : inc ≤ 99) (K0 : ph_Mem) (h1 : K0.1 2 475 = nI n) (h2 : K0.1 2 471 = nI inc) (hp : ∀ q, q < n → ∃ u, u ≤ 100100 ∧ K0.1 2 (216 + q) = nI u) : ∀ (r q fuel : Nat) (K : ph_Mem), q + r = n → r < fuel → (∀ e j, e ≠ 2 ∨ j < 216 ∨ 216 + q ≤ j → K.1 e j = K0.1 e j) → (∀ j, j < q → K.1 2 (216 + j) = nI (min 99999 ((K0.1 2 (216 + j)).toNatClampNeg + inc))) → K.2 = K0.2 → ∃ K', f12_nextDay_l14 fuel (nI q) K = some K' ∧ (∀ e j, e ≠ 2 ∨ j < 216 ∨ 216 + n ≤ j → K'.1 e j = K0.1 e j) ∧ (∀ j, j < n → K'.1 2 (216 + j) = nI (min 99999 ((K0.1 2 (216 + j)).toNatClampNeg + inc))) ∧ K'.2 = K0.2
  | 0, q, f + 1, K, e, _, g1, g2, g3 => by
    have : q = n := by omega
    subst this
    have z1 : K.1 2 475 = nI q := (g1 2 475 (by omega)).trans h1
    refine ⟨K, ?_, g1, g2, g3⟩
    unfold f12_nextDay_l14 f12_people
    simp (disch := first | assumption | omega) only [q_lit, Int32.neg_neg, nI_add, pk_mul, q_sub, q_addn, q_nadd, q_lt, q_le, q_eq, q_eqn, q_neq, q_nen, q_ltn, q_nlt, q_len, q_nle, q_nltn, q_nlen, q_cl, q_ib, q_ibn, q_isz0, q_isz1, q_iszb, q_b0, q_b1, q_ng1, q_ng2, q_ng3, q_ng4, q_ng5, q_ng6, Bool.toNat_true, Bool.toNat_false, if_pos, if_neg, q_ct, q_cf, q_let, q_bd, q_it, q_if, Nat.zero_add, Nat.add_zero, true_and, and_true, false_and, and_false, or_false, false_or, or_true, true_or, Bool.true_eq_false, Bool.false_eq_true, wi_s, wi_o, wi_r, z1]
  | r + 1, q, f + 1, K, e, hf, g1, g2, g3 => by
    have z1 : K.1 2 475 = nI n := (g1 2 475 (by omega)).trans h1
    have z2 : K.1 2 471 = nI inc := (g1 _ _ (by omega)).trans h2
    obtain ⟨u, u1, u2⟩ := hp q (by omega)
    have z3 : K.1 2 (216 + q) = nI u := (g1 _ _ (by omega)).trans u2
    obtain ⟨K', y1, y2, y3, y4⟩ := m_day_l hn hinc K0 h1 h2 hp r (q + 1) f (ph_wi K 2 (216 + q) (nI (min 99999 (u + inc)))) (by omega) (by omega) (fun e j he => by simp (disch := first | assumption | omega) only [q_lit, Int32.neg_neg, nI_add, pk_mul, q_sub, q_addn, q_nadd, q_lt, q_le, q_eq, q_eqn, q_neq, q_nen, q_ltn, q_nlt, q_len, q_nle, q_nltn, q_nlen, q_cl, q_ib, q_ibn, q_isz0, q_isz1, q_iszb, q_b0, q_b1, q_ng1, q_ng2, q_ng3, q_ng4, q_ng5, q_ng6, Bool.toNat_true, Bool.toNat_false, if_pos, if_neg, q_ct, q_cf, q_let, q_bd, q_it, q_if, Nat.zero_add, Nat.add_zero, true_and, and_true, false_and, and_false, or_false, false_or, or_true, true_or, Bool.true_eq_false, Bool.false_eq_true, wi_s, wi_o, wi_r]; exact g1 e j (by omega)) (fun j hj => by
      by_cases ej : j = q
      · subst ej; simp (disch := first | assumption | omega) only [q_lit, Int32.neg_neg, nI_add, pk_mul, q_sub, q_addn, q_nadd, q_lt, q_le, q_eq, q_eqn, q_neq, q_nen, q_ltn, q_nlt, q_len, q_nle, q_nltn, q_nlen, q_cl, q_ib, q_ibn, q_isz0, q_isz1, q_iszb, q_b0, q_b1, q_ng1, q_ng2, q_ng3, q_ng4, q_ng5, q_ng6, Bool.toNat_true, Bool.toNat_false, if_pos, if_neg, q_ct, q_cf, q_let, q_bd, q_it, q_if, Nat.zero_add, Nat.add_zero, true_and, and_true, false_and, and_false, or_false, false_or, or_true, true_or, Bool.true_eq_false, Bool.false_eq_true, wi_s, wi_o, wi_r, u2]
      · simp (disch := first | assumption | omega) only [q_lit, Int32.neg_neg, nI_add, pk_mul, q_sub, q_addn, q_nadd, q_lt, q_le, q_eq, q_eqn, q_neq, q_nen, q_ltn, q_nlt, q_len, q_nle, q_nltn, q_nlen, q_cl, q_ib, q_ibn, q_isz0, q_isz1, q_iszb, q_b0, q_b1, q_ng1, q_ng2, q_ng3, q_ng4, q_ng5, q_ng6, Bool.toNat_true, Bool.toNat_false, if_pos, if_neg, q_ct, q_cf, q_let, q_bd, q_it, q_if, Nat.zero_add, Nat.add_zero, true_and, and_true, false_and, and_false, or_false, false_or, or_true, true_or, Bool.true_eq_false, Bool.false_eq_true, wi_s, wi_o, wi_r]; exact g2 j (by omega)) g3
    refine ⟨K', ?_, y2, y3, y4⟩
    unfold f12_nextDay_l14 f12_people
    simp (disch := first | assumption | omega) only [q_lit, Int32.neg_neg, nI_add, pk_mul, q_sub, q_addn, q_nadd, q_lt, q_le, q_eq, q_eqn, q_neq, q_nen, q_ltn, q_nlt, q_len, q_nle, q_nltn, q_nlen, q_cl, q_ib, q_ibn, q_isz0, q_isz1, q_iszb, q_b0, q_b1, q_ng1, q_ng2, q_ng3, q_ng4, q_ng5, q_ng6, Bool.toNat_true, Bool.toNat_false, if_pos, if_neg, q_ct, q_cf, q_let, q_bd, q_it, q_if, Nat.zero_add, Nat.add_zero, true_and, and_true, false_and, and_false, or_false, false_or, or_true, true_or, Bool.true_eq_false, Bool.false_eq_true, wi_s, wi_o, wi_r, z1, z2, z3, m_lesser]
    exact y1
theorem m_day {K : ph_Mem} {n inc d : Nat} (hn : n ≤ 6) (hinc : inc ≤ 99) (h1 : K.1 2 475 = nI n) (h2 : K.1 2 471 = nI inc) (hd : K.1 2 222 = nI d) (hp : ∀ q, q < n → ∃ u, u ≤ 100100 ∧ K.1 2 (216 + q) = nI u) : ∃ K', f12_nextDay K = some K' ∧ (∀ j, K'.1 2 j = gDay (K.1 2) n d inc j) ∧ (∀ e j, e ≠ 2 → K'.1 e j = K.1 e j) ∧ K'.2 = K.2 := by
  obtain ⟨K', y1, y2, y3, y4⟩ := m_day_l hn hinc (ph_wi K 2 222 (nI (d + 1))) (by simp (disch := first | assumption | omega) only [q_lit, Int32.neg_neg, nI_add, pk_mul, q_sub, q_addn, q_nadd, q_lt, q_le, q_eq, q_eqn, q_neq, q_nen, q_ltn, q_nlt, q_len, q_nle, q_nltn, q_nlen, q_cl, q_ib, q_ibn, q_isz0, q_isz1, q_iszb, q_b0, q_b1, q_ng1, q_ng2, q_ng3, q_ng4, q_ng5, q_ng6, Bool.toNat_true, Bool.toNat_false, if_pos, if_neg, q_ct, q_cf, q_let, q_bd, q_it, q_if, Nat.zero_add, Nat.add_zero, true_and, and_true, false_and, and_false, or_false, false_or, or_true, true_or, Bool.true_eq_false, Bool.false_eq_true, wi_s, wi_o, wi_r]; exact h1) (by simp (disch := first | assumption | omega) only [q_lit, Int32.neg_neg, nI_add, pk_mul, q_sub, q_addn, q_nadd, q_lt, q_le, q_eq, q_eqn, q_neq, q_nen, q_ltn, q_nlt, q_len, q_nle, q_nltn, q_nlen, q_cl, q_ib, q_ibn, q_isz0, q_isz1, q_iszb, q_b0, q_b1, q_ng1, q_ng2, q_ng3, q_ng4, q_ng5, q_ng6, Bool.toNat_true, Bool.toNat_false, if_pos, if_neg, q_ct, q_cf, q_let, q_bd, q_it, q_if, Nat.zero_add, Nat.add_zero, true_and, and_true, false_and, and_false, or_false, false_or, or_true, true_or, Bool.true_eq_false, Bool.false_eq_true, wi_s, wi_o, wi_r]; exact h2) (fun q hq => by
    obtain ⟨u, u1, u2⟩ := hp q hq
    exact ⟨u, u1, by simp (disch := first | assumption | omega) only [q_lit, Int32.neg_neg, nI_add, pk_mul, q_sub, q_addn, q_nadd, q_lt, q_le, q_eq, q_eqn, q_neq, q_nen, q_ltn, q_nlt, q_len, q_nle, q_nltn, q_nlen, q_cl, q_ib, q_ibn, q_isz0, q_isz1, q_iszb, q_b0, q_b1, q_ng1, q_ng2, q_ng3, q_ng4, q_ng5, q_ng6, Bool.toNat_true, Bool.toNat_false, if_pos, if_neg, q_ct, q_cf, q_let, q_bd, q_it, q_if, Nat.zero_add, Nat.add_zero, true_and, and_true, false_and, and_false, or_false, false_or, or_true, true_or, Bool.true_eq_false, Bool.false_eq_true, wi_s, wi_o, wi_r]; exact u2⟩) n 0 10000 (ph_wi K 2 222 (nI (d + 1))) (by omega) (by omega) (fun _ _ _ => rfl) (fun j hj => absurd hj (by omega)) rfl
  refine ⟨K', ?_, fun j => ?_, fun e j he => by rw [y2 e j (by omega), wi_c he], y4⟩
  · unfold f12_nextDay
    simp (disch := first | assumption | omega) only [q_lit, Int32.neg_neg, nI_add, pk_mul, q_sub, q_addn, q_nadd, q_lt, q_le, q_eq, q_eqn, q_neq, q_nen, q_ltn, q_nlt, q_len, q_nle, q_nltn, q_nlen, q_cl, q_ib, q_ibn, q_isz0, q_isz1, q_iszb, q_b0, q_b1, q_ng1, q_ng2, q_ng3, q_ng4, q_ng5, q_ng6, Bool.toNat_true, Bool.toNat_false, if_pos, if_neg, q_ct, q_cf, q_let, q_bd, q_it, q_if, Nat.zero_add, Nat.add_zero, true_and, and_true, false_and, and_false, or_false, false_or, or_true, true_or, Bool.true_eq_false, Bool.false_eq_true, wi_s, wi_o, wi_r, hd]
    exact y1
  · unfold gDay
    by_cases e1 : j = 222
    · rw [if_pos e1, e1, y2 2 222 (by omega)]
      simp (disch := first | assumption | omega) only [q_lit, Int32.neg_neg, nI_add, pk_mul, q_sub, q_addn, q_nadd, q_lt, q_le, q_eq, q_eqn, q_neq, q_nen, q_ltn, q_nlt, q_len, q_nle, q_nltn, q_nlen, q_cl, q_ib, q_ibn, q_isz0, q_isz1, q_iszb, q_b0, q_b1, q_ng1, q_ng2, q_ng3, q_ng4, q_ng5, q_ng6, Bool.toNat_true, Bool.toNat_false, if_pos, if_neg, q_ct, q_cf, q_let, q_bd, q_it, q_if, Nat.zero_add, Nat.add_zero, true_and, and_true, false_and, and_false, or_false, false_or, or_true, true_or, Bool.true_eq_false, Bool.false_eq_true, wi_s, wi_o, wi_r]
    · rw [if_neg e1]
      by_cases e2 : 216 ≤ j ∧ j < 216 + n
      · rw [if_pos e2]
        obtain ⟨i, rfl⟩ : ∃ i, j = 216 + i := ⟨j - 216, by omega⟩
        rw [y3 i (by omega), wi_o (by omega)]
      · rw [if_neg e2, y2 2 j (by omega), wi_o (by omega)]
def rKp4 (K K' : ph_Mem) (sz k : Nat) : Prop := K'.1 0 28 = nI (min 16 (sz + 1)) ∧ (∀ j, j < 223 → K'.1 13 (224 * (min 15 sz) + j) = K.1 2 j) ∧ K'.1 13 (224 * (min 15 sz) + 223) = nI k ∧ (∀ j, j < 224 * (min 15 sz) → K'.1 13 j = K.1 13 (if sz = 16 then j + 224 else j))
theorem rKp4_of {K K1 K2 : ph_Mem} {sz k : Nat} (h1 : kSc K K1) (h2 : rKps K1 K2 sz k) : rKp4 K K2 sz k := ⟨h2.1, fun j hj => (h2.2.1 j hj).trans (h1.1 2 j (by omega) (by omega)), h2.2.2.1, fun j hj => (h2.2.2.2.1 j hj).trans (h1.1 13 _ (by omega) (by omega))⟩
/-- the log in both -/
theorem rLog_add {X X' K K1 K' : ph_Mem} {n nx sz k pl : Nat} {g : Nat → Int32} (hn : n ≤ 6) (hnx : nx < 16) (hsz : sz ≤ 16) (hpl : pl < 72) (hk : k < 4) (hv : rMv n (rVw X 11) (K.1 2)) (hu : rUn n (X.1 60) (K.1 13) sz nx (rVw X 11)) (he : xEn X X' 59 11 nx sz k pl) (hK : rKp4 K K1 sz k) (h1 : K'.1 0 28 = K1.1 0 28) (h2 : ∀ j, K'.1 13 j = K1.1 13 j) : rLog X' K' n := by
  obtain ⟨M, m1, M1, m2, m3, m4, m5, m6⟩ := he
  have eV : rVw M 11 = rVw X 11 := by
    unfold rVw
    rw [m1 (11 + 10) 0 (by omega)]
    congr 1
    · funext j; exact m1 _ _ (by omega)
    congr 1
    · funext j; exact m1 _ _ (by omega)
    congr 1
    · funext j; exact m1 _ _ (by omega)
    congr 1
    funext j; exact m1 _ _ (by omega)
  have eE : M.1 (59 + 1) = X.1 60 := funext fun j => m1 60 j (by omega)
  have e1 : X'.1 60 = M1.1 (59 + 1) := funext fun j => m5 j
  have e2 : K'.1 13 = K1.1 13 := funext h2
  obtain ⟨k1, k2, k3, k4⟩ := hK
  refine ⟨(nx + 1) % 16, min 16 (sz + 1), by omega, by omega, m3.trans m2.1, m4.trans m2.2.1, h1.trans k1, ?_⟩
  rw [e1, e2]
  exact rUn_add hn hnx hsz hpl hk m2 (by rw [eV]; exact hv) (by rw [eV, eE]; exact hu) k2 k3 k4 (fun j hj hne => by
    have a := m6 j hj hne
    have b1 : M.1 (11 + 5) j = X.1 (11 + 5) j := m1 (11 + 5) j (by omega)
    have b2 : M.1 (11 + 6) j = X.1 (11 + 6) j := m1 (11 + 6) j (by omega)
    have b3 : M.1 (11 + 7) j = X.1 (11 + 7) j := m1 (11 + 7) j (by omega)
    rw [b1, b2, b3]
    exact a)
/-- after a change of the street, undone or not -/
theorem Rel_st {RL : rLT} (hRL : rLoc RL) {S : ph_Sh} {X X' K K' : ph_Mem} {n t : Nat} (h : Rel RL S X K) (hx : xTr X X' 11 59) (hk : ∀ e j, e ≠ 2 → e ≠ 12 → e ≠ 13 → (e ≠ 0 ∨ (j ≠ 8 ∧ j ≠ 22 ∧ j ≠ 23 ∧ j ≠ 24 ∧ j ≠ 28)) → K'.1 e j = K.1 e j) (hs : rSt RL S X' 11 (K'.1 2) n t) (hl : rLog X' K' n) : Rel RL S X' K' :=
  Rel_mk hRL h (fun c j h1 h2 h3 => hx.1 c j (by omega) (by unfold rXj at h1; omega) (by omega) (by omega)) (fun c j _ => by rw [hx.2.1]) (fun c j h1 h2 h3 h4 => hk c j h2 (by unfold rKj at h1; omega) h3 (by unfold rKj at h1; omega)) hs hl
theorem Rel_sc {RL : rLT} (hRL : rLoc RL) {S : ph_Sh} {X X' K K' : ph_Mem} (h : Rel RL S X K) (hx : xSc X X') (hk : kSc K K') : Rel RL S X' K' :=
  Rel_fr hRL h (fun c j hc => hx.1 c j (by unfold rXj at hc; omega)) (fun c j _ => by rw [hx.2.1]) (fun c j hc => hk.1 c j (by unfold rKj at hc; omega) (by unfold rKj at hc; omega))
theorem x_auc {S : ph_Sh} {X : ph_Mem} {v : Nat} (hv : v < 2 ^ 31) : f11_acceptedUnlessCannot S X (nI v) = some (nI v, ph_wi X 0 18 (nI 0)) := by
  unfold f11_acceptedUnlessCannot
  simp (disch := first | assumption | omega) only [q_lit, Int32.neg_neg, nI_add, pk_mul, q_sub, q_addn, q_nadd, q_lt, q_le, q_eq, q_eqn, q_neq, q_nen, q_ltn, q_nlt, q_len, q_nle, q_nltn, q_nlen, q_cl, q_ib, q_ibn, q_isz0, q_isz1, q_iszb, q_b0, q_b1, q_ng1, q_ng2, q_ng3, q_ng4, q_ng5, q_ng6, Bool.toNat_true, Bool.toNat_false, if_pos, if_neg, q_ct, q_cf, q_let, q_bd, q_it, q_if, Nat.zero_add, Nat.add_zero, true_and, and_true, false_and, and_false, or_false, false_or, or_true, true_or, Bool.true_eq_false, Bool.false_eq_true, wi_s, wi_o, wi_r, x_acc]
theorem x_auc3 {S : ph_Sh} {X : ph_Mem} : f11_acceptedUnlessCannot S X (-nI 3) = some (-nI 3, ph_wi (ph_wi X 3 3 (X.1 3 3 + nI 1)) 0 18 (-nI 3)) := by
  unfold f11_acceptedUnlessCannot
  simp (disch := first | assumption | omega) only [q_lit, Int32.neg_neg, nI_add, pk_mul, q_sub, q_addn, q_nadd, q_lt, q_le, q_eq, q_eqn, q_neq, q_nen, q_ltn, q_nlt, q_len, q_nle, q_nltn, q_nlen, q_cl, q_ib, q_ibn, q_isz0, q_isz1, q_iszb, q_b0, q_b1, q_ng1, q_ng2, q_ng3, q_ng4, q_ng5, q_ng6, Bool.toNat_true, Bool.toNat_false, if_pos, if_neg, q_ct, q_cf, q_let, q_bd, q_it, q_if, Nat.zero_add, Nat.add_zero, true_and, and_true, false_and, and_false, or_false, false_or, or_true, true_or, Bool.true_eq_false, Bool.false_eq_true, wi_s, wi_o, wi_r, x_refused]
theorem m_gor {K : ph_Mem} {v : Nat} (hv : v < 2 ^ 31) : f12_goodOr K (nI v) = some (nI v, ph_wi K 0 0 (nI 0)) := by
  unfold f12_goodOr
  simp (disch := first | assumption | omega) only [q_lit, Int32.neg_neg, nI_add, pk_mul, q_sub, q_addn, q_nadd, q_lt, q_le, q_eq, q_eqn, q_neq, q_nen, q_ltn, q_nlt, q_len, q_nle, q_nltn, q_nlen, q_cl, q_ib, q_ibn, q_isz0, q_isz1, q_iszb, q_b0, q_b1, q_ng1, q_ng2, q_ng3, q_ng4, q_ng5, q_ng6, Bool.toNat_true, Bool.toNat_false, if_pos, if_neg, q_ct, q_cf, q_let, q_bd, q_it, q_if, Nat.zero_add, Nat.add_zero, true_and, and_true, false_and, and_false, or_false, false_or, or_true, true_or, Bool.true_eq_false, Bool.false_eq_true, wi_s, wi_o, wi_r, m_good]
theorem m_gorN {K : ph_Mem} (j : Nat) (h7 : j < 7) (h0 : 0 < j) : f12_goodOr K (-nI j) = some (-nI j, ph_wi (ph_wi K 0 0 (-nI j)) 1 j (K.1 1 j + nI 1)) := by
  unfold f12_goodOr
  have e : ¬ nI 0 ≤ -nI j := by rw [q_len (by omega) (by omega)]; omega
  simp (disch := first | assumption | omega) only [q_lit, Int32.neg_neg, nI_add, pk_mul, q_sub, q_addn, q_nadd, q_lt, q_le, q_eq, q_eqn, q_neq, q_nen, q_ltn, q_nlt, q_len, q_nle, q_nltn, q_nlen, q_cl, q_ib, q_ibn, q_isz0, q_isz1, q_iszb, q_b0, q_b1, q_ng1, q_ng2, q_ng3, q_ng4, q_ng5, q_ng6, Bool.toNat_true, Bool.toNat_false, if_pos, if_neg, q_ct, q_cf, q_let, q_bd, q_it, q_if, Nat.zero_add, Nat.add_zero, true_and, and_true, false_and, and_false, or_false, false_or, or_true, true_or, Bool.true_eq_false, Bool.false_eq_true, wi_s, wi_o, wi_r, e, m_refuses]
theorem s_pawn {RL : rLT} (hRL : rLoc RL) (hRul : rRul RL) : lws_pawn (Rel RL) := by
  intro S X K h a1 a2
  obtain ⟨n, t, hs, hlg⟩ := h.2.2.2.2.2
  have hn := hs.1.1
  unfold f11_pawn f12_pawn f12_pawnsKept f12_whyNot f12_pawnsKept_j20
  obtain ⟨b, e1, e2, e3⟩ := d_hour S X K a2
  cases b
  · simp (disch := first | assumption | omega) only [q_lit, Int32.neg_neg, nI_add, pk_mul, q_sub, q_addn, q_nadd, q_lt, q_le, q_eq, q_eqn, q_neq, q_nen, q_ltn, q_nlt, q_len, q_nle, q_nltn, q_nlen, q_cl, q_ib, q_ibn, q_isz0, q_isz1, q_iszb, q_b0, q_b1, q_ng1, q_ng2, q_ng3, q_ng4, q_ng5, q_ng6, Bool.toNat_true, Bool.toNat_false, if_pos, if_neg, q_ct, q_cf, q_let, q_bd, q_it, q_if, Nat.zero_add, Nat.add_zero, true_and, and_true, false_and, and_false, or_false, false_or, or_true, true_or, Bool.true_eq_false, Bool.false_eq_true, wi_s, wi_o, wi_r, e1, e2, x_refused, m_gorN]
    exact ⟨_, _, _, rfl, rfl, Rel_ref hRL h 1 (by omega)⟩
  obtain ⟨hh, hh1, rfl⟩ := e3 rfl
  obtain ⟨b, f1, f2, f3, _⟩ := d_pers S hs.1.2.2.1 hs.1.2.2.2.1 hs.1.1 a1
  cases b
  · simp (disch := first | assumption | omega) only [q_lit, Int32.neg_neg, nI_add, pk_mul, q_sub, q_addn, q_nadd, q_lt, q_le, q_eq, q_eqn, q_neq, q_nen, q_ltn, q_nlt, q_len, q_nle, q_nltn, q_nlen, q_cl, q_ib, q_ibn, q_isz0, q_isz1, q_iszb, q_b0, q_b1, q_ng1, q_ng2, q_ng3, q_ng4, q_ng5, q_ng6, Bool.toNat_true, Bool.toNat_false, if_pos, if_neg, q_ct, q_cf, q_let, q_bd, q_it, q_if, Nat.zero_add, Nat.add_zero, true_and, and_true, false_and, and_false, or_false, false_or, or_true, true_or, Bool.true_eq_false, Bool.false_eq_true, wi_s, wi_o, wi_r, e1, e2, f1, f2, x_refused, m_gorN]
    exact ⟨_, _, _, rfl, rfl, Rel_ref hRL h 2 (by omega)⟩
  obtain ⟨p, hp, rfl⟩ := f3 rfl
  obtain ⟨d, d1, d2, d3⟩ := rSt_day hs
  obtain ⟨s, s1, s2, s3⟩ := rSt_hr hs hp hh1
  obtain ⟨u, u1, u2, u3⟩ := rSt_pu hs (show p < 6 by omega)
  obtain ⟨V, v0, vx, vk⟩ := hRul S X 11 (K.1 2) n t p hh d h.1.1 (Or.inl rfl) hs hp hh1 d1 d3
  have v0' := v0 d (Nat.le_refl _) (by omega)
  obtain ⟨nx, sz, l1, l2, l3, l4, l5, l6⟩ := id hlg
  obtain ⟨xa, xb⟩ := x_pawn hRL hRul h.1.1 (l := 59) (Or.inl rfl) (by omega) (by omega) hs hp hh1 d1 d3 ⟨l1, l2, l3, l4⟩ V ⟨v0'.1, v0'.2.1⟩ (fun X1 kd q1 q2 q3 q4 => vx X1 kd d q1 q2 q3 q4 (Nat.le_refl _) (by omega))
  have vkK := vk K d (fun _ _ => rfl) d3 (Nat.le_refl _) (by omega)
  obtain ⟨K1, k1, k2⟩ := m_canPawn (show p < 6 by omega) hh1 s1 s3 v0'.2.1 vkK.2.1
  by_cases ok : s = 0 ∧ V 2 d = 0
  · rw [decide_eq_true ok] at k1
    have ok' : K.1 2 (12 * p + hh) = nI 0 ∧ V 2 d = 0 := ⟨by rw [s3, ok.1], ok.2⟩
    obtain ⟨X', x1, x2, x3, x4⟩ := xb ok' u u3 u1
    obtain ⟨K2, m1, m2⟩ := m_keeps (K := K1) (k := 0) l2 (by omega) ((k2.1 0 28 (by omega) (by omega)).trans l5)
    have c2 : ∀ j, K2.1 2 j = K.1 2 j := fun j => (m2.2.2.2.2.1 2 j (by omega) (by omega)).trans (k2.1 2 j (by omega) (by omega))
    have vk2 := vk K2 d (fun j _ => c2 j) ((c2 222).trans d3) (Nat.le_refl _) (by omega)
    obtain ⟨K3, n1, n2, n3, n4⟩ := m_pawns (show p < 6 by omega) hh1 v0'.1 ((c2 222).trans d3) ((c2 _).trans u3) u1 vk2.1
    have eg : ∀ j, K3.1 2 j = gPawn (K.1 2) p (12 * p + hh) (V 0 d) d (min 99999 (u + V 0 d)) j := fun j => by
      rw [n2 j]
      unfold gPawn
      rw [c2 j]
    have hl' : rLog X' K3 n := rLog_add (g := K.1 2) hn l1 l2 (show 12 * p + hh < 72 by omega) (by omega) hs.2.1 l6 x3 (rKp4_of k2 m2) (n3 0 28 (by omega) (by omega) (by omega)) (fun j => n3 13 j (by omega) (by omega) (by omega))
    simp (disch := first | assumption | omega) only [q_lit, Int32.neg_neg, nI_add, pk_mul, q_sub, q_addn, q_nadd, q_lt, q_le, q_eq, q_eqn, q_neq, q_nen, q_ltn, q_nlt, q_len, q_nle, q_nltn, q_nlen, q_cl, q_ib, q_ibn, q_isz0, q_isz1, q_iszb, q_b0, q_b1, q_ng1, q_ng2, q_ng3, q_ng4, q_ng5, q_ng6, Bool.toNat_true, Bool.toNat_false, if_pos, if_neg, q_ct, q_cf, q_let, q_bd, q_it, q_if, Nat.zero_add, Nat.add_zero, true_and, and_true, false_and, and_false, or_false, false_or, or_true, true_or, Bool.true_eq_false, Bool.false_eq_true, wi_s, wi_o, wi_r, e1, e2, f1, f2, x1, x_auc, k1, m1, n1, m_gor]
    exact ⟨_, _, _, rfl, rfl, Rel_acc hRL (Rel_st hRL h x2 (fun e j q1 q2 q3 q4 => by rw [n3 e j q1 q2 (by omega), m2.2.2.2.2.1 e j q3 (by omega), k2.1 e j q2 (by omega)]) (x4 _ eg) hl')⟩
  · rw [decide_eq_false ok] at k1
    obtain ⟨X', x1, x2⟩ := xa (fun q => ok ⟨(nI_eq (by omega) (by omega)).mp (s3.symm.trans q.1), q.2⟩)
    simp (disch := first | assumption | omega) only [q_lit, Int32.neg_neg, nI_add, pk_mul, q_sub, q_addn, q_nadd, q_lt, q_le, q_eq, q_eqn, q_neq, q_nen, q_ltn, q_nlt, q_len, q_nle, q_nltn, q_nlen, q_cl, q_ib, q_ibn, q_isz0, q_isz1, q_iszb, q_b0, q_b1, q_ng1, q_ng2, q_ng3, q_ng4, q_ng5, q_ng6, Bool.toNat_true, Bool.toNat_false, if_pos, if_neg, q_ct, q_cf, q_let, q_bd, q_it, q_if, Nat.zero_add, Nat.add_zero, true_and, and_true, false_and, and_false, or_false, false_or, or_true, true_or, Bool.true_eq_false, Bool.false_eq_true, wi_s, wi_o, wi_r, e1, e2, f1, f2, x1, x_auc3, k1, m_gorN]
    exact ⟨_, _, _, rfl, rfl, Rel_ref hRL (Rel_sc hRL h x2 k2) 3 (by omega)⟩
theorem s_redeem {RL : rLT} (hRL : rLoc RL) (hRul : rRul RL) : lws_redeem (Rel RL) := by
  intro S X K h a1 a2
  obtain ⟨n, t, hs, hlg⟩ := h.2.2.2.2.2
  have hn := hs.1.1
  unfold f11_redeem f12_redeem f12_redeemsKept f12_whyNot f12_redeemsKept_j20
  obtain ⟨b, e1, e2, e3⟩ := d_hour S X K a2
  cases b
  · simp (disch := first | assumption | omega) only [q_lit, Int32.neg_neg, nI_add, pk_mul, q_sub, q_addn, q_nadd, q_lt, q_le, q_eq, q_eqn, q_neq, q_nen, q_ltn, q_nlt, q_len, q_nle, q_nltn, q_nlen, q_cl, q_ib, q_ibn, q_isz0, q_isz1, q_iszb, q_b0, q_b1, q_ng1, q_ng2, q_ng3, q_ng4, q_ng5, q_ng6, Bool.toNat_true, Bool.toNat_false, if_pos, if_neg, q_ct, q_cf, q_let, q_bd, q_it, q_if, Nat.zero_add, Nat.add_zero, true_and, and_true, false_and, and_false, or_false, false_or, or_true, true_or, Bool.true_eq_false, Bool.false_eq_true, wi_s, wi_o, wi_r, e1, e2, x_refused, m_gorN]
    exact ⟨_, _, _, rfl, rfl, Rel_ref hRL h 1 (by omega)⟩
  obtain ⟨hh, hh1, rfl⟩ := e3 rfl
  obtain ⟨b, f1, f2, f3, _⟩ := d_pers S hs.1.2.2.1 hs.1.2.2.2.1 hs.1.1 a1
  cases b
  · simp (disch := first | assumption | omega) only [q_lit, Int32.neg_neg, nI_add, pk_mul, q_sub, q_addn, q_nadd, q_lt, q_le, q_eq, q_eqn, q_neq, q_nen, q_ltn, q_nlt, q_len, q_nle, q_nltn, q_nlen, q_cl, q_ib, q_ibn, q_isz0, q_isz1, q_iszb, q_b0, q_b1, q_ng1, q_ng2, q_ng3, q_ng4, q_ng5, q_ng6, Bool.toNat_true, Bool.toNat_false, if_pos, if_neg, q_ct, q_cf, q_let, q_bd, q_it, q_if, Nat.zero_add, Nat.add_zero, true_and, and_true, false_and, and_false, or_false, false_or, or_true, true_or, Bool.true_eq_false, Bool.false_eq_true, wi_s, wi_o, wi_r, e1, e2, f1, f2, x_refused, m_gorN]
    exact ⟨_, _, _, rfl, rfl, Rel_ref hRL h 2 (by omega)⟩
  obtain ⟨p, hp, rfl⟩ := f3 rfl
  obtain ⟨d, d1, d2, d3⟩ := rSt_day hs
  obtain ⟨s, s1, s2, s3⟩ := rSt_hr hs hp hh1
  obtain ⟨u, u1, u2, u3⟩ := rSt_pu hs (show p < 6 by omega)
  obtain ⟨V, v0, vx, vk⟩ := hRul S X 11 (K.1 2) n t p hh d h.1.1 (Or.inl rfl) hs hp hh1 d1 d3
  have v0' := v0 d (Nat.le_refl _) (by omega)
  obtain ⟨nx, sz, l1, l2, l3, l4, l5, l6⟩ := id hlg
  obtain ⟨xa, xb⟩ := x_redeem hRL (l := 59) (Or.inl rfl) (by omega) (by omega) hs hp hh1 d1 d3 ⟨l1, l2, l3, l4⟩ V v0'.2.2 (fun X1 kd q1 q2 q3 q4 => vx X1 kd d q1 q2 q3 q4 (Nat.le_refl _) (by omega)) u3 u1
  have vkK := vk K d (fun _ _ => rfl) d3 (Nat.le_refl _) (by omega)
  have st1 : s = 1 → K.1 2 (12 * p + hh) = nI 1 := fun q => by rw [s3, q]
  obtain ⟨K1, k1, k2⟩ := m_canRed (v := V 1 d) (show p < 6 by omega) hh1 s1 s3 (fun q => v0'.2.2 (st1 q)) u3 u1 (fun q => vkK.2.2 (st1 q))
  by_cases ok : s = 1 ∧ V 1 d ≤ u
  · rw [decide_eq_true ok] at k1
    have hst := st1 ok.1
    have hv := v0'.2.2 hst
    obtain ⟨X', x1, x2, x3, x4⟩ := xb ⟨hst, ok.2⟩
    obtain ⟨K2, m1, m2⟩ := m_keeps (K := K1) (k := 1) l2 (by omega) ((k2.1 0 28 (by omega) (by omega)).trans l5)
    have c2 : ∀ j, K2.1 2 j = K.1 2 j := fun j => (m2.2.2.2.2.1 2 j (by omega) (by omega)).trans (k2.1 2 j (by omega) (by omega))
    have vk2 := vk K2 d (fun j _ => c2 j) ((c2 222).trans d3) (Nat.le_refl _) (by omega)
    obtain ⟨K3, n1, n2, n3, n4⟩ := m_redeems (show p < 6 by omega) hh1 hv ok.2 ((c2 _).trans u3) u1 (vk2.2.2 hst)
    have eg : ∀ j, K3.1 2 j = gRed (K.1 2) p (12 * p + hh) (u - V 1 d) j := fun j => by
      rw [n2 j]
      unfold gRed
      rw [c2 j]
    have hl' : rLog X' K3 n := rLog_add (g := K.1 2) hn l1 l2 (show 12 * p + hh < 72 by omega) (by omega) hs.2.1 l6 x3 (rKp4_of k2 m2) (n3 0 28 (by omega) (by omega) (by omega)) (fun j => n3 13 j (by omega) (by omega) (by omega))
    simp (disch := first | assumption | omega) only [q_lit, Int32.neg_neg, nI_add, pk_mul, q_sub, q_addn, q_nadd, q_lt, q_le, q_eq, q_eqn, q_neq, q_nen, q_ltn, q_nlt, q_len, q_nle, q_nltn, q_nlen, q_cl, q_ib, q_ibn, q_isz0, q_isz1, q_iszb, q_b0, q_b1, q_ng1, q_ng2, q_ng3, q_ng4, q_ng5, q_ng6, Bool.toNat_true, Bool.toNat_false, if_pos, if_neg, q_ct, q_cf, q_let, q_bd, q_it, q_if, Nat.zero_add, Nat.add_zero, true_and, and_true, false_and, and_false, or_false, false_or, or_true, true_or, Bool.true_eq_false, Bool.false_eq_true, wi_s, wi_o, wi_r, e1, e2, f1, f2, x1, x_auc, k1, m1, n1, m_gor]
    exact ⟨_, _, _, rfl, rfl, Rel_acc hRL (Rel_st hRL h x2 (fun e j q1 q2 q3 q4 => by rw [n3 e j q1 q2 (by omega), m2.2.2.2.2.1 e j q3 (by omega), k2.1 e j q2 (by omega)]) (x4 _ eg) hl')⟩
  · rw [decide_eq_false ok] at k1
    obtain ⟨X', x1, x2⟩ := xa (fun q => ok ⟨(nI_eq (by omega) (by omega)).mp (s3.symm.trans q.1), q.2⟩)
    simp (disch := first | assumption | omega) only [q_lit, Int32.neg_neg, nI_add, pk_mul, q_sub, q_addn, q_nadd, q_lt, q_le, q_eq, q_eqn, q_neq, q_nen, q_ltn, q_nlt, q_len, q_nle, q_nltn, q_nlen, q_cl, q_ib, q_ibn, q_isz0, q_isz1, q_iszb, q_b0, q_b1, q_ng1, q_ng2, q_ng3, q_ng4, q_ng5, q_ng6, Bool.toNat_true, Bool.toNat_false, if_pos, if_neg, q_ct, q_cf, q_let, q_bd, q_it, q_if, Nat.zero_add, Nat.add_zero, true_and, and_true, false_and, and_false, or_false, false_or, or_true, true_or, Bool.true_eq_false, Bool.false_eq_true, wi_s, wi_o, wi_r, e1, e2, f1, f2, x1, x_auc3, k1, m_gorN]
    exact ⟨_, _, _, rfl, rfl, Rel_ref hRL (Rel_sc hRL h x2 k2) 3 (by omega)⟩
theorem s_pass {RL : rLT} (hRL : rLoc RL) : lws_pass (Rel RL) := by
  intro S X K h
  obtain ⟨n, t, hs, hlg⟩ := h.2.2.2.2.2
  have hn := hs.1.1
  unfold f11_pass f12_pass f12_passesKept
  obtain ⟨d, d1, d2, d3⟩ := rSt_day hs
  obtain ⟨⟨t1, ⟨inc, i1, i2⟩⟩, _⟩ := hs.2.2.2.2.2.1
  obtain ⟨nx, sz, l1, l2, l3, l4, l5, l6⟩ := id hlg
  obtain ⟨xa, xb⟩ := x_day hRL (S := S) (l := 59) (Or.inl rfl) (by omega) (by omega) hs d1 d3 i1 i2 ⟨l1, l2, l3, l4⟩
  by_cases e : d = 999
  · have xa' := xa e
    subst e
    simp (disch := first | assumption | omega) only [q_lit, Int32.neg_neg, nI_add, pk_mul, q_sub, q_addn, q_nadd, q_lt, q_le, q_eq, q_eqn, q_neq, q_nen, q_ltn, q_nlt, q_len, q_nle, q_nltn, q_nlen, q_cl, q_ib, q_ibn, q_isz0, q_isz1, q_iszb, q_b0, q_b1, q_ng1, q_ng2, q_ng3, q_ng4, q_ng5, q_ng6, Bool.toNat_true, Bool.toNat_false, if_pos, if_neg, q_ct, q_cf, q_let, q_bd, q_it, q_if, Nat.zero_add, Nat.add_zero, true_and, and_true, false_and, and_false, or_false, false_or, or_true, true_or, Bool.true_eq_false, Bool.false_eq_true, wi_s, wi_o, wi_r, xa', d3, x_auc3, m_gorN]
    exact ⟨_, _, _, rfl, rfl, Rel_ref hRL h 3 (by omega)⟩
  · obtain ⟨X', x1, x2, x3, x4⟩ := xb (by omega)
    obtain ⟨K2, m1, m2⟩ := m_keeps (K := K) (k := 2) l2 (by omega) l5
    have c2 : ∀ j, K2.1 2 j = K.1 2 j := fun j => m2.2.2.2.2.1 2 j (by omega) (by omega)
    obtain ⟨K3, n1, n2, n3, n4⟩ := m_day (K := K2) hn i1 ((c2 _).trans hs.1.2.2.2.1) ((c2 _).trans i2) ((c2 _).trans d3) (fun q hq => by
      obtain ⟨u, u1, u2, u3⟩ := rSt_pu hs (show q < 6 by omega)
      exact ⟨u, by omega, (c2 _).trans u3⟩)
    have eg : ∀ j, K3.1 2 j = gDay (K.1 2) n d inc j := fun j => by
      rw [n2 j]
      unfold gDay
      rw [c2 j]
    have hl' : rLog X' K3 n := rLog_add (g := K.1 2) hn l1 l2 (show 0 < 72 by omega) (by omega) hs.2.1 l6 x3 (rKp4_of kSc_r m2) (n3 0 28 (by omega)) (fun j => n3 13 j (by omega))
    have e222 : K3.1 2 222 = nI (d + 1) := by rw [eg]; unfold gDay; rw [if_pos rfl]
    simp (disch := first | assumption | omega) only [q_lit, Int32.neg_neg, nI_add, pk_mul, q_sub, q_addn, q_nadd, q_lt, q_le, q_eq, q_eqn, q_neq, q_nen, q_ltn, q_nlt, q_len, q_nle, q_nltn, q_nlen, q_cl, q_ib, q_ibn, q_isz0, q_isz1, q_iszb, q_b0, q_b1, q_ng1, q_ng2, q_ng3, q_ng4, q_ng5, q_ng6, Bool.toNat_true, Bool.toNat_false, if_pos, if_neg, q_ct, q_cf, q_let, q_bd, q_it, q_if, Nat.zero_add, Nat.add_zero, true_and, and_true, false_and, and_false, or_false, false_or, or_true, true_or, Bool.true_eq_false, Bool.false_eq_true, wi_s, wi_o, wi_r, x1, x_auc, d3, m1, n1, e222, m_gor]
    exact ⟨_, _, _, rfl, rfl, Rel_acc hRL (Rel_st hRL h x2 (fun e j q1 q2 q3 q4 => by rw [n3 e j q1, m2.2.2.2.2.1 e j q3 (by omega)]) (x4 _ eg) hl')⟩
