/-! PURE HALF: hour -/
theorem x_hr_n {S : ph_Sh} {X : ph_Mem} {a1 a2 a3 : Int32} (h : f9_isPerson S X 11 a1 = some (nI 0) ∨ (f9_isPerson S X 11 a1 = some (nI 1) ∧ f11_isHour S X a2 = some (nI 0))) : f11_hour S X a1 a2 a3 = some (-nI 1, X) := by
  unfold f11_hour
  rcases h with h | ⟨h, h2⟩
  · rw [h, q_bd, if_pos (by decide)]; rfl
  · rw [h, q_bd, if_neg (by decide), h2, q_bd, if_pos (by decide)]; rfl
theorem m_hr_n {K : ph_Mem} {a1 a2 a3 : Int32} (h : f12_isPerson K a1 = some (nI 0) ∨ (f12_isPerson K a1 = some (nI 1) ∧ f12_isHour K a2 = some (nI 0))) : f12_hour K a1 a2 a3 = some (-nI 1, K) := by
  unfold f12_hour
  rcases h with h | ⟨h, h2⟩
  · rw [h, q_bd, if_pos (by decide)]; rfl
  · rw [h, q_bd, if_neg (by decide), h2, q_bd, if_pos (by decide)]; rfl
theorem m_hr_b {K : ph_Mem} {p h s : Nat} {a3 : Int32} (hp : p < 6) (hh : h < 12) (hs : s ≤ 2) (f2 : f12_isPerson K (nI p) = some (nI 1)) (e2 : f12_isHour K (nI h) = some (nI 1)) (s3 : K.1 2 (12 * p + h) = nI s) : f12_hour K (nI p) (nI h) a3 = f12_hour_j39 (nI p) (nI h) a3 (nI (12 * p + h)) (if s = 1 then nI 1 else nI 0) K := by
  unfold f12_hour
  rw [f2, q_bd, if_neg (by decide), e2, q_bd, if_neg (by decide), m_place, q_bd, m_state hp hh, q_bd, s3]
  by_cases q : s = 1
  · subst q
    rw [if_pos (by decide), if_pos (by decide)]
    rfl
  · have ne : ¬ nI s = (1 : Int32) := fun z => q ((nI_eq (a := s) (b := 1) (by omega) (by omega)).mp z)
    rw [if_neg ne, if_neg q]
    rfl
theorem x_hr_0 {S : ph_Sh} {X : ph_Mem} {p h : Nat} (f1 : f9_isPerson S X 11 (nI p) = some (nI 1)) (e1 : f11_isHour S X (nI h) = some (nI 1)) (hpl : 12 * p + h < 72) : f11_hour S X (nI p) (nI h) (nI 0) = some (X.1 13 (12 * p + h), X) := by
  unfold f11_hour
  rw [f1, q_bd, if_neg (by decide), e1, q_bd, if_neg (by decide), x_place, q_bd, if_pos (by decide), q_ib (by omega) hpl, q_ct, q_cl (by omega)]
theorem x_hr_1 {S : ph_Sh} {X : ph_Mem} {p h : Nat} (f1 : f9_isPerson S X 11 (nI p) = some (nI 1)) (e1 : f11_isHour S X (nI h) = some (nI 1)) (hpl : 12 * p + h < 72) : f11_hour S X (nI p) (nI h) (nI 1) = some (X.1 14 (12 * p + h), X) := by
  unfold f11_hour
  rw [f1, q_bd, if_neg (by decide), e1, q_bd, if_neg (by decide), x_place, q_bd, if_neg (by decide), if_pos (by decide), q_ib (by omega) hpl, q_ct, q_cl (by omega)]
theorem x_hr_2 {S : ph_Sh} {X : ph_Mem} {p h : Nat} (f1 : f9_isPerson S X 11 (nI p) = some (nI 1)) (e1 : f11_isHour S X (nI h) = some (nI 1)) (hpl : 12 * p + h < 72) : f11_hour S X (nI p) (nI h) (nI 2) = some (X.1 15 (12 * p + h), X) := by
  unfold f11_hour
  rw [f1, q_bd, if_neg (by decide), e1, q_bd, if_neg (by decide), x_place, q_bd, if_neg (by decide), if_neg (by decide), if_pos (by decide), q_ib (by omega) hpl, q_ct, q_cl (by omega)]
theorem x_hr_3 {S : ph_Sh} {X : ph_Mem} {p h : Nat} (f1 : f9_isPerson S X 11 (nI p) = some (nI 1)) (e1 : f11_isHour S X (nI h) = some (nI 1)) (hpl : 12 * p + h < 72) : f11_hour S X (nI p) (nI h) (nI 3) = some (X.1 16 (12 * p + h), X) := by
  unfold f11_hour
  rw [f1, q_bd, if_neg (by decide), e1, q_bd, if_neg (by decide), x_place, q_bd, if_neg (by decide), if_neg (by decide), if_neg (by decide), if_pos (by decide), q_ib (by omega) hpl, q_ct, q_cl (by omega)]
theorem x_hr_4 {S : ph_Sh} {X : ph_Mem} {p h : Nat} (f1 : f9_isPerson S X 11 (nI p) = some (nI 1)) (e1 : f11_isHour S X (nI h) = some (nI 1)) (hpl : 12 * p + h < 72) : f11_hour S X (nI p) (nI h) (nI 4) = some (X.1 17 (12 * p + h), X) := by
  unfold f11_hour
  rw [f1, q_bd, if_neg (by decide), e1, q_bd, if_neg (by decide), x_place, q_bd, if_neg (by decide), if_neg (by decide), if_neg (by decide), if_neg (by decide), if_pos (by decide), q_ib (by omega) hpl, q_ct, q_cl (by omega)]
theorem x_hr_5 {S : ph_Sh} {X : ph_Mem} {p h s : Nat} (f1 : f9_isPerson S X 11 (nI p) = some (nI 1)) (e1 : f11_isHour S X (nI h) = some (nI 1)) (hpl : 12 * p + h < 72) (hs : s ≤ 2) (s2 : X.1 16 (12 * p + h) = nI s) : f11_hour S X (nI p) (nI h) (nI 5) = some (if s = 1 then X.1 21 0 - X.1 18 (12 * p + h) else -nI 1, X) := by
  unfold f11_hour
  rw [f1, q_bd, if_neg (by decide), e1, q_bd, if_neg (by decide), x_place, q_bd, if_neg (by decide), if_neg (by decide), if_neg (by decide), if_neg (by decide), if_neg (by decide), if_pos (by decide), q_ib (by omega) hpl, q_ct, q_cl (by omega), s2]
  by_cases q : s = 1
  · subst q
    rw [if_pos (by decide), q_ct, if_pos (by decide)]
  · have ne : ¬ nI s = (1 : Int32) := fun z => q ((nI_eq (a := s) (b := 1) (by omega) (by omega)).mp z)
    rw [if_neg ne, if_neg q]
    rfl
theorem x_hr_6 {S : ph_Sh} {X X' : ph_Mem} {p h d : Nat} {v : Int32} (f1 : f9_isPerson S X 11 (nI p) = some (nI 1)) (e1 : f11_isHour S X (nI h) = some (nI 1)) (hpl : 12 * p + h < 72) (d2 : X.1 21 0 = nI d) (x1 : f9_ruled S X 11 (nI 0) (nI p) (nI h) (nI d) = some (v, X')) : f11_hour S X (nI p) (nI h) (nI 6) = some (v, X') := by
  unfold f11_hour
  rw [f1, q_bd, if_neg (by decide), e1, q_bd, if_neg (by decide), x_place, q_bd, if_neg (by decide), if_neg (by decide), if_neg (by decide), if_neg (by decide), if_neg (by decide), if_neg (by decide), if_pos (by decide), d2]
  have x1' : f9_ruled S X 11 (0 : Int32) (nI p) (nI h) (nI d) = some (v, X') := x1
  rw [x1', q_bd]
theorem x_hr_8 {S : ph_Sh} {X X' : ph_Mem} {p h d : Nat} {v : Int32} (f1 : f9_isPerson S X 11 (nI p) = some (nI 1)) (e1 : f11_isHour S X (nI h) = some (nI 1)) (hpl : 12 * p + h < 72) (d2 : X.1 21 0 = nI d) (x1 : f9_ruled S X 11 (nI 2) (nI p) (nI h) (nI d) = some (v, X')) : f11_hour S X (nI p) (nI h) (nI 8) = some (v, X') := by
  unfold f11_hour
  rw [f1, q_bd, if_neg (by decide), e1, q_bd, if_neg (by decide), x_place, q_bd, if_neg (by decide), if_neg (by decide), if_neg (by decide), if_neg (by decide), if_neg (by decide), if_neg (by decide), if_neg (by decide), if_neg (by decide), if_pos (by decide), d2]
  have x1' : f9_ruled S X 11 (2 : Int32) (nI p) (nI h) (nI d) = some (v, X') := x1
  rw [x1', q_bd]
theorem x_hr_7 {S : ph_Sh} {X X' : ph_Mem} {p h d s : Nat} {v : Int32} (f1 : f9_isPerson S X 11 (nI p) = some (nI 1)) (e1 : f11_isHour S X (nI h) = some (nI 1)) (hpl : 12 * p + h < 72) (hs : s ≤ 2) (s2 : X.1 16 (12 * p + h) = nI s) (d2 : X.1 21 0 = nI d) (x1 : s = 1 → f9_ruled S X 11 (nI 1) (nI p) (nI h) (nI d) = some (v, X')) : f11_hour S X (nI p) (nI h) (nI 7) = some (if s = 1 then (v, X') else (-nI 1, X)) := by
  unfold f11_hour
  rw [f1, q_bd, if_neg (by decide), e1, q_bd, if_neg (by decide), x_place, q_bd, if_neg (by decide), if_neg (by decide), if_neg (by decide), if_neg (by decide), if_neg (by decide), if_neg (by decide), if_neg (by decide), if_pos (by decide), q_ib (by omega) hpl, q_ct, q_cl (by omega), s2, d2]
  by_cases q : s = 1
  · have x1' : f9_ruled S X 11 (1 : Int32) (nI p) (nI h) (nI d) = some (v, X') := x1 q
    subst q
    rw [if_pos (by decide), x1', q_bd, if_pos (by decide)]
  · have ne : ¬ nI s = (1 : Int32) := fun z => q ((nI_eq (a := s) (b := 1) (by omega) (by omega)).mp z)
    rw [if_neg ne, if_neg q]
    rfl
theorem x_hr_o {S : ph_Sh} {X : ph_Mem} {p h : Nat} {a3 : Int32} (f1 : f9_isPerson S X 11 (nI p) = some (nI 1)) (e1 : f11_isHour S X (nI h) = some (nI 1)) (hpl : 12 * p + h < 72) (hv : ∀ k : Nat, k ≤ 8 → a3 ≠ nI k) : f11_hour S X (nI p) (nI h) a3 = some (-nI 1, X) := by
  unfold f11_hour
  rw [f1, q_bd, if_neg (by decide), e1, q_bd, if_neg (by decide), x_place, q_bd, if_neg (show ¬ a3 = (0 : Int32) from hv 0 (by omega)), if_neg (show ¬ a3 = (1 : Int32) from hv 1 (by omega)), if_neg (show ¬ a3 = (2 : Int32) from hv 2 (by omega)), if_neg (show ¬ a3 = (3 : Int32) from hv 3 (by omega)), if_neg (show ¬ a3 = (4 : Int32) from hv 4 (by omega)), if_neg (show ¬ a3 = (5 : Int32) from hv 5 (by omega)), if_neg (show ¬ a3 = (6 : Int32) from hv 6 (by omega)), if_neg (show ¬ a3 = (7 : Int32) from hv 7 (by omega)), if_neg (show ¬ a3 = (8 : Int32) from hv 8 (by omega))]
  rfl
theorem m_hr_0 {K : ph_Mem} {p h : Nat} {z : Int32} (hpl : 12 * p + h < 72) : f12_hour_j39 (nI p) (nI h) (nI 0) (nI (12 * p + h)) z K = some (K.1 2 (223 + (12 * p + h)), K) := by
  unfold f12_hour_j39
  rw [if_pos (by decide)]
  have ei : 223 + (12 * p + h) = 223 + 72 * 0 + (12 * p + h) := by omega
  simp (disch := first | assumption | omega) only [q_lit, Int32.neg_neg, nI_add, pk_mul, q_sub, q_addn, q_nadd, q_lt, q_le, q_eq, q_eqn, q_neq, q_nen, q_ltn, q_nlt, q_len, q_nle, q_nltn, q_nlen, q_cl, q_ib, q_ibn, q_isz0, q_isz1, q_iszb, q_b0, q_b1, q_ng1, q_ng2, q_ng3, q_ng4, q_ng5, q_ng6, Bool.toNat_true, Bool.toNat_false, if_pos, if_neg, q_ct, q_cf, q_let, q_bd, q_it, q_if, Nat.zero_add, Nat.add_zero, true_and, and_true, false_and, and_false, or_false, false_or, or_true, true_or, Bool.true_eq_false, Bool.false_eq_true, wi_s, wi_o, wi_r]
theorem m_hr_1 {K : ph_Mem} {p h : Nat} {z : Int32} (hpl : 12 * p + h < 72) : f12_hour_j39 (nI p) (nI h) (nI 1) (nI (12 * p + h)) z K = some (K.1 2 (295 + (12 * p + h)), K) := by
  unfold f12_hour_j39
  rw [if_neg (by decide), if_pos (by decide)]
  have ei : 295 + (12 * p + h) = 223 + 72 * 1 + (12 * p + h) := by omega
  simp (disch := first | assumption | omega) only [q_lit, Int32.neg_neg, nI_add, pk_mul, q_sub, q_addn, q_nadd, q_lt, q_le, q_eq, q_eqn, q_neq, q_nen, q_ltn, q_nlt, q_len, q_nle, q_nltn, q_nlen, q_cl, q_ib, q_ibn, q_isz0, q_isz1, q_iszb, q_b0, q_b1, q_ng1, q_ng2, q_ng3, q_ng4, q_ng5, q_ng6, Bool.toNat_true, Bool.toNat_false, if_pos, if_neg, q_ct, q_cf, q_let, q_bd, q_it, q_if, Nat.zero_add, Nat.add_zero, true_and, and_true, false_and, and_false, or_false, false_or, or_true, true_or, Bool.true_eq_false, Bool.false_eq_true, wi_s, wi_o, wi_r]
theorem m_hr_2 {K : ph_Mem} {p h : Nat} {z : Int32} (hpl : 12 * p + h < 72) : f12_hour_j39 (nI p) (nI h) (nI 2) (nI (12 * p + h)) z K = some (K.1 2 (367 + (12 * p + h)), K) := by
  unfold f12_hour_j39
  rw [if_neg (by decide), if_neg (by decide), if_pos (by decide)]
  have ei : 367 + (12 * p + h) = 223 + 72 * 2 + (12 * p + h) := by omega
  simp (disch := first | assumption | omega) only [q_lit, Int32.neg_neg, nI_add, pk_mul, q_sub, q_addn, q_nadd, q_lt, q_le, q_eq, q_eqn, q_neq, q_nen, q_ltn, q_nlt, q_len, q_nle, q_nltn, q_nlen, q_cl, q_ib, q_ibn, q_isz0, q_isz1, q_iszb, q_b0, q_b1, q_ng1, q_ng2, q_ng3, q_ng4, q_ng5, q_ng6, Bool.toNat_true, Bool.toNat_false, if_pos, if_neg, q_ct, q_cf, q_let, q_bd, q_it, q_if, Nat.zero_add, Nat.add_zero, true_and, and_true, false_and, and_false, or_false, false_or, or_true, true_or, Bool.true_eq_false, Bool.false_eq_true, wi_s, wi_o, wi_r]
theorem m_hr_3 {K : ph_Mem} {p h : Nat} {z : Int32} (hpl : 12 * p + h < 72) : f12_hour_j39 (nI p) (nI h) (nI 3) (nI (12 * p + h)) z K = some (K.1 2 (12 * p + h), K) := by
  unfold f12_hour_j39
  rw [if_neg (by decide), if_neg (by decide), if_neg (by decide), if_pos (by decide)]
  simp (disch := first | assumption | omega) only [q_lit, Int32.neg_neg, nI_add, pk_mul, q_sub, q_addn, q_nadd, q_lt, q_le, q_eq, q_eqn, q_neq, q_nen, q_ltn, q_nlt, q_len, q_nle, q_nltn, q_nlen, q_cl, q_ib, q_ibn, q_isz0, q_isz1, q_iszb, q_b0, q_b1, q_ng1, q_ng2, q_ng3, q_ng4, q_ng5, q_ng6, Bool.toNat_true, Bool.toNat_false, if_pos, if_neg, q_ct, q_cf, q_let, q_bd, q_it, q_if, Nat.zero_add, Nat.add_zero, true_and, and_true, false_and, and_false, or_false, false_or, or_true, true_or, Bool.true_eq_false, Bool.false_eq_true, wi_s, wi_o, wi_r]
theorem m_hr_4 {K : ph_Mem} {p h s : Nat} (hpl : 12 * p + h < 72) : f12_hour_j39 (nI p) (nI h) (nI 4) (nI (12 * p + h)) (if s = 1 then nI 1 else nI 0) K = some (if s = 1 then K.1 2 (72 + (12 * p + h)) else -nI 1, K) := by
  unfold f12_hour_j39
  rw [if_neg (by decide), if_neg (by decide), if_neg (by decide), if_neg (by decide), if_pos (by decide)]
  by_cases q : s = 1
  · simp (disch := first | assumption | omega) only [q_lit, Int32.neg_neg, nI_add, pk_mul, q_sub, q_addn, q_nadd, q_lt, q_le, q_eq, q_eqn, q_neq, q_nen, q_ltn, q_nlt, q_len, q_nle, q_nltn, q_nlen, q_cl, q_ib, q_ibn, q_isz0, q_isz1, q_iszb, q_b0, q_b1, q_ng1, q_ng2, q_ng3, q_ng4, q_ng5, q_ng6, Bool.toNat_true, Bool.toNat_false, if_pos, if_neg, q_ct, q_cf, q_let, q_bd, q_it, q_if, Nat.zero_add, Nat.add_zero, true_and, and_true, false_and, and_false, or_false, false_or, or_true, true_or, Bool.true_eq_false, Bool.false_eq_true, wi_s, wi_o, wi_r, q]
  · simp (disch := first | assumption | omega) only [q_lit, Int32.neg_neg, nI_add, pk_mul, q_sub, q_addn, q_nadd, q_lt, q_le, q_eq, q_eqn, q_neq, q_nen, q_ltn, q_nlt, q_len, q_nle, q_nltn, q_nlen, q_cl, q_ib, q_ibn, q_isz0, q_isz1, q_iszb, q_b0, q_b1, q_ng1, q_ng2, q_ng3, q_ng4, q_ng5, q_ng6, Bool.toNat_true, Bool.toNat_false, if_pos, if_neg, q_ct, q_cf, q_let, q_bd, q_it, q_if, Nat.zero_add, Nat.add_zero, true_and, and_true, false_and, and_false, or_false, false_or, or_true, true_or, Bool.true_eq_false, Bool.false_eq_true, wi_s, wi_o, wi_r, q]
theorem m_hr_5 {K : ph_Mem} {p h s : Nat} (hpl : 12 * p + h < 72) : f12_hour_j39 (nI p) (nI h) (nI 5) (nI (12 * p + h)) (if s = 1 then nI 1 else nI 0) K = some (if s = 1 then K.1 2 222 - K.1 2 (144 + (12 * p + h)) else -nI 1, K) := by
  unfold f12_hour_j39
  rw [if_neg (by decide), if_neg (by decide), if_neg (by decide), if_neg (by decide), if_neg (by decide), if_pos (by decide)]
  by_cases q : s = 1
  · simp (disch := first | assumption | omega) only [q_lit, Int32.neg_neg, nI_add, pk_mul, q_sub, q_addn, q_nadd, q_lt, q_le, q_eq, q_eqn, q_neq, q_nen, q_ltn, q_nlt, q_len, q_nle, q_nltn, q_nlen, q_cl, q_ib, q_ibn, q_isz0, q_isz1, q_iszb, q_b0, q_b1, q_ng1, q_ng2, q_ng3, q_ng4, q_ng5, q_ng6, Bool.toNat_true, Bool.toNat_false, if_pos, if_neg, q_ct, q_cf, q_let, q_bd, q_it, q_if, Nat.zero_add, Nat.add_zero, true_and, and_true, false_and, and_false, or_false, false_or, or_true, true_or, Bool.true_eq_false, Bool.false_eq_true, wi_s, wi_o, wi_r, q]
  · simp (disch := first | assumption | omega) only [q_lit, Int32.neg_neg, nI_add, pk_mul, q_sub, q_addn, q_nadd, q_lt, q_le, q_eq, q_eqn, q_neq, q_nen, q_ltn, q_nlt, q_len, q_nle, q_nltn, q_nlen, q_cl, q_ib, q_ibn, q_isz0, q_isz1, q_iszb, q_b0, q_b1, q_ng1, q_ng2, q_ng3, q_ng4, q_ng5, q_ng6, Bool.toNat_true, Bool.toNat_false, if_pos, if_neg, q_ct, q_cf, q_let, q_bd, q_it, q_if, Nat.zero_add, Nat.add_zero, true_and, and_true, false_and, and_false, or_false, false_or, or_true, true_or, Bool.true_eq_false, Bool.false_eq_true, wi_s, wi_o, wi_r, q]
theorem m_hr_6 {K K' : ph_Mem} {p h : Nat} {z v : Int32} (k1 : f12_lendsFor K (nI p) (nI h) = some (v, K')) : f12_hour_j39 (nI p) (nI h) (nI 6) (nI (12 * p + h)) z K = some (v, K') := by
  unfold f12_hour_j39
  rw [if_neg (by decide), if_neg (by decide), if_neg (by decide), if_neg (by decide), if_neg (by decide), if_neg (by decide), if_pos (by decide), k1, q_bd]
theorem m_hr_7 {K K' : ph_Mem} {p h s : Nat} {v : Int32} (k1 : s = 1 → f12_costsFor K (nI p) (nI h) = some (v, K')) : f12_hour_j39 (nI p) (nI h) (nI 7) (nI (12 * p + h)) (if s = 1 then nI 1 else nI 0) K = some (if s = 1 then (v, K') else (-nI 1, K)) := by
  unfold f12_hour_j39
  rw [if_neg (by decide), if_neg (by decide), if_neg (by decide), if_neg (by decide), if_neg (by decide), if_neg (by decide), if_neg (by decide), if_pos (by decide)]
  by_cases q : s = 1
  · have := k1 q
    simp (disch := first | assumption | omega) only [q_lit, Int32.neg_neg, nI_add, pk_mul, q_sub, q_addn, q_nadd, q_lt, q_le, q_eq, q_eqn, q_neq, q_nen, q_ltn, q_nlt, q_len, q_nle, q_nltn, q_nlen, q_cl, q_ib, q_ibn, q_isz0, q_isz1, q_iszb, q_b0, q_b1, q_ng1, q_ng2, q_ng3, q_ng4, q_ng5, q_ng6, Bool.toNat_true, Bool.toNat_false, if_pos, if_neg, q_ct, q_cf, q_let, q_bd, q_it, q_if, Nat.zero_add, Nat.add_zero, true_and, and_true, false_and, and_false, or_false, false_or, or_true, true_or, Bool.true_eq_false, Bool.false_eq_true, wi_s, wi_o, wi_r, q, this]
  · simp (disch := first | assumption | omega) only [q_lit, Int32.neg_neg, nI_add, pk_mul, q_sub, q_addn, q_nadd, q_lt, q_le, q_eq, q_eqn, q_neq, q_nen, q_ltn, q_nlt, q_len, q_nle, q_nltn, q_nlen, q_cl, q_ib, q_ibn, q_isz0, q_isz1, q_iszb, q_b0, q_b1, q_ng1, q_ng2, q_ng3, q_ng4, q_ng5, q_ng6, Bool.toNat_true, Bool.toNat_false, if_pos, if_neg, q_ct, q_cf, q_let, q_bd, q_it, q_if, Nat.zero_add, Nat.add_zero, true_and, and_true, false_and, and_false, or_false, false_or, or_true, true_or, Bool.true_eq_false, Bool.false_eq_true, wi_s, wi_o, wi_r, q]
theorem m_hr_8 {K K' : ph_Mem} {p h v : Nat} {z : Int32} (hv : v ≤ 1) (k1 : f12_isBarred K (nI p) (nI h) = some (nI v, K')) : f12_hour_j39 (nI p) (nI h) (nI 8) (nI (12 * p + h)) z K = some (nI v, K') := by
  unfold f12_hour_j39
  rw [if_neg (by decide), if_neg (by decide), if_neg (by decide), if_neg (by decide), if_neg (by decide), if_neg (by decide), if_neg (by decide), if_neg (by decide), if_pos (by decide), k1, q_bd]
  have hc : v = 0 ∨ v = 1 := by omega
  rcases hc with rfl | rfl
  · simp (disch := first | assumption | omega) only [q_lit, Int32.neg_neg, nI_add, pk_mul, q_sub, q_addn, q_nadd, q_lt, q_le, q_eq, q_eqn, q_neq, q_nen, q_ltn, q_nlt, q_len, q_nle, q_nltn, q_nlen, q_cl, q_ib, q_ibn, q_isz0, q_isz1, q_iszb, q_b0, q_b1, q_ng1, q_ng2, q_ng3, q_ng4, q_ng5, q_ng6, Bool.toNat_true, Bool.toNat_false, if_pos, if_neg, q_ct, q_cf, q_let, q_bd, q_it, q_if, Nat.zero_add, Nat.add_zero, true_and, and_true, false_and, and_false, or_false, false_or, or_true, true_or, Bool.true_eq_false, Bool.false_eq_true, wi_s, wi_o, wi_r]
  · simp (disch := first | assumption | omega) only [q_lit, Int32.neg_neg, nI_add, pk_mul, q_sub, q_addn, q_nadd, q_lt, q_le, q_eq, q_eqn, q_neq, q_nen, q_ltn, q_nlt, q_len, q_nle, q_nltn, q_nlen, q_cl, q_ib, q_ibn, q_isz0, q_isz1, q_iszb, q_b0, q_b1, q_ng1, q_ng2, q_ng3, q_ng4, q_ng5, q_ng6, Bool.toNat_true, Bool.toNat_false, if_pos, if_neg, q_ct, q_cf, q_let, q_bd, q_it, q_if, Nat.zero_add, Nat.add_zero, true_and, and_true, false_and, and_false, or_false, false_or, or_true, true_or, Bool.true_eq_false, Bool.false_eq_true, wi_s, wi_o, wi_r]
theorem m_hr_o {K : ph_Mem} {p h : Nat} {a3 z : Int32} (hv : ∀ k : Nat, k ≤ 8 → a3 ≠ nI k) : f12_hour_j39 (nI p) (nI h) a3 (nI (12 * p + h)) z K = some (-nI 1, K) := by
  unfold f12_hour_j39
  rw [if_neg (show ¬ a3 = (0 : Int32) from hv 0 (by omega)), if_neg (show ¬ a3 = (1 : Int32) from hv 1 (by omega)), if_neg (show ¬ a3 = (2 : Int32) from hv 2 (by omega)), if_neg (show ¬ a3 = (3 : Int32) from hv 3 (by omega)), if_neg (show ¬ a3 = (4 : Int32) from hv 4 (by omega)), if_neg (show ¬ a3 = (5 : Int32) from hv 5 (by omega)), if_neg (show ¬ a3 = (6 : Int32) from hv 6 (by omega)), if_neg (show ¬ a3 = (7 : Int32) from hv 7 (by omega)), if_neg (show ¬ a3 = (8 : Int32) from hv 8 (by omega))]
  rfl
theorem s_hour {RL : rLT} (hRL : rLoc RL) (hRul : rRul RL) : lws_hour (Rel RL) := by
  intro S X K h a1 a2 a3
  obtain ⟨n, t, hs, hlg⟩ := h.2.2.2.2.2
  have hn := hs.1.1
  obtain ⟨b, f1, f2, f3, _⟩ := d_pers S hs.1.2.2.1 hs.1.2.2.2.1 hs.1.1 a1
  cases b
  · exact ⟨_, _, _, x_hr_n (Or.inl f1), m_hr_n (Or.inl f2), h⟩
  obtain ⟨p, hp, rfl⟩ := f3 rfl
  obtain ⟨b, e1, e2, e3⟩ := d_hour S X K a2
  cases b
  · exact ⟨_, _, _, x_hr_n (Or.inr ⟨f1, e1⟩), m_hr_n (Or.inr ⟨f2, e2⟩), h⟩
  obtain ⟨hh, hh1, rfl⟩ := e3 rfl
  obtain ⟨d, d1, d2, d3⟩ := rSt_day hs
  obtain ⟨s, s1, s2, s3⟩ := rSt_hr hs hp hh1
  obtain ⟨V, v0, vx, vk⟩ := hRul S X 11 (K.1 2) n t p hh d h.1.1 (Or.inl rfl) hs hp hh1 d1 d3
  have v0' := v0 d (Nat.le_refl _) (by omega)
  have vkK := vk K d (fun _ _ => rfl) d3 (Nat.le_refl _) (by omega)
  obtain ⟨c1, _, c3, _, c5, _⟩ := hs.2.2.1.1 (12 * p + hh) (by omega)
  have hpl : 12 * p + hh < 72 := by omega
  obtain ⟨⟨d', h1, h2, h3, h4⟩, h5, h6⟩ := id hs.2.1
  obtain ⟨o1, o2, o3, o4⟩ := h4 (12 * p + hh) (by omega)
  have ne1 : ¬ s = 1 → K.1 2 (12 * p + hh) ≠ nI 1 := fun q z => q ((nI_eq (by omega) (by omega)).mp (s3.symm.trans z))
  have mb : ∀ a, f12_hour K (nI p) (nI hh) a = f12_hour_j39 (nI p) (nI hh) a (nI (12 * p + hh)) (if s = 1 then nI 1 else nI 0) K := fun a => m_hr_b (by omega) hh1 s1 f2 e2 s3
  have out : (∀ k : Nat, k ≤ 8 → a3 ≠ nI k) → ∃ r X' K', f11_hour S X (nI p) (nI hh) a3 = some (r, X') ∧ f12_hour K (nI p) (nI hh) a3 = some (r, K') ∧ Rel RL S X' K' := fun hv => ⟨_, _, _, x_hr_o f1 e1 hpl hv, (mb a3).trans (m_hr_o hv), h⟩
  rcases q_rng a3 8 with ⟨w, hw, hw', rfl⟩ | hv | ⟨v, hv, hv', rfl⟩
  · have hc : w = 0 ∨ w = 1 ∨ w = 2 ∨ w = 3 ∨ w = 4 ∨ w = 5 ∨ w = 6 ∨ w = 7 ∨ w = 8 := by omega
    rcases hc with rfl | rfl | rfl | rfl | rfl | rfl | rfl | rfl | rfl
    · exact ⟨_, _, _, x_hr_0 f1 e1 hpl, ((mb _).trans (m_hr_0 hpl)).trans (by rw [show X.1 13 (12 * p + hh) = _ from c1]), h⟩
    · exact ⟨_, _, _, x_hr_1 f1 e1 hpl, ((mb _).trans (m_hr_1 hpl)).trans (by rw [show X.1 14 (12 * p + hh) = _ from c3]), h⟩
    · exact ⟨_, _, _, x_hr_2 f1 e1 hpl, ((mb _).trans (m_hr_2 hpl)).trans (by rw [show X.1 15 (12 * p + hh) = _ from c5]), h⟩
    · exact ⟨_, _, _, x_hr_3 f1 e1 hpl, ((mb _).trans (m_hr_3 hpl)).trans (by rw [show X.1 16 (12 * p + hh) = _ from s2, s3]), h⟩
    · refine ⟨_, _, _, x_hr_4 f1 e1 hpl, ((mb _).trans (m_hr_4 hpl)).trans ?_, h⟩
      by_cases q : s = 1
      · have z : X.1 17 (12 * p + hh) = K.1 2 (72 + (12 * p + hh)) := (o3 (by rw [s3, q])).1
        rw [if_pos q, z]
      · have z : X.1 17 (12 * p + hh) = -nI 1 := (o4 (ne1 q)).1
        rw [if_neg q, z]
    · refine ⟨_, _, _, x_hr_5 f1 e1 hpl s1 s2, ((mb _).trans (m_hr_5 hpl)).trans ?_, h⟩
      by_cases q : s = 1
      · have z : X.1 18 (12 * p + hh) = K.1 2 (144 + (12 * p + hh)) := (o3 (by rw [s3, q])).2.2.1
        rw [if_pos q, if_pos q, z, show X.1 21 0 = _ from d2, d3]
      · rw [if_neg q, if_neg q]
    · obtain ⟨X', x1, x2⟩ := vx X 0 d (fun _ _ _ => rfl) (fun _ => rfl) (by omega) (fun e => nomatch e) (Nat.le_refl _) (by omega)
      obtain ⟨K', k1, k2⟩ := vkK.1
      exact ⟨_, _, _, x_hr_6 f1 e1 hpl d2 x1, (mb _).trans (m_hr_6 k1), Rel_sc hRL h x2 k2⟩
    · by_cases q : s = 1
      · have st : K.1 2 (12 * p + hh) = nI 1 := by rw [s3, q]
        obtain ⟨X', x1, x2⟩ := vx X 1 d (fun _ _ _ => rfl) (fun _ => rfl) (by omega) (fun _ => st) (Nat.le_refl _) (by omega)
        obtain ⟨K', k1, k2⟩ := vkK.2.2 st
        refine ⟨nI (V 1 d), X', K', (x_hr_7 f1 e1 hpl s1 s2 d2 (fun _ => x1)).trans ?_, ((mb _).trans (m_hr_7 (fun _ => k1))).trans ?_, Rel_sc hRL h x2 k2⟩
        · rw [if_pos q]
        · rw [if_pos q]
      · refine ⟨-nI 1, X, K, (x_hr_7 (v := nI 0) (X' := X) f1 e1 hpl s1 s2 d2 (fun z => absurd z q)).trans ?_, ((mb _).trans (m_hr_7 (v := nI 0) (K' := K) (fun z => absurd z q))).trans ?_, h⟩
        · rw [if_neg q]
        · rw [if_neg q]
    · obtain ⟨X', x1, x2⟩ := vx X 2 d (fun _ _ _ => rfl) (fun _ => rfl) (by omega) (fun e => nomatch e) (Nat.le_refl _) (by omega)
      obtain ⟨K', k1, k2⟩ := vkK.2.1
      exact ⟨_, _, _, x_hr_8 f1 e1 hpl d2 x1, (mb _).trans (m_hr_8 v0'.2.1 k1), Rel_sc hRL h x2 k2⟩
  · exact out (fun k hk => (q_ng hv k (by omega)).2.2.2.2.1)
  · refine out (fun k hk z => ?_)
    have := (nI_eq (by omega) (by omega)).mp z
    omega
