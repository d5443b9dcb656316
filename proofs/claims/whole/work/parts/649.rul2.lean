/-! PURE HALF: the law's module: what both are asked for -/
theorem x_desc {S : ph_Sh} {X : ph_Mem} {c p h w : Nat} {a b d : Int32} (hc : 11 ≤ c) (hp : p < 6) (hh : h < 12) (hw : w < 4096) (h3 : X.1 (c + 3) (12 * p + h) = nI w) : ∃ M1, f9_describe S X c (nI p) (nI h) a b d = some M1 ∧ (M1.1 6 0 = nI p ∧ M1.1 6 1 = nI h ∧ M1.1 6 2 = X.1 (c + 2) (12 * p + h) ∧ M1.1 6 3 = nI (q_pc w 12) ∧ M1.1 6 4 = X.1 (c + 4) (12 * p + h) ∧ M1.1 6 5 = a ∧ M1.1 6 6 = b ∧ M1.1 6 7 = d ∧ M1.1 6 8 = X.1 (c + 10) 4) ∧ (∀ e j, e ≠ 6 → M1.1 e j = X.1 e j) ∧ M1.2 = X.2 := by
  unfold f9_describe
  simp (disch := first | assumption | omega) only [q_lit, Int32.neg_neg, nI_add, pk_mul, q_sub, q_addn, q_nadd, q_lt, q_le, q_eq, q_eqn, q_neq, q_nen, q_ltn, q_nlt, q_len, q_nle, q_nltn, q_nlen, q_cl, q_ib, q_ibn, q_isz0, q_isz1, q_iszb, q_b0, q_b1, q_ng1, q_ng2, q_ng3, q_ng4, q_ng5, q_ng6, Bool.toNat_true, Bool.toNat_false, if_pos, if_neg, q_ct, q_cf, q_let, q_bd, q_it, q_if, Nat.zero_add, Nat.add_zero, true_and, and_true, false_and, and_false, or_false, false_or, or_true, true_or, Bool.true_eq_false, Bool.false_eq_true, wi_s, wi_o, wi_r, x_place, h3, x_bc]
  exact ⟨_, rfl, ⟨by simp (disch := first | assumption | omega) only [q_lit, Int32.neg_neg, nI_add, pk_mul, q_sub, q_addn, q_nadd, q_lt, q_le, q_eq, q_eqn, q_neq, q_nen, q_ltn, q_nlt, q_len, q_nle, q_nltn, q_nlen, q_cl, q_ib, q_ibn, q_isz0, q_isz1, q_iszb, q_b0, q_b1, q_ng1, q_ng2, q_ng3, q_ng4, q_ng5, q_ng6, Bool.toNat_true, Bool.toNat_false, if_pos, if_neg, q_ct, q_cf, q_let, q_bd, q_it, q_if, Nat.zero_add, Nat.add_zero, true_and, and_true, false_and, and_false, or_false, false_or, or_true, true_or, Bool.true_eq_false, Bool.false_eq_true, wi_s, wi_o, wi_r], by simp (disch := first | assumption | omega) only [q_lit, Int32.neg_neg, nI_add, pk_mul, q_sub, q_addn, q_nadd, q_lt, q_le, q_eq, q_eqn, q_neq, q_nen, q_ltn, q_nlt, q_len, q_nle, q_nltn, q_nlen, q_cl, q_ib, q_ibn, q_isz0, q_isz1, q_iszb, q_b0, q_b1, q_ng1, q_ng2, q_ng3, q_ng4, q_ng5, q_ng6, Bool.toNat_true, Bool.toNat_false, if_pos, if_neg, q_ct, q_cf, q_let, q_bd, q_it, q_if, Nat.zero_add, Nat.add_zero, true_and, and_true, false_and, and_false, or_false, false_or, or_true, true_or, Bool.true_eq_false, Bool.false_eq_true, wi_s, wi_o, wi_r], by simp (disch := first | assumption | omega) only [q_lit, Int32.neg_neg, nI_add, pk_mul, q_sub, q_addn, q_nadd, q_lt, q_le, q_eq, q_eqn, q_neq, q_nen, q_ltn, q_nlt, q_len, q_nle, q_nltn, q_nlen, q_cl, q_ib, q_ibn, q_isz0, q_isz1, q_iszb, q_b0, q_b1, q_ng1, q_ng2, q_ng3, q_ng4, q_ng5, q_ng6, Bool.toNat_true, Bool.toNat_false, if_pos, if_neg, q_ct, q_cf, q_let, q_bd, q_it, q_if, Nat.zero_add, Nat.add_zero, true_and, and_true, false_and, and_false, or_false, false_or, or_true, true_or, Bool.true_eq_false, Bool.false_eq_true, wi_s, wi_o, wi_r], by simp (disch := first | assumption | omega) only [q_lit, Int32.neg_neg, nI_add, pk_mul, q_sub, q_addn, q_nadd, q_lt, q_le, q_eq, q_eqn, q_neq, q_nen, q_ltn, q_nlt, q_len, q_nle, q_nltn, q_nlen, q_cl, q_ib, q_ibn, q_isz0, q_isz1, q_iszb, q_b0, q_b1, q_ng1, q_ng2, q_ng3, q_ng4, q_ng5, q_ng6, Bool.toNat_true, Bool.toNat_false, if_pos, if_neg, q_ct, q_cf, q_let, q_bd, q_it, q_if, Nat.zero_add, Nat.add_zero, true_and, and_true, false_and, and_false, or_false, false_or, or_true, true_or, Bool.true_eq_false, Bool.false_eq_true, wi_s, wi_o, wi_r], by simp (disch := first | assumption | omega) only [q_lit, Int32.neg_neg, nI_add, pk_mul, q_sub, q_addn, q_nadd, q_lt, q_le, q_eq, q_eqn, q_neq, q_nen, q_ltn, q_nlt, q_len, q_nle, q_nltn, q_nlen, q_cl, q_ib, q_ibn, q_isz0, q_isz1, q_iszb, q_b0, q_b1, q_ng1, q_ng2, q_ng3, q_ng4, q_ng5, q_ng6, Bool.toNat_true, Bool.toNat_false, if_pos, if_neg, q_ct, q_cf, q_let, q_bd, q_it, q_if, Nat.zero_add, Nat.add_zero, true_and, and_true, false_and, and_false, or_false, false_or, or_true, true_or, Bool.true_eq_false, Bool.false_eq_true, wi_s, wi_o, wi_r], by simp (disch := first | assumption | omega) only [q_lit, Int32.neg_neg, nI_add, pk_mul, q_sub, q_addn, q_nadd, q_lt, q_le, q_eq, q_eqn, q_neq, q_nen, q_ltn, q_nlt, q_len, q_nle, q_nltn, q_nlen, q_cl, q_ib, q_ibn, q_isz0, q_isz1, q_iszb, q_b0, q_b1, q_ng1, q_ng2, q_ng3, q_ng4, q_ng5, q_ng6, Bool.toNat_true, Bool.toNat_false, if_pos, if_neg, q_ct, q_cf, q_let, q_bd, q_it, q_if, Nat.zero_add, Nat.add_zero, true_and, and_true, false_and, and_false, or_false, false_or, or_true, true_or, Bool.true_eq_false, Bool.false_eq_true, wi_s, wi_o, wi_r], by simp (disch := first | assumption | omega) only [q_lit, Int32.neg_neg, nI_add, pk_mul, q_sub, q_addn, q_nadd, q_lt, q_le, q_eq, q_eqn, q_neq, q_nen, q_ltn, q_nlt, q_len, q_nle, q_nltn, q_nlen, q_cl, q_ib, q_ibn, q_isz0, q_isz1, q_iszb, q_b0, q_b1, q_ng1, q_ng2, q_ng3, q_ng4, q_ng5, q_ng6, Bool.toNat_true, Bool.toNat_false, if_pos, if_neg, q_ct, q_cf, q_let, q_bd, q_it, q_if, Nat.zero_add, Nat.add_zero, true_and, and_true, false_and, and_false, or_false, false_or, or_true, true_or, Bool.true_eq_false, Bool.false_eq_true, wi_s, wi_o, wi_r], by simp (disch := first | assumption | omega) only [q_lit, Int32.neg_neg, nI_add, pk_mul, q_sub, q_addn, q_nadd, q_lt, q_le, q_eq, q_eqn, q_neq, q_nen, q_ltn, q_nlt, q_len, q_nle, q_nltn, q_nlen, q_cl, q_ib, q_ibn, q_isz0, q_isz1, q_iszb, q_b0, q_b1, q_ng1, q_ng2, q_ng3, q_ng4, q_ng5, q_ng6, Bool.toNat_true, Bool.toNat_false, if_pos, if_neg, q_ct, q_cf, q_let, q_bd, q_it, q_if, Nat.zero_add, Nat.add_zero, true_and, and_true, false_and, and_false, or_false, false_or, or_true, true_or, Bool.true_eq_false, Bool.false_eq_true, wi_s, wi_o, wi_r], by simp (disch := first | assumption | omega) only [q_lit, Int32.neg_neg, nI_add, pk_mul, q_sub, q_addn, q_nadd, q_lt, q_le, q_eq, q_eqn, q_neq, q_nen, q_ltn, q_nlt, q_len, q_nle, q_nltn, q_nlen, q_cl, q_ib, q_ibn, q_isz0, q_isz1, q_iszb, q_b0, q_b1, q_ng1, q_ng2, q_ng3, q_ng4, q_ng5, q_ng6, Bool.toNat_true, Bool.toNat_false, if_pos, if_neg, q_ct, q_cf, q_let, q_bd, q_it, q_if, Nat.zero_add, Nat.add_zero, true_and, and_true, false_and, and_false, or_false, false_or, or_true, true_or, Bool.true_eq_false, Bool.false_eq_true, wi_s, wi_o, wi_r]⟩, fun e j he => by simp (disch := first | assumption | omega) only [q_lit, Int32.neg_neg, nI_add, pk_mul, q_sub, q_addn, q_nadd, q_lt, q_le, q_eq, q_eqn, q_neq, q_nen, q_ltn, q_nlt, q_len, q_nle, q_nltn, q_nlen, q_cl, q_ib, q_ibn, q_isz0, q_isz1, q_iszb, q_b0, q_b1, q_ng1, q_ng2, q_ng3, q_ng4, q_ng5, q_ng6, Bool.toNat_true, Bool.toNat_false, if_pos, if_neg, q_ct, q_cf, q_let, q_bd, q_it, q_if, Nat.zero_add, Nat.add_zero, true_and, and_true, false_and, and_false, or_false, false_or, or_true, true_or, Bool.true_eq_false, Bool.false_eq_true, wi_s, wi_o, wi_r], rfl⟩
theorem m_sets {K : ph_Mem} {p h w : Nat} {a b : Int32} (hp : p < 6) (hh : h < 12) (hw : w < 4096) (h3 : K.1 2 (295 + (12 * p + h)) = nI w) : ∃ K1, f12_sets K (nI p) (nI h) a b = some K1 ∧ (K1.1 12 0 = nI p ∧ K1.1 12 1 = nI h ∧ K1.1 12 2 = K.1 2 (223 + (12 * p + h)) ∧ K1.1 12 3 = nI (q_pc w 12) ∧ K1.1 12 4 = K.1 2 (367 + (12 * p + h)) ∧ K1.1 12 5 = a ∧ K1.1 12 6 = b ∧ K1.1 12 7 = K.1 2 222 ∧ K1.1 12 8 = K.1 2 474) ∧ (∀ e j, e ≠ 12 → K1.1 e j = K.1 e j) ∧ K1.2 = K.2 := by
  unfold f12_sets
  simp (disch := first | assumption | omega) only [q_lit, Int32.neg_neg, nI_add, pk_mul, q_sub, q_addn, q_nadd, q_lt, q_le, q_eq, q_eqn, q_neq, q_nen, q_ltn, q_nlt, q_len, q_nle, q_nltn, q_nlen, q_cl, q_ib, q_ibn, q_isz0, q_isz1, q_iszb, q_b0, q_b1, q_ng1, q_ng2, q_ng3, q_ng4, q_ng5, q_ng6, Bool.toNat_true, Bool.toNat_false, if_pos, if_neg, q_ct, q_cf, q_let, q_bd, q_it, q_if, Nat.zero_add, Nat.add_zero, true_and, and_true, false_and, and_false, or_false, false_or, or_true, true_or, Bool.true_eq_false, Bool.false_eq_true, wi_s, wi_o, wi_r, m_place, h3, m_ones]
  exact ⟨_, rfl, ⟨by simp (disch := first | assumption | omega) only [q_lit, Int32.neg_neg, nI_add, pk_mul, q_sub, q_addn, q_nadd, q_lt, q_le, q_eq, q_eqn, q_neq, q_nen, q_ltn, q_nlt, q_len, q_nle, q_nltn, q_nlen, q_cl, q_ib, q_ibn, q_isz0, q_isz1, q_iszb, q_b0, q_b1, q_ng1, q_ng2, q_ng3, q_ng4, q_ng5, q_ng6, Bool.toNat_true, Bool.toNat_false, if_pos, if_neg, q_ct, q_cf, q_let, q_bd, q_it, q_if, Nat.zero_add, Nat.add_zero, true_and, and_true, false_and, and_false, or_false, false_or, or_true, true_or, Bool.true_eq_false, Bool.false_eq_true, wi_s, wi_o, wi_r], by simp (disch := first | assumption | omega) only [q_lit, Int32.neg_neg, nI_add, pk_mul, q_sub, q_addn, q_nadd, q_lt, q_le, q_eq, q_eqn, q_neq, q_nen, q_ltn, q_nlt, q_len, q_nle, q_nltn, q_nlen, q_cl, q_ib, q_ibn, q_isz0, q_isz1, q_iszb, q_b0, q_b1, q_ng1, q_ng2, q_ng3, q_ng4, q_ng5, q_ng6, Bool.toNat_true, Bool.toNat_false, if_pos, if_neg, q_ct, q_cf, q_let, q_bd, q_it, q_if, Nat.zero_add, Nat.add_zero, true_and, and_true, false_and, and_false, or_false, false_or, or_true, true_or, Bool.true_eq_false, Bool.false_eq_true, wi_s, wi_o, wi_r], by simp (disch := first | assumption | omega) only [q_lit, Int32.neg_neg, nI_add, pk_mul, q_sub, q_addn, q_nadd, q_lt, q_le, q_eq, q_eqn, q_neq, q_nen, q_ltn, q_nlt, q_len, q_nle, q_nltn, q_nlen, q_cl, q_ib, q_ibn, q_isz0, q_isz1, q_iszb, q_b0, q_b1, q_ng1, q_ng2, q_ng3, q_ng4, q_ng5, q_ng6, Bool.toNat_true, Bool.toNat_false, if_pos, if_neg, q_ct, q_cf, q_let, q_bd, q_it, q_if, Nat.zero_add, Nat.add_zero, true_and, and_true, false_and, and_false, or_false, false_or, or_true, true_or, Bool.true_eq_false, Bool.false_eq_true, wi_s, wi_o, wi_r], by simp (disch := first | assumption | omega) only [q_lit, Int32.neg_neg, nI_add, pk_mul, q_sub, q_addn, q_nadd, q_lt, q_le, q_eq, q_eqn, q_neq, q_nen, q_ltn, q_nlt, q_len, q_nle, q_nltn, q_nlen, q_cl, q_ib, q_ibn, q_isz0, q_isz1, q_iszb, q_b0, q_b1, q_ng1, q_ng2, q_ng3, q_ng4, q_ng5, q_ng6, Bool.toNat_true, Bool.toNat_false, if_pos, if_neg, q_ct, q_cf, q_let, q_bd, q_it, q_if, Nat.zero_add, Nat.add_zero, true_and, and_true, false_and, and_false, or_false, false_or, or_true, true_or, Bool.true_eq_false, Bool.false_eq_true, wi_s, wi_o, wi_r], by simp (disch := first | assumption | omega) only [q_lit, Int32.neg_neg, nI_add, pk_mul, q_sub, q_addn, q_nadd, q_lt, q_le, q_eq, q_eqn, q_neq, q_nen, q_ltn, q_nlt, q_len, q_nle, q_nltn, q_nlen, q_cl, q_ib, q_ibn, q_isz0, q_isz1, q_iszb, q_b0, q_b1, q_ng1, q_ng2, q_ng3, q_ng4, q_ng5, q_ng6, Bool.toNat_true, Bool.toNat_false, if_pos, if_neg, q_ct, q_cf, q_let, q_bd, q_it, q_if, Nat.zero_add, Nat.add_zero, true_and, and_true, false_and, and_false, or_false, false_or, or_true, true_or, Bool.true_eq_false, Bool.false_eq_true, wi_s, wi_o, wi_r], by simp (disch := first | assumption | omega) only [q_lit, Int32.neg_neg, nI_add, pk_mul, q_sub, q_addn, q_nadd, q_lt, q_le, q_eq, q_eqn, q_neq, q_nen, q_ltn, q_nlt, q_len, q_nle, q_nltn, q_nlen, q_cl, q_ib, q_ibn, q_isz0, q_isz1, q_iszb, q_b0, q_b1, q_ng1, q_ng2, q_ng3, q_ng4, q_ng5, q_ng6, Bool.toNat_true, Bool.toNat_false, if_pos, if_neg, q_ct, q_cf, q_let, q_bd, q_it, q_if, Nat.zero_add, Nat.add_zero, true_and, and_true, false_and, and_false, or_false, false_or, or_true, true_or, Bool.true_eq_false, Bool.false_eq_true, wi_s, wi_o, wi_r], by simp (disch := first | assumption | omega) only [q_lit, Int32.neg_neg, nI_add, pk_mul, q_sub, q_addn, q_nadd, q_lt, q_le, q_eq, q_eqn, q_neq, q_nen, q_ltn, q_nlt, q_len, q_nle, q_nltn, q_nlen, q_cl, q_ib, q_ibn, q_isz0, q_isz1, q_iszb, q_b0, q_b1, q_ng1, q_ng2, q_ng3, q_ng4, q_ng5, q_ng6, Bool.toNat_true, Bool.toNat_false, if_pos, if_neg, q_ct, q_cf, q_let, q_bd, q_it, q_if, Nat.zero_add, Nat.add_zero, true_and, and_true, false_and, and_false, or_false, false_or, or_true, true_or, Bool.true_eq_false, Bool.false_eq_true, wi_s, wi_o, wi_r], by simp (disch := first | assumption | omega) only [q_lit, Int32.neg_neg, nI_add, pk_mul, q_sub, q_addn, q_nadd, q_lt, q_le, q_eq, q_eqn, q_neq, q_nen, q_ltn, q_nlt, q_len, q_nle, q_nltn, q_nlen, q_cl, q_ib, q_ibn, q_isz0, q_isz1, q_iszb, q_b0, q_b1, q_ng1, q_ng2, q_ng3, q_ng4, q_ng5, q_ng6, Bool.toNat_true, Bool.toNat_false, if_pos, if_neg, q_ct, q_cf, q_let, q_bd, q_it, q_if, Nat.zero_add, Nat.add_zero, true_and, and_true, false_and, and_false, or_false, false_or, or_true, true_or, Bool.true_eq_false, Bool.false_eq_true, wi_s, wi_o, wi_r], by simp (disch := first | assumption | omega) only [q_lit, Int32.neg_neg, nI_add, pk_mul, q_sub, q_addn, q_nadd, q_lt, q_le, q_eq, q_eqn, q_neq, q_nen, q_ltn, q_nlt, q_len, q_nle, q_nltn, q_nlen, q_cl, q_ib, q_ibn, q_isz0, q_isz1, q_iszb, q_b0, q_b1, q_ng1, q_ng2, q_ng3, q_ng4, q_ng5, q_ng6, Bool.toNat_true, Bool.toNat_false, if_pos, if_neg, q_ct, q_cf, q_let, q_bd, q_it, q_if, Nat.zero_add, Nat.add_zero, true_and, and_true, false_and, and_false, or_false, false_or, or_true, true_or, Bool.true_eq_false, Bool.false_eq_true, wi_s, wi_o, wi_r]⟩, fun e j he => by simp (disch := first | assumption | omega) only [q_lit, Int32.neg_neg, nI_add, pk_mul, q_sub, q_addn, q_nadd, q_lt, q_le, q_eq, q_eqn, q_neq, q_nen, q_ltn, q_nlt, q_len, q_nle, q_nltn, q_nlen, q_cl, q_ib, q_ibn, q_isz0, q_isz1, q_iszb, q_b0, q_b1, q_ng1, q_ng2, q_ng3, q_ng4, q_ng5, q_ng6, Bool.toNat_true, Bool.toNat_false, if_pos, if_neg, q_ct, q_cf, q_let, q_bd, q_it, q_if, Nat.zero_add, Nat.add_zero, true_and, and_true, false_and, and_false, or_false, false_or, or_true, true_or, Bool.true_eq_false, Bool.false_eq_true, wi_s, wi_o, wi_r], rfl⟩
def rrE (g : Nat → Int32) (p h w wo lo sd kd today : Nat) : lwE := fun k => if k = 0 then nI p else if k = 1 then nI h else if k = 2 then g (223 + (12 * p + h)) else if k = 3 then nI (q_pc w 12) else if k = 4 then nI wo else if k = 5 then (if kd = 1 then nI lo else -nI 1) else if k = 6 then (if kd = 1 then nI (today - sd) else -nI 1) else if k = 7 then nI today else g 474
theorem rrE_eq {g : Nat → Int32} {p h w wo lo sd kd today : Nat} {f : Nat → Int32} (h0 : f 0 = nI p) (h1 : f 1 = nI h) (h2 : f 2 = g (223 + (12 * p + h))) (h3 : f 3 = nI (q_pc w 12)) (h4 : f 4 = nI wo) (h5 : f 5 = if kd = 1 then nI lo else -nI 1) (h6 : f 6 = if kd = 1 then nI (today - sd) else -nI 1) (h7 : f 7 = nI today) (h8 : f 8 = g 474) : ∀ k, k < 9 → f k = rrE g p h w wo lo sd kd today k := by
  intro k hk
  have : k = 0 ∨ k = 1 ∨ k = 2 ∨ k = 3 ∨ k = 4 ∨ k = 5 ∨ k = 6 ∨ k = 7 ∨ k = 8 := by omega
  rcases this with rfl | rfl | rfl | rfl | rfl | rfl | rfl | rfl | rfl
  · exact h0
  · exact h1
  · exact h2
  · exact h3
  · exact h4
  · exact h5
  · exact h6
  · exact h7
  · exact h8
def dfl (wo lo sd kd today : Nat) : Nat := if kd = 0 then wo else if kd = 1 then lo + (today - sd) else 0
theorem tld_le {kd : Nat} {r : lwE} {cs : Nat → lwC} {df n b : Nat} (h1 : mst kd ≤ b) (h2 : df ≤ b) : tld kd r cs df n ≤ b := by
  unfold tld
  cases lst (fun j => clR kd r (cs j)) n with
  | none => exact h2
  | some v =>
    have := clp_le (mst kd) v
    show clp (mst kd) v ≤ b
    omega
/-- the model's telling: no law in force, or law i -/
theorem m_telN {K : ph_Mem} {kd : Nat} {x y : Int32} (h : K.1 2 477 = -nI 1) : f12_tells K x y (nI kd) = some (nI kd, K) := by
  unfold f12_tells
  rw [h, if_pos (by decide)]
theorem m_telL {K : ph_Mem} {cd vl : Nat → Nat} {T n kd df i : Nat} {st en : Nat → Nat} {cs : Nat → lwC} {r : lwE} (hkd : kd < 3) (hi : i < 6) (h477 : K.1 2 477 = nI i) (h478 : K.1 2 (478 + i) = nI T) (hT : T ≤ 400 ∧ cd T = 0 ∧ ∀ k, cd k < 400 ∧ vl k < 2 ^ 30) (htx : ∀ k, k < T → K.1 2 (485 + 400 * i + k) = nI (cd k) ∧ K.1 2 (3285 + 400 * i + k) = nI (vl k)) (h3 : ∀ i, i < n → (cs i).1 < 3) (hn : 0 < n ∧ n ≤ 12) (hm : mC false cd vl T n st en cs) (he : en (n - 1) = T) (hr : ∀ k, k < 9 → K.1 12 k = r k) (hdf : df < 20000) : ∃ K', f12_tells K (nI (kd + 1)) (nI (mst kd)) (nI df) = some (nI (tld kd r cs df n), K') ∧ kSc K K' := by
  generalize eK1 : ph_wi (ph_wi (ph_wi K 0 8 (nI 8)) 0 22 (nI (400 * i))) 0 23 (nI (400 * i + T)) = K1
  have o1 : ∀ c j, (c ≠ 0 ∨ (j ≠ 8 ∧ j ≠ 22 ∧ j ≠ 23)) → K1.1 c j = K.1 c j := fun c j q => by rw [← eK1, wi_o (by omega), wi_o (by omega), wi_o (by omega)]
  have ht : txt false cd vl T (400 * i) K1 r := ⟨⟨by omega, hT.1, hT.2.1, hT.2.2⟩, fun k hk => by rw [o1 2 _ (by omega), o1 2 _ (by omega)]; exact htx k hk, by rw [← eK1, wi_s], by rw [← eK1, wi_o (by omega), wi_o (by omega), wi_s], fun k hk => by rw [o1 12 k (by omega)]; exact hr k hk⟩
  obtain ⟨K2, p1, p2⟩ := m_tells_l (df := df) hkd h3 hn.1 hm he n 0 10000 K1 (by omega) (by omega) ht (fun _ => by rw [← eK1, wi_o (by omega), wi_s, hm.1]; rfl) (fun q => absurd q (by omega))
  refine ⟨K2, ?_, fun d j q1 q2 => ?_, ?_⟩
  · unfold f12_tells
    simp only [q_lit]
    rw [h477, if_neg (by rw [q_eqn (by omega) (by omega)]; omega), q_let, wi_o (by omega), h477, pk_mul, q_let, wi_o (by omega), wi_o (by omega), h477, nI_add, q_ib (by omega) (by omega), q_ct, q_let, wi_s, q_cl (by omega), wi_o (by omega), wi_o (by omega), h478, nI_add, eK1, nI_l (by omega)]
    exact p1
  · by_cases d15 : d = 15
    · subst d15
      rw [p2.2.2 rfl j, o1 15 j (by omega)]
    · rw [p2.1 d j d15 (by omega), o1 d j (by omega)]
  · rw [p2.2.1, ← eK1]
    rfl
theorem RLx_rul : rRul RLx := by
  intro S X c g n t p h d hSX hc hs hp hh hd hd2
  have hn := hs.1.1
  have c11 : 11 ≤ c := by unfold ph_isS at hc; omega
  have c88 : c + 12 ≤ 59 := by unfold ph_isS at hc; omega
  have pl : 12 * p + h < 12 * n := by omega
  obtain ⟨f1, _, f3, ⟨w, w1, w2⟩, f5, ⟨wo, o1, o2⟩⟩ := hs.2.2.1.1 (12 * p + h) pl
  have w64 : w < 64 := by
    have := q_p6 hn
    omega
  obtain ⟨⟨d', e1, e2, e3, e4⟩, _⟩ := hs.2.1
  have dd : d' = d := by
    rw [hd2] at e3
    exact ((nI_eq (by omega) (by omega)).mp e3).symm
  subst dd
  obtain ⟨_, _, e5, _⟩ := e4 (12 * p + h) pl
  have e5 : g (12 * p + h) = nI 1 → X.1 (c + 6) (12 * p + h) = g (72 + (12 * p + h)) ∧ rNat 999 (g (72 + (12 * p + h))) ∧ X.1 (c + 7) (12 * p + h) = g (144 + (12 * p + h)) ∧ rNat d' (g (144 + (12 * p + h))) := e5
  generalize elo : (g (72 + (12 * p + h))).toNatClampNeg = lo
  generalize esd : (g (144 + (12 * p + h))).toNatClampNeg = sd
  have pw : g (12 * p + h) = nI 1 → (lo ≤ 999 ∧ sd ≤ d') ∧ g (72 + (12 * p + h)) = nI lo ∧ g (144 + (12 * p + h)) = nI sd := fun q => by
    obtain ⟨_, ⟨a, a1, a2⟩, _, ⟨b, b1, b2⟩⟩ := e5 q
    have l1 : lo = a := by rw [← elo, a2, q_cl (by omega)]
    have s1 : sd = b := by rw [← esd, b2, q_cl (by omega)]
    rw [l1, s1]
    exact ⟨⟨a1, b1⟩, a2, b2⟩
  have mo := hs.2.2.2.2.2.1.2.2.2.1
  have mo : X.1 (c + 10) 4 = g 474 := mo
  -- the law in force
  obtain ⟨N, cs, N12, hcs, hX, hK⟩ : ∃ N cs, N ≤ 12 ∧ (∀ i, i < N → ((cs : Nat → lwC) i).1 < 3) ∧
      (∀ (M : ph_Mem) (kd today : Nat) (x6 : Int32), kd < 3 → (∀ e j, (c ≤ e ∧ e < c + 12) ∨ 88 ≤ e → M.1 e j = X.1 e j) → (∀ i, M.2.2 (c + 11) i = X.2.2 (c + 11) i) → (∀ k, k < 9 → M.1 6 k = rrE g p h w wo lo sd kd today k) → ∃ M', vSc 5 M M' ∧ (if (M.1 c 14) < 0 then (f9_ruled_j84 S c (nI kd) (nI (12 * p + h)) x6 M) else (if (M.1 c 13) ≤ (M.1 c 14) then (f9_ruled_j84 S c (nI kd) (nI (12 * p + h)) x6 M) else (cond (ph_ib (M.1 c 14) 6) (f9_ruled_j85 S c (nI kd) (nI (12 * p + h)) x6 (M.2.2 (c + 11) (M.1 c 14).toNatClampNeg) M) none))) = (match lst (fun j => clR kd (rrE g p h w wo lo sd kd today) (cs j)) N with
        | some v => some (nI (clp (mst kd) v), M')
        | none => f9_ruled_j208 S c (nI kd) (nI (12 * p + h)) x6 M')) ∧
      (∀ (K : ph_Mem) (kd today df : Nat), kd < 3 → df < 20000 → (∀ j, (72 ≤ j ∧ j < 216) ∨ 223 ≤ j → K.1 2 j = g j) → (∀ k, k < 9 → K.1 12 k = rrE g p h w wo lo sd kd today k) → ∃ K', f12_tells K (nI (kd + 1)) (nI (mst kd)) (nI df) = some (nI (tld kd (rrE g p h w wo lo sd kd today) cs df N), K') ∧ kSc K K') := by
    obtain ⟨_, t6, _, _, x13, g476, x14, fo⟩ := hs.1
    rcases fo with fo | ⟨i, i1, i2⟩
    · refine ⟨0, fun _ => (0, 0, fun _ => none, fun _ => none, none), by omega, fun i hi => absurd hi (by omega), fun M kd today x6 hkd hM hr h6 => ⟨M, vSc_r 5 M, ?_⟩, fun K kd today df hkd hdf hg h12 => ⟨K, ?_, fun _ _ _ _ => rfl, rfl⟩⟩
      · rw [hM c 14 (by omega), x14, fo, if_pos (by decide)]
        unfold f9_ruled_j84 f9_ruled_j85 f9_ruled_j101
        have e0 : f9_ruled_l109 S c 10000 (nI kd) (nI (12 * p + h)) x6 none (0 - 1) M = f9_ruled_j208 S c (nI kd) (nI (12 * p + h)) x6 M := by
          conv => lhs; unfold f9_ruled_l109
          rw [if_pos (by decide)]
        generalize f9_ruled_l109 S c 10000 (nI kd) (nI (12 * p + h)) x6 none (0 - 1) M = y at e0 ⊢
        exact e0
      · exact m_telN ((hg 477 (by omega)).trans fo)
    · obtain ⟨q, q1, q2⟩ := hs.2.2.2.2.2.2.2 i i1
      obtain ⟨⟨a1, a2⟩, cd, vl, T, N, cl, st, en, cs, b1, b4, b5, b6, b7, ⟨b8, b9, b10⟩, b11, b12, b13⟩ := q2
      refine ⟨N, cs, b6.2, fun j hj => (b11 j hj).1.1, fun M kd today x6 hkd hM hr h6 => ?_, fun K kd today df hkd hdf hg h12 => ?_⟩
      · have hP : cPr false S M q N cl cs := ⟨⟨a2, b6.2⟩, (hM q 0 (by omega)).trans b7, ⟨b8, b9, b10⟩, fun j hj => cCl_fr (b11 j hj) (fun i _ => hM _ _ (by omega)) (fun i _ => hM _ _ (by omega)) (Nat.le_refl _)⟩
        obtain ⟨M', v1, v2⟩ := x_srch (S := S) (c := c) (q := q) (n := N) (cl := cl) (pl := 12 * p + h) (x6 := x6) (cs := cs) (r := rrE g p h w wo lo sd kd today) hkd N 10000 M (Nat.le_refl _) (by omega) hP h6
        refine ⟨M', v1, Eq.trans ?_ v2⟩
        rw [hM c 14 (by omega), hM c 13 (by omega), x14, x13, i2, if_neg (nI_pos (by omega)), if_neg (by rw [q_le (by omega) (by omega)]; omega), q_ib (by omega) (show i < 6 by omega), q_ct, q_cl (by omega), hr, q1]
        unfold f9_ruled_j85 f9_ruled_j101
        show (cond (ph_isPb S q) _ none) = _
        rw [a2, q_ct, hP.2.1]
        rfl
      · exact m_telL (i := i) hkd (by omega) ((hg 477 (by omega)).trans i2) ((hg _ (by omega)).trans b4) b1 (fun k hk => by rw [hg _ (by omega), hg _ (by omega)]; exact b5 k hk) (fun j hj => (b11 j hj).1.1) b6 b12 b13 h12 hdf
  have dfb : ∀ kd today, today ≤ 1060 → (kd = 1 → lo ≤ 999) → dfl wo lo sd kd today ≤ 9999 := fun kd today q1 q2 => by
    unfold dfl
    split
    · omega
    · split
      · have := q2 (by assumption)
        omega
      · omega
  refine ⟨fun kd today => tld kd (rrE g p h w wo lo sd kd today) cs (dfl wo lo sd kd today) N, fun today _ t2 => ⟨tld_le (by decide) (by show wo ≤ 999; omega), tld_le (by decide) (by show 0 ≤ 1; omega), fun q => tld_le (by decide) (dfb 1 today t2 (fun _ => (pw q).1.1))⟩, fun X1 kd today hx hr hkd hkp t1 t2 => ?_, fun K today hg h222 t1 t2 => ?_⟩
  · -- the class
    have x3 : X1.1 (c + 3) (12 * p + h) = nI w := by rw [hx _ _ (by omega)]; exact Eq.trans f3 w2
    have x7 : g (12 * p + h) = nI 1 → X1.1 (c + 7) (12 * p + h) = nI sd := fun q => by rw [hx _ _ (by omega)]; exact Eq.trans (e5 q).2.2.1 (pw q).2.2
    have x6' : g (12 * p + h) = nI 1 → X1.1 (c + 6) (12 * p + h) = nI lo := fun q => by rw [hx _ _ (by omega)]; exact Eq.trans (e5 q).1 (pw q).2.1
    obtain ⟨M1, m1, ⟨r0, r1, r2, r3, r4, r5, r6, r7, r8⟩, m2, m3⟩ := x_desc (S := S) (X := X1) (c := c) (p := p) (h := h) (w := w) (a := if kd = 1 then nI lo else -nI 1) (b := if kd = 1 then nI (today - sd) else -nI 1) (d := nI today) c11 (by omega) hh (by omega) x3
    have h6 := rrE_eq (g := g) (p := p) (h := h) (w := w) (wo := wo) (lo := lo) (sd := sd) (kd := kd) (today := today) (f := M1.1 6) r0 r1 (by rw [r2, hx _ _ (by omega)]; exact f1) r3 (by rw [r4, hx _ _ (by omega)]; exact Eq.trans f5 o2) r5 r6 r7 (by rw [r8, hx _ _ (by omega)]; exact mo)
    obtain ⟨M', v1, v2⟩ := hX M1 kd today (if kd = 1 then nI (today - sd) else -nI 1) hkd (fun e j he => by rw [m2 e j (by omega)]; exact hx e j he) (fun i => by rw [m3]; exact hr i) h6
    have e0 : f9_ruled S X1 c (nI kd) (nI p) (nI h) (nI today) = f9_ruled_j47 S c (nI kd) (nI today) (nI (12 * p + h)) (if kd = 1 then nI (today - sd) else -nI 1) (if kd = 1 then nI lo else -nI 1) (nI h) (nI p) X1 := by
      unfold f9_ruled f9_ruled_j26
      rw [x_place, q_bd]
      by_cases k1 : kd = 1
      · have q := hkp k1
        have := (pw q).1.2
        rw [if_pos (show nI kd = (1 : Int32) by rw [k1]; rfl), if_pos k1, if_pos k1, if_pos (show nI kd = (1 : Int32) by rw [k1]; rfl), q_ib (by omega) (show 12 * p + h < 72 by omega), q_ct, q_ct, q_cl (by omega), x7 q, x6' q, q_sub (by omega)]
      · rw [if_neg (show ¬ nI kd = (1 : Int32) from fun q => k1 ((nI_eq (a := kd) (b := 1) (by omega) (by omega)).mp q)), if_neg k1, if_neg k1, if_neg (show ¬ nI kd = (1 : Int32) from fun q => k1 ((nI_eq (a := kd) (b := 1) (by omega) (by omega)).mp q))]
        rfl
    refine ⟨M', ?_, fun e j he => by rw [v1.1]; exact m2 e j he, by rw [v1.2.1, m3], fun e j he => by rw [v1.2.2 e j he, m3]⟩
    rw [e0]
    unfold f9_ruled_j47
    rw [m1, q_bd, v2]
    show _ = some (nI (tld kd (rrE g p h w wo lo sd kd today) cs (dfl wo lo sd kd today) N), M')
    unfold tld
    cases lst (fun j => clR kd (rrE g p h w wo lo sd kd today) (cs j)) N with
    | some v => rfl
    | none =>
      show f9_ruled_j208 S c (nI kd) (nI (12 * p + h)) (if kd = 1 then nI (today - sd) else -nI 1) M' = some (nI (dfl wo lo sd kd today), M')
      unfold f9_ruled_j208 dfl
      have mm : ∀ e j, e ≠ 6 → M'.1 e j = X1.1 e j := fun e j q => by rw [v1.1]; exact m2 e j q
      by_cases k1 : kd = 1
      · have q := hkp k1
        rw [if_pos (show nI kd = (1 : Int32) by rw [k1]; rfl), q_ib (by omega) (show 12 * p + h < 72 by omega), q_ct, q_cl (by omega), mm _ _ (by omega), x6' q, if_pos k1, nI_add, if_neg (by omega), if_pos k1]
      · rw [if_neg (show ¬ nI kd = (1 : Int32) from fun q => k1 ((nI_eq (a := kd) (b := 1) (by omega) (by omega)).mp q)), if_neg (show ¬ kd = 1 from k1)]
        by_cases k0 : kd = 0
        · rw [if_pos (show nI kd = (0 : Int32) by rw [k0]; rfl), q_ib (by omega) (show 12 * p + h < 72 by omega), q_ct, q_cl (by omega), mm _ _ (by omega), hx _ _ (by omega), if_pos k0]
          rw [show X.1 (c + 4) (12 * p + h) = nI wo from Eq.trans f5 o2]
        · rw [if_neg (show ¬ nI kd = (0 : Int32) from fun q => k0 ((nI_eq (a := kd) (b := 0) (by omega) (by omega)).mp q)), if_neg k0]
          rfl
  · -- the model
    have k3 : K.1 2 (295 + (12 * p + h)) = nI w := (hg _ (by omega)).trans w2
    have kwo : K.1 2 (367 + (12 * p + h)) = nI wo := (hg _ (by omega)).trans o2
    have run : ∀ (kd : Nat) (a b : Int32), kd < 3 → (kd = 1 → lo ≤ 999) → a = (if kd = 1 then nI lo else -nI 1) → b = (if kd = 1 then nI (today - sd) else -nI 1) → ∃ K1 K', f12_sets K (nI p) (nI h) a b = some K1 ∧ f12_tells K1 (nI (kd + 1)) (nI (mst kd)) (nI (dfl wo lo sd kd today)) = some (nI (tld kd (rrE g p h w wo lo sd kd today) cs (dfl wo lo sd kd today) N), K') ∧ kSc K K' ∧ ∀ e j, e ≠ 12 → K1.1 e j = K.1 e j := by
      intro kd a b hkd hl ha hb
      obtain ⟨K1, m1, ⟨r0, r1, r2, r3, r4, r5, r6, r7, r8⟩, m2, m3⟩ := m_sets (K := K) (p := p) (h := h) (w := w) (a := a) (b := b) (by omega) hh (by omega) k3
      have h12 := rrE_eq (g := g) (p := p) (h := h) (w := w) (wo := wo) (lo := lo) (sd := sd) (kd := kd) (today := today) (f := K1.1 12) r0 r1 (by rw [r2]; exact hg _ (by omega)) r3 (by rw [r4]; exact kwo) (r5.trans ha) (r6.trans hb) (by rw [r7]; exact h222) (by rw [r8]; exact hg _ (by omega))
      obtain ⟨K', t1', t2'⟩ := hK K1 kd today (dfl wo lo sd kd today) hkd (by have := dfb kd today t2 hl; omega) (fun j hj => by rw [m2 2 j (by omega)]; exact hg j hj) h12
      exact ⟨K1, K', m1, t1', ⟨fun e j q1 q2 => (t2'.1 e j q1 q2).trans (m2 e j q1), t2'.2.trans m3⟩, m2⟩
    refine ⟨?_, ?_, fun q => ?_⟩
    · obtain ⟨K1, K', z1, z2, z3, z4⟩ := run 0 (-nI 1) (-nI 1) (by omega) (fun q => absurd q (by omega)) rfl rfl
      refine ⟨K', ?_, z3⟩
      have z2 : f12_tells K1 (nI 1) (nI 999) (nI wo) = _ := z2
      unfold f12_lendsFor
      simp only [q_lit]
      rw [z1, q_bd, m_place, q_bd, nI_add, q_ib (by omega) (by omega), q_ct, q_cl (by omega), z4 2 _ (by omega), kwo, z2, q_bd]
    · obtain ⟨K1, K', z1, z2, z3, z4⟩ := run 2 (-nI 1) (-nI 1) (by omega) (fun q => absurd q (by omega)) rfl rfl
      refine ⟨K', ?_, z3⟩
      have z2 : f12_tells K1 (nI 3) (nI 1) (nI 0) = _ := z2
      have le1 : tld 2 (rrE g p h w wo lo sd 2 today) cs (dfl wo lo sd 2 today) N ≤ 1 := tld_le (by decide) (by show 0 ≤ 1; omega)
      unfold f12_isBarred
      simp only [q_lit]
      rw [z1, q_bd, z2, q_bd]
      generalize tld 2 (rrE g p h w wo lo sd 2 today) cs (dfl wo lo sd 2 today) N = y at *
      have hc : y = 0 ∨ y = 1 := by omega
      rcases hc with rfl | rfl
      · rw [if_neg (fun q => absurd (show nI 0 = nI 1 from q) (by decide))]
      · rw [if_pos (by first | rfl | trivial | decide)]
    · have qq := pw q
      obtain ⟨K1, K', z1, z2, z3, z4⟩ := run 1 (nI lo) (nI (today - sd)) (by omega) (fun _ => qq.1.1) rfl rfl
      refine ⟨K', ?_, z3⟩
      have z2 : f12_tells K1 (nI 2) (nI 9999) (nI (lo + (today - sd))) = _ := z2
      unfold f12_costsFor
      simp only [q_lit]
      rw [m_place, q_bd, nI_add, q_ib (by omega) (by omega), q_ct, q_let, q_bd, nI_add, q_ib (by omega) (by omega), q_ct, q_let, q_cl (by omega), q_cl (by omega), hg (72 + (12 * p + h)) (by omega), hg (144 + (12 * p + h)) (by omega), qq.2.1, qq.2.2, h222, q_sub (by omega), z1, q_bd, nI_add, z2, q_bd]
