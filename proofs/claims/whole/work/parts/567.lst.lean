/-! PURE HALF: lies, stray -/
/-- how many below k -/
def q_cn (L : Nat → Bool) : Nat → Nat
  | 0 => 0
  | k + 1 => q_cn L k + (L k).toNat
theorem q_cn_le (L : Nat → Bool) : ∀ k, q_cn L k ≤ k
  | 0 => by simp [q_cn]
  | k + 1 => by
    have := q_cn_le L k
    rw [q_cn]
    cases L k <;> simp <;> omega
/-- the first from k on, of r, that is so and has i ahead of it -/
def q_fd (L : Nat → Bool) (i : Nat) : Nat → Nat → Int32
  | _, 0 => -nI 1
  | k, r + 1 => if L k = true ∧ q_cn L k = i then nI k else q_fd L i (k + 1) r
def q_lk (g : Nat → Int32) (n k : Nat) : Bool := decide (k / 6 % 6 < n) && decide (k % 6 < n) && q_lie g (k / 36) (k / 6 % 6) (k % 6)
theorem x_lop {RL : rLT} {S : ph_Sh} {X : ph_Mem} {g : Nat → Int32} {n t h q : Nat} (hs : rSt RL S X 11 g n t) (hh : h < 12) (hq : q < 36) : f0_isLieOfPair S X (nI h) (nI q) = some (nI (q_lk g n (36 * h + q)).toNat) := by
  have hn := hs.1.1
  have e1 : (36 * h + q) / 36 = h := by omega
  have e2 : (36 * h + q) / 6 % 6 = q / 6 := by omega
  have e3 : (36 * h + q) % 6 = q % 6 := by omega
  have e4 : q - q / 6 * 6 = q % 6 := by omega
  unfold f0_isLieOfPair q_lk
  rw [e1, e2, e3]
  have p1 := x_pers S (j := q / 6) hs.1.2.2.1 hn (by omega)
  have p2 := x_pers S (j := q % 6) hs.1.2.2.1 hn (by omega)
  by_cases a1 : q / 6 < n
  · by_cases a2 : q % 6 < n
    · have el := x_lie hs a1 a2 hh
      rw [decide_eq_true a1] at p1
      rw [decide_eq_true a2] at p2
      cases eb : q_lie g h (q / 6) (q % 6)
      · simp (disch := first | assumption | omega) only [q_lit, Int32.neg_neg, nI_add, pk_mul, q_sub, q_addn, q_nadd, q_lt, q_le, q_eq, q_eqn, q_neq, q_nen, q_ltn, q_nlt, q_len, q_nle, q_nltn, q_nlen, q_cl, q_ib, q_ibn, q_isz0, q_isz1, q_iszb, q_b0, q_b1, q_ng1, q_ng2, q_ng3, q_ng4, q_ng5, q_ng6, Bool.toNat_true, Bool.toNat_false, if_pos, if_neg, q_ct, q_cf, q_let, q_bd, q_it, q_if, Nat.zero_add, Nat.add_zero, true_and, and_true, false_and, and_false, or_false, false_or, or_true, true_or, Bool.true_eq_false, Bool.false_eq_true, wi_s, wi_o, wi_r, q_div, q_rem, e4, p1, p2, el, eb, decide_eq_true a1, decide_eq_true a2, Bool.true_and]
      · simp (disch := first | assumption | omega) only [q_lit, Int32.neg_neg, nI_add, pk_mul, q_sub, q_addn, q_nadd, q_lt, q_le, q_eq, q_eqn, q_neq, q_nen, q_ltn, q_nlt, q_len, q_nle, q_nltn, q_nlen, q_cl, q_ib, q_ibn, q_isz0, q_isz1, q_iszb, q_b0, q_b1, q_ng1, q_ng2, q_ng3, q_ng4, q_ng5, q_ng6, Bool.toNat_true, Bool.toNat_false, if_pos, if_neg, q_ct, q_cf, q_let, q_bd, q_it, q_if, Nat.zero_add, Nat.add_zero, true_and, and_true, false_and, and_false, or_false, false_or, or_true, true_or, Bool.true_eq_false, Bool.false_eq_true, wi_s, wi_o, wi_r, q_div, q_rem, e4, p1, p2, el, eb, decide_eq_true a1, decide_eq_true a2, Bool.true_and]
    · rw [decide_eq_true a1] at p1
      rw [decide_eq_false a2] at p2
      simp (disch := first | assumption | omega) only [q_lit, Int32.neg_neg, nI_add, pk_mul, q_sub, q_addn, q_nadd, q_lt, q_le, q_eq, q_eqn, q_neq, q_nen, q_ltn, q_nlt, q_len, q_nle, q_nltn, q_nlen, q_cl, q_ib, q_ibn, q_isz0, q_isz1, q_iszb, q_b0, q_b1, q_ng1, q_ng2, q_ng3, q_ng4, q_ng5, q_ng6, Bool.toNat_true, Bool.toNat_false, if_pos, if_neg, q_ct, q_cf, q_let, q_bd, q_it, q_if, Nat.zero_add, Nat.add_zero, true_and, and_true, false_and, and_false, or_false, false_or, or_true, true_or, Bool.true_eq_false, Bool.false_eq_true, wi_s, wi_o, wi_r, q_div, q_rem, e4, p1, p2, decide_eq_false a2, Bool.false_and, Bool.and_false]
  · rw [decide_eq_false a1] at p1
    simp (disch := first | assumption | omega) only [q_lit, Int32.neg_neg, nI_add, pk_mul, q_sub, q_addn, q_nadd, q_lt, q_le, q_eq, q_eqn, q_neq, q_nen, q_ltn, q_nlt, q_len, q_nle, q_nltn, q_nlen, q_cl, q_ib, q_ibn, q_isz0, q_isz1, q_iszb, q_b0, q_b1, q_ng1, q_ng2, q_ng3, q_ng4, q_ng5, q_ng6, Bool.toNat_true, Bool.toNat_false, if_pos, if_neg, q_ct, q_cf, q_let, q_bd, q_it, q_if, Nat.zero_add, Nat.add_zero, true_and, and_true, false_and, and_false, or_false, false_or, or_true, true_or, Bool.true_eq_false, Bool.false_eq_true, wi_s, wi_o, wi_r, q_div, q_rem, e4, p1, decide_eq_false a1, Bool.false_and]
theorem x_cl_i {RL : rLT} {S : ph_Sh} {X : ph_Mem} {g : Nat → Int32} {n t h : Nat} (hs : rSt RL S X 11 g n t) (hh : h < 12) (rc : Int32 → Int32 → Option Int32) : ∀ (r q fuel : Nat), q + r = 36 → r < fuel → f0_countLies_l12 S X rc fuel (nI (q_cn (q_lk g n) (36 * h + q))) (nI h) (nI q) = rc (nI (q_cn (q_lk g n) (36 * h + 36))) (nI (h + 1))
  | 0, q, f + 1, e, _ => by
    have : q = 36 := by omega
    subst this
    unfold f0_countLies_l12 f0_countLies_j36
    simp (disch := first | assumption | omega) only [q_lit, Int32.neg_neg, nI_add, pk_mul, q_sub, q_addn, q_nadd, q_lt, q_le, q_eq, q_eqn, q_neq, q_nen, q_ltn, q_nlt, q_len, q_nle, q_nltn, q_nlen, q_cl, q_ib, q_ibn, q_isz0, q_isz1, q_iszb, q_b0, q_b1, q_ng1, q_ng2, q_ng3, q_ng4, q_ng5, q_ng6, Bool.toNat_true, Bool.toNat_false, if_pos, if_neg, q_ct, q_cf, q_let, q_bd, q_it, q_if, Nat.zero_add, Nat.add_zero, true_and, and_true, false_and, and_false, or_false, false_or, or_true, true_or, Bool.true_eq_false, Bool.false_eq_true, wi_s, wi_o, wi_r]
  | r + 1, q, f + 1, e, hf => by
    have ih := x_cl_i hs hh rc r (q + 1) f (by omega) (by omega)
    have el := x_lop hs hh (show q < 36 by omega)
    rw [← Nat.add_assoc, q_cn] at ih
    unfold f0_countLies_l12 f0_countLies_j30
    cases eb : q_lk g n (36 * h + q)
    · rw [eb] at ih
      simp (disch := first | assumption | omega) only [q_lit, Int32.neg_neg, nI_add, pk_mul, q_sub, q_addn, q_nadd, q_lt, q_le, q_eq, q_eqn, q_neq, q_nen, q_ltn, q_nlt, q_len, q_nle, q_nltn, q_nlen, q_cl, q_ib, q_ibn, q_isz0, q_isz1, q_iszb, q_b0, q_b1, q_ng1, q_ng2, q_ng3, q_ng4, q_ng5, q_ng6, Bool.toNat_true, Bool.toNat_false, if_pos, if_neg, q_ct, q_cf, q_let, q_bd, q_it, q_if, Nat.zero_add, Nat.add_zero, true_and, and_true, false_and, and_false, or_false, false_or, or_true, true_or, Bool.true_eq_false, Bool.false_eq_true, wi_s, wi_o, wi_r] at ih
      simp (disch := first | assumption | omega) only [q_lit, Int32.neg_neg, nI_add, pk_mul, q_sub, q_addn, q_nadd, q_lt, q_le, q_eq, q_eqn, q_neq, q_nen, q_ltn, q_nlt, q_len, q_nle, q_nltn, q_nlen, q_cl, q_ib, q_ibn, q_isz0, q_isz1, q_iszb, q_b0, q_b1, q_ng1, q_ng2, q_ng3, q_ng4, q_ng5, q_ng6, Bool.toNat_true, Bool.toNat_false, if_pos, if_neg, q_ct, q_cf, q_let, q_bd, q_it, q_if, Nat.zero_add, Nat.add_zero, true_and, and_true, false_and, and_false, or_false, false_or, or_true, true_or, Bool.true_eq_false, Bool.false_eq_true, wi_s, wi_o, wi_r, el, eb]
      exact ih
    · rw [eb] at ih
      simp (disch := first | assumption | omega) only [q_lit, Int32.neg_neg, nI_add, pk_mul, q_sub, q_addn, q_nadd, q_lt, q_le, q_eq, q_eqn, q_neq, q_nen, q_ltn, q_nlt, q_len, q_nle, q_nltn, q_nlen, q_cl, q_ib, q_ibn, q_isz0, q_isz1, q_iszb, q_b0, q_b1, q_ng1, q_ng2, q_ng3, q_ng4, q_ng5, q_ng6, Bool.toNat_true, Bool.toNat_false, if_pos, if_neg, q_ct, q_cf, q_let, q_bd, q_it, q_if, Nat.zero_add, Nat.add_zero, true_and, and_true, false_and, and_false, or_false, false_or, or_true, true_or, Bool.true_eq_false, Bool.false_eq_true, wi_s, wi_o, wi_r] at ih
      simp (disch := first | assumption | omega) only [q_lit, Int32.neg_neg, nI_add, pk_mul, q_sub, q_addn, q_nadd, q_lt, q_le, q_eq, q_eqn, q_neq, q_nen, q_ltn, q_nlt, q_len, q_nle, q_nltn, q_nlen, q_cl, q_ib, q_ibn, q_isz0, q_isz1, q_iszb, q_b0, q_b1, q_ng1, q_ng2, q_ng3, q_ng4, q_ng5, q_ng6, Bool.toNat_true, Bool.toNat_false, if_pos, if_neg, q_ct, q_cf, q_let, q_bd, q_it, q_if, Nat.zero_add, Nat.add_zero, true_and, and_true, false_and, and_false, or_false, false_or, or_true, true_or, Bool.true_eq_false, Bool.false_eq_true, wi_s, wi_o, wi_r, el, eb]
      exact ih
theorem x_cl_o {RL : rLT} {S : ph_Sh} {X : ph_Mem} {g : Nat → Int32} {n t : Nat} (hs : rSt RL S X 11 g n t) : ∀ (r h fuel : Nat), h + r = 12 → r < fuel → f0_countLies_l4 S X fuel (nI (q_cn (q_lk g n) (36 * h))) (nI h) = some (nI (q_cn (q_lk g n) 432))
  | 0, h, f + 1, e, _ => by
    have : h = 12 := by omega
    subst this
    unfold f0_countLies_l4
    simp (disch := first | assumption | omega) only [q_lit, Int32.neg_neg, nI_add, pk_mul, q_sub, q_addn, q_nadd, q_lt, q_le, q_eq, q_eqn, q_neq, q_nen, q_ltn, q_nlt, q_len, q_nle, q_nltn, q_nlen, q_cl, q_ib, q_ibn, q_isz0, q_isz1, q_iszb, q_b0, q_b1, q_ng1, q_ng2, q_ng3, q_ng4, q_ng5, q_ng6, Bool.toNat_true, Bool.toNat_false, if_pos, if_neg, q_ct, q_cf, q_let, q_bd, q_it, q_if, Nat.zero_add, Nat.add_zero, true_and, and_true, false_and, and_false, or_false, false_or, or_true, true_or, Bool.true_eq_false, Bool.false_eq_true, wi_s, wi_o, wi_r]
  | r + 1, h, f + 1, e, hf => by
    have ih := x_cl_o hs r (h + 1) f (by omega) (by omega)
    have ii := x_cl_i hs (show h < 12 by omega) (f0_countLies_l4 S X f) 36 0 10000 (by omega) (by omega)
    rw [Nat.add_zero] at ii
    unfold f0_countLies_l4
    simp (disch := first | assumption | omega) only [q_lit, Int32.neg_neg, nI_add, pk_mul, q_sub, q_addn, q_nadd, q_lt, q_le, q_eq, q_eqn, q_neq, q_nen, q_ltn, q_nlt, q_len, q_nle, q_nltn, q_nlen, q_cl, q_ib, q_ibn, q_isz0, q_isz1, q_iszb, q_b0, q_b1, q_ng1, q_ng2, q_ng3, q_ng4, q_ng5, q_ng6, Bool.toNat_true, Bool.toNat_false, if_pos, if_neg, q_ct, q_cf, q_let, q_bd, q_it, q_if, Nat.zero_add, Nat.add_zero, true_and, and_true, false_and, and_false, or_false, false_or, or_true, true_or, Bool.true_eq_false, Bool.false_eq_true, wi_s, wi_o, wi_r]
    rw [ii]
    exact ih
theorem x_la_i {RL : rLT} {S : ph_Sh} {X : ph_Mem} {g : Nat → Int32} {n t h i : Nat} (hs : rSt RL S X 11 g n t) (hh : h < 12) (hi : i < 2 ^ 31) (rc : Int32 → Int32 → Option Int32) (hrc : q_cn (q_lk g n) (36 * h + 36) ≤ i → rc (nI (i - q_cn (q_lk g n) (36 * h + 36))) (nI (h + 1)) = some (q_fd (q_lk g n) i (36 * h + 36) (432 - (36 * h + 36)))) : ∀ (r q fuel : Nat), q + r = 36 → r < fuel → q_cn (q_lk g n) (36 * h + q) ≤ i → f0_lieAt_l13 S X rc fuel (nI (i - q_cn (q_lk g n) (36 * h + q))) (nI h) (nI q) = some (q_fd (q_lk g n) i (36 * h + q) (432 - (36 * h + q)))
  | 0, q, f + 1, e, _, hc => by
    have : q = 36 := by omega
    subst this
    have hr := hrc hc
    unfold f0_lieAt_l13 f0_lieAt_j54
    simp (disch := first | assumption | omega) only [q_lit, Int32.neg_neg, nI_add, pk_mul, q_sub, q_addn, q_nadd, q_lt, q_le, q_eq, q_eqn, q_neq, q_nen, q_ltn, q_nlt, q_len, q_nle, q_nltn, q_nlen, q_cl, q_ib, q_ibn, q_isz0, q_isz1, q_iszb, q_b0, q_b1, q_ng1, q_ng2, q_ng3, q_ng4, q_ng5, q_ng6, Bool.toNat_true, Bool.toNat_false, if_pos, if_neg, q_ct, q_cf, q_let, q_bd, q_it, q_if, Nat.zero_add, Nat.add_zero, true_and, and_true, false_and, and_false, or_false, false_or, or_true, true_or, Bool.true_eq_false, Bool.false_eq_true, wi_s, wi_o, wi_r]
    exact hr
  | r + 1, q, f + 1, e, hf, hc => by
    have ih := x_la_i hs hh hi rc hrc r (q + 1) f (by omega) (by omega)
    have el := x_lop hs hh (show q < 36 by omega)
    rw [← Nat.add_assoc, q_cn] at ih
    have er : 432 - (36 * h + q) = (432 - (36 * h + q + 1)) + 1 := by omega
    rw [er, q_fd]
    unfold f0_lieAt_l13 f0_lieAt_j34 f0_lieAt_j48
    cases eb : q_lk g n (36 * h + q)
    · rw [eb] at ih
      have ih' := ih hc
      simp (disch := first | assumption | omega) only [q_lit, Int32.neg_neg, nI_add, pk_mul, q_sub, q_addn, q_nadd, q_lt, q_le, q_eq, q_eqn, q_neq, q_nen, q_ltn, q_nlt, q_len, q_nle, q_nltn, q_nlen, q_cl, q_ib, q_ibn, q_isz0, q_isz1, q_iszb, q_b0, q_b1, q_ng1, q_ng2, q_ng3, q_ng4, q_ng5, q_ng6, Bool.toNat_true, Bool.toNat_false, if_pos, if_neg, q_ct, q_cf, q_let, q_bd, q_it, q_if, Nat.zero_add, Nat.add_zero, true_and, and_true, false_and, and_false, or_false, false_or, or_true, true_or, Bool.true_eq_false, Bool.false_eq_true, wi_s, wi_o, wi_r] at ih'
      simp (disch := first | assumption | omega) only [q_lit, Int32.neg_neg, nI_add, pk_mul, q_sub, q_addn, q_nadd, q_lt, q_le, q_eq, q_eqn, q_neq, q_nen, q_ltn, q_nlt, q_len, q_nle, q_nltn, q_nlen, q_cl, q_ib, q_ibn, q_isz0, q_isz1, q_iszb, q_b0, q_b1, q_ng1, q_ng2, q_ng3, q_ng4, q_ng5, q_ng6, Bool.toNat_true, Bool.toNat_false, if_pos, if_neg, q_ct, q_cf, q_let, q_bd, q_it, q_if, Nat.zero_add, Nat.add_zero, true_and, and_true, false_and, and_false, or_false, false_or, or_true, true_or, Bool.true_eq_false, Bool.false_eq_true, wi_s, wi_o, wi_r, el, eb]
      exact ih'
    · rw [eb] at ih
      have e66 : h * 6 * 6 + q = 36 * h + q := by omega
      by_cases ec : q_cn (q_lk g n) (36 * h + q) = i
      · have e0 : i - q_cn (q_lk g n) (36 * h + q) = 0 := by omega
        simp (disch := first | assumption | omega) only [q_lit, Int32.neg_neg, nI_add, pk_mul, q_sub, q_addn, q_nadd, q_lt, q_le, q_eq, q_eqn, q_neq, q_nen, q_ltn, q_nlt, q_len, q_nle, q_nltn, q_nlen, q_cl, q_ib, q_ibn, q_isz0, q_isz1, q_iszb, q_b0, q_b1, q_ng1, q_ng2, q_ng3, q_ng4, q_ng5, q_ng6, Bool.toNat_true, Bool.toNat_false, if_pos, if_neg, q_ct, q_cf, q_let, q_bd, q_it, q_if, Nat.zero_add, Nat.add_zero, true_and, and_true, false_and, and_false, or_false, false_or, or_true, true_or, Bool.true_eq_false, Bool.false_eq_true, wi_s, wi_o, wi_r, el, eb, e0, ec, e66]
      · have ih' := ih (by simp; omega)
        have e1 : i - q_cn (q_lk g n) (36 * h + q) - 1 = i - (q_cn (q_lk g n) (36 * h + q) + 1) := by omega
        simp (disch := first | assumption | omega) only [q_lit, Int32.neg_neg, nI_add, pk_mul, q_sub, q_addn, q_nadd, q_lt, q_le, q_eq, q_eqn, q_neq, q_nen, q_ltn, q_nlt, q_len, q_nle, q_nltn, q_nlen, q_cl, q_ib, q_ibn, q_isz0, q_isz1, q_iszb, q_b0, q_b1, q_ng1, q_ng2, q_ng3, q_ng4, q_ng5, q_ng6, Bool.toNat_true, Bool.toNat_false, if_pos, if_neg, q_ct, q_cf, q_let, q_bd, q_it, q_if, Nat.zero_add, Nat.add_zero, true_and, and_true, false_and, and_false, or_false, false_or, or_true, true_or, Bool.true_eq_false, Bool.false_eq_true, wi_s, wi_o, wi_r] at ih'
        simp (disch := first | assumption | omega) only [q_lit, Int32.neg_neg, nI_add, pk_mul, q_sub, q_addn, q_nadd, q_lt, q_le, q_eq, q_eqn, q_neq, q_nen, q_ltn, q_nlt, q_len, q_nle, q_nltn, q_nlen, q_cl, q_ib, q_ibn, q_isz0, q_isz1, q_iszb, q_b0, q_b1, q_ng1, q_ng2, q_ng3, q_ng4, q_ng5, q_ng6, Bool.toNat_true, Bool.toNat_false, if_pos, if_neg, q_ct, q_cf, q_let, q_bd, q_it, q_if, Nat.zero_add, Nat.add_zero, true_and, and_true, false_and, and_false, or_false, false_or, or_true, true_or, Bool.true_eq_false, Bool.false_eq_true, wi_s, wi_o, wi_r, el, eb, ec, e1]
        exact ih'
theorem x_la_o {RL : rLT} {S : ph_Sh} {X : ph_Mem} {g : Nat → Int32} {n t i : Nat} (hs : rSt RL S X 11 g n t) (hi : i < 2 ^ 31) : ∀ (r h fuel : Nat), h + r = 12 → r < fuel → q_cn (q_lk g n) (36 * h) ≤ i → f0_lieAt_l4 S X fuel (nI (i - q_cn (q_lk g n) (36 * h))) (nI h) = some (q_fd (q_lk g n) i (36 * h) (432 - 36 * h))
  | 0, h, f + 1, e, _, _ => by
    have : h = 12 := by omega
    subst this
    unfold f0_lieAt_l4
    simp (disch := first | assumption | omega) only [q_lit, Int32.neg_neg, nI_add, pk_mul, q_sub, q_addn, q_nadd, q_lt, q_le, q_eq, q_eqn, q_neq, q_nen, q_ltn, q_nlt, q_len, q_nle, q_nltn, q_nlen, q_cl, q_ib, q_ibn, q_isz0, q_isz1, q_iszb, q_b0, q_b1, q_ng1, q_ng2, q_ng3, q_ng4, q_ng5, q_ng6, Bool.toNat_true, Bool.toNat_false, if_pos, if_neg, q_ct, q_cf, q_let, q_bd, q_it, q_if, Nat.zero_add, Nat.add_zero, true_and, and_true, false_and, and_false, or_false, false_or, or_true, true_or, Bool.true_eq_false, Bool.false_eq_true, wi_s, wi_o, wi_r, Nat.reduceMul, Nat.reduceSub, q_fd]
  | r + 1, h, f + 1, e, hf, hc => by
    have ih := x_la_o hs hi r (h + 1) f (by omega) (by omega)
    have ii := x_la_i hs (show h < 12 by omega) hi (f0_lieAt_l4 S X f) (fun q => ih q) 36 0 10000 (by omega) (by omega) hc
    rw [Nat.add_zero] at ii
    unfold f0_lieAt_l4
    simp (disch := first | assumption | omega) only [q_lit, Int32.neg_neg, nI_add, pk_mul, q_sub, q_addn, q_nadd, q_lt, q_le, q_eq, q_eqn, q_neq, q_nen, q_ltn, q_nlt, q_len, q_nle, q_nltn, q_nlen, q_cl, q_ib, q_ibn, q_isz0, q_isz1, q_iszb, q_b0, q_b1, q_ng1, q_ng2, q_ng3, q_ng4, q_ng5, q_ng6, Bool.toNat_true, Bool.toNat_false, if_pos, if_neg, q_ct, q_cf, q_let, q_bd, q_it, q_if, Nat.zero_add, Nat.add_zero, true_and, and_true, false_and, and_false, or_false, false_or, or_true, true_or, Bool.true_eq_false, Bool.false_eq_true, wi_s, wi_o, wi_r]
    exact ii
theorem m_lies_l {RL : rLT} {S : ph_Sh} {X K : ph_Mem} {n t : Nat} (hs : rSt RL S X 11 (K.1 2) n t) : ∀ (r k fuel : Nat), k + r = 432 → r < fuel → f12_lies_l11 K fuel (-nI 1) (nI (q_cn (q_lk (K.1 2) n) k)) (nI k) = some (nI (q_cn (q_lk (K.1 2) n) 432)) ∧ ∀ i, i < 2 ^ 31 → f12_lies_l11 K fuel (nI i) (nI (q_cn (q_lk (K.1 2) n) k)) (nI k) = some (q_fd (q_lk (K.1 2) n) i k r)
  | 0, k, f + 1, e, _ => by
    have : k = 432 := by omega
    subst this
    unfold f12_lies_l11 f12_lies_j85
    refine ⟨by simp (disch := first | assumption | omega) only [q_lit, Int32.neg_neg, nI_add, pk_mul, q_sub, q_addn, q_nadd, q_lt, q_le, q_eq, q_eqn, q_neq, q_nen, q_ltn, q_nlt, q_len, q_nle, q_nltn, q_nlen, q_cl, q_ib, q_ibn, q_isz0, q_isz1, q_iszb, q_b0, q_b1, q_ng1, q_ng2, q_ng3, q_ng4, q_ng5, q_ng6, Bool.toNat_true, Bool.toNat_false, if_pos, if_neg, q_ct, q_cf, q_let, q_bd, q_it, q_if, Nat.zero_add, Nat.add_zero, true_and, and_true, false_and, and_false, or_false, false_or, or_true, true_or, Bool.true_eq_false, Bool.false_eq_true, wi_s, wi_o, wi_r], fun i hi => by simp (disch := first | assumption | omega) only [q_lit, Int32.neg_neg, nI_add, pk_mul, q_sub, q_addn, q_nadd, q_lt, q_le, q_eq, q_eqn, q_neq, q_nen, q_ltn, q_nlt, q_len, q_nle, q_nltn, q_nlen, q_cl, q_ib, q_ibn, q_isz0, q_isz1, q_iszb, q_b0, q_b1, q_ng1, q_ng2, q_ng3, q_ng4, q_ng5, q_ng6, Bool.toNat_true, Bool.toNat_false, if_pos, if_neg, q_ct, q_cf, q_let, q_bd, q_it, q_if, Nat.zero_add, Nat.add_zero, true_and, and_true, false_and, and_false, or_false, false_or, or_true, true_or, Bool.true_eq_false, Bool.false_eq_true, wi_s, wi_o, wi_r, q_fd]⟩
  | r + 1, k, f + 1, e, hf => by
    have ih := m_lies_l hs r (k + 1) f (by omega) (by omega)
    have hn := hs.1.1
    have hle := q_cn_le (q_lk (K.1 2) n) k
    have e4 : k - k / 6 * 6 = k % 6 := by omega
    have e5 : k / 6 - k / 6 / 6 * 6 = k / 6 % 6 := by omega
    have p1 := m_pers (K := K) (j := k / 6 % 6) hs.1.2.2.2.1 hn (by omega)
    have p2 := m_pers (K := K) (j := k % 6) hs.1.2.2.2.1 hn (by omega)
    rw [q_cn] at ih
    -- one step
    have st : ∀ y : Int32, f12_lies_l11 K (f + 1) y (nI (q_cn (q_lk (K.1 2) n) k)) (nI k) = if q_lk (K.1 2) n k = true ∧ nI (q_cn (q_lk (K.1 2) n) k) = y then some (nI k) else f12_lies_l11 K f y (nI (q_cn (q_lk (K.1 2) n) k + (q_lk (K.1 2) n k).toNat)) (nI (k + 1)) := by
      intro y
      conv => lhs; unfold f12_lies_l11 f12_lies_j79
      by_cases a1 : k / 6 % 6 < n
      · rw [decide_eq_true a1] at p1
        by_cases a2 : k % 6 < n
        · rw [decide_eq_true a2] at p2
          have el := m_lie hs a1 a2 (show k / 36 < 12 by omega)
          have ek : q_lk (K.1 2) n k = q_lie (K.1 2) (k / 36) (k / 6 % 6) (k % 6) := by unfold q_lk; rw [decide_eq_true a1, decide_eq_true a2, Bool.true_and, Bool.true_and]
          cases eb : q_lk (K.1 2) n k
          · rw [← ek, eb] at el
            simp (disch := first | assumption | omega) only [q_lit, Int32.neg_neg, nI_add, pk_mul, q_sub, q_addn, q_nadd, q_lt, q_le, q_eq, q_eqn, q_neq, q_nen, q_ltn, q_nlt, q_len, q_nle, q_nltn, q_nlen, q_cl, q_ib, q_ibn, q_isz0, q_isz1, q_iszb, q_b0, q_b1, q_ng1, q_ng2, q_ng3, q_ng4, q_ng5, q_ng6, Bool.toNat_true, Bool.toNat_false, if_pos, if_neg, q_ct, q_cf, q_let, q_bd, q_it, q_if, Nat.zero_add, Nat.add_zero, true_and, and_true, false_and, and_false, or_false, false_or, or_true, true_or, Bool.true_eq_false, Bool.false_eq_true, wi_s, wi_o, wi_r, q_div, q_rem, e4, e5, p1, p2, el]
          · rw [← ek, eb] at el
            by_cases ey : nI (q_cn (q_lk (K.1 2) n) k) = y
            · subst ey
              simp (disch := first | assumption | omega) only [q_lit, Int32.neg_neg, nI_add, pk_mul, q_sub, q_addn, q_nadd, q_lt, q_le, q_eq, q_eqn, q_neq, q_nen, q_ltn, q_nlt, q_len, q_nle, q_nltn, q_nlen, q_cl, q_ib, q_ibn, q_isz0, q_isz1, q_iszb, q_b0, q_b1, q_ng1, q_ng2, q_ng3, q_ng4, q_ng5, q_ng6, Bool.toNat_true, Bool.toNat_false, if_pos, if_neg, q_ct, q_cf, q_let, q_bd, q_it, q_if, Nat.zero_add, Nat.add_zero, true_and, and_true, false_and, and_false, or_false, false_or, or_true, true_or, Bool.true_eq_false, Bool.false_eq_true, wi_s, wi_o, wi_r, q_div, q_rem, e4, e5, p1, p2, el]
            · simp (disch := first | assumption | omega) only [q_lit, Int32.neg_neg, nI_add, pk_mul, q_sub, q_addn, q_nadd, q_lt, q_le, q_eq, q_eqn, q_neq, q_nen, q_ltn, q_nlt, q_len, q_nle, q_nltn, q_nlen, q_cl, q_ib, q_ibn, q_isz0, q_isz1, q_iszb, q_b0, q_b1, q_ng1, q_ng2, q_ng3, q_ng4, q_ng5, q_ng6, Bool.toNat_true, Bool.toNat_false, if_pos, if_neg, q_ct, q_cf, q_let, q_bd, q_it, q_if, Nat.zero_add, Nat.add_zero, true_and, and_true, false_and, and_false, or_false, false_or, or_true, true_or, Bool.true_eq_false, Bool.false_eq_true, wi_s, wi_o, wi_r, q_div, q_rem, e4, e5, p1, p2, el, ey]
        · rw [decide_eq_false a2] at p2
          have ek : q_lk (K.1 2) n k = false := by unfold q_lk; rw [decide_eq_false a2, Bool.and_false, Bool.false_and]
          simp (disch := first | assumption | omega) only [q_lit, Int32.neg_neg, nI_add, pk_mul, q_sub, q_addn, q_nadd, q_lt, q_le, q_eq, q_eqn, q_neq, q_nen, q_ltn, q_nlt, q_len, q_nle, q_nltn, q_nlen, q_cl, q_ib, q_ibn, q_isz0, q_isz1, q_iszb, q_b0, q_b1, q_ng1, q_ng2, q_ng3, q_ng4, q_ng5, q_ng6, Bool.toNat_true, Bool.toNat_false, if_pos, if_neg, q_ct, q_cf, q_let, q_bd, q_it, q_if, Nat.zero_add, Nat.add_zero, true_and, and_true, false_and, and_false, or_false, false_or, or_true, true_or, Bool.true_eq_false, Bool.false_eq_true, wi_s, wi_o, wi_r, q_div, q_rem, e4, e5, p1, p2, ek]
      · rw [decide_eq_false a1] at p1
        have ek : q_lk (K.1 2) n k = false := by unfold q_lk; rw [decide_eq_false a1, Bool.false_and, Bool.false_and]
        simp (disch := first | assumption | omega) only [q_lit, Int32.neg_neg, nI_add, pk_mul, q_sub, q_addn, q_nadd, q_lt, q_le, q_eq, q_eqn, q_neq, q_nen, q_ltn, q_nlt, q_len, q_nle, q_nltn, q_nlen, q_cl, q_ib, q_ibn, q_isz0, q_isz1, q_iszb, q_b0, q_b1, q_ng1, q_ng2, q_ng3, q_ng4, q_ng5, q_ng6, Bool.toNat_true, Bool.toNat_false, if_pos, if_neg, q_ct, q_cf, q_let, q_bd, q_it, q_if, Nat.zero_add, Nat.add_zero, true_and, and_true, false_and, and_false, or_false, false_or, or_true, true_or, Bool.true_eq_false, Bool.false_eq_true, wi_s, wi_o, wi_r, q_div, q_rem, e4, e5, p1, ek]
    refine ⟨?_, fun i hi => ?_⟩
    · rw [st, if_neg]
      · exact ih.1
      · simp (disch := first | assumption | omega) only [q_lit, Int32.neg_neg, nI_add, pk_mul, q_sub, q_addn, q_nadd, q_lt, q_le, q_eq, q_eqn, q_neq, q_nen, q_ltn, q_nlt, q_len, q_nle, q_nltn, q_nlen, q_cl, q_ib, q_ibn, q_isz0, q_isz1, q_iszb, q_b0, q_b1, q_ng1, q_ng2, q_ng3, q_ng4, q_ng5, q_ng6, Bool.toNat_true, Bool.toNat_false, if_pos, if_neg, q_ct, q_cf, q_let, q_bd, q_it, q_if, Nat.zero_add, Nat.add_zero, true_and, and_true, false_and, and_false, or_false, false_or, or_true, true_or, Bool.true_eq_false, Bool.false_eq_true, wi_s, wi_o, wi_r]
        simp
    · rw [st, q_fd]
      have eq := q_eq (a := q_cn (q_lk (K.1 2) n) k) (b := i) (by omega) hi
      by_cases c : q_lk (K.1 2) n k = true ∧ q_cn (q_lk (K.1 2) n) k = i
      · rw [if_pos c, if_pos (by rw [eq]; exact c)]
      · rw [if_neg c, if_neg (by rw [eq]; exact c)]
        exact ih.2 i hi
theorem s_lies {RL : rLT} : lws_lies (Rel RL) := by
  intro S X K h a1
  obtain ⟨n, t, hs, hl⟩ := h.2.2.2.2.2
  unfold f11_lies f12_lies
  have m := m_lies_l hs 432 0 10000 (by omega) (by omega)
  have c1 : f0_countLies S X = some (nI (q_cn (q_lk (K.1 2) n) 432)) := x_cl_o hs 12 0 10000 (by omega) (by omega)
  rcases q_rnN a1 0 with rfl | hc | ⟨g1, g2⟩ | hc
  · have m1 : f12_lies_l11 K 10000 (-nI 1) (nI 0) (nI 0) = _ := m.1
    simp (disch := first | assumption | omega) only [q_lit, Int32.neg_neg, nI_add, pk_mul, q_sub, q_addn, q_nadd, q_lt, q_le, q_eq, q_eqn, q_neq, q_nen, q_ltn, q_nlt, q_len, q_nle, q_nltn, q_nlen, q_cl, q_ib, q_ibn, q_isz0, q_isz1, q_iszb, q_b0, q_b1, q_ng1, q_ng2, q_ng3, q_ng4, q_ng5, q_ng6, Bool.toNat_true, Bool.toNat_false, if_pos, if_neg, q_ct, q_cf, q_let, q_bd, q_it, q_if, Nat.zero_add, Nat.add_zero, true_and, and_true, false_and, and_false, or_false, false_or, or_true, true_or, Bool.true_eq_false, Bool.false_eq_true, wi_s, wi_o, wi_r, c1, m1]
    exact ⟨_, rfl, rfl, h⟩
  · obtain ⟨i, _, hi, rfl⟩ := hc
    have m2 : f12_lies_l11 K 10000 (nI i) (nI 0) (nI 0) = _ := m.2 i hi
    have c2 : f0_lieAt S X (nI i) = some (q_fd (q_lk (K.1 2) n) i 0 432) := x_la_o hs hi 12 0 10000 (by omega) (by omega) (by simp [q_cn])
    simp (disch := first | assumption | omega) only [q_lit, Int32.neg_neg, nI_add, pk_mul, q_sub, q_addn, q_nadd, q_lt, q_le, q_eq, q_eqn, q_neq, q_nen, q_ltn, q_nlt, q_len, q_nle, q_nltn, q_nlen, q_cl, q_ib, q_ibn, q_isz0, q_isz1, q_iszb, q_b0, q_b1, q_ng1, q_ng2, q_ng3, q_ng4, q_ng5, q_ng6, Bool.toNat_true, Bool.toNat_false, if_pos, if_neg, q_ct, q_cf, q_let, q_bd, q_it, q_if, Nat.zero_add, Nat.add_zero, true_and, and_true, false_and, and_false, or_false, false_or, or_true, true_or, Bool.true_eq_false, Bool.false_eq_true, wi_s, wi_o, wi_r, c2, m2]
    exact ⟨_, rfl, rfl, h⟩
  · simp (disch := first | assumption | omega) only [q_lit, Int32.neg_neg, nI_add, pk_mul, q_sub, q_addn, q_nadd, q_lt, q_le, q_eq, q_eqn, q_neq, q_nen, q_ltn, q_nlt, q_len, q_nle, q_nltn, q_nlen, q_cl, q_ib, q_ibn, q_isz0, q_isz1, q_iszb, q_b0, q_b1, q_ng1, q_ng2, q_ng3, q_ng4, q_ng5, q_ng6, Bool.toNat_true, Bool.toNat_false, if_pos, if_neg, q_ct, q_cf, q_let, q_bd, q_it, q_if, Nat.zero_add, Nat.add_zero, true_and, and_true, false_and, and_false, or_false, false_or, or_true, true_or, Bool.true_eq_false, Bool.false_eq_true, wi_s, wi_o, wi_r, (q_nn g2).2.1]
    exact ⟨_, rfl, rfl, h⟩
  · obtain ⟨i, _, hi, rfl⟩ := hc
    have m2 : f12_lies_l11 K 10000 (nI i) (nI 0) (nI 0) = _ := m.2 i hi
    have c2 : f0_lieAt S X (nI i) = some (q_fd (q_lk (K.1 2) n) i 0 432) := x_la_o hs hi 12 0 10000 (by omega) (by omega) (by simp [q_cn])
    simp (disch := first | assumption | omega) only [q_lit, Int32.neg_neg, nI_add, pk_mul, q_sub, q_addn, q_nadd, q_lt, q_le, q_eq, q_eqn, q_neq, q_nen, q_ltn, q_nlt, q_len, q_nle, q_nltn, q_nlen, q_cl, q_ib, q_ibn, q_isz0, q_isz1, q_iszb, q_b0, q_b1, q_ng1, q_ng2, q_ng3, q_ng4, q_ng5, q_ng6, Bool.toNat_true, Bool.toNat_false, if_pos, if_neg, q_ct, q_cf, q_let, q_bd, q_it, q_if, Nat.zero_add, Nat.add_zero, true_and, and_true, false_and, and_false, or_false, false_or, or_true, true_or, Bool.true_eq_false, Bool.false_eq_true, wi_s, wi_o, wi_r, c2, m2]
    exact ⟨_, rfl, rfl, h⟩
