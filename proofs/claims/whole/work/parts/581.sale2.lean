/-! PURE HALF: a sale, the class's side -/
def sl_b (g : Nat → Int32) (p l : Nat) : Nat := (g (447 + (p * 4 + l))).toNatClampNeg
theorem sl_M_le (b : Nat → Nat → Nat) (n : Nat) (hb : ∀ p l, p < n → l < 4 → b p l ≤ 999) : ∀ m U, m ≤ 4 → sl_M b n m U ≤ 999 * m
  | 0, U, _ => by rw [sl_M]; omega
  | m + 1, U, hm => by
    rw [sl_M]
    have h0 := sl_M_le b n hb m U (by omega)
    rcases sl_mx_at (sl_c b (3 - m) U) (fun p => b p (3 - m) + sl_M b n m (U ||| 2 ^ p)) (sl_M b n m U) n with h | ⟨p, h1, h2, h3⟩
    · rw [h]; omega
    · rw [← h3]
      have h4 := hb p (3 - m) h1 (by omega)
      have h5 := sl_M_le b n hb m (U ||| 2 ^ p) (by omega)
      show b p (3 - m) + sl_M b n m (U ||| 2 ^ p) ≤ _
      omega
/-- what the lots from l on come to, laid for all sets of the n people -/
def sl_laid (b : Nat → Nat → Nat) (n : Nat) (M : ph_Mem) (l : Nat) : Prop := ∀ U, U < 2 ^ n → M.1 82 (l * 64 + U) = nI (sl_M b n (4 - l) U)
theorem q_orn {U p n : Nat} (hU : U < 2 ^ n) (hp : p < n) : U ||| 2 ^ p < 2 ^ n := Nat.or_lt_two_pow hU (Nat.pow_lt_pow_right (by omega) hp)
theorem x_sold {S : ph_Sh} {M : ph_Mem} {b : Nat → Nat → Nat} {n l U p : Nat} (hn : n ≤ 6) (hb : ∀ p l, p < n → l < 4 → b p l ≤ 999 ∧ M.1 20 (p * 4 + l) = nI (b p l)) (hl : l < 4) (hU : U < 2 ^ n) (hp : p < n) (hla : sl_laid b n M (l + 1)) : f3_ifSold S M (nI l) (nI U) (nI p) = some (if sl_c b l U p = true then nI (b p l + sl_M b n (3 - l) (U ||| 2 ^ p)) else -nI 1) := by
  obtain ⟨p1, p2⟩ := q_p6 hn
  obtain ⟨b1, b2⟩ := hb p l hp hl
  have ho := q_orn hU hp
  have hm := hla (U ||| 2 ^ p) ho
  rw [show 4 - (l + 1) = 3 - l by omega] at hm
  unfold f3_ifSold sl_c
  by_cases b0 : b p l = 0
  · rw [b0, decide_eq_false (by omega), Bool.and_false]
    simp (disch := first | assumption | omega) only [q_lit, Int32.neg_neg, nI_add, pk_mul, q_sub, q_addn, q_nadd, q_lt, q_le, q_eq, q_eqn, q_neq, q_nen, q_ltn, q_nlt, q_len, q_nle, q_nltn, q_nlen, q_cl, q_ib, q_ibn, q_isz0, q_isz1, q_iszb, q_b0, q_b1, q_ng1, q_ng2, q_ng3, q_ng4, q_ng5, q_ng6, Bool.toNat_true, Bool.toNat_false, if_pos, if_neg, q_ct, q_cf, q_let, q_bd, q_it, q_if, Nat.zero_add, Nat.add_zero, true_and, and_true, false_and, and_false, or_false, false_or, or_true, true_or, Bool.true_eq_false, Bool.false_eq_true, wi_s, wi_o, wi_r, b2, b0]
  · rw [decide_eq_true (by omega), Bool.and_true]
    cases eb : U.testBit p
    · simp (disch := first | assumption | omega) only [q_lit, Int32.neg_neg, nI_add, pk_mul, q_sub, q_addn, q_nadd, q_lt, q_le, q_eq, q_eqn, q_neq, q_nen, q_ltn, q_nlt, q_len, q_nle, q_nltn, q_nlen, q_cl, q_ib, q_ibn, q_isz0, q_isz1, q_iszb, q_b0, q_b1, q_ng1, q_ng2, q_ng3, q_ng4, q_ng5, q_ng6, Bool.toNat_true, Bool.toNat_false, if_pos, if_neg, q_ct, q_cf, q_let, q_bd, q_it, q_if, Nat.zero_add, Nat.add_zero, true_and, and_true, false_and, and_false, or_false, false_or, or_true, true_or, Bool.true_eq_false, Bool.false_eq_true, wi_s, wi_o, wi_r, b2, x_bit, eb, q_1sl, q_or, hm, Bool.not_false]
    · simp (disch := first | assumption | omega) only [q_lit, Int32.neg_neg, nI_add, pk_mul, q_sub, q_addn, q_nadd, q_lt, q_le, q_eq, q_eqn, q_neq, q_nen, q_ltn, q_nlt, q_len, q_nle, q_nltn, q_nlen, q_cl, q_ib, q_ibn, q_isz0, q_isz1, q_iszb, q_b0, q_b1, q_ng1, q_ng2, q_ng3, q_ng4, q_ng5, q_ng6, Bool.toNat_true, Bool.toNat_false, if_pos, if_neg, q_ct, q_cf, q_let, q_bd, q_it, q_if, Nat.zero_add, Nat.add_zero, true_and, and_true, false_and, and_false, or_false, false_or, or_true, true_or, Bool.true_eq_false, Bool.false_eq_true, wi_s, wi_o, wi_r, b2, x_bit, eb, Bool.not_true]
theorem x_most_l {S : ph_Sh} {M : ph_Mem} {b : Nat → Nat → Nat} {n l U : Nat} (hn : n ≤ 6) (hM : M.1 11 1 = nI n) (hb : ∀ p l, p < n → l < 4 → b p l ≤ 999 ∧ M.1 20 (p * 4 + l) = nI (b p l)) (hl : l < 4) (hU : U < 2 ^ n) (hla : sl_laid b n M (l + 1)) : ∀ (r p fuel : Nat), p + r = n → r < fuel → f3_mostFrom_l17 S M fuel (nI l) (nI U) (nI (sl_mx (sl_c b l U) (fun p => b p l + sl_M b n (3 - l) (U ||| 2 ^ p)) (sl_M b n (3 - l) U) p)) (nI p) = some (nI (sl_mx (sl_c b l U) (fun p => b p l + sl_M b n (3 - l) (U ||| 2 ^ p)) (sl_M b n (3 - l) U) n))
  | 0, p, f + 1, e, _ => by
    have : p = n := by omega
    subst this
    unfold f3_mostFrom_l17
    simp (disch := first | assumption | omega) only [q_lit, Int32.neg_neg, nI_add, pk_mul, q_sub, q_addn, q_nadd, q_lt, q_le, q_eq, q_eqn, q_neq, q_nen, q_ltn, q_nlt, q_len, q_nle, q_nltn, q_nlen, q_cl, q_ib, q_ibn, q_isz0, q_isz1, q_iszb, q_b0, q_b1, q_ng1, q_ng2, q_ng3, q_ng4, q_ng5, q_ng6, Bool.toNat_true, Bool.toNat_false, if_pos, if_neg, q_ct, q_cf, q_let, q_bd, q_it, q_if, Nat.zero_add, Nat.add_zero, true_and, and_true, false_and, and_false, or_false, false_or, or_true, true_or, Bool.true_eq_false, Bool.false_eq_true, wi_s, wi_o, wi_r, hM]
  | r + 1, p, f + 1, e, hf => by
    have ih := x_most_l (S := S) hn hM hb hl hU hla r (p + 1) f (by omega) (by omega)
    have hs := x_sold (S := S) hn hb hl hU (show p < n by omega) hla
    have hb' : ∀ p l, p < n → l < 4 → b p l ≤ 999 := fun p l h1 h2 => (hb p l h1 h2).1
    have v1 := sl_M_le b n hb' (3 - l) (U ||| 2 ^ p) (by omega)
    have v2 := hb' p l (by omega) hl
    have m1 : sl_mx (sl_c b l U) (fun p => b p l + sl_M b n (3 - l) (U ||| 2 ^ p)) (sl_M b n (3 - l) U) p ≤ 4000 := by
      rcases sl_mx_at (sl_c b l U) (fun p => b p l + sl_M b n (3 - l) (U ||| 2 ^ p)) (sl_M b n (3 - l) U) p with h | ⟨q, h1, h2, h3⟩
      · rw [h]
        have := sl_M_le b n hb' (3 - l) U (by omega)
        omega
      · rw [← h3]
        have w1 := sl_M_le b n hb' (3 - l) (U ||| 2 ^ q) (by omega)
        have w2 := hb' q l (by omega) hl
        show b q l + sl_M b n (3 - l) (U ||| 2 ^ q) ≤ 4000
        omega
    rw [sl_mx] at ih
    generalize sl_mx (sl_c b l U) (fun p => b p l + sl_M b n (3 - l) (U ||| 2 ^ p)) (sl_M b n (3 - l) U) p = mx at *
    unfold f3_mostFrom_l17
    cases ec : sl_c b l U p
    · rw [ec] at hs
      simp only [ec, Bool.false_eq_true, false_and, if_false] at ih
      simp (disch := first | assumption | omega) only [q_lit, Int32.neg_neg, nI_add, pk_mul, q_sub, q_addn, q_nadd, q_lt, q_le, q_eq, q_eqn, q_neq, q_nen, q_ltn, q_nlt, q_len, q_nle, q_nltn, q_nlen, q_cl, q_ib, q_ibn, q_isz0, q_isz1, q_iszb, q_b0, q_b1, q_ng1, q_ng2, q_ng3, q_ng4, q_ng5, q_ng6, Bool.toNat_true, Bool.toNat_false, if_pos, if_neg, q_ct, q_cf, q_let, q_bd, q_it, q_if, Nat.zero_add, Nat.add_zero, true_and, and_true, false_and, and_false, or_false, false_or, or_true, true_or, Bool.true_eq_false, Bool.false_eq_true, wi_s, wi_o, wi_r, hM, hs, q_max]
      exact ih
    · rw [ec] at hs
      simp only [ec, true_and] at ih
      by_cases hv : mx < b p l + sl_M b n (3 - l) (U ||| 2 ^ p)
      · rw [if_pos hv] at ih
        simp (disch := first | assumption | omega) only [q_lit, Int32.neg_neg, nI_add, pk_mul, q_sub, q_addn, q_nadd, q_lt, q_le, q_eq, q_eqn, q_neq, q_nen, q_ltn, q_nlt, q_len, q_nle, q_nltn, q_nlen, q_cl, q_ib, q_ibn, q_isz0, q_isz1, q_iszb, q_b0, q_b1, q_ng1, q_ng2, q_ng3, q_ng4, q_ng5, q_ng6, Bool.toNat_true, Bool.toNat_false, if_pos, if_neg, q_ct, q_cf, q_let, q_bd, q_it, q_if, Nat.zero_add, Nat.add_zero, true_and, and_true, false_and, and_false, or_false, false_or, or_true, true_or, Bool.true_eq_false, Bool.false_eq_true, wi_s, wi_o, wi_r, hM, hs, q_max]
        exact ih
      · rw [if_neg hv] at ih
        simp (disch := first | assumption | omega) only [q_lit, Int32.neg_neg, nI_add, pk_mul, q_sub, q_addn, q_nadd, q_lt, q_le, q_eq, q_eqn, q_neq, q_nen, q_ltn, q_nlt, q_len, q_nle, q_nltn, q_nlen, q_cl, q_ib, q_ibn, q_isz0, q_isz1, q_iszb, q_b0, q_b1, q_ng1, q_ng2, q_ng3, q_ng4, q_ng5, q_ng6, Bool.toNat_true, Bool.toNat_false, if_pos, if_neg, q_ct, q_cf, q_let, q_bd, q_it, q_if, Nat.zero_add, Nat.add_zero, true_and, and_true, false_and, and_false, or_false, false_or, or_true, true_or, Bool.true_eq_false, Bool.false_eq_true, wi_s, wi_o, wi_r, hM, hs, q_max]
        exact ih
theorem x_most {S : ph_Sh} {M : ph_Mem} {b : Nat → Nat → Nat} {n l U : Nat} (hn : n ≤ 6) (hM : M.1 11 1 = nI n) (hb : ∀ p l, p < n → l < 4 → b p l ≤ 999 ∧ M.1 20 (p * 4 + l) = nI (b p l)) (hl : l < 4) (hU : U < 2 ^ n) (hla : sl_laid b n M (l + 1)) : f3_mostFrom S M (nI l) (nI U) = some (nI (sl_M b n (4 - l) U)) := by
  obtain ⟨p1, p2⟩ := q_p6 hn
  have hm := hla U hU
  rw [show 4 - (l + 1) = 3 - l by omega] at hm
  have h := x_most_l (S := S) hn hM hb hl hU hla n 0 10000 (by omega) (by omega)
  rw [sl_mx] at h
  unfold f3_mostFrom
  simp (disch := first | assumption | omega) only [q_lit, Int32.neg_neg, nI_add, pk_mul, q_sub, q_addn, q_nadd, q_lt, q_le, q_eq, q_eqn, q_neq, q_nen, q_ltn, q_nlt, q_len, q_nle, q_nltn, q_nlen, q_cl, q_ib, q_ibn, q_isz0, q_isz1, q_iszb, q_b0, q_b1, q_ng1, q_ng2, q_ng3, q_ng4, q_ng5, q_ng6, Bool.toNat_true, Bool.toNat_false, if_pos, if_neg, q_ct, q_cf, q_let, q_bd, q_it, q_if, Nat.zero_add, Nat.add_zero, true_and, and_true, false_and, and_false, or_false, false_or, or_true, true_or, Bool.true_eq_false, Bool.false_eq_true, wi_s, wi_o, wi_r, hm]
  rw [h, show 4 - l = (3 - l) + 1 by omega, sl_M, show 3 - (3 - l) = l by omega]
/-- a lot's row of sets -/
theorem x_set_i {S : ph_Sh} {b : Nat → Nat → Nat} {n l : Nat} (hn : n ≤ 6) (hl : l < 4) (X : ph_Mem) (hX : X.1 11 1 = nI n) (hb : ∀ p l, p < n → l < 4 → b p l ≤ 999 ∧ X.1 20 (p * 4 + l) = nI (b p l)) (rc : Int32 → ph_Mem → Option ph_Mem) : ∀ (r U fuel : Nat) (M : ph_Mem), U + r = 2 ^ n → r < fuel → (∀ c j, c ≠ 82 ∨ 256 ≤ j → M.1 c j = X.1 c j) → M.2 = X.2 → sl_laid b n M (l + 1) → (∀ V, V < U → M.1 82 (l * 64 + V) = nI (sl_M b n (4 - l) V)) → ∃ M', f3_settle_l8 S rc fuel (nI l) (nI U) M = rc (nI l + -nI 1) M' ∧ (∀ c j, c ≠ 82 ∨ 256 ≤ j → M'.1 c j = X.1 c j) ∧ M'.2 = X.2 ∧ sl_laid b n M' l ∧ (∀ j, (l + 1) * 64 ≤ j → M'.1 82 j = M.1 82 j)
  | 0, U, f + 1, M, e, _, h1, h2, h3, h4 => by
    obtain ⟨p1, p2⟩ := q_p6 hn
    have hM : M.1 11 1 = nI n := (h1 11 1 (by omega)).trans hX
    refine ⟨M, ?_, h1, h2, fun V hV => h4 V (by omega), fun _ _ => rfl⟩
    unfold f3_settle_l8 f3_settle_j44
    rw [q_lit, q_lit, q_lit, hM, q_1sl (by omega), if_pos (by rw [q_le (by omega) (by omega)]; omega)]
  | r + 1, U, f + 1, M, e, hf, h1, h2, h3, h4 => by
    obtain ⟨p1, p2⟩ := q_p6 hn
    have hM : M.1 11 1 = nI n := (h1 11 1 (by omega)).trans hX
    have hbM : ∀ p l, p < n → l < 4 → b p l ≤ 999 ∧ M.1 20 (p * 4 + l) = nI (b p l) := fun p l q1 q2 => ⟨(hb p l q1 q2).1, (h1 20 _ (by omega)).trans (hb p l q1 q2).2⟩
    have hm := x_most (S := S) hn hM hbM hl (show U < 2 ^ n by omega) h3
    obtain ⟨M', y1, y2, y3, y4, y5⟩ := x_set_i (S := S) hn hl X hX hb rc r (U + 1) f (ph_wi M 82 (l * 64 + U) (nI (sl_M b n (4 - l) U))) (by omega) (by omega) (fun c j hc => by simp (disch := first | assumption | omega) only [q_lit, Int32.neg_neg, nI_add, pk_mul, q_sub, q_addn, q_nadd, q_lt, q_le, q_eq, q_eqn, q_neq, q_nen, q_ltn, q_nlt, q_len, q_nle, q_nltn, q_nlen, q_cl, q_ib, q_ibn, q_isz0, q_isz1, q_iszb, q_b0, q_b1, q_ng1, q_ng2, q_ng3, q_ng4, q_ng5, q_ng6, Bool.toNat_true, Bool.toNat_false, if_pos, if_neg, q_ct, q_cf, q_let, q_bd, q_it, q_if, Nat.zero_add, Nat.add_zero, true_and, and_true, false_and, and_false, or_false, false_or, or_true, true_or, Bool.true_eq_false, Bool.false_eq_true, wi_s, wi_o, wi_r]; exact h1 c j hc) h2 (fun V hV => by simp (disch := first | assumption | omega) only [q_lit, Int32.neg_neg, nI_add, pk_mul, q_sub, q_addn, q_nadd, q_lt, q_le, q_eq, q_eqn, q_neq, q_nen, q_ltn, q_nlt, q_len, q_nle, q_nltn, q_nlen, q_cl, q_ib, q_ibn, q_isz0, q_isz1, q_iszb, q_b0, q_b1, q_ng1, q_ng2, q_ng3, q_ng4, q_ng5, q_ng6, Bool.toNat_true, Bool.toNat_false, if_pos, if_neg, q_ct, q_cf, q_let, q_bd, q_it, q_if, Nat.zero_add, Nat.add_zero, true_and, and_true, false_and, and_false, or_false, false_or, or_true, true_or, Bool.true_eq_false, Bool.false_eq_true, wi_s, wi_o, wi_r]; exact h3 V hV) (fun V hV => by
      by_cases q : V = U
      · subst q; simp (disch := first | assumption | omega) only [q_lit, Int32.neg_neg, nI_add, pk_mul, q_sub, q_addn, q_nadd, q_lt, q_le, q_eq, q_eqn, q_neq, q_nen, q_ltn, q_nlt, q_len, q_nle, q_nltn, q_nlen, q_cl, q_ib, q_ibn, q_isz0, q_isz1, q_iszb, q_b0, q_b1, q_ng1, q_ng2, q_ng3, q_ng4, q_ng5, q_ng6, Bool.toNat_true, Bool.toNat_false, if_pos, if_neg, q_ct, q_cf, q_let, q_bd, q_it, q_if, Nat.zero_add, Nat.add_zero, true_and, and_true, false_and, and_false, or_false, false_or, or_true, true_or, Bool.true_eq_false, Bool.false_eq_true, wi_s, wi_o, wi_r]
      · simp (disch := first | assumption | omega) only [q_lit, Int32.neg_neg, nI_add, pk_mul, q_sub, q_addn, q_nadd, q_lt, q_le, q_eq, q_eqn, q_neq, q_nen, q_ltn, q_nlt, q_len, q_nle, q_nltn, q_nlen, q_cl, q_ib, q_ibn, q_isz0, q_isz1, q_iszb, q_b0, q_b1, q_ng1, q_ng2, q_ng3, q_ng4, q_ng5, q_ng6, Bool.toNat_true, Bool.toNat_false, if_pos, if_neg, q_ct, q_cf, q_let, q_bd, q_it, q_if, Nat.zero_add, Nat.add_zero, true_and, and_true, false_and, and_false, or_false, false_or, or_true, true_or, Bool.true_eq_false, Bool.false_eq_true, wi_s, wi_o, wi_r]; exact h4 V (by omega))
    refine ⟨M', ?_, y2, y3, y4, fun j hj => by rw [y5 j hj]; simp (disch := first | assumption | omega) only [q_lit, Int32.neg_neg, nI_add, pk_mul, q_sub, q_addn, q_nadd, q_lt, q_le, q_eq, q_eqn, q_neq, q_nen, q_ltn, q_nlt, q_len, q_nle, q_nltn, q_nlen, q_cl, q_ib, q_ibn, q_isz0, q_isz1, q_iszb, q_b0, q_b1, q_ng1, q_ng2, q_ng3, q_ng4, q_ng5, q_ng6, Bool.toNat_true, Bool.toNat_false, if_pos, if_neg, q_ct, q_cf, q_let, q_bd, q_it, q_if, Nat.zero_add, Nat.add_zero, true_and, and_true, false_and, and_false, or_false, false_or, or_true, true_or, Bool.true_eq_false, Bool.false_eq_true, wi_s, wi_o, wi_r]⟩
    rw [← y1]
    conv => lhs; unfold f3_settle_l8
    simp (disch := first | assumption | omega) only [q_lit, Int32.neg_neg, nI_add, pk_mul, q_sub, q_addn, q_nadd, q_lt, q_le, q_eq, q_eqn, q_neq, q_nen, q_ltn, q_nlt, q_len, q_nle, q_nltn, q_nlen, q_cl, q_ib, q_ibn, q_isz0, q_isz1, q_iszb, q_b0, q_b1, q_ng1, q_ng2, q_ng3, q_ng4, q_ng5, q_ng6, Bool.toNat_true, Bool.toNat_false, if_pos, if_neg, q_ct, q_cf, q_let, q_bd, q_it, q_if, Nat.zero_add, Nat.add_zero, true_and, and_true, false_and, and_false, or_false, false_or, or_true, true_or, Bool.true_eq_false, Bool.false_eq_true, wi_s, wi_o, wi_r, hM, q_1sl, hm]
theorem x_set_o {S : ph_Sh} {b : Nat → Nat → Nat} {n : Nat} (hn : n ≤ 6) (X : ph_Mem) (hX : X.1 11 1 = nI n) (hb : ∀ p l, p < n → l < 4 → b p l ≤ 999 ∧ X.1 20 (p * 4 + l) = nI (b p l)) : ∀ (l fuel : Nat) (M : ph_Mem), l ≤ 4 → l < fuel → (∀ c j, c ≠ 82 ∨ 256 ≤ j → M.1 c j = X.1 c j) → M.2 = X.2 → (∀ k, l ≤ k → k ≤ 4 → sl_laid b n M k) → ∃ M', f3_settle_l2 S fuel (nI l + -nI 1) M = f3_settle_l54 S 10000 (nI 0) (nI 0) M' ∧ (∀ c j, c ≠ 82 ∨ 256 ≤ j → M'.1 c j = X.1 c j) ∧ M'.2 = X.2 ∧ (∀ k, k ≤ 4 → sl_laid b n M' k)
  | 0, f + 1, M, _, _, h1, h2, h3 => by
    refine ⟨M, ?_, h1, h2, fun k hk => h3 k (by omega) hk⟩
    unfold f3_settle_l2 f3_settle_j50
    simp (disch := first | assumption | omega) only [q_lit, Int32.neg_neg, nI_add, pk_mul, q_sub, q_addn, q_nadd, q_lt, q_le, q_eq, q_eqn, q_neq, q_nen, q_ltn, q_nlt, q_len, q_nle, q_nltn, q_nlen, q_cl, q_ib, q_ibn, q_isz0, q_isz1, q_iszb, q_b0, q_b1, q_ng1, q_ng2, q_ng3, q_ng4, q_ng5, q_ng6, Bool.toNat_true, Bool.toNat_false, if_pos, if_neg, q_ct, q_cf, q_let, q_bd, q_it, q_if, Nat.zero_add, Nat.add_zero, true_and, and_true, false_and, and_false, or_false, false_or, or_true, true_or, Bool.true_eq_false, Bool.false_eq_true, wi_s, wi_o, wi_r, q_0add]
  | l + 1, f + 1, M, hl, hf, h1, h2, h3 => by
    obtain ⟨p1, p2⟩ := q_p6 hn
    obtain ⟨M1, a1, a2, a3, a4, a5⟩ := x_set_i (S := S) hn (show l < 4 by omega) X hX hb (f3_settle_l2 S f) (2 ^ n) 0 10000 M (by omega) (by omega) h1 h2 (h3 (l + 1) (Nat.le_refl _) hl) (fun V hV => absurd hV (by omega))
    obtain ⟨M', y1, y2, y3, y4⟩ := x_set_o (S := S) hn X hX hb l f M1 (by omega) (by omega) a2 a3 (fun k hk hk4 => by
      by_cases e : k = l
      · subst e; exact a4
      · intro V hV
        rw [a5 (k * 64 + V) (by omega)]
        exact h3 k (by omega) hk4 V hV)
    refine ⟨M', ?_, y2, y3, y4⟩
    rw [q_m1, ← y1, ← a1]
    conv => lhs; unfold f3_settle_l2
    simp (disch := first | assumption | omega) only [q_lit, Int32.neg_neg, nI_add, pk_mul, q_sub, q_addn, q_nadd, q_lt, q_le, q_eq, q_eqn, q_neq, q_nen, q_ltn, q_nlt, q_len, q_nle, q_nltn, q_nlen, q_cl, q_ib, q_ibn, q_isz0, q_isz1, q_iszb, q_b0, q_b1, q_ng1, q_ng2, q_ng3, q_ng4, q_ng5, q_ng6, Bool.toNat_true, Bool.toNat_false, if_pos, if_neg, q_ct, q_cf, q_let, q_bd, q_it, q_if, Nat.zero_add, Nat.add_zero, true_and, and_true, false_and, and_false, or_false, false_or, or_true, true_or, Bool.true_eq_false, Bool.false_eq_true, wi_s, wi_o, wi_r]
/-- the first buyer of a lot -/
theorem x_fb_l {S : ph_Sh} {M : ph_Mem} {b : Nat → Nat → Nat} {n l U : Nat} (hn : n ≤ 6) (hM : M.1 11 1 = nI n) (hb : ∀ p l, p < n → l < 4 → b p l ≤ 999 ∧ M.1 20 (p * 4 + l) = nI (b p l)) (hl : l < 4) (hU : U < 2 ^ n) (hla : sl_laid b n M (l + 1)) (hl0 : sl_laid b n M l) : ∀ (r p fuel : Nat), p + r = n → r < fuel → f3_firstBuyer_l2 S M fuel (nI l) (nI U) (nI p) = some (if sl_fb (sl_c b l U) (fun p => b p l + sl_M b n (3 - l) (U ||| 2 ^ p)) (sl_M b n (4 - l) U) n p r = n then nI 100 else nI (sl_fb (sl_c b l U) (fun p => b p l + sl_M b n (3 - l) (U ||| 2 ^ p)) (sl_M b n (4 - l) U) n p r))
  | 0, p, f + 1, e, _ => by
    unfold f3_firstBuyer_l2
    simp (disch := first | assumption | omega) only [q_lit, Int32.neg_neg, nI_add, pk_mul, q_sub, q_addn, q_nadd, q_lt, q_le, q_eq, q_eqn, q_neq, q_nen, q_ltn, q_nlt, q_len, q_nle, q_nltn, q_nlen, q_cl, q_ib, q_ibn, q_isz0, q_isz1, q_iszb, q_b0, q_b1, q_ng1, q_ng2, q_ng3, q_ng4, q_ng5, q_ng6, Bool.toNat_true, Bool.toNat_false, if_pos, if_neg, q_ct, q_cf, q_let, q_bd, q_it, q_if, Nat.zero_add, Nat.add_zero, true_and, and_true, false_and, and_false, or_false, false_or, or_true, true_or, Bool.true_eq_false, Bool.false_eq_true, wi_s, wi_o, wi_r, hM, sl_fb]
  | r + 1, p, f + 1, e, hf => by
    obtain ⟨p1, p2⟩ := q_p6 hn
    have ih := x_fb_l (S := S) hn hM hb hl hU hla hl0 r (p + 1) f (by omega) (by omega)
    have hs := x_sold (S := S) hn hb hl hU (show p < n by omega) hla
    have hm := hl0 U hU
    have hb' : ∀ p l, p < n → l < 4 → b p l ≤ 999 := fun p l h1 h2 => (hb p l h1 h2).1
    have v1 := sl_M_le b n hb' (3 - l) (U ||| 2 ^ p) (by omega)
    have v2 := hb' p l (by omega) hl
    have v3 := sl_M_le b n hb' (4 - l) U (by omega)
    rw [sl_fb]
    unfold f3_firstBuyer_l2
    cases ec : sl_c b l U p
    · rw [ec] at hs
      simp (disch := first | assumption | omega) only [q_lit, Int32.neg_neg, nI_add, pk_mul, q_sub, q_addn, q_nadd, q_lt, q_le, q_eq, q_eqn, q_neq, q_nen, q_ltn, q_nlt, q_len, q_nle, q_nltn, q_nlen, q_cl, q_ib, q_ibn, q_isz0, q_isz1, q_iszb, q_b0, q_b1, q_ng1, q_ng2, q_ng3, q_ng4, q_ng5, q_ng6, Bool.toNat_true, Bool.toNat_false, if_pos, if_neg, q_ct, q_cf, q_let, q_bd, q_it, q_if, Nat.zero_add, Nat.add_zero, true_and, and_true, false_and, and_false, or_false, false_or, or_true, true_or, Bool.true_eq_false, Bool.false_eq_true, wi_s, wi_o, wi_r, hM, hs, hm]
      exact ih
    · rw [ec] at hs
      by_cases hv : b p l + sl_M b n (3 - l) (U ||| 2 ^ p) = sl_M b n (4 - l) U
      · simp (disch := first | assumption | omega) only [q_lit, Int32.neg_neg, nI_add, pk_mul, q_sub, q_addn, q_nadd, q_lt, q_le, q_eq, q_eqn, q_neq, q_nen, q_ltn, q_nlt, q_len, q_nle, q_nltn, q_nlen, q_cl, q_ib, q_ibn, q_isz0, q_isz1, q_iszb, q_b0, q_b1, q_ng1, q_ng2, q_ng3, q_ng4, q_ng5, q_ng6, Bool.toNat_true, Bool.toNat_false, if_pos, if_neg, q_ct, q_cf, q_let, q_bd, q_it, q_if, Nat.zero_add, Nat.add_zero, true_and, and_true, false_and, and_false, or_false, false_or, or_true, true_or, Bool.true_eq_false, Bool.false_eq_true, wi_s, wi_o, wi_r, hM, hs, hm, hv]
      · simp (disch := first | assumption | omega) only [q_lit, Int32.neg_neg, nI_add, pk_mul, q_sub, q_addn, q_nadd, q_lt, q_le, q_eq, q_eqn, q_neq, q_nen, q_ltn, q_nlt, q_len, q_nle, q_nltn, q_nlen, q_cl, q_ib, q_ibn, q_isz0, q_isz1, q_iszb, q_b0, q_b1, q_ng1, q_ng2, q_ng3, q_ng4, q_ng5, q_ng6, Bool.toNat_true, Bool.toNat_false, if_pos, if_neg, q_ct, q_cf, q_let, q_bd, q_it, q_if, Nat.zero_add, Nat.add_zero, true_and, and_true, false_and, and_false, or_false, false_or, or_true, true_or, Bool.true_eq_false, Bool.false_eq_true, wi_s, wi_o, wi_r, hM, hs, hm, hv]
        exact ih
theorem x_fb {S : ph_Sh} {M : ph_Mem} {b : Nat → Nat → Nat} {n l U : Nat} (hn : n ≤ 6) (hM : M.1 11 1 = nI n) (hb : ∀ p l, p < n → l < 4 → b p l ≤ 999 ∧ M.1 20 (p * 4 + l) = nI (b p l)) (hl : l < 4) (hU : U < 2 ^ n) (hla : sl_laid b n M (l + 1)) (hl0 : sl_laid b n M l) : f3_firstBuyer S M (nI l) (nI U) = some (if sl_B b n (3 - l) U = n then nI 100 else nI (sl_B b n (3 - l) U)) := by
  have h := x_fb_l (S := S) hn hM hb hl hU hla hl0 n 0 10000 (by omega) (by omega)
  unfold sl_B
  rw [show 3 - (3 - l) = l by omega, show 3 - l + 1 = 4 - l by omega]
  exact h
theorem sl_U_lt {U d n : Nat} (hU : U < 2 ^ n) (hd : d ≤ n) : sl_U U d n < 2 ^ n := by
  unfold sl_U
  split
  · exact hU
  · exact q_orn hU (by omega)
/-- who had bought ahead of lot l -/
def sl_Us (b : Nat → Nat → Nat) (n : Nat) : Nat → Nat
  | 0 => 0
  | l + 1 => sl_U (sl_Us b n l) (sl_B b n (3 - l) (sl_Us b n l)) n
theorem sl_Us_lt (b : Nat → Nat → Nat) (n : Nat) : ∀ l, sl_Us b n l < 2 ^ n
  | 0 => Nat.two_pow_pos n
  | l + 1 => sl_U_lt (sl_Us_lt b n l) (sl_B_le _ _ _ _)
def sl_by (b : Nat → Nat → Nat) (n l : Nat) : Nat := if sl_B b n (3 - l) (sl_Us b n l) = n then 100 else sl_B b n (3 - l) (sl_Us b n l)
theorem x_set_b {S : ph_Sh} {b : Nat → Nat → Nat} {n : Nat} (hn : n ≤ 6) (X : ph_Mem) (hX : X.1 11 1 = nI n) (hb : ∀ p l, p < n → l < 4 → b p l ≤ 999 ∧ X.1 20 (p * 4 + l) = nI (b p l)) (hla : ∀ k, k ≤ 4 → sl_laid b n X k) : ∀ (r l fuel : Nat) (M : ph_Mem), l + r = 4 → r < fuel → (∀ c j, c ≠ 83 → M.1 c j = X.1 c j) → M.2 = X.2 → (∀ k, k < l → M.1 83 k = nI (sl_by b n k)) → ∃ M', f3_settle_l54 S fuel (nI (sl_Us b n l)) (nI l) M = some M' ∧ (∀ c j, c ≠ 83 → M'.1 c j = X.1 c j) ∧ M'.2 = X.2 ∧ (∀ k, k < 4 → M'.1 83 k = nI (sl_by b n k))
  | 0, l, f + 1, M, e, _, h1, h2, h3 => by
    have : l = 4 := by omega
    subst this
    refine ⟨M, ?_, h1, h2, h3⟩
    unfold f3_settle_l54
    simp (disch := first | assumption | omega) only [q_lit, Int32.neg_neg, nI_add, pk_mul, q_sub, q_addn, q_nadd, q_lt, q_le, q_eq, q_eqn, q_neq, q_nen, q_ltn, q_nlt, q_len, q_nle, q_nltn, q_nlen, q_cl, q_ib, q_ibn, q_isz0, q_isz1, q_iszb, q_b0, q_b1, q_ng1, q_ng2, q_ng3, q_ng4, q_ng5, q_ng6, Bool.toNat_true, Bool.toNat_false, if_pos, if_neg, q_ct, q_cf, q_let, q_bd, q_it, q_if, Nat.zero_add, Nat.add_zero, true_and, and_true, false_and, and_false, or_false, false_or, or_true, true_or, Bool.true_eq_false, Bool.false_eq_true, wi_s, wi_o, wi_r]
  | r + 1, l, f + 1, M, e, hf, h1, h2, h3 => by
    obtain ⟨p1, p2⟩ := q_p6 hn
    have hM : M.1 11 1 = nI n := (h1 11 1 (by omega)).trans hX
    have hbM : ∀ p l, p < n → l < 4 → b p l ≤ 999 ∧ M.1 20 (p * 4 + l) = nI (b p l) := fun p l q1 q2 => ⟨(hb p l q1 q2).1, (h1 20 _ (by omega)).trans (hb p l q1 q2).2⟩
    have hlM : ∀ k, k ≤ 4 → sl_laid b n M k := fun k hk V hV => (h1 82 _ (by omega)).trans (hla k hk V hV)
    have hUs := sl_Us_lt b n l
    have hB := sl_B_le b n (3 - l) (sl_Us b n l)
    have hf1 := x_fb (S := S) hn hM hbM (show l < 4 by omega) hUs (hlM (l + 1) (by omega)) (hlM l (by omega))
    obtain ⟨M', y1, y2, y3, y4⟩ := x_set_b (S := S) hn X hX hb hla r (l + 1) f (ph_wi M 83 l (nI (sl_by b n l))) (by omega) (by omega) (fun c j hc => by simp (disch := first | assumption | omega) only [q_lit, Int32.neg_neg, nI_add, pk_mul, q_sub, q_addn, q_nadd, q_lt, q_le, q_eq, q_eqn, q_neq, q_nen, q_ltn, q_nlt, q_len, q_nle, q_nltn, q_nlen, q_cl, q_ib, q_ibn, q_isz0, q_isz1, q_iszb, q_b0, q_b1, q_ng1, q_ng2, q_ng3, q_ng4, q_ng5, q_ng6, Bool.toNat_true, Bool.toNat_false, if_pos, if_neg, q_ct, q_cf, q_let, q_bd, q_it, q_if, Nat.zero_add, Nat.add_zero, true_and, and_true, false_and, and_false, or_false, false_or, or_true, true_or, Bool.true_eq_false, Bool.false_eq_true, wi_s, wi_o, wi_r]; exact h1 c j hc) h2 (fun k hk => by
      by_cases q : k = l
      · subst q; simp (disch := first | assumption | omega) only [q_lit, Int32.neg_neg, nI_add, pk_mul, q_sub, q_addn, q_nadd, q_lt, q_le, q_eq, q_eqn, q_neq, q_nen, q_ltn, q_nlt, q_len, q_nle, q_nltn, q_nlen, q_cl, q_ib, q_ibn, q_isz0, q_isz1, q_iszb, q_b0, q_b1, q_ng1, q_ng2, q_ng3, q_ng4, q_ng5, q_ng6, Bool.toNat_true, Bool.toNat_false, if_pos, if_neg, q_ct, q_cf, q_let, q_bd, q_it, q_if, Nat.zero_add, Nat.add_zero, true_and, and_true, false_and, and_false, or_false, false_or, or_true, true_or, Bool.true_eq_false, Bool.false_eq_true, wi_s, wi_o, wi_r]
      · simp (disch := first | assumption | omega) only [q_lit, Int32.neg_neg, nI_add, pk_mul, q_sub, q_addn, q_nadd, q_lt, q_le, q_eq, q_eqn, q_neq, q_nen, q_ltn, q_nlt, q_len, q_nle, q_nltn, q_nlen, q_cl, q_ib, q_ibn, q_isz0, q_isz1, q_iszb, q_b0, q_b1, q_ng1, q_ng2, q_ng3, q_ng4, q_ng5, q_ng6, Bool.toNat_true, Bool.toNat_false, if_pos, if_neg, q_ct, q_cf, q_let, q_bd, q_it, q_if, Nat.zero_add, Nat.add_zero, true_and, and_true, false_and, and_false, or_false, false_or, or_true, true_or, Bool.true_eq_false, Bool.false_eq_true, wi_s, wi_o, wi_r]; exact h3 k (by omega))
    refine ⟨M', ?_, y2, y3, y4⟩
    rw [← y1, sl_Us]
    unfold sl_by sl_U
    conv => lhs; unfold f3_settle_l54 f3_settle_j95
    by_cases hbn : sl_B b n (3 - l) (sl_Us b n l) = n
    · simp (disch := first | assumption | omega) only [q_lit, Int32.neg_neg, nI_add, pk_mul, q_sub, q_addn, q_nadd, q_lt, q_le, q_eq, q_eqn, q_neq, q_nen, q_ltn, q_nlt, q_len, q_nle, q_nltn, q_nlen, q_cl, q_ib, q_ibn, q_isz0, q_isz1, q_iszb, q_b0, q_b1, q_ng1, q_ng2, q_ng3, q_ng4, q_ng5, q_ng6, Bool.toNat_true, Bool.toNat_false, if_pos, if_neg, q_ct, q_cf, q_let, q_bd, q_it, q_if, Nat.zero_add, Nat.add_zero, true_and, and_true, false_and, and_false, or_false, false_or, or_true, true_or, Bool.true_eq_false, Bool.false_eq_true, wi_s, wi_o, wi_r, hf1, hbn, q_or, Nat.or_zero]
    · simp (disch := first | assumption | omega) only [q_lit, Int32.neg_neg, nI_add, pk_mul, q_sub, q_addn, q_nadd, q_lt, q_le, q_eq, q_eqn, q_neq, q_nen, q_ltn, q_nlt, q_len, q_nle, q_nltn, q_nlen, q_cl, q_ib, q_ibn, q_isz0, q_isz1, q_iszb, q_b0, q_b1, q_ng1, q_ng2, q_ng3, q_ng4, q_ng5, q_ng6, Bool.toNat_true, Bool.toNat_false, if_pos, if_neg, q_ct, q_cf, q_let, q_bd, q_it, q_if, Nat.zero_add, Nat.add_zero, true_and, and_true, false_and, and_false, or_false, false_or, or_true, true_or, Bool.true_eq_false, Bool.false_eq_true, wi_s, wi_o, wi_r, hf1, hbn, q_or, q_1sl]
theorem x_settle {S : ph_Sh} {X : ph_Mem} {b : Nat → Nat → Nat} {n : Nat} (hn : n ≤ 6) (hX : X.1 11 1 = nI n) (hb : ∀ p l, p < n → l < 4 → b p l ≤ 999 ∧ X.1 20 (p * 4 + l) = nI (b p l)) (h0 : ∀ j, 256 ≤ j → j < 320 → X.1 82 j = nI 0) : ∃ M, f3_settle S X = some M ∧ (∀ c j, c ≠ 83 → (c ≠ 82 ∨ 256 ≤ j) → M.1 c j = X.1 c j) ∧ M.2 = X.2 ∧ (∀ k, k ≤ 4 → sl_laid b n M k) ∧ (∀ k, k < 4 → M.1 83 k = nI (sl_by b n k)) := by
  obtain ⟨p1, p2⟩ := q_p6 hn
  obtain ⟨M1, a1, a2, a3, a4⟩ := x_set_o (S := S) hn X hX hb 4 10000 X (by omega) (by omega) (fun _ _ _ => rfl) rfl (fun k h1 h2 => by
    have : k = 4 := by omega
    subst this
    intro U hU
    rw [h0 _ (by omega) (by omega)]
    rfl)
  obtain ⟨M, c1, c2, c3, c4⟩ := x_set_b (S := S) hn M1 ((a2 11 1 (by omega)).trans hX) (fun p l q1 q2 => ⟨(hb p l q1 q2).1, (a2 20 _ (by omega)).trans (hb p l q1 q2).2⟩) a4 4 0 10000 M1 (by omega) (by omega) (fun _ _ _ => rfl) rfl (fun k hk => absurd hk (by omega))
  refine ⟨M, ?_, fun c j h1 h2 => (c2 c j h1).trans (a2 c j h2), c3.trans a3, fun k hk V hV => (c2 82 _ (by omega)).trans (a4 k hk V hV), c4⟩
  unfold f3_settle
  rw [q_m1] at a1
  rw [q_lit, a1]
  exact c1
