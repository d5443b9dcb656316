/-! PURE HALF: a sale, the model's side -/
def sl_n1 (o : Option Nat) : Int32 := match o with
  | none => -nI 1
  | some v => nI v
/-- without whom -/
def sl_w (x : Int32) (U0 : Nat) (n : Nat) : Prop := (x = -nI 1 ∧ U0 = 0) ∨ ∃ w, w < n ∧ x = nI w ∧ U0 = 2 ^ w
theorem sl_w_eq {x : Int32} {U0 n p : Nat} (hn : n ≤ 6) (h : sl_w x U0 n) (hp : p < n) : (nI p = x) = (U0.testBit p = true) := by
  rcases h with ⟨rfl, rfl⟩ | ⟨w, hw, rfl, rfl⟩
  · rw [q_eqn (by omega) (by omega), Nat.zero_testBit]
    simp
  · rw [q_eq (by omega) (by omega), Nat.testBit_two_pow]
    simp [eq_comm]
theorem m_sv {K : ph_Mem} {b : Nat → Nat → Nat} {n U0 : Nat} {x : Int32} (hn : n ≤ 6) (hK : K.1 2 475 = nI n) (hb : ∀ p l, p < n → l < 4 → b p l ≤ 999 ∧ K.1 2 (447 + (p * 4 + l)) = nI (b p l)) (hx : sl_w x U0 n) (rc : Int32 → Int32 → Int32 → Int32 → ph_Mem → Option ph_Mem) (y z : Int32) : ∀ (l fuel r used A : Nat), l ≤ 4 → l + 1 < fuel → r < 2 ^ 30 → used < 64 → A ≤ 4000 * (5 - l) → f12_sells_l42 rc fuel x (nI (n + 1)) y z (nI r) (nI used) (nI A) (nI l + -nI 1) K = f12_sells_j163 rc x (nI (n + 1)) y z (sl_n1 (sl_V b n U0 l r used A)) K
  | 0, f + 1, r, used, A, _, _, _, _, _ => by
    unfold f12_sells_l42
    simp (disch := first | assumption | omega) only [q_lit, Int32.neg_neg, nI_add, pk_mul, q_sub, q_addn, q_nadd, q_lt, q_le, q_eq, q_eqn, q_neq, q_nen, q_ltn, q_nlt, q_len, q_nle, q_nltn, q_nlen, q_cl, q_ib, q_ibn, q_isz0, q_isz1, q_iszb, q_b0, q_b1, q_ng1, q_ng2, q_ng3, q_ng4, q_ng5, q_ng6, Bool.toNat_true, Bool.toNat_false, if_pos, if_neg, q_ct, q_cf, q_let, q_bd, q_it, q_if, Nat.zero_add, Nat.add_zero, true_and, and_true, false_and, and_false, or_false, false_or, or_true, true_or, Bool.true_eq_false, Bool.false_eq_true, wi_s, wi_o, wi_r, q_0add, sl_V, sl_n1]
  | l + 1, f + 2, r, used, A, hl, hf, hr, hu, hA => by
    have N0 : 0 < n + 1 := by omega
    have hrem : r - r / (n + 1) * (n + 1) = r % (n + 1) := by
      have := Nat.div_add_mod r (n + 1)
      rw [Nat.mul_comm] at this
      omega
    have hrl : r % (n + 1) < n + 1 := Nat.mod_lt _ N0
    have hdl : r / (n + 1) ≤ r := Nat.div_le_self _ _
    have hle : r / (n + 1) * (n + 1) ≤ r := Nat.div_mul_le_self _ _
    rw [sl_V, q_m1]
    conv => lhs; unfold f12_sells_l42 f12_people f12_sells_j115 f12_sells_j116 f12_sells_j146 f12_sells_j157
    by_cases h1 : r % (n + 1) = n
    · have ih := m_sv hn hK hb hx rc y z l (f + 1) (r / (n + 1)) used A (by omega) (by omega) (by omega) hu (by omega)
      simp (disch := first | assumption | omega) only [q_lit, Int32.neg_neg, nI_add, pk_mul, q_sub, q_addn, q_nadd, q_lt, q_le, q_eq, q_eqn, q_neq, q_nen, q_ltn, q_nlt, q_len, q_nle, q_nltn, q_nlen, q_cl, q_ib, q_ibn, q_isz0, q_isz1, q_iszb, q_b0, q_b1, q_ng1, q_ng2, q_ng3, q_ng4, q_ng5, q_ng6, Bool.toNat_true, Bool.toNat_false, if_pos, if_neg, q_ct, q_cf, q_let, q_bd, q_it, q_if, Nat.zero_add, Nat.add_zero, true_and, and_true, false_and, and_false, or_false, false_or, or_true, true_or, Bool.true_eq_false, Bool.false_eq_true, wi_s, wi_o, wi_r, hK, q_div, q_rem, hrem, h1]
      exact ih
    · have hp : r % (n + 1) < n := by omega
      generalize r % (n + 1) = p at *
      obtain ⟨b1, b2⟩ := hb p l hp (by omega)
      have ep : 447 + 4 * p + l = 447 + (p * 4 + l) := by omega
      have p64 : used ||| 2 ^ p < 64 := q_or64 hu (by omega)
      have no : ∀ Y : Int32, f12_sells_l42 rc (f + 1) x (nI (n + 1)) y z (nI (r / (n + 1))) Y (-nI 1) (nI l + -nI 1) K = f12_sells_j163 rc x (nI (n + 1)) y z (-nI 1) K := by
        intro Y
        unfold f12_sells_l42
        by_cases l0 : l = 0
        · subst l0
          simp (disch := first | assumption | omega) only [q_lit, Int32.neg_neg, nI_add, pk_mul, q_sub, q_addn, q_nadd, q_lt, q_le, q_eq, q_eqn, q_neq, q_nen, q_ltn, q_nlt, q_len, q_nle, q_nltn, q_nlen, q_cl, q_ib, q_ibn, q_isz0, q_isz1, q_iszb, q_b0, q_b1, q_ng1, q_ng2, q_ng3, q_ng4, q_ng5, q_ng6, Bool.toNat_true, Bool.toNat_false, if_pos, if_neg, q_ct, q_cf, q_let, q_bd, q_it, q_if, Nat.zero_add, Nat.add_zero, true_and, and_true, false_and, and_false, or_false, false_or, or_true, true_or, Bool.true_eq_false, Bool.false_eq_true, wi_s, wi_o, wi_r, q_0add]
        · have : nI l + -nI 1 = nI (l - 1) := q_addn (by omega)
          simp (disch := first | assumption | omega) only [q_lit, Int32.neg_neg, nI_add, pk_mul, q_sub, q_addn, q_nadd, q_lt, q_le, q_eq, q_eqn, q_neq, q_nen, q_ltn, q_nlt, q_len, q_nle, q_nltn, q_nlen, q_cl, q_ib, q_ibn, q_isz0, q_isz1, q_iszb, q_b0, q_b1, q_ng1, q_ng2, q_ng3, q_ng4, q_ng5, q_ng6, Bool.toNat_true, Bool.toNat_false, if_pos, if_neg, q_ct, q_cf, q_let, q_bd, q_it, q_if, Nat.zero_add, Nat.add_zero, true_and, and_true, false_and, and_false, or_false, false_or, or_true, true_or, Bool.true_eq_false, Bool.false_eq_true, wi_s, wi_o, wi_r, this]
      have hw := sl_w_eq hn hx hp
      have ne : (nI p = nI n) = False := by rw [q_eq (by omega) (by omega)]; exact eq_false (by omega)
      cases eU : U0.testBit p
      · have hw' : (nI p = x) = False := by rw [hw, eU]; simp
        cases eu : used.testBit p
        · by_cases b0 : b p l = 0
          · have c : ¬ ((U0 ||| used).testBit p = false ∧ 0 < b p l) := fun q => by omega
            simp (disch := first | assumption | omega) only [q_lit, Int32.neg_neg, nI_add, pk_mul, q_sub, q_addn, q_nadd, q_lt, q_le, q_eq, q_eqn, q_neq, q_nen, q_ltn, q_nlt, q_len, q_nle, q_nltn, q_nlen, q_cl, q_ib, q_ibn, q_isz0, q_isz1, q_iszb, q_b0, q_b1, q_ng1, q_ng2, q_ng3, q_ng4, q_ng5, q_ng6, Bool.toNat_true, Bool.toNat_false, if_pos, if_neg, q_ct, q_cf, q_let, q_bd, q_it, q_if, Nat.zero_add, Nat.add_zero, true_and, and_true, false_and, and_false, or_false, false_or, or_true, true_or, Bool.true_eq_false, Bool.false_eq_true, wi_s, wi_o, wi_r, hK, q_div, q_rem, hrem, ne, hw', m_bit, eu, ep, b2, b0, no, c, sl_n1]
          · have c : ((U0 ||| used).testBit p = false) = True := by rw [Nat.testBit_or, eU, eu]; simp
            have c2 : ¬ nI (b p l) ≤ nI 0 := by rw [q_le (by omega) (by omega)]; omega
            have c3 : 0 < b p l := by omega
            have ih := m_sv hn hK hb hx rc y z l (f + 1) (r / (n + 1)) (used ||| 2 ^ p) (A + b p l) (by omega) (by omega) (by omega) p64 (by omega)
            simp (disch := first | assumption | omega) only [q_lit, Int32.neg_neg, nI_add, pk_mul, q_sub, q_addn, q_nadd, q_lt, q_le, q_eq, q_eqn, q_neq, q_nen, q_ltn, q_nlt, q_len, q_nle, q_nltn, q_nlen, q_cl, q_ib, q_ibn, q_isz0, q_isz1, q_iszb, q_b0, q_b1, q_ng1, q_ng2, q_ng3, q_ng4, q_ng5, q_ng6, Bool.toNat_true, Bool.toNat_false, if_pos, if_neg, q_ct, q_cf, q_let, q_bd, q_it, q_if, Nat.zero_add, Nat.add_zero, true_and, and_true, false_and, and_false, or_false, false_or, or_true, true_or, Bool.true_eq_false, Bool.false_eq_true, wi_s, wi_o, wi_r, hK, q_div, q_rem, hrem, ne, hw', m_bit, eu, ep, b2, c, q_1sl, q_or]
            exact ih
        · have c : ¬ ((U0 ||| used).testBit p = false ∧ 0 < b p l) := fun q => by
            have := q.1
            rw [Nat.testBit_or, eu, Bool.or_true] at this
            exact absurd this (by simp)
          simp (disch := first | assumption | omega) only [q_lit, Int32.neg_neg, nI_add, pk_mul, q_sub, q_addn, q_nadd, q_lt, q_le, q_eq, q_eqn, q_neq, q_nen, q_ltn, q_nlt, q_len, q_nle, q_nltn, q_nlen, q_cl, q_ib, q_ibn, q_isz0, q_isz1, q_iszb, q_b0, q_b1, q_ng1, q_ng2, q_ng3, q_ng4, q_ng5, q_ng6, Bool.toNat_true, Bool.toNat_false, if_pos, if_neg, q_ct, q_cf, q_let, q_bd, q_it, q_if, Nat.zero_add, Nat.add_zero, true_and, and_true, false_and, and_false, or_false, false_or, or_true, true_or, Bool.true_eq_false, Bool.false_eq_true, wi_s, wi_o, wi_r, hK, q_div, q_rem, hrem, ne, hw', m_bit, eu, no, c, sl_n1]
      · have hw' : (nI p = x) = True := by rw [hw, eU]; simp
        have c : ¬ ((U0 ||| used).testBit p = false ∧ 0 < b p l) := fun q => by
          have := q.1
          rw [Nat.testBit_or, eU, Bool.true_or] at this
          exact absurd this (by simp)
        simp (disch := first | assumption | omega) only [q_lit, Int32.neg_neg, nI_add, pk_mul, q_sub, q_addn, q_nadd, q_lt, q_le, q_eq, q_eqn, q_neq, q_nen, q_ltn, q_nlt, q_len, q_nle, q_nltn, q_nlen, q_cl, q_ib, q_ibn, q_isz0, q_isz1, q_iszb, q_b0, q_b1, q_ng1, q_ng2, q_ng3, q_ng4, q_ng5, q_ng6, Bool.toNat_true, Bool.toNat_false, if_pos, if_neg, q_ct, q_cf, q_let, q_bd, q_it, q_if, Nat.zero_add, Nat.add_zero, true_and, and_true, false_and, and_false, or_false, false_or, or_true, true_or, Bool.true_eq_false, Bool.false_eq_true, wi_s, wi_o, wi_r, hK, q_div, q_rem, hrem, ne, hw', no, c, sl_n1]
/-- a row's buyer of lot l -/
def sl_dg (n r l : Nat) : Nat := r / (n + 1) ^ (3 - l) % (n + 1)
theorem m_sb {n : Nat} (hn : n ≤ 6) (K : ph_Mem) (hK : K.1 2 475 = nI n) (rc : Int32 → Int32 → Int32 → Int32 → ph_Mem → Option ph_Mem) (x y : Int32) (R : Nat) (hR : R < 2 ^ 30) : ∀ (l fuel : Nat) (M : ph_Mem), l ≤ 4 → l < fuel → (∀ c j, c ≠ 21 → M.1 c j = K.1 c j) → M.2 = K.2 → (∀ k, l ≤ k → k < 4 → M.1 21 k = nI (if sl_dg n R k = n then 100 else sl_dg n R k)) → ∃ M', f12_sells_l188 rc fuel x (nI (n + 1)) y (nI R) (nI (R / (n + 1) ^ (4 - l))) (nI l + -nI 1) M = rc x (nI (n + 1)) y (nI (R + 1)) M' ∧ (∀ c j, c ≠ 21 → M'.1 c j = K.1 c j) ∧ M'.2 = K.2 ∧ (∀ k, k < 4 → M'.1 21 k = nI (if sl_dg n R k = n then 100 else sl_dg n R k))
  | 0, f + 1, M, _, _, h1, h2, h3 => by
    refine ⟨M, ?_, h1, h2, fun k hk => h3 k (by omega) hk⟩
    unfold f12_sells_l188 f12_sells_j232
    simp (disch := first | assumption | omega) only [q_lit, Int32.neg_neg, nI_add, pk_mul, q_sub, q_addn, q_nadd, q_lt, q_le, q_eq, q_eqn, q_neq, q_nen, q_ltn, q_nlt, q_len, q_nle, q_nltn, q_nlen, q_cl, q_ib, q_ibn, q_isz0, q_isz1, q_iszb, q_b0, q_b1, q_ng1, q_ng2, q_ng3, q_ng4, q_ng5, q_ng6, Bool.toNat_true, Bool.toNat_false, if_pos, if_neg, q_ct, q_cf, q_let, q_bd, q_it, q_if, Nat.zero_add, Nat.add_zero, true_and, and_true, false_and, and_false, or_false, false_or, or_true, true_or, Bool.true_eq_false, Bool.false_eq_true, wi_s, wi_o, wi_r, q_0add]
  | l + 1, f + 1, M, hl, hf, h1, h2, h3 => by
    have N0 : 0 < n + 1 := by omega
    have hM : M.1 2 475 = nI n := (h1 2 475 (by omega)).trans hK
    have e3 : 4 - (l + 1) = 3 - l := by omega
    have ed : R / (n + 1) ^ (4 - l) = R / (n + 1) ^ (3 - l) / (n + 1) := by
      rw [Nat.div_div_eq_div_mul, ← Nat.pow_succ]
      congr 2
      omega
    have dg : R / (n + 1) ^ (3 - l) % (n + 1) = sl_dg n R l := rfl
    have hq : R / (n + 1) ^ (3 - l) ≤ R := Nat.div_le_self _ _
    have hrem : R / (n + 1) ^ (3 - l) - R / (n + 1) ^ (3 - l) / (n + 1) * (n + 1) = sl_dg n R l := by
      have := Nat.div_add_mod (R / (n + 1) ^ (3 - l)) (n + 1)
      rw [Nat.mul_comm, dg] at this
      omega
    have hle : R / (n + 1) ^ (3 - l) / (n + 1) * (n + 1) ≤ R / (n + 1) ^ (3 - l) := Nat.div_mul_le_self _ _
    have hrl : sl_dg n R l < n + 1 := Nat.mod_lt _ N0
    obtain ⟨M', y1, y2, y3, y4⟩ := m_sb hn K hK rc x y R hR l f (ph_wi M 21 l (nI (if sl_dg n R l = n then 100 else sl_dg n R l))) (by omega) (by omega) (fun c j hc => by simp (disch := first | assumption | omega) only [q_lit, Int32.neg_neg, nI_add, pk_mul, q_sub, q_addn, q_nadd, q_lt, q_le, q_eq, q_eqn, q_neq, q_nen, q_ltn, q_nlt, q_len, q_nle, q_nltn, q_nlen, q_cl, q_ib, q_ibn, q_isz0, q_isz1, q_iszb, q_b0, q_b1, q_ng1, q_ng2, q_ng3, q_ng4, q_ng5, q_ng6, Bool.toNat_true, Bool.toNat_false, if_pos, if_neg, q_ct, q_cf, q_let, q_bd, q_it, q_if, Nat.zero_add, Nat.add_zero, true_and, and_true, false_and, and_false, or_false, false_or, or_true, true_or, Bool.true_eq_false, Bool.false_eq_true, wi_s, wi_o, wi_r]; exact h1 c j hc) h2 (fun k hk hk4 => by
      by_cases q : k = l
      · subst q; simp (disch := first | assumption | omega) only [q_lit, Int32.neg_neg, nI_add, pk_mul, q_sub, q_addn, q_nadd, q_lt, q_le, q_eq, q_eqn, q_neq, q_nen, q_ltn, q_nlt, q_len, q_nle, q_nltn, q_nlen, q_cl, q_ib, q_ibn, q_isz0, q_isz1, q_iszb, q_b0, q_b1, q_ng1, q_ng2, q_ng3, q_ng4, q_ng5, q_ng6, Bool.toNat_true, Bool.toNat_false, if_pos, if_neg, q_ct, q_cf, q_let, q_bd, q_it, q_if, Nat.zero_add, Nat.add_zero, true_and, and_true, false_and, and_false, or_false, false_or, or_true, true_or, Bool.true_eq_false, Bool.false_eq_true, wi_s, wi_o, wi_r]
      · simp (disch := first | assumption | omega) only [q_lit, Int32.neg_neg, nI_add, pk_mul, q_sub, q_addn, q_nadd, q_lt, q_le, q_eq, q_eqn, q_neq, q_nen, q_ltn, q_nlt, q_len, q_nle, q_nltn, q_nlen, q_cl, q_ib, q_ibn, q_isz0, q_isz1, q_iszb, q_b0, q_b1, q_ng1, q_ng2, q_ng3, q_ng4, q_ng5, q_ng6, Bool.toNat_true, Bool.toNat_false, if_pos, if_neg, q_ct, q_cf, q_let, q_bd, q_it, q_if, Nat.zero_add, Nat.add_zero, true_and, and_true, false_and, and_false, or_false, false_or, or_true, true_or, Bool.true_eq_false, Bool.false_eq_true, wi_s, wi_o, wi_r]; exact h3 k (by omega) hk4)
    refine ⟨M', ?_, y2, y3, y4⟩
    rw [← y1, e3, q_m1, ed]
    generalize R / (n + 1) ^ (3 - l) = Q at *
    conv => lhs; unfold f12_sells_l188 f12_people f12_sells_j219
    by_cases hd : sl_dg n R l = n
    · simp (disch := first | assumption | omega) only [q_lit, Int32.neg_neg, nI_add, pk_mul, q_sub, q_addn, q_nadd, q_lt, q_le, q_eq, q_eqn, q_neq, q_nen, q_ltn, q_nlt, q_len, q_nle, q_nltn, q_nlen, q_cl, q_ib, q_ibn, q_isz0, q_isz1, q_iszb, q_b0, q_b1, q_ng1, q_ng2, q_ng3, q_ng4, q_ng5, q_ng6, Bool.toNat_true, Bool.toNat_false, if_pos, if_neg, q_ct, q_cf, q_let, q_bd, q_it, q_if, Nat.zero_add, Nat.add_zero, true_and, and_true, false_and, and_false, or_false, false_or, or_true, true_or, Bool.true_eq_false, Bool.false_eq_true, wi_s, wi_o, wi_r, hM, q_div, q_rem, hrem, hd]
    · simp (disch := first | assumption | omega) only [q_lit, Int32.neg_neg, nI_add, pk_mul, q_sub, q_addn, q_nadd, q_lt, q_le, q_eq, q_eqn, q_neq, q_nen, q_ltn, q_nlt, q_len, q_nle, q_nltn, q_nlen, q_cl, q_ib, q_ibn, q_isz0, q_isz1, q_iszb, q_b0, q_b1, q_ng1, q_ng2, q_ng3, q_ng4, q_ng5, q_ng6, Bool.toNat_true, Bool.toNat_false, if_pos, if_neg, q_ct, q_cf, q_let, q_bd, q_it, q_if, Nat.zero_add, Nat.add_zero, true_and, and_true, false_and, and_false, or_false, false_or, or_true, true_or, Bool.true_eq_false, Bool.false_eq_true, wi_s, wi_o, wi_r, hM, q_div, q_rem, hrem, hd]
/-- the best so far, as it is held -/
def sl_hd (n : Nat) (s : Nat × Nat) (M : ph_Mem) : Prop := (s.1 = 0 ∧ M.1 0 38 = -nI 1) ∨ (0 < s.1 ∧ s.1 ≤ 4000 ∧ M.1 0 38 = nI (s.1 - 1) ∧ ∀ k, k < 4 → M.1 21 k = nI (if sl_dg n s.2 k = n then 100 else sl_dg n s.2 k))
theorem sl_P_le (b : Nat → Nat → Nat) (n U0 : Nat) (hb : ∀ p l, p < n → l < 4 → b p l ≤ 999) : ∀ (l r U B : Nat), l ≤ 4 → sl_P b n U0 l r = some (U, B) → B ≤ 999 * l
  | 0, r, U, B, _, h => by
    rw [sl_P] at h
    injection h with h
    injection h with h1 h2
    omega
  | l + 1, r, U, B, hl, h => by
    rw [sl_P] at h
    have hm : r % (n + 1) < n + 1 := Nat.mod_lt _ (by omega)
    cases hP : sl_P b n U0 l (r / (n + 1)) with
    | none => rw [hP] at h; exact absurd h (by simp)
    | some x =>
      obtain ⟨U', B'⟩ := x
      have ih := sl_P_le b n U0 hb l (r / (n + 1)) U' B' (by omega) hP
      rw [hP] at h
      simp only at h
      split at h
      · injection h with h
        injection h with h1 h2
        omega
      · split at h
        · injection h with h
          injection h with h1 h2
          have := hb (r % (n + 1)) l (by omega) (by omega)
          omega
        · exact absurd h (by simp)
theorem m_sells_l {b : Nat → Nat → Nat} {n U0 : Nat} {x : Int32} (hn : n ≤ 6) (K : ph_Mem) (hK : K.1 2 475 = nI n) (hb : ∀ p l, p < n → l < 4 → b p l ≤ 999 ∧ K.1 2 (447 + (p * 4 + l)) = nI (b p l)) (hx : sl_w x U0 n) (T : Nat) (hT : T ≤ 2401) : ∀ (k r fuel : Nat) (s : Nat × Nat) (M : ph_Mem), r + k = T → k < fuel → (∀ c j, c ≠ 21 → (c ≠ 0 ∨ j ≠ 38) → M.1 c j = K.1 c j) → M.2 = K.2 → sl_hd n s M → ∃ M', f12_sells_l23 fuel x (nI (n + 1)) (nI T) (nI r) M = some M' ∧ (∀ c j, c ≠ 21 → (c ≠ 0 ∨ j ≠ 38) → M'.1 c j = K.1 c j) ∧ M'.2 = K.2 ∧ sl_hd n (sl_F b n U0 r k s) M'
  | 0, r, f + 1, s, M, e, _, h1, h2, h3 => by
    refine ⟨M, ?_, h1, h2, h3⟩
    unfold f12_sells_l23
    simp (disch := first | assumption | omega) only [q_lit, Int32.neg_neg, nI_add, pk_mul, q_sub, q_addn, q_nadd, q_lt, q_le, q_eq, q_eqn, q_neq, q_nen, q_ltn, q_nlt, q_len, q_nle, q_nltn, q_nlen, q_cl, q_ib, q_ibn, q_isz0, q_isz1, q_iszb, q_b0, q_b1, q_ng1, q_ng2, q_ng3, q_ng4, q_ng5, q_ng6, Bool.toNat_true, Bool.toNat_false, if_pos, if_neg, q_ct, q_cf, q_let, q_bd, q_it, q_if, Nat.zero_add, Nat.add_zero, true_and, and_true, false_and, and_false, or_false, false_or, or_true, true_or, Bool.true_eq_false, Bool.false_eq_true, wi_s, wi_o, wi_r]
  | k + 1, r, f + 1, s, M, e, hf, h1, h2, h3 => by
    have hM : M.1 2 475 = nI n := (h1 2 475 (by omega) (by omega)).trans hK
    have hbM : ∀ p l, p < n → l < 4 → b p l ≤ 999 ∧ M.1 2 (447 + (p * 4 + l)) = nI (b p l) := fun p l q1 q2 => ⟨(hb p l q1 q2).1, (h1 2 _ (by omega) (by omega)).trans (hb p l q1 q2).2⟩
    have sv := m_sv (b := b) (U0 := U0) hn hM hbM hx (f12_sells_l23 f) (nI T) (nI r) 4 10000 r 0 0 (by omega) (by omega) (by omega) (by omega) (by omega)
    rw [q_m1, sl_V4] at sv
    have un : f12_sells_l23 (f + 1) x (nI (n + 1)) (nI T) (nI r) M = f12_sells_l42 (f12_sells_l23 f) 10000 x (nI (n + 1)) (nI T) (nI r) (nI r) (nI 0) (nI 0) (nI 3) M := by
      conv => lhs; unfold f12_sells_l23
      simp (disch := first | assumption | omega) only [q_lit, Int32.neg_neg, nI_add, pk_mul, q_sub, q_addn, q_nadd, q_lt, q_le, q_eq, q_eqn, q_neq, q_nen, q_ltn, q_nlt, q_len, q_nle, q_nltn, q_nlen, q_cl, q_ib, q_ibn, q_isz0, q_isz1, q_iszb, q_b0, q_b1, q_ng1, q_ng2, q_ng3, q_ng4, q_ng5, q_ng6, Bool.toNat_true, Bool.toNat_false, if_pos, if_neg, q_ct, q_cf, q_let, q_bd, q_it, q_if, Nat.zero_add, Nat.add_zero, true_and, and_true, false_and, and_false, or_false, false_or, or_true, true_or, Bool.true_eq_false, Bool.false_eq_true, wi_s, wi_o, wi_r]
    rw [un, sv, sl_F]
    unfold f12_sells_j163 f12_sells_j232
    have stay : sl_st b n U0 s r = s → ∃ M', f12_sells_l23 f x (nI (n + 1)) (nI T) (nI (r + 1)) M = some M' ∧ (∀ c j, c ≠ 21 → (c ≠ 0 ∨ j ≠ 38) → M'.1 c j = K.1 c j) ∧ M'.2 = K.2 ∧ sl_hd n (sl_F b n U0 (r + 1) k (sl_st b n U0 s r)) M' := by
      intro q
      rw [q]
      exact m_sells_l hn K hK hb hx T hT k (r + 1) f s M (by omega) (by omega) h1 h2 h3
    cases hP : sl_P b n U0 4 r with
    | none =>
      have q : sl_st b n U0 s r = s := by unfold sl_st; rw [hP]
      have lt : (M.1 0 38 < -nI 1) = False := by
        rcases h3 with ⟨z1, z2⟩ | ⟨z1, z2, z3, _⟩
        · rw [z2, q_nltn (by omega) (by omega)]; exact eq_false (by omega)
        · rw [z3, q_ltn (by omega) (by omega)]
      have := stay q
      simp only [Option.map_none]
      simp (disch := first | assumption | omega) only [q_lit, Int32.neg_neg, nI_add, pk_mul, q_sub, q_addn, q_nadd, q_lt, q_le, q_eq, q_eqn, q_neq, q_nen, q_ltn, q_nlt, q_len, q_nle, q_nltn, q_nlen, q_cl, q_ib, q_ibn, q_isz0, q_isz1, q_iszb, q_b0, q_b1, q_ng1, q_ng2, q_ng3, q_ng4, q_ng5, q_ng6, Bool.toNat_true, Bool.toNat_false, if_pos, if_neg, q_ct, q_cf, q_let, q_bd, q_it, q_if, Nat.zero_add, Nat.add_zero, true_and, and_true, false_and, and_false, or_false, false_or, or_true, true_or, Bool.true_eq_false, Bool.false_eq_true, wi_s, wi_o, wi_r, sl_n1, lt]
      exact this
    | some y =>
      obtain ⟨U, A⟩ := y
      have hA := sl_P_le b n U0 (fun p l q1 q2 => (hb p l q1 q2).1) 4 r U A (by omega) hP
      have lt : (M.1 0 38 < nI A) = (s.1 < A + 1) := by
        rcases h3 with ⟨z1, z2⟩ | ⟨z1, z2, z3, _⟩
        · rw [z2, q_nlt (by omega) (by omega), z1]; apply propext; omega
        · rw [z3, q_lt (by omega) (by omega)]; apply propext; omega
      simp only [Option.map_some]
      by_cases hc : s.1 < A + 1
      · have q : sl_st b n U0 s r = (A + 1, r) := by unfold sl_st; rw [hP]; simp only; rw [if_pos hc]
        obtain ⟨M1, a1, a2, a3, a4⟩ := m_sb hn (ph_wi M 0 38 (nI A)) (by simp (disch := first | assumption | omega) only [q_lit, Int32.neg_neg, nI_add, pk_mul, q_sub, q_addn, q_nadd, q_lt, q_le, q_eq, q_eqn, q_neq, q_nen, q_ltn, q_nlt, q_len, q_nle, q_nltn, q_nlen, q_cl, q_ib, q_ibn, q_isz0, q_isz1, q_iszb, q_b0, q_b1, q_ng1, q_ng2, q_ng3, q_ng4, q_ng5, q_ng6, Bool.toNat_true, Bool.toNat_false, if_pos, if_neg, q_ct, q_cf, q_let, q_bd, q_it, q_if, Nat.zero_add, Nat.add_zero, true_and, and_true, false_and, and_false, or_false, false_or, or_true, true_or, Bool.true_eq_false, Bool.false_eq_true, wi_s, wi_o, wi_r]; exact hM) (f12_sells_l23 f) x (nI T) r (by omega) 4 10000 (ph_wi M 0 38 (nI A)) (by omega) (by omega) (fun _ _ _ => rfl) rfl (fun k h1 h2 => absurd h1 (by omega))
        obtain ⟨M', y1, y2, y3, y4⟩ := m_sells_l hn K hK hb hx T hT k (r + 1) f (A + 1, r) M1 (by omega) (by omega) (fun c j hc hd => by rw [a2 c j hc]; simp (disch := first | assumption | omega) only [q_lit, Int32.neg_neg, nI_add, pk_mul, q_sub, q_addn, q_nadd, q_lt, q_le, q_eq, q_eqn, q_neq, q_nen, q_ltn, q_nlt, q_len, q_nle, q_nltn, q_nlen, q_cl, q_ib, q_ibn, q_isz0, q_isz1, q_iszb, q_b0, q_b1, q_ng1, q_ng2, q_ng3, q_ng4, q_ng5, q_ng6, Bool.toNat_true, Bool.toNat_false, if_pos, if_neg, q_ct, q_cf, q_let, q_bd, q_it, q_if, Nat.zero_add, Nat.add_zero, true_and, and_true, false_and, and_false, or_false, false_or, or_true, true_or, Bool.true_eq_false, Bool.false_eq_true, wi_s, wi_o, wi_r]; exact h1 c j hc hd) (a3.trans h2) (Or.inr ⟨by show 0 < A + 1; omega, by show A + 1 ≤ 4000; omega, by rw [a2 0 38 (by omega)]; simp (disch := first | assumption | omega) only [q_lit, Int32.neg_neg, nI_add, pk_mul, q_sub, q_addn, q_nadd, q_lt, q_le, q_eq, q_eqn, q_neq, q_nen, q_ltn, q_nlt, q_len, q_nle, q_nltn, q_nlen, q_cl, q_ib, q_ibn, q_isz0, q_isz1, q_iszb, q_b0, q_b1, q_ng1, q_ng2, q_ng3, q_ng4, q_ng5, q_ng6, Bool.toNat_true, Bool.toNat_false, if_pos, if_neg, q_ct, q_cf, q_let, q_bd, q_it, q_if, Nat.zero_add, Nat.add_zero, true_and, and_true, false_and, and_false, or_false, false_or, or_true, true_or, Bool.true_eq_false, Bool.false_eq_true, wi_s, wi_o, wi_r]; rfl, a4⟩)
        rw [q_m1, Nat.sub_self, Nat.pow_zero, Nat.div_one] at a1
        refine ⟨M', ?_, y2, y3, by rw [q]; exact y4⟩
        rw [← y1, ← a1]
        simp (disch := first | assumption | omega) only [q_lit, Int32.neg_neg, nI_add, pk_mul, q_sub, q_addn, q_nadd, q_lt, q_le, q_eq, q_eqn, q_neq, q_nen, q_ltn, q_nlt, q_len, q_nle, q_nltn, q_nlen, q_cl, q_ib, q_ibn, q_isz0, q_isz1, q_iszb, q_b0, q_b1, q_ng1, q_ng2, q_ng3, q_ng4, q_ng5, q_ng6, Bool.toNat_true, Bool.toNat_false, if_pos, if_neg, q_ct, q_cf, q_let, q_bd, q_it, q_if, Nat.zero_add, Nat.add_zero, true_and, and_true, false_and, and_false, or_false, false_or, or_true, true_or, Bool.true_eq_false, Bool.false_eq_true, wi_s, wi_o, wi_r, sl_n1, lt]
      · have q : sl_st b n U0 s r = s := by unfold sl_st; rw [hP]; simp only; rw [if_neg hc]
        have := stay q
        simp (disch := first | assumption | omega) only [q_lit, Int32.neg_neg, nI_add, pk_mul, q_sub, q_addn, q_nadd, q_lt, q_le, q_eq, q_eqn, q_neq, q_nen, q_ltn, q_nlt, q_len, q_nle, q_nltn, q_nlen, q_cl, q_ib, q_ibn, q_isz0, q_isz1, q_iszb, q_b0, q_b1, q_ng1, q_ng2, q_ng3, q_ng4, q_ng5, q_ng6, Bool.toNat_true, Bool.toNat_false, if_pos, if_neg, q_ct, q_cf, q_let, q_bd, q_it, q_if, Nat.zero_add, Nat.add_zero, true_and, and_true, false_and, and_false, or_false, false_or, or_true, true_or, Bool.true_eq_false, Bool.false_eq_true, wi_s, wi_o, wi_r, sl_n1, lt]
        exact this
theorem m_sells {b : Nat → Nat → Nat} {n U0 : Nat} {x : Int32} (hn : n ≤ 6) (K : ph_Mem) (hK : K.1 2 475 = nI n) (hb : ∀ p l, p < n → l < 4 → b p l ≤ 999 ∧ K.1 2 (447 + (p * 4 + l)) = nI (b p l)) (hx : sl_w x U0 n) : ∃ M, f12_sells K x = some M ∧ (∀ c j, c ≠ 21 → (c ≠ 0 ∨ j ≠ 38) → M.1 c j = K.1 c j) ∧ M.2 = K.2 ∧ M.1 0 38 = nI (sl_M b n 4 U0) ∧ ∀ k, k < 4 → M.1 21 k = nI (if sl_dg n (sl_R b n 4 U0) k = n then 100 else sl_dg n (sl_R b n 4 U0) k) := by
  have hT : (n + 1) ^ 4 ≤ 2401 := Nat.pow_le_pow_left (show n + 1 ≤ 7 by omega) 4
  have e4 : (n + 1) * (n + 1) * (n + 1) * (n + 1) = (n + 1) ^ 4 := by simp [Nat.pow_succ]
  obtain ⟨M, y1, y2, y3, y4⟩ := m_sells_l (b := b) hn (ph_wi K 0 38 (-nI 1)) (by simp (disch := first | assumption | omega) only [q_lit, Int32.neg_neg, nI_add, pk_mul, q_sub, q_addn, q_nadd, q_lt, q_le, q_eq, q_eqn, q_neq, q_nen, q_ltn, q_nlt, q_len, q_nle, q_nltn, q_nlen, q_cl, q_ib, q_ibn, q_isz0, q_isz1, q_iszb, q_b0, q_b1, q_ng1, q_ng2, q_ng3, q_ng4, q_ng5, q_ng6, Bool.toNat_true, Bool.toNat_false, if_pos, if_neg, q_ct, q_cf, q_let, q_bd, q_it, q_if, Nat.zero_add, Nat.add_zero, true_and, and_true, false_and, and_false, or_false, false_or, or_true, true_or, Bool.true_eq_false, Bool.false_eq_true, wi_s, wi_o, wi_r]; exact hK) (fun p l q1 q2 => ⟨(hb p l q1 q2).1, by simp (disch := first | assumption | omega) only [q_lit, Int32.neg_neg, nI_add, pk_mul, q_sub, q_addn, q_nadd, q_lt, q_le, q_eq, q_eqn, q_neq, q_nen, q_ltn, q_nlt, q_len, q_nle, q_nltn, q_nlen, q_cl, q_ib, q_ibn, q_isz0, q_isz1, q_iszb, q_b0, q_b1, q_ng1, q_ng2, q_ng3, q_ng4, q_ng5, q_ng6, Bool.toNat_true, Bool.toNat_false, if_pos, if_neg, q_ct, q_cf, q_let, q_bd, q_it, q_if, Nat.zero_add, Nat.add_zero, true_and, and_true, false_and, and_false, or_false, false_or, or_true, true_or, Bool.true_eq_false, Bool.false_eq_true, wi_s, wi_o, wi_r]; exact (hb p l q1 q2).2⟩) hx ((n + 1) ^ 4) hT ((n + 1) ^ 4) 0 10000 (0, 0) (ph_wi K 0 38 (-nI 1)) (by omega) (by omega) (fun _ _ _ _ => rfl) rfl (Or.inl ⟨rfl, by simp (disch := first | assumption | omega) only [q_lit, Int32.neg_neg, nI_add, pk_mul, q_sub, q_addn, q_nadd, q_lt, q_le, q_eq, q_eqn, q_neq, q_nen, q_ltn, q_nlt, q_len, q_nle, q_nltn, q_nlen, q_cl, q_ib, q_ibn, q_isz0, q_isz1, q_iszb, q_b0, q_b1, q_ng1, q_ng2, q_ng3, q_ng4, q_ng5, q_ng6, Bool.toNat_true, Bool.toNat_false, if_pos, if_neg, q_ct, q_cf, q_let, q_bd, q_it, q_if, Nat.zero_add, Nat.add_zero, true_and, and_true, false_and, and_false, or_false, false_or, or_true, true_or, Bool.true_eq_false, Bool.false_eq_true, wi_s, wi_o, wi_r]⟩)
  rw [sl_all] at y4
  rcases y4 with ⟨z1, _⟩ | ⟨z1, z2, z3, z4⟩
  · exact absurd z1 (by simp)
  · refine ⟨M, ?_, fun c j hc hd => by rw [y2 c j hc hd]; simp (disch := first | assumption | omega) only [q_lit, Int32.neg_neg, nI_add, pk_mul, q_sub, q_addn, q_nadd, q_lt, q_le, q_eq, q_eqn, q_neq, q_nen, q_ltn, q_nlt, q_len, q_nle, q_nltn, q_nlen, q_cl, q_ib, q_ibn, q_isz0, q_isz1, q_iszb, q_b0, q_b1, q_ng1, q_ng2, q_ng3, q_ng4, q_ng5, q_ng6, Bool.toNat_true, Bool.toNat_false, if_pos, if_neg, q_ct, q_cf, q_let, q_bd, q_it, q_if, Nat.zero_add, Nat.add_zero, true_and, and_true, false_and, and_false, or_false, false_or, or_true, true_or, Bool.true_eq_false, Bool.false_eq_true, wi_s, wi_o, wi_r], y3, z3, z4⟩
    unfold f12_sells f12_people
    simp (disch := first | assumption | omega) only [q_lit, Int32.neg_neg, nI_add, pk_mul, q_sub, q_addn, q_nadd, q_lt, q_le, q_eq, q_eqn, q_neq, q_nen, q_ltn, q_nlt, q_len, q_nle, q_nltn, q_nlen, q_cl, q_ib, q_ibn, q_isz0, q_isz1, q_iszb, q_b0, q_b1, q_ng1, q_ng2, q_ng3, q_ng4, q_ng5, q_ng6, Bool.toNat_true, Bool.toNat_false, if_pos, if_neg, q_ct, q_cf, q_let, q_bd, q_it, q_if, Nat.zero_add, Nat.add_zero, true_and, and_true, false_and, and_false, or_false, false_or, or_true, true_or, Bool.true_eq_false, Bool.false_eq_true, wi_s, wi_o, wi_r, hK, e4]
    exact y1
