/-! PURE HALF: hours by states, how many, what one knows -/
theorem x_place {S : ph_Sh} {X : ph_Mem} {p h : Nat} : f11_placeOf S X (nI p) (nI h) = some (nI (12 * p + h)) := by
  unfold f11_placeOf
  simp (disch := first | assumption | omega) only [q_lit, Int32.neg_neg, nI_add, pk_mul, q_sub, q_addn, q_nadd, q_lt, q_le, q_eq, q_eqn, q_neq, q_nen, q_ltn, q_nlt, q_len, q_nle, q_nltn, q_nlen, q_cl, q_ib, q_ibn, q_isz0, q_isz1, q_iszb, q_b0, q_b1, q_ng1, q_ng2, q_ng3, q_ng4, q_ng5, q_ng6, Bool.toNat_true, Bool.toNat_false, if_pos, if_neg, q_ct, q_cf, q_let, q_bd, q_it, q_if, Nat.zero_add, Nat.add_zero, true_and, and_true, false_and, and_false, or_false, false_or, or_true, true_or, Bool.true_eq_false, Bool.false_eq_true, wi_s, wi_o, wi_r]
  rw [Nat.mul_comm]
theorem m_place {K : ph_Mem} {p h : Nat} : f12_placeOf K (nI p) (nI h) = some (nI (12 * p + h)) := by
  unfold f12_placeOf
  simp (disch := first | assumption | omega) only [q_lit, Int32.neg_neg, nI_add, pk_mul, q_sub, q_addn, q_nadd, q_lt, q_le, q_eq, q_eqn, q_neq, q_nen, q_ltn, q_nlt, q_len, q_nle, q_nltn, q_nlen, q_cl, q_ib, q_ibn, q_isz0, q_isz1, q_iszb, q_b0, q_b1, q_ng1, q_ng2, q_ng3, q_ng4, q_ng5, q_ng6, Bool.toNat_true, Bool.toNat_false, if_pos, if_neg, q_ct, q_cf, q_let, q_bd, q_it, q_if, Nat.zero_add, Nat.add_zero, true_and, and_true, false_and, and_false, or_false, false_or, or_true, true_or, Bool.true_eq_false, Bool.false_eq_true, wi_s, wi_o, wi_r]
theorem x_bit {S : ph_Sh} {X : ph_Mem} {w i : Nat} (hw : w < 2 ^ 31) (hi : i < 31) : f9_hasBit S X (nI w) (nI i) = some (nI (w.testBit i).toNat) := by
  unfold f9_hasBit
  cases e : w.testBit i
  · simp (disch := first | assumption | omega) only [q_lit, Int32.neg_neg, nI_add, pk_mul, q_sub, q_addn, q_nadd, q_lt, q_le, q_eq, q_eqn, q_neq, q_nen, q_ltn, q_nlt, q_len, q_nle, q_nltn, q_nlen, q_cl, q_ib, q_ibn, q_isz0, q_isz1, q_iszb, q_b0, q_b1, q_ng1, q_ng2, q_ng3, q_ng4, q_ng5, q_ng6, Bool.toNat_true, Bool.toNat_false, if_pos, if_neg, q_ct, q_cf, q_let, q_bd, q_it, q_if, Nat.zero_add, Nat.add_zero, true_and, and_true, false_and, and_false, or_false, false_or, or_true, true_or, Bool.true_eq_false, Bool.false_eq_true, wi_s, wi_o, wi_r, q_bit, e]
  · simp (disch := first | assumption | omega) only [q_lit, Int32.neg_neg, nI_add, pk_mul, q_sub, q_addn, q_nadd, q_lt, q_le, q_eq, q_eqn, q_neq, q_nen, q_ltn, q_nlt, q_len, q_nle, q_nltn, q_nlen, q_cl, q_ib, q_ibn, q_isz0, q_isz1, q_iszb, q_b0, q_b1, q_ng1, q_ng2, q_ng3, q_ng4, q_ng5, q_ng6, Bool.toNat_true, Bool.toNat_false, if_pos, if_neg, q_ct, q_cf, q_let, q_bd, q_it, q_if, Nat.zero_add, Nat.add_zero, true_and, and_true, false_and, and_false, or_false, false_or, or_true, true_or, Bool.true_eq_false, Bool.false_eq_true, wi_s, wi_o, wi_r, q_bit, e]
theorem m_bit {K : ph_Mem} {w i : Nat} (hw : w < 2 ^ 31) (hi : i < 32) : f12_isIn K (nI w) (nI i) = some (nI (w.testBit i).toNat) := by
  unfold f12_isIn
  cases e : w.testBit i
  · simp (disch := first | assumption | omega) only [q_lit, Int32.neg_neg, nI_add, pk_mul, q_sub, q_addn, q_nadd, q_lt, q_le, q_eq, q_eqn, q_neq, q_nen, q_ltn, q_nlt, q_len, q_nle, q_nltn, q_nlen, q_cl, q_ib, q_ibn, q_isz0, q_isz1, q_iszb, q_b0, q_b1, q_ng1, q_ng2, q_ng3, q_ng4, q_ng5, q_ng6, Bool.toNat_true, Bool.toNat_false, if_pos, if_neg, q_ct, q_cf, q_let, q_bd, q_it, q_if, Nat.zero_add, Nat.add_zero, true_and, and_true, false_and, and_false, or_false, false_or, or_true, true_or, Bool.true_eq_false, Bool.false_eq_true, wi_s, wi_o, wi_r, q_bit, e]
  · simp (disch := first | assumption | omega) only [q_lit, Int32.neg_neg, nI_add, pk_mul, q_sub, q_addn, q_nadd, q_lt, q_le, q_eq, q_eqn, q_neq, q_nen, q_ltn, q_nlt, q_len, q_nle, q_nltn, q_nlen, q_cl, q_ib, q_ibn, q_isz0, q_isz1, q_iszb, q_b0, q_b1, q_ng1, q_ng2, q_ng3, q_ng4, q_ng5, q_ng6, Bool.toNat_true, Bool.toNat_false, if_pos, if_neg, q_ct, q_cf, q_let, q_bd, q_it, q_if, Nat.zero_add, Nat.add_zero, true_and, and_true, false_and, and_false, or_false, false_or, or_true, true_or, Bool.true_eq_false, Bool.false_eq_true, wi_s, wi_o, wi_r, q_bit, e]
/-- in state s -/
def hP (g : Nat → Int32) (p s : Nat) (h : Nat) : Bool := decide (g (12 * p + h) = nI s)
theorem q_bs_step {P : Nat → Bool} {h : Nat} : (P h = true → q_bs P h ||| 2 ^ h = q_bs P (h + 1)) ∧ (P h = false → q_bs P h = q_bs P (h + 1)) := by
  constructor
  · intro e
    rw [q_bs_or P h _ (q_bs_lt P h), q_bs, if_pos e]
  · intro e
    rw [q_bs, if_neg (by simp [e]), Nat.add_zero]
theorem q_p12 {h : Nat} (hh : h ≤ 12) : 2 ^ h ≤ 4096 := Nat.pow_le_pow_right (n := 2) (by omega) hh
theorem x_hrs_l {S : ph_Sh} {X : ph_Mem} {c p s : Nat} {g : Nat → Int32} (hp : p < 6) (hst : ∀ h, h < 12 → X.1 (c + 5) (12 * p + h) = g (12 * p + h)) : ∀ (k h fuel : Nat), h + k = 12 → k < fuel → f9_hoursThatAre_l5 S c X fuel (nI s) (nI p) (nI (q_bs (hP g p s) h)) (nI h) = some (nI (q_bs (hP g p s) 12))
  | 0, h, f + 1, e, _ => by
    have : h = 12 := by omega
    subst this
    unfold f9_hoursThatAre_l5
    simp (disch := first | assumption | omega) only [q_lit, Int32.neg_neg, nI_add, pk_mul, q_sub, q_addn, q_nadd, q_lt, q_le, q_eq, q_eqn, q_neq, q_nen, q_ltn, q_nlt, q_len, q_nle, q_nltn, q_nlen, q_cl, q_ib, q_ibn, q_isz0, q_isz1, q_iszb, q_b0, q_b1, q_ng1, q_ng2, q_ng3, q_ng4, q_ng5, q_ng6, Bool.toNat_true, Bool.toNat_false, if_pos, if_neg, q_ct, q_cf, q_let, q_bd, q_it, q_if, Nat.zero_add, Nat.add_zero, true_and, and_true, false_and, and_false, or_false, false_or, or_true, true_or, Bool.true_eq_false, Bool.false_eq_true, wi_s, wi_o, wi_r]
  | k + 1, h, f + 1, e, hf => by
    unfold f9_hoursThatAre_l5 f9_hoursThatAre_j34
    have ih := x_hrs_l (S := S) (s := s) hp hst k (h + 1) f (by omega) (by omega)
    simp (disch := first | assumption | omega) only [q_lit, Int32.neg_neg, nI_add, pk_mul, q_sub, q_addn, q_nadd, q_lt, q_le, q_eq, q_eqn, q_neq, q_nen, q_ltn, q_nlt, q_len, q_nle, q_nltn, q_nlen, q_cl, q_ib, q_ibn, q_isz0, q_isz1, q_iszb, q_b0, q_b1, q_ng1, q_ng2, q_ng3, q_ng4, q_ng5, q_ng6, Bool.toNat_true, Bool.toNat_false, if_pos, if_neg, q_ct, q_cf, q_let, q_bd, q_it, q_if, Nat.zero_add, Nat.add_zero, true_and, and_true, false_and, and_false, or_false, false_or, or_true, true_or, Bool.true_eq_false, Bool.false_eq_true, wi_s, wi_o, wi_r, x_place]
    rw [hst h (by omega)]
    by_cases e : g (12 * p + h) = nI s
    · rw [if_pos e]
      have e1 : hP g p s h = true := by unfold hP; exact decide_eq_true e
      simp (disch := first | assumption | omega) only [q_lit, Int32.neg_neg, nI_add, pk_mul, q_sub, q_addn, q_nadd, q_lt, q_le, q_eq, q_eqn, q_neq, q_nen, q_ltn, q_nlt, q_len, q_nle, q_nltn, q_nlen, q_cl, q_ib, q_ibn, q_isz0, q_isz1, q_iszb, q_b0, q_b1, q_ng1, q_ng2, q_ng3, q_ng4, q_ng5, q_ng6, Bool.toNat_true, Bool.toNat_false, if_pos, if_neg, q_ct, q_cf, q_let, q_bd, q_it, q_if, Nat.zero_add, Nat.add_zero, true_and, and_true, false_and, and_false, or_false, false_or, or_true, true_or, Bool.true_eq_false, Bool.false_eq_true, wi_s, wi_o, wi_r, q_1sl, q_or]
      rw [q_bs_step.1 e1]
      exact ih
    · rw [if_neg e]
      have e1 : hP g p s h = false := by unfold hP; exact decide_eq_false e
      rw [q_bs_step.2 e1]
      exact ih
theorem x_hrs {S : ph_Sh} {X : ph_Mem} {c p s : Nat} {g : Nat → Int32} (hp : p < 6) (hst : ∀ h, h < 12 → X.1 (c + 5) (12 * p + h) = g (12 * p + h)) : f9_hoursThatAre S X c (nI s) (nI p) = some (nI (q_bs (hP g p s) 12)) := x_hrs_l hp hst 12 0 10000 (by omega) (by omega)
theorem m_state {K : ph_Mem} {p h : Nat} (hp : p < 6) (hh : h < 12) : f12_stateOf K (nI p) (nI h) = some (K.1 2 (12 * p + h)) := by
  unfold f12_stateOf
  simp (disch := first | assumption | omega) only [q_lit, Int32.neg_neg, nI_add, pk_mul, q_sub, q_addn, q_nadd, q_lt, q_le, q_eq, q_eqn, q_neq, q_nen, q_ltn, q_nlt, q_len, q_nle, q_nltn, q_nlen, q_cl, q_ib, q_ibn, q_isz0, q_isz1, q_iszb, q_b0, q_b1, q_ng1, q_ng2, q_ng3, q_ng4, q_ng5, q_ng6, Bool.toNat_true, Bool.toNat_false, if_pos, if_neg, q_ct, q_cf, q_let, q_bd, q_it, q_if, Nat.zero_add, Nat.add_zero, true_and, and_true, false_and, and_false, or_false, false_or, or_true, true_or, Bool.true_eq_false, Bool.false_eq_true, wi_s, wi_o, wi_r, m_place]
theorem m_hrs_l {K : ph_Mem} {p s : Nat} (hp : p < 6) : ∀ (k h fuel : Nat), h + k = 12 → k < fuel → f12_hoursIn_l5 K fuel (nI p) (nI s) (nI (q_bs (hP (K.1 2) p s) h)) (nI h) = some (nI (q_bs (hP (K.1 2) p s) 12))
  | 0, h, f + 1, e, _ => by
    have : h = 12 := by omega
    subst this
    unfold f12_hoursIn_l5
    simp (disch := first | assumption | omega) only [q_lit, Int32.neg_neg, nI_add, pk_mul, q_sub, q_addn, q_nadd, q_lt, q_le, q_eq, q_eqn, q_neq, q_nen, q_ltn, q_nlt, q_len, q_nle, q_nltn, q_nlen, q_cl, q_ib, q_ibn, q_isz0, q_isz1, q_iszb, q_b0, q_b1, q_ng1, q_ng2, q_ng3, q_ng4, q_ng5, q_ng6, Bool.toNat_true, Bool.toNat_false, if_pos, if_neg, q_ct, q_cf, q_let, q_bd, q_it, q_if, Nat.zero_add, Nat.add_zero, true_and, and_true, false_and, and_false, or_false, false_or, or_true, true_or, Bool.true_eq_false, Bool.false_eq_true, wi_s, wi_o, wi_r]
  | k + 1, h, f + 1, e, hf => by
    unfold f12_hoursIn_l5 f12_hoursIn_j32
    have ih := m_hrs_l (K := K) (s := s) hp k (h + 1) f (by omega) (by omega)
    simp (disch := first | assumption | omega) only [q_lit, Int32.neg_neg, nI_add, pk_mul, q_sub, q_addn, q_nadd, q_lt, q_le, q_eq, q_eqn, q_neq, q_nen, q_ltn, q_nlt, q_len, q_nle, q_nltn, q_nlen, q_cl, q_ib, q_ibn, q_isz0, q_isz1, q_iszb, q_b0, q_b1, q_ng1, q_ng2, q_ng3, q_ng4, q_ng5, q_ng6, Bool.toNat_true, Bool.toNat_false, if_pos, if_neg, q_ct, q_cf, q_let, q_bd, q_it, q_if, Nat.zero_add, Nat.add_zero, true_and, and_true, false_and, and_false, or_false, false_or, or_true, true_or, Bool.true_eq_false, Bool.false_eq_true, wi_s, wi_o, wi_r, m_state]
    by_cases e : K.1 2 (12 * p + h) = nI s
    · rw [if_pos e]
      have e1 : hP (K.1 2) p s h = true := by unfold hP; exact decide_eq_true e
      simp (disch := first | assumption | omega) only [q_lit, Int32.neg_neg, nI_add, pk_mul, q_sub, q_addn, q_nadd, q_lt, q_le, q_eq, q_eqn, q_neq, q_nen, q_ltn, q_nlt, q_len, q_nle, q_nltn, q_nlen, q_cl, q_ib, q_ibn, q_isz0, q_isz1, q_iszb, q_b0, q_b1, q_ng1, q_ng2, q_ng3, q_ng4, q_ng5, q_ng6, Bool.toNat_true, Bool.toNat_false, if_pos, if_neg, q_ct, q_cf, q_let, q_bd, q_it, q_if, Nat.zero_add, Nat.add_zero, true_and, and_true, false_and, and_false, or_false, false_or, or_true, true_or, Bool.true_eq_false, Bool.false_eq_true, wi_s, wi_o, wi_r, q_1sl, q_or]
      rw [q_bs_step.1 e1]
      exact ih
    · rw [if_neg e]
      have e1 : hP (K.1 2) p s h = false := by unfold hP; exact decide_eq_false e
      simp (disch := first | assumption | omega) only [q_lit, Int32.neg_neg, nI_add, pk_mul, q_sub, q_addn, q_nadd, q_lt, q_le, q_eq, q_eqn, q_neq, q_nen, q_ltn, q_nlt, q_len, q_nle, q_nltn, q_nlen, q_cl, q_ib, q_ibn, q_isz0, q_isz1, q_iszb, q_b0, q_b1, q_ng1, q_ng2, q_ng3, q_ng4, q_ng5, q_ng6, Bool.toNat_true, Bool.toNat_false, if_pos, if_neg, q_ct, q_cf, q_let, q_bd, q_it, q_if, Nat.zero_add, Nat.add_zero, true_and, and_true, false_and, and_false, or_false, false_or, or_true, true_or, Bool.true_eq_false, Bool.false_eq_true, wi_s, wi_o, wi_r, q_or, Nat.or_zero]
      rw [q_bs_step.2 e1]
      exact ih
theorem m_hrs {K : ph_Mem} {p s : Nat} (hp : p < 6) : f12_hoursIn K (nI p) (nI s) = some (nI (q_bs (hP (K.1 2) p s) 12)) := m_hrs_l hp 12 0 10000 (by omega) (by omega)
/-- how many of the first n bits -/
def q_pc (s : Nat) : Nat → Nat
  | 0 => 0
  | n + 1 => q_pc s n + (s.testBit n).toNat
theorem q_pc_le (s : Nat) : ∀ n, q_pc s n ≤ n
  | 0 => by simp [q_pc]
  | n + 1 => by
    have := q_pc_le s n
    rw [q_pc]
    cases s.testBit n <;> simp <;> omega
theorem m_ones_l {K : ph_Mem} {s : Nat} (hs : s < 2 ^ 31) : ∀ (k h fuel : Nat), h + k = 12 → k < fuel → f12_ones_l4 K fuel (nI s) (nI (q_pc s h)) (nI h) = some (nI (q_pc s 12))
  | 0, h, f + 1, e, _ => by
    have : h = 12 := by omega
    subst this
    unfold f12_ones_l4
    simp (disch := first | assumption | omega) only [q_lit, Int32.neg_neg, nI_add, pk_mul, q_sub, q_addn, q_nadd, q_lt, q_le, q_eq, q_eqn, q_neq, q_nen, q_ltn, q_nlt, q_len, q_nle, q_nltn, q_nlen, q_cl, q_ib, q_ibn, q_isz0, q_isz1, q_iszb, q_b0, q_b1, q_ng1, q_ng2, q_ng3, q_ng4, q_ng5, q_ng6, Bool.toNat_true, Bool.toNat_false, if_pos, if_neg, q_ct, q_cf, q_let, q_bd, q_it, q_if, Nat.zero_add, Nat.add_zero, true_and, and_true, false_and, and_false, or_false, false_or, or_true, true_or, Bool.true_eq_false, Bool.false_eq_true, wi_s, wi_o, wi_r]
  | k + 1, h, f + 1, e, hf => by
    unfold f12_ones_l4
    have ih := m_ones_l (K := K) hs k (h + 1) f (by omega) (by omega)
    simp (disch := first | assumption | omega) only [q_lit, Int32.neg_neg, nI_add, pk_mul, q_sub, q_addn, q_nadd, q_lt, q_le, q_eq, q_eqn, q_neq, q_nen, q_ltn, q_nlt, q_len, q_nle, q_nltn, q_nlen, q_cl, q_ib, q_ibn, q_isz0, q_isz1, q_iszb, q_b0, q_b1, q_ng1, q_ng2, q_ng3, q_ng4, q_ng5, q_ng6, Bool.toNat_true, Bool.toNat_false, if_pos, if_neg, q_ct, q_cf, q_let, q_bd, q_it, q_if, Nat.zero_add, Nat.add_zero, true_and, and_true, false_and, and_false, or_false, false_or, or_true, true_or, Bool.true_eq_false, Bool.false_eq_true, wi_s, wi_o, wi_r, q_bit]
    exact ih
theorem m_ones {K : ph_Mem} {s : Nat} (hs : s < 2 ^ 31) : f12_ones K (nI s) = some (nI (q_pc s 12)) := m_ones_l hs 12 0 10000 (by omega) (by omega)
def q_bc (p0 : Int32) : Int32 :=
  let z1 := p0 - ((p0.toUInt32 >>> ((1 : Int32).toUInt32 &&& Int32.toUInt32 31)).toInt32 &&& (1431655765 : Int32))
  let z2 := (z1 &&& (858993459 : Int32)) + ((z1.toUInt32 >>> ((2 : Int32).toUInt32 &&& Int32.toUInt32 31)).toInt32 &&& (858993459 : Int32))
  let z3 := (z2 + (z2.toUInt32 >>> ((4 : Int32).toUInt32 &&& Int32.toUInt32 31)).toInt32) &&& (252645135 : Int32)
  let z4 := z3 + (z3.toUInt32 >>> ((8 : Int32).toUInt32 &&& Int32.toUInt32 31)).toInt32
  let z5 := z4 + (z4.toUInt32 >>> ((16 : Int32).toUInt32 &&& Int32.toUInt32 31)).toInt32
  z5 &&& (63 : Int32)
theorem q_bc_ok : ∀ a, a < 64 → ∀ b, b < 64 → q_bc (nI (64 * a + b)) = nI (q_pc (64 * a + b) 12) := by decide +kernel
theorem x_bc {S : ph_Sh} {X : ph_Mem} {s : Nat} (hs : s < 4096) : f6_bitCount_0f7a4 S X (nI s) = some (nI (q_pc s 12)) := by
  have h := q_bc_ok (s / 64) (by omega) (s % 64) (by omega)
  rw [Nat.div_add_mod] at h
  rw [← h]
  rfl
/-- what one knows by the hours below n that are in H -/
def q_ks (g : Nat → Int32) (p h known : Nat) : Nat :=
  if g (223 + (12 * p + h)) = -nI 1 then known
  else if g (439 + (g (223 + (12 * p + h))).toNatClampNeg) = -nI 1 ∨ known.testBit (g (439 + (g (223 + (12 * p + h))).toNatClampNeg)).toNatClampNeg = true then known ||| 2 ^ (g (223 + (12 * p + h))).toNatClampNeg
  else known
def q_kn (g : Nat → Int32) (p : Nat) (H : Nat → Bool) : Nat → Nat
  | 0 => 0
  | n + 1 => if H n then q_ks g p n (q_kn g p H n) else q_kn g p H n
/-- a row's facts and needs are as they must be -/
def q_fo (g : Nat → Int32) (p : Nat) : Prop := (∀ h, h < 12 → rNo 8 (g (223 + (12 * p + h)))) ∧ ∀ f, f < 8 → rNo 8 (g (439 + f))
theorem q_ks_lt {g : Nat → Int32} {p h k : Nat} (hg : q_fo g p) (hh : h < 12) (hk : k < 256) : q_ks g p h k < 256 := by
  unfold q_ks
  rcases hg.1 h hh with e | ⟨f, hf, e⟩
  · rw [if_pos e]; exact hk
  · rw [e, q_cl (by omega)]
    split
    · exact hk
    · split
      · exact Nat.or_lt_two_pow (n := 8) hk (Nat.pow_lt_pow_right (by omega) hf)
      · exact hk
theorem q_kn_lt {g : Nat → Int32} {p : Nat} {H : Nat → Bool} (hg : q_fo g p) : ∀ n, n ≤ 12 → q_kn g p H n < 256
  | 0, _ => by simp [q_kn]
  | n + 1, h => by
    have := q_kn_lt (H := H) hg n (by omega)
    rw [q_kn]
    split
    · exact q_ks_lt hg (by omega) this
    · exact this
