/-! PURE HALF: stray, forged -/
/-- all below n -/
def q_al (P : Nat → Bool) : Nat → Bool
  | 0 => true
  | n + 1 => q_al P n && P n
theorem q_al_iff (P : Nat → Bool) : ∀ n, q_al P n = true ↔ ∀ i, i < n → P i = true
  | 0 => by simp [q_al]
  | n + 1 => by
    rw [q_al, Bool.and_eq_true, q_al_iff P n]
    constructor
    · intro ⟨h1, h2⟩ i hi
      by_cases e : i = n
      · subst e; exact h2
      · exact h1 i (by omega)
    · intro h
      exact ⟨fun i hi => h i (by omega), h n (by omega)⟩
theorem q_al_ext {P Q : Nat → Bool} : ∀ n, (∀ i, i < n → P i = Q i) → q_al P n = q_al Q n
  | 0, _ => rfl
  | n + 1, h => by rw [q_al, q_al, q_al_ext n (fun i hi => h i (by omega)), h n (by omega)]
/-- from k on -/
def q_af (P : Nat → Bool) (n : Nat) : Nat → Nat → Bool
  | _, 0 => true
  | k, r + 1 => P k && q_af P n (k + 1) r
theorem q_af_iff (P : Nat → Bool) (n : Nat) : ∀ r k, q_af P n k r = true ↔ ∀ i, k ≤ i → i < k + r → P i = true
  | 0, k => by simp only [q_af, true_iff]; intro i h1 h2; omega
  | r + 1, k => by
    rw [q_af, Bool.and_eq_true, q_af_iff P n r (k + 1)]
    constructor
    · intro ⟨h1, h2⟩ i hi hj
      by_cases e : i = k
      · subst e; exact h1
      · exact h2 i (by omega) (by omega)
    · intro h
      exact ⟨h k (Nat.le_refl _) (by omega), fun i hi hj => h i (by omega) (by omega)⟩
theorem q_af_al (P : Nat → Bool) (n : Nat) : q_af P n 0 n = q_al P n := by
  rw [Bool.eq_iff_iff, q_af_iff, q_al_iff]
  constructor
  · intro h i hi; exact h i (by omega) (by omega)
  · intro h i _ hi; exact h i (by omega)
theorem q_beq (a b : Bool) : (nI a.toNat = nI b.toNat) = (a = b) := by cases a <;> cases b <;> decide +kernel
/-- who holds the hour fits -/
def q_fit (g : Nat → Int32) (h w p q : Nat) : Bool := !hP g q 0 h || (q_wt g q h p == w.testBit q)
theorem x_fit_l {RL : rLT} {S : ph_Sh} {X : ph_Mem} {g : Nat → Int32} {n t h w p : Nat} (hs : rSt RL S X 11 g n t) (hh : h < 12) (hw : w < 64) (hp : p < n) : ∀ (r q fuel : Nat), q + r = n → r < fuel → f0_fitsHolders_l3 S X fuel (nI p) (nI h) (nI w) (nI q) = some (nI (q_af (q_fit g h w p) n q r).toNat)
  | 0, q, f + 1, e, _ => by
    have hn := hs.1.1
    unfold f0_fitsHolders_l3
    have c := hs.1.2.2.1
    simp (disch := first | assumption | omega) only [q_lit, Int32.neg_neg, nI_add, pk_mul, q_sub, q_addn, q_nadd, q_lt, q_le, q_eq, q_eqn, q_neq, q_nen, q_ltn, q_nlt, q_len, q_nle, q_nltn, q_nlen, q_cl, q_ib, q_ibn, q_isz0, q_isz1, q_iszb, q_b0, q_b1, q_ng1, q_ng2, q_ng3, q_ng4, q_ng5, q_ng6, Bool.toNat_true, Bool.toNat_false, if_pos, if_neg, q_ct, q_cf, q_let, q_bd, q_it, q_if, Nat.zero_add, Nat.add_zero, true_and, and_true, false_and, and_false, or_false, false_or, or_true, true_or, Bool.true_eq_false, Bool.false_eq_true, wi_s, wi_o, wi_r, c, q_af]
  | r + 1, q, f + 1, e, hf => by
    have hn := hs.1.1
    have ih := x_fit_l hs hh hw hp r (q + 1) f (by omega) (by omega)
    have c := hs.1.2.2.1
    have e1 := x_holds (S := S) (show q < 6 by omega) hh ((rSt_rd hs (show q < n by omega)).1 h hh).1
    have e2 := x_with hs (show q < n by omega) hh (show p < 31 by omega)
    rw [q_af]
    unfold f0_fitsHolders_l3 f0_fitsHolders_j50
    unfold q_fit at ih ⊢
    cases b1 : hP g q 0 h
    · simp (disch := first | assumption | omega) only [q_lit, Int32.neg_neg, nI_add, pk_mul, q_sub, q_addn, q_nadd, q_lt, q_le, q_eq, q_eqn, q_neq, q_nen, q_ltn, q_nlt, q_len, q_nle, q_nltn, q_nlen, q_cl, q_ib, q_ibn, q_isz0, q_isz1, q_iszb, q_b0, q_b1, q_ng1, q_ng2, q_ng3, q_ng4, q_ng5, q_ng6, Bool.toNat_true, Bool.toNat_false, if_pos, if_neg, q_ct, q_cf, q_let, q_bd, q_it, q_if, Nat.zero_add, Nat.add_zero, true_and, and_true, false_and, and_false, or_false, false_or, or_true, true_or, Bool.true_eq_false, Bool.false_eq_true, wi_s, wi_o, wi_r, c, e1, b1, ih, Bool.not_false, Bool.true_or, Bool.true_and]
    · by_cases b2 : q_wt g q h p = w.testBit q
      · simp (disch := first | assumption | omega) only [q_lit, Int32.neg_neg, nI_add, pk_mul, q_sub, q_addn, q_nadd, q_lt, q_le, q_eq, q_eqn, q_neq, q_nen, q_ltn, q_nlt, q_len, q_nle, q_nltn, q_nlen, q_cl, q_ib, q_ibn, q_isz0, q_isz1, q_iszb, q_b0, q_b1, q_ng1, q_ng2, q_ng3, q_ng4, q_ng5, q_ng6, Bool.toNat_true, Bool.toNat_false, if_pos, if_neg, q_ct, q_cf, q_let, q_bd, q_it, q_if, Nat.zero_add, Nat.add_zero, true_and, and_true, false_and, and_false, or_false, false_or, or_true, true_or, Bool.true_eq_false, Bool.false_eq_true, wi_s, wi_o, wi_r, c, e1, b1, e2, x_bit, q_beq, b2, ih, Bool.not_true, Bool.false_or, beq_self_eq_true, Bool.true_and]
      · have b3 : (q_wt g q h p == w.testBit q) = false := by simp [b2]
        simp (disch := first | assumption | omega) only [q_lit, Int32.neg_neg, nI_add, pk_mul, q_sub, q_addn, q_nadd, q_lt, q_le, q_eq, q_eqn, q_neq, q_nen, q_ltn, q_nlt, q_len, q_nle, q_nltn, q_nlen, q_cl, q_ib, q_ibn, q_isz0, q_isz1, q_iszb, q_b0, q_b1, q_ng1, q_ng2, q_ng3, q_ng4, q_ng5, q_ng6, Bool.toNat_true, Bool.toNat_false, if_pos, if_neg, q_ct, q_cf, q_let, q_bd, q_it, q_if, Nat.zero_add, Nat.add_zero, true_and, and_true, false_and, and_false, or_false, false_or, or_true, true_or, Bool.true_eq_false, Bool.false_eq_true, wi_s, wi_o, wi_r, c, e1, b1, e2, x_bit, q_beq, b2, b3, Bool.not_true, Bool.false_or, Bool.false_and]
def q_own (g : Nat → Int32) (h w n p : Nat) : Bool := !hP g p 0 h && !w.testBit p && q_al (q_fit g h w p) n
theorem x_own_l {RL : rLT} {S : ph_Sh} {X : ph_Mem} {g : Nat → Int32} {n t h w : Nat} (hs : rSt RL S X 11 g n t) (hh : h < 12) (hw : w < 64) : ∀ (r p fuel : Nat), p + r = n → r < fuel → f0_ownersOfStray_l5 S X fuel (nI h) (nI w) (nI (q_bs (q_own g h w n) p)) (nI p) = some (nI (q_bs (q_own g h w n) n))
  | 0, p, f + 1, e, _ => by
    have hn := hs.1.1
    have : p = n := by omega
    subst this
    unfold f0_ownersOfStray_l5
    have c := hs.1.2.2.1
    simp (disch := first | assumption | omega) only [q_lit, Int32.neg_neg, nI_add, pk_mul, q_sub, q_addn, q_nadd, q_lt, q_le, q_eq, q_eqn, q_neq, q_nen, q_ltn, q_nlt, q_len, q_nle, q_nltn, q_nlen, q_cl, q_ib, q_ibn, q_isz0, q_isz1, q_iszb, q_b0, q_b1, q_ng1, q_ng2, q_ng3, q_ng4, q_ng5, q_ng6, Bool.toNat_true, Bool.toNat_false, if_pos, if_neg, q_ct, q_cf, q_let, q_bd, q_it, q_if, Nat.zero_add, Nat.add_zero, true_and, and_true, false_and, and_false, or_false, false_or, or_true, true_or, Bool.true_eq_false, Bool.false_eq_true, wi_s, wi_o, wi_r, c]
  | r + 1, p, f + 1, e, hf => by
    have hn := hs.1.1
    have ih := x_own_l hs hh hw r (p + 1) f (by omega) (by omega)
    have c := hs.1.2.2.1
    have e1 := x_holds (S := S) (show p < 6 by omega) hh ((rSt_rd hs (show p < n by omega)).1 h hh).1
    have e2 : f0_fitsHolders S X (nI p) (nI h) (nI w) = some (nI (q_al (q_fit g h w p) n).toNat) := by
      rw [← q_af_al]
      exact x_fit_l hs hh hw (by omega) n 0 10000 (by omega) (by omega)
    unfold f0_ownersOfStray_l5 f0_ownersOfStray_j57
    have stay : q_own g h w n p = false → f0_ownersOfStray_l5 S X f (nI h) (nI w) (nI (q_bs (q_own g h w n) p)) (nI (p + 1)) = some (nI (q_bs (q_own g h w n) n)) := by
      intro q; rw [q_bs_step.2 q]; exact ih
    cases b1 : hP g p 0 h
    · cases b2 : w.testBit p
      · cases b3 : q_al (q_fit g h w p) n
        · have := stay (by unfold q_own; rw [b1, b2, b3]; rfl)
          simp (disch := first | assumption | omega) only [q_lit, Int32.neg_neg, nI_add, pk_mul, q_sub, q_addn, q_nadd, q_lt, q_le, q_eq, q_eqn, q_neq, q_nen, q_ltn, q_nlt, q_len, q_nle, q_nltn, q_nlen, q_cl, q_ib, q_ibn, q_isz0, q_isz1, q_iszb, q_b0, q_b1, q_ng1, q_ng2, q_ng3, q_ng4, q_ng5, q_ng6, Bool.toNat_true, Bool.toNat_false, if_pos, if_neg, q_ct, q_cf, q_let, q_bd, q_it, q_if, Nat.zero_add, Nat.add_zero, true_and, and_true, false_and, and_false, or_false, false_or, or_true, true_or, Bool.true_eq_false, Bool.false_eq_true, wi_s, wi_o, wi_r, c, e1, b1, x_bit, b2, e2, b3]
          exact this
        · have q : q_own g h w n p = true := by unfold q_own; rw [b1, b2, b3]; rfl
          simp (disch := first | assumption | omega) only [q_lit, Int32.neg_neg, nI_add, pk_mul, q_sub, q_addn, q_nadd, q_lt, q_le, q_eq, q_eqn, q_neq, q_nen, q_ltn, q_nlt, q_len, q_nle, q_nltn, q_nlen, q_cl, q_ib, q_ibn, q_isz0, q_isz1, q_iszb, q_b0, q_b1, q_ng1, q_ng2, q_ng3, q_ng4, q_ng5, q_ng6, Bool.toNat_true, Bool.toNat_false, if_pos, if_neg, q_ct, q_cf, q_let, q_bd, q_it, q_if, Nat.zero_add, Nat.add_zero, true_and, and_true, false_and, and_false, or_false, false_or, or_true, true_or, Bool.true_eq_false, Bool.false_eq_true, wi_s, wi_o, wi_r, c, e1, b1, x_bit, b2, e2, b3, q_1sl, q_or]
          rw [q_bs_step.1 q]
          exact ih
      · have := stay (by unfold q_own; rw [b1, b2]; rfl)
        simp (disch := first | assumption | omega) only [q_lit, Int32.neg_neg, nI_add, pk_mul, q_sub, q_addn, q_nadd, q_lt, q_le, q_eq, q_eqn, q_neq, q_nen, q_ltn, q_nlt, q_len, q_nle, q_nltn, q_nlen, q_cl, q_ib, q_ibn, q_isz0, q_isz1, q_iszb, q_b0, q_b1, q_ng1, q_ng2, q_ng3, q_ng4, q_ng5, q_ng6, Bool.toNat_true, Bool.toNat_false, if_pos, if_neg, q_ct, q_cf, q_let, q_bd, q_it, q_if, Nat.zero_add, Nat.add_zero, true_and, and_true, false_and, and_false, or_false, false_or, or_true, true_or, Bool.true_eq_false, Bool.false_eq_true, wi_s, wi_o, wi_r, c, e1, b1, x_bit, b2]
        exact this
    · have := stay (by unfold q_own; rw [b1]; rfl)
      simp (disch := first | assumption | omega) only [q_lit, Int32.neg_neg, nI_add, pk_mul, q_sub, q_addn, q_nadd, q_lt, q_le, q_eq, q_eqn, q_neq, q_nen, q_ltn, q_nlt, q_len, q_nle, q_nltn, q_nlen, q_cl, q_ib, q_ibn, q_isz0, q_isz1, q_iszb, q_b0, q_b1, q_ng1, q_ng2, q_ng3, q_ng4, q_ng5, q_ng6, Bool.toNat_true, Bool.toNat_false, if_pos, if_neg, q_ct, q_cf, q_let, q_bd, q_it, q_if, Nat.zero_add, Nat.add_zero, true_and, and_true, false_and, and_false, or_false, false_or, or_true, true_or, Bool.true_eq_false, Bool.false_eq_true, wi_s, wi_o, wi_r, c, e1, b1]
      exact this
/-- the model's inner loop -/
theorem m_fit_l {RL : rLT} {S : ph_Sh} {X K : ph_Mem} {n t h w p : Nat} (hs : rSt RL S X 11 (K.1 2) n t) (hh : h < 12) (hw : w < 64) (hp : p < n) (rc : Int32 → Int32 → Int32 → Int32 → Option Int32) (z : Int32) : ∀ (r q fuel : Nat) (b : Bool), (b = true → hP (K.1 2) p 0 h = false) → q + r = n → r < fuel → f12_stray_l60 K rc fuel (nI h) (nI w) z (nI p) (nI b.toNat) (nI q) = f12_stray_j133 K rc (nI h) (nI w) z (nI p) (nI (b && q_af (q_fit (K.1 2) h w p) n q r).toNat)
  | 0, q, f + 1, b, _, e, _ => by
    have hn := hs.1.1
    unfold f12_stray_l60 f12_people
    have c := hs.1.2.2.2.1
    simp (disch := first | assumption | omega) only [q_lit, Int32.neg_neg, nI_add, pk_mul, q_sub, q_addn, q_nadd, q_lt, q_le, q_eq, q_eqn, q_neq, q_nen, q_ltn, q_nlt, q_len, q_nle, q_nltn, q_nlen, q_cl, q_ib, q_ibn, q_isz0, q_isz1, q_iszb, q_b0, q_b1, q_ng1, q_ng2, q_ng3, q_ng4, q_ng5, q_ng6, Bool.toNat_true, Bool.toNat_false, if_pos, if_neg, q_ct, q_cf, q_let, q_bd, q_it, q_if, Nat.zero_add, Nat.add_zero, true_and, and_true, false_and, and_false, or_false, false_or, or_true, true_or, Bool.true_eq_false, Bool.false_eq_true, wi_s, wi_o, wi_r, c, q_af, Bool.and_true]
  | r + 1, q, f + 1, b, hb, e, hf => by
    have hn := hs.1.1
    have ih := m_fit_l hs hh hw hp rc z r (q + 1) f
    have c := hs.1.2.2.2.1
    have e1 := m_holds (K := K) (show q < 6 by omega) hh
    have e2 := m_with hs (show q < n by omega) hh (show p < 31 by omega)
    rw [q_af]
    conv => lhs; unfold f12_stray_l60 f12_people f12_stray_j120 f12_stray_j124 f12_stray_j125
    cases b
    · have i0 := ih false (fun e => nomatch e) (by omega) (by omega)
      simp (disch := first | assumption | omega) only [q_lit, Int32.neg_neg, nI_add, pk_mul, q_sub, q_addn, q_nadd, q_lt, q_le, q_eq, q_eqn, q_neq, q_nen, q_ltn, q_nlt, q_len, q_nle, q_nltn, q_nlen, q_cl, q_ib, q_ibn, q_isz0, q_isz1, q_iszb, q_b0, q_b1, q_ng1, q_ng2, q_ng3, q_ng4, q_ng5, q_ng6, Bool.toNat_true, Bool.toNat_false, if_pos, if_neg, q_ct, q_cf, q_let, q_bd, q_it, q_if, Nat.zero_add, Nat.add_zero, true_and, and_true, false_and, and_false, or_false, false_or, or_true, true_or, Bool.true_eq_false, Bool.false_eq_true, wi_s, wi_o, wi_r, c, Bool.false_and]
      simp (disch := first | assumption | omega) only [q_lit, Int32.neg_neg, nI_add, pk_mul, q_sub, q_addn, q_nadd, q_lt, q_le, q_eq, q_eqn, q_neq, q_nen, q_ltn, q_nlt, q_len, q_nle, q_nltn, q_nlen, q_cl, q_ib, q_ibn, q_isz0, q_isz1, q_iszb, q_b0, q_b1, q_ng1, q_ng2, q_ng3, q_ng4, q_ng5, q_ng6, Bool.toNat_true, Bool.toNat_false, if_pos, if_neg, q_ct, q_cf, q_let, q_bd, q_it, q_if, Nat.zero_add, Nat.add_zero, true_and, and_true, false_and, and_false, or_false, false_or, or_true, true_or, Bool.true_eq_false, Bool.false_eq_true, wi_s, wi_o, wi_r, Bool.false_and] at i0
      exact i0
    · have i1 := ih true hb (by omega) (by omega)
      have i0 := ih false (fun e => nomatch e) (by omega) (by omega)
      simp (disch := first | assumption | omega) only [q_lit, Int32.neg_neg, nI_add, pk_mul, q_sub, q_addn, q_nadd, q_lt, q_le, q_eq, q_eqn, q_neq, q_nen, q_ltn, q_nlt, q_len, q_nle, q_nltn, q_nlen, q_cl, q_ib, q_ibn, q_isz0, q_isz1, q_iszb, q_b0, q_b1, q_ng1, q_ng2, q_ng3, q_ng4, q_ng5, q_ng6, Bool.toNat_true, Bool.toNat_false, if_pos, if_neg, q_ct, q_cf, q_let, q_bd, q_it, q_if, Nat.zero_add, Nat.add_zero, true_and, and_true, false_and, and_false, or_false, false_or, or_true, true_or, Bool.true_eq_false, Bool.false_eq_true, wi_s, wi_o, wi_r, Bool.false_and] at i0
      simp (disch := first | assumption | omega) only [q_lit, Int32.neg_neg, nI_add, pk_mul, q_sub, q_addn, q_nadd, q_lt, q_le, q_eq, q_eqn, q_neq, q_nen, q_ltn, q_nlt, q_len, q_nle, q_nltn, q_nlen, q_cl, q_ib, q_ibn, q_isz0, q_isz1, q_iszb, q_b0, q_b1, q_ng1, q_ng2, q_ng3, q_ng4, q_ng5, q_ng6, Bool.toNat_true, Bool.toNat_false, if_pos, if_neg, q_ct, q_cf, q_let, q_bd, q_it, q_if, Nat.zero_add, Nat.add_zero, true_and, and_true, false_and, and_false, or_false, false_or, or_true, true_or, Bool.true_eq_false, Bool.false_eq_true, wi_s, wi_o, wi_r, Bool.true_and] at i1
      by_cases eq : q = p
      · subst eq
        have b1 := hb rfl
        have b2 : q_fit (K.1 2) h w q q = true := by unfold q_fit; rw [b1]; rfl
        simp (disch := first | assumption | omega) only [q_lit, Int32.neg_neg, nI_add, pk_mul, q_sub, q_addn, q_nadd, q_lt, q_le, q_eq, q_eqn, q_neq, q_nen, q_ltn, q_nlt, q_len, q_nle, q_nltn, q_nlen, q_cl, q_ib, q_ibn, q_isz0, q_isz1, q_iszb, q_b0, q_b1, q_ng1, q_ng2, q_ng3, q_ng4, q_ng5, q_ng6, Bool.toNat_true, Bool.toNat_false, if_pos, if_neg, q_ct, q_cf, q_let, q_bd, q_it, q_if, Nat.zero_add, Nat.add_zero, true_and, and_true, false_and, and_false, or_false, false_or, or_true, true_or, Bool.true_eq_false, Bool.false_eq_true, wi_s, wi_o, wi_r, c, b2, Bool.true_and]
        exact i1
      · have ne : ¬ nI q = nI p := by rw [q_eq (by omega) (by omega)]; exact eq
        cases b1 : hP (K.1 2) q 0 h
        · have b2 : q_fit (K.1 2) h w p q = true := by unfold q_fit; rw [b1]; rfl
          simp (disch := first | assumption | omega) only [q_lit, Int32.neg_neg, nI_add, pk_mul, q_sub, q_addn, q_nadd, q_lt, q_le, q_eq, q_eqn, q_neq, q_nen, q_ltn, q_nlt, q_len, q_nle, q_nltn, q_nlen, q_cl, q_ib, q_ibn, q_isz0, q_isz1, q_iszb, q_b0, q_b1, q_ng1, q_ng2, q_ng3, q_ng4, q_ng5, q_ng6, Bool.toNat_true, Bool.toNat_false, if_pos, if_neg, q_ct, q_cf, q_let, q_bd, q_it, q_if, Nat.zero_add, Nat.add_zero, true_and, and_true, false_and, and_false, or_false, false_or, or_true, true_or, Bool.true_eq_false, Bool.false_eq_true, wi_s, wi_o, wi_r, c, ne, e1, b1, b2, Bool.true_and]
          exact i1
        · by_cases b3 : q_wt (K.1 2) q h p = w.testBit q
          · have b2 : q_fit (K.1 2) h w p q = true := by unfold q_fit; rw [b1, b3]; simp
            simp (disch := first | assumption | omega) only [q_lit, Int32.neg_neg, nI_add, pk_mul, q_sub, q_addn, q_nadd, q_lt, q_le, q_eq, q_eqn, q_neq, q_nen, q_ltn, q_nlt, q_len, q_nle, q_nltn, q_nlen, q_cl, q_ib, q_ibn, q_isz0, q_isz1, q_iszb, q_b0, q_b1, q_ng1, q_ng2, q_ng3, q_ng4, q_ng5, q_ng6, Bool.toNat_true, Bool.toNat_false, if_pos, if_neg, q_ct, q_cf, q_let, q_bd, q_it, q_if, Nat.zero_add, Nat.add_zero, true_and, and_true, false_and, and_false, or_false, false_or, or_true, true_or, Bool.true_eq_false, Bool.false_eq_true, wi_s, wi_o, wi_r, c, ne, e1, b1, m_place, e2, m_bit, q_beq, b3, b2, Bool.true_and]
            exact i1
          · have b2 : q_fit (K.1 2) h w p q = false := by unfold q_fit; rw [b1]; simp [b3]
            simp (disch := first | assumption | omega) only [q_lit, Int32.neg_neg, nI_add, pk_mul, q_sub, q_addn, q_nadd, q_lt, q_le, q_eq, q_eqn, q_neq, q_nen, q_ltn, q_nlt, q_len, q_nle, q_nltn, q_nlen, q_cl, q_ib, q_ibn, q_isz0, q_isz1, q_iszb, q_b0, q_b1, q_ng1, q_ng2, q_ng3, q_ng4, q_ng5, q_ng6, Bool.toNat_true, Bool.toNat_false, if_pos, if_neg, q_ct, q_cf, q_let, q_bd, q_it, q_if, Nat.zero_add, Nat.add_zero, true_and, and_true, false_and, and_false, or_false, false_or, or_true, true_or, Bool.true_eq_false, Bool.false_eq_true, wi_s, wi_o, wi_r, c, ne, e1, b1, m_place, e2, m_bit, q_beq, b3, b2, Bool.true_and, Bool.false_and]
            exact i0
theorem m_own_l {RL : rLT} {S : ph_Sh} {X K : ph_Mem} {n t h w : Nat} (hs : rSt RL S X 11 (K.1 2) n t) (hh : h < 12) (hw : w < 64) : ∀ (r p fuel : Nat), p + r = n → r < fuel → f12_stray_l22 K fuel (nI h) (nI w) (nI (q_bs (q_own (K.1 2) h w n) p)) (nI p) = some (nI (q_bs (q_own (K.1 2) h w n) n))
  | 0, p, f + 1, e, _ => by
    have hn := hs.1.1
    have : p = n := by omega
    subst this
    unfold f12_stray_l22 f12_people
    have c := hs.1.2.2.2.1
    simp (disch := first | assumption | omega) only [q_lit, Int32.neg_neg, nI_add, pk_mul, q_sub, q_addn, q_nadd, q_lt, q_le, q_eq, q_eqn, q_neq, q_nen, q_ltn, q_nlt, q_len, q_nle, q_nltn, q_nlen, q_cl, q_ib, q_ibn, q_isz0, q_isz1, q_iszb, q_b0, q_b1, q_ng1, q_ng2, q_ng3, q_ng4, q_ng5, q_ng6, Bool.toNat_true, Bool.toNat_false, if_pos, if_neg, q_ct, q_cf, q_let, q_bd, q_it, q_if, Nat.zero_add, Nat.add_zero, true_and, and_true, false_and, and_false, or_false, false_or, or_true, true_or, Bool.true_eq_false, Bool.false_eq_true, wi_s, wi_o, wi_r, c]
  | r + 1, p, f + 1, e, hf => by
    have hn := hs.1.1
    have ih := m_own_l hs hh hw r (p + 1) f (by omega) (by omega)
    have c := hs.1.2.2.2.1
    have e1 := m_holds (K := K) (show p < 6 by omega) hh
    have fl : ∀ b : Bool, (b = true → hP (K.1 2) p 0 h = false) → f12_stray_l60 K (f12_stray_l22 K f) 10000 (nI h) (nI w) (nI (q_bs (q_own (K.1 2) h w n) p)) (nI p) (nI b.toNat) (nI 0) = f12_stray_j133 K (f12_stray_l22 K f) (nI h) (nI w) (nI (q_bs (q_own (K.1 2) h w n) p)) (nI p) (nI (b && q_al (q_fit (K.1 2) h w p) n).toNat) := by
      intro b hb
      rw [← q_af_al]
      exact m_fit_l hs hh hw (by omega) (f12_stray_l22 K f) _ n 0 10000 b hb (by omega) (by omega)
    have stay : q_own (K.1 2) h w n p = false → f12_stray_l22 K f (nI h) (nI w) (nI (q_bs (q_own (K.1 2) h w n) p)) (nI (p + 1)) = some (nI (q_bs (q_own (K.1 2) h w n) n)) := by
      intro q; rw [q_bs_step.2 q]; exact ih
    have no : q_own (K.1 2) h w n p = false → f12_stray_j133 K (f12_stray_l22 K f) (nI h) (nI w) (nI (q_bs (q_own (K.1 2) h w n) p)) (nI p) (nI 0) = some (nI (q_bs (q_own (K.1 2) h w n) n)) := by
      intro q
      have := stay q
      unfold f12_stray_j133 f12_stray_j147
      simp (disch := first | assumption | omega) only [q_lit, Int32.neg_neg, nI_add, pk_mul, q_sub, q_addn, q_nadd, q_lt, q_le, q_eq, q_eqn, q_neq, q_nen, q_ltn, q_nlt, q_len, q_nle, q_nltn, q_nlen, q_cl, q_ib, q_ibn, q_isz0, q_isz1, q_iszb, q_b0, q_b1, q_ng1, q_ng2, q_ng3, q_ng4, q_ng5, q_ng6, Bool.toNat_true, Bool.toNat_false, if_pos, if_neg, q_ct, q_cf, q_let, q_bd, q_it, q_if, Nat.zero_add, Nat.add_zero, true_and, and_true, false_and, and_false, or_false, false_or, or_true, true_or, Bool.true_eq_false, Bool.false_eq_true, wi_s, wi_o, wi_r, q_or, Nat.or_zero]
      exact this
    unfold f12_stray_l22 f12_people f12_stray_j54 f12_stray_j55
    have f0 := fl false (fun e => nomatch e)
    simp (disch := first | assumption | omega) only [q_lit, Int32.neg_neg, nI_add, pk_mul, q_sub, q_addn, q_nadd, q_lt, q_le, q_eq, q_eqn, q_neq, q_nen, q_ltn, q_nlt, q_len, q_nle, q_nltn, q_nlen, q_cl, q_ib, q_ibn, q_isz0, q_isz1, q_iszb, q_b0, q_b1, q_ng1, q_ng2, q_ng3, q_ng4, q_ng5, q_ng6, Bool.toNat_true, Bool.toNat_false, if_pos, if_neg, q_ct, q_cf, q_let, q_bd, q_it, q_if, Nat.zero_add, Nat.add_zero, true_and, and_true, false_and, and_false, or_false, false_or, or_true, true_or, Bool.true_eq_false, Bool.false_eq_true, wi_s, wi_o, wi_r, Bool.false_and] at f0
    cases b1 : hP (K.1 2) p 0 h
    · cases b2 : w.testBit p
      · have f1 := fl true (fun _ => b1)
        simp (disch := first | assumption | omega) only [q_lit, Int32.neg_neg, nI_add, pk_mul, q_sub, q_addn, q_nadd, q_lt, q_le, q_eq, q_eqn, q_neq, q_nen, q_ltn, q_nlt, q_len, q_nle, q_nltn, q_nlen, q_cl, q_ib, q_ibn, q_isz0, q_isz1, q_iszb, q_b0, q_b1, q_ng1, q_ng2, q_ng3, q_ng4, q_ng5, q_ng6, Bool.toNat_true, Bool.toNat_false, if_pos, if_neg, q_ct, q_cf, q_let, q_bd, q_it, q_if, Nat.zero_add, Nat.add_zero, true_and, and_true, false_and, and_false, or_false, false_or, or_true, true_or, Bool.true_eq_false, Bool.false_eq_true, wi_s, wi_o, wi_r, Bool.true_and] at f1
        cases b3 : q_al (q_fit (K.1 2) h w p) n
        · have nn := no (by unfold q_own; rw [b1, b2, b3]; rfl)
          rw [b3] at f1
          simp (disch := first | assumption | omega) only [q_lit, Int32.neg_neg, nI_add, pk_mul, q_sub, q_addn, q_nadd, q_lt, q_le, q_eq, q_eqn, q_neq, q_nen, q_ltn, q_nlt, q_len, q_nle, q_nltn, q_nlen, q_cl, q_ib, q_ibn, q_isz0, q_isz1, q_iszb, q_b0, q_b1, q_ng1, q_ng2, q_ng3, q_ng4, q_ng5, q_ng6, Bool.toNat_true, Bool.toNat_false, if_pos, if_neg, q_ct, q_cf, q_let, q_bd, q_it, q_if, Nat.zero_add, Nat.add_zero, true_and, and_true, false_and, and_false, or_false, false_or, or_true, true_or, Bool.true_eq_false, Bool.false_eq_true, wi_s, wi_o, wi_r, c, e1, b1, m_bit, b2, f1]
          exact nn
        · have q : q_own (K.1 2) h w n p = true := by unfold q_own; rw [b1, b2, b3]; rfl
          rw [b3] at f1
          simp (disch := first | assumption | omega) only [q_lit, Int32.neg_neg, nI_add, pk_mul, q_sub, q_addn, q_nadd, q_lt, q_le, q_eq, q_eqn, q_neq, q_nen, q_ltn, q_nlt, q_len, q_nle, q_nltn, q_nlen, q_cl, q_ib, q_ibn, q_isz0, q_isz1, q_iszb, q_b0, q_b1, q_ng1, q_ng2, q_ng3, q_ng4, q_ng5, q_ng6, Bool.toNat_true, Bool.toNat_false, if_pos, if_neg, q_ct, q_cf, q_let, q_bd, q_it, q_if, Nat.zero_add, Nat.add_zero, true_and, and_true, false_and, and_false, or_false, false_or, or_true, true_or, Bool.true_eq_false, Bool.false_eq_true, wi_s, wi_o, wi_r, c, e1, b1, m_bit, b2, f1]
          unfold f12_stray_j133 f12_stray_j147
          simp (disch := first | assumption | omega) only [q_lit, Int32.neg_neg, nI_add, pk_mul, q_sub, q_addn, q_nadd, q_lt, q_le, q_eq, q_eqn, q_neq, q_nen, q_ltn, q_nlt, q_len, q_nle, q_nltn, q_nlen, q_cl, q_ib, q_ibn, q_isz0, q_isz1, q_iszb, q_b0, q_b1, q_ng1, q_ng2, q_ng3, q_ng4, q_ng5, q_ng6, Bool.toNat_true, Bool.toNat_false, if_pos, if_neg, q_ct, q_cf, q_let, q_bd, q_it, q_if, Nat.zero_add, Nat.add_zero, true_and, and_true, false_and, and_false, or_false, false_or, or_true, true_or, Bool.true_eq_false, Bool.false_eq_true, wi_s, wi_o, wi_r, q_1sl, q_or]
          rw [q_bs_step.1 q]
          exact ih
      · have nn := no (by unfold q_own; rw [b1, b2]; rfl)
        simp (disch := first | assumption | omega) only [q_lit, Int32.neg_neg, nI_add, pk_mul, q_sub, q_addn, q_nadd, q_lt, q_le, q_eq, q_eqn, q_neq, q_nen, q_ltn, q_nlt, q_len, q_nle, q_nltn, q_nlen, q_cl, q_ib, q_ibn, q_isz0, q_isz1, q_iszb, q_b0, q_b1, q_ng1, q_ng2, q_ng3, q_ng4, q_ng5, q_ng6, Bool.toNat_true, Bool.toNat_false, if_pos, if_neg, q_ct, q_cf, q_let, q_bd, q_it, q_if, Nat.zero_add, Nat.add_zero, true_and, and_true, false_and, and_false, or_false, false_or, or_true, true_or, Bool.true_eq_false, Bool.false_eq_true, wi_s, wi_o, wi_r, c, e1, b1, m_bit, b2, f0]
        exact nn
    · have nn := no (by unfold q_own; rw [b1]; rfl)
      simp (disch := first | assumption | omega) only [q_lit, Int32.neg_neg, nI_add, pk_mul, q_sub, q_addn, q_nadd, q_lt, q_le, q_eq, q_eqn, q_neq, q_nen, q_ltn, q_nlt, q_len, q_nle, q_nltn, q_nlen, q_cl, q_ib, q_ibn, q_isz0, q_isz1, q_iszb, q_b0, q_b1, q_ng1, q_ng2, q_ng3, q_ng4, q_ng5, q_ng6, Bool.toNat_true, Bool.toNat_false, if_pos, if_neg, q_ct, q_cf, q_let, q_bd, q_it, q_if, Nat.zero_add, Nat.add_zero, true_and, and_true, false_and, and_false, or_false, false_or, or_true, true_or, Bool.true_eq_false, Bool.false_eq_true, wi_s, wi_o, wi_r, c, e1, b1, f0]
      exact nn
theorem d_ppl (S : ph_Sh) {X K : ph_Mem} {n : Nat} (hX : X.1 11 1 = nI n) (hK : K.1 2 475 = nI n) (hn : n ≤ 6) (z : Int32) : ∃ b : Bool, f9_arePeople S X 11 z = some (nI b.toNat) ∧ f12_areThere K z = some (nI b.toNat) ∧ (b = true → ∃ w : Nat, w < 64 ∧ w < 2 ^ n ∧ z = nI w) := by
  obtain ⟨p1, p2⟩ := q_p6 hn
  unfold f9_arePeople f12_areThere f12_people
  rw [hX, hK]
  rcases q_rng z (2 ^ n - 1) with ⟨j, hj, hj', rfl⟩ | g1 | ⟨j, hj, hj', rfl⟩
  · exact ⟨true, by simp (disch := first | assumption | omega) only [q_lit, Int32.neg_neg, nI_add, pk_mul, q_sub, q_addn, q_nadd, q_lt, q_le, q_eq, q_eqn, q_neq, q_nen, q_ltn, q_nlt, q_len, q_nle, q_nltn, q_nlen, q_cl, q_ib, q_ibn, q_isz0, q_isz1, q_iszb, q_b0, q_b1, q_ng1, q_ng2, q_ng3, q_ng4, q_ng5, q_ng6, Bool.toNat_true, Bool.toNat_false, if_pos, if_neg, q_ct, q_cf, q_let, q_bd, q_it, q_if, Nat.zero_add, Nat.add_zero, true_and, and_true, false_and, and_false, or_false, false_or, or_true, true_or, Bool.true_eq_false, Bool.false_eq_true, wi_s, wi_o, wi_r, q_1sl], by simp (disch := first | assumption | omega) only [q_lit, Int32.neg_neg, nI_add, pk_mul, q_sub, q_addn, q_nadd, q_lt, q_le, q_eq, q_eqn, q_neq, q_nen, q_ltn, q_nlt, q_len, q_nle, q_nltn, q_nlen, q_cl, q_ib, q_ibn, q_isz0, q_isz1, q_iszb, q_b0, q_b1, q_ng1, q_ng2, q_ng3, q_ng4, q_ng5, q_ng6, Bool.toNat_true, Bool.toNat_false, if_pos, if_neg, q_ct, q_cf, q_let, q_bd, q_it, q_if, Nat.zero_add, Nat.add_zero, true_and, and_true, false_and, and_false, or_false, false_or, or_true, true_or, Bool.true_eq_false, Bool.false_eq_true, wi_s, wi_o, wi_r, q_1sl, m_wi], fun _ => ⟨j, by omega, by omega, rfl⟩⟩
  · exact ⟨false, by simp (disch := first | assumption | omega) only [q_lit, Int32.neg_neg, nI_add, pk_mul, q_sub, q_addn, q_nadd, q_lt, q_le, q_eq, q_eqn, q_neq, q_nen, q_ltn, q_nlt, q_len, q_nle, q_nltn, q_nlen, q_cl, q_ib, q_ibn, q_isz0, q_isz1, q_iszb, q_b0, q_b1, q_ng1, q_ng2, q_ng3, q_ng4, q_ng5, q_ng6, Bool.toNat_true, Bool.toNat_false, if_pos, if_neg, q_ct, q_cf, q_let, q_bd, q_it, q_if, Nat.zero_add, Nat.add_zero, true_and, and_true, false_and, and_false, or_false, false_or, or_true, true_or, Bool.true_eq_false, Bool.false_eq_true, wi_s, wi_o, wi_r, q_1sl], by simp (disch := first | assumption | omega) only [q_lit, Int32.neg_neg, nI_add, pk_mul, q_sub, q_addn, q_nadd, q_lt, q_le, q_eq, q_eqn, q_neq, q_nen, q_ltn, q_nlt, q_len, q_nle, q_nltn, q_nlen, q_cl, q_ib, q_ibn, q_isz0, q_isz1, q_iszb, q_b0, q_b1, q_ng1, q_ng2, q_ng3, q_ng4, q_ng5, q_ng6, Bool.toNat_true, Bool.toNat_false, if_pos, if_neg, q_ct, q_cf, q_let, q_bd, q_it, q_if, Nat.zero_add, Nat.add_zero, true_and, and_true, false_and, and_false, or_false, false_or, or_true, true_or, Bool.true_eq_false, Bool.false_eq_true, wi_s, wi_o, wi_r, q_1sl, m_wn], fun e => nomatch e⟩
  · exact ⟨false, by simp (disch := first | assumption | omega) only [q_lit, Int32.neg_neg, nI_add, pk_mul, q_sub, q_addn, q_nadd, q_lt, q_le, q_eq, q_eqn, q_neq, q_nen, q_ltn, q_nlt, q_len, q_nle, q_nltn, q_nlen, q_cl, q_ib, q_ibn, q_isz0, q_isz1, q_iszb, q_b0, q_b1, q_ng1, q_ng2, q_ng3, q_ng4, q_ng5, q_ng6, Bool.toNat_true, Bool.toNat_false, if_pos, if_neg, q_ct, q_cf, q_let, q_bd, q_it, q_if, Nat.zero_add, Nat.add_zero, true_and, and_true, false_and, and_false, or_false, false_or, or_true, true_or, Bool.true_eq_false, Bool.false_eq_true, wi_s, wi_o, wi_r, q_1sl], by simp (disch := first | assumption | omega) only [q_lit, Int32.neg_neg, nI_add, pk_mul, q_sub, q_addn, q_nadd, q_lt, q_le, q_eq, q_eqn, q_neq, q_nen, q_ltn, q_nlt, q_len, q_nle, q_nltn, q_nlen, q_cl, q_ib, q_ibn, q_isz0, q_isz1, q_iszb, q_b0, q_b1, q_ng1, q_ng2, q_ng3, q_ng4, q_ng5, q_ng6, Bool.toNat_true, Bool.toNat_false, if_pos, if_neg, q_ct, q_cf, q_let, q_bd, q_it, q_if, Nat.zero_add, Nat.add_zero, true_and, and_true, false_and, and_false, or_false, false_or, or_true, true_or, Bool.true_eq_false, Bool.false_eq_true, wi_s, wi_o, wi_r, q_1sl, m_wo], fun e => nomatch e⟩
theorem s_stray {RL : rLT} : lws_stray (Rel RL) := by
  intro S X K h a1 a2
  obtain ⟨n, t, hs, hl⟩ := h.2.2.2.2.2
  have hn := hs.1.1
  unfold f11_stray f12_stray
  obtain ⟨b, e1, e2, e3⟩ := d_hour S X K a1
  cases b
  · simp (disch := first | assumption | omega) only [q_lit, Int32.neg_neg, nI_add, pk_mul, q_sub, q_addn, q_nadd, q_lt, q_le, q_eq, q_eqn, q_neq, q_nen, q_ltn, q_nlt, q_len, q_nle, q_nltn, q_nlen, q_cl, q_ib, q_ibn, q_isz0, q_isz1, q_iszb, q_b0, q_b1, q_ng1, q_ng2, q_ng3, q_ng4, q_ng5, q_ng6, Bool.toNat_true, Bool.toNat_false, if_pos, if_neg, q_ct, q_cf, q_let, q_bd, q_it, q_if, Nat.zero_add, Nat.add_zero, true_and, and_true, false_and, and_false, or_false, false_or, or_true, true_or, Bool.true_eq_false, Bool.false_eq_true, wi_s, wi_o, wi_r, e1, e2]
    exact ⟨_, rfl, rfl, h⟩
  obtain ⟨hh, hh1, rfl⟩ := e3 rfl
  obtain ⟨b, f1, f2, f3⟩ := d_ppl S hs.1.2.2.1 hs.1.2.2.2.1 hn a2
  cases b
  · simp (disch := first | assumption | omega) only [q_lit, Int32.neg_neg, nI_add, pk_mul, q_sub, q_addn, q_nadd, q_lt, q_le, q_eq, q_eqn, q_neq, q_nen, q_ltn, q_nlt, q_len, q_nle, q_nltn, q_nlen, q_cl, q_ib, q_ibn, q_isz0, q_isz1, q_iszb, q_b0, q_b1, q_ng1, q_ng2, q_ng3, q_ng4, q_ng5, q_ng6, Bool.toNat_true, Bool.toNat_false, if_pos, if_neg, q_ct, q_cf, q_let, q_bd, q_it, q_if, Nat.zero_add, Nat.add_zero, true_and, and_true, false_and, and_false, or_false, false_or, or_true, true_or, Bool.true_eq_false, Bool.false_eq_true, wi_s, wi_o, wi_r, e1, e2, f1, f2]
    exact ⟨_, rfl, rfl, h⟩
  obtain ⟨w, w1, w2, rfl⟩ := f3 rfl
  have x1 : f0_ownersOfStray S X (nI hh) (nI w) = some (nI (q_bs (q_own (K.1 2) hh w n) n)) := x_own_l hs hh1 w1 n 0 10000 (by omega) (by omega)
  have m1 : f12_stray_l22 K 10000 (nI hh) (nI w) (nI 0) (nI 0) = some (nI (q_bs (q_own (K.1 2) hh w n) n)) := m_own_l hs hh1 w1 n 0 10000 (by omega) (by omega)
  simp (disch := first | assumption | omega) only [q_lit, Int32.neg_neg, nI_add, pk_mul, q_sub, q_addn, q_nadd, q_lt, q_le, q_eq, q_eqn, q_neq, q_nen, q_ltn, q_nlt, q_len, q_nle, q_nltn, q_nlen, q_cl, q_ib, q_ibn, q_isz0, q_isz1, q_iszb, q_b0, q_b1, q_ng1, q_ng2, q_ng3, q_ng4, q_ng5, q_ng6, Bool.toNat_true, Bool.toNat_false, if_pos, if_neg, q_ct, q_cf, q_let, q_bd, q_it, q_if, Nat.zero_add, Nat.add_zero, true_and, and_true, false_and, and_false, or_false, false_or, or_true, true_or, Bool.true_eq_false, Bool.false_eq_true, wi_s, wi_o, wi_r, e1, e2, f1, f2, x1, m1]
  exact ⟨_, rfl, rfl, h⟩
