/-! PURE HALF: deep, the model's side -/
def q_tg (g : Nat → Int32) (a b h : Nat) : Bool := decide (a = b) || q_met g a b h
def q_kt (g : Nat → Int32) (lj : Nat → Nat → Nat) (f a b : Nat) : Bool := q_kw g f a && q_kw g f b && q_tg g a b (lj b f)
def q_ktt (g : Nat → Int32) (lj : Nat → Nat → Nat) (f a b c : Nat) : Bool := q_kw g f a && q_kw g f b && q_kw g f c && q_tg g a c (lj c f) && q_tg g b c (lj c f) && q_tg g a b (lj c f)
theorem m_kt {RL : rLT} {S : ph_Sh} {X M : ph_Mem} {n t a b f : Nat} {lj : Nat → Nat → Nat} (hs : rSt RL S X 11 (M.1 2) n t) (ha : a < n) (hb : b < n) (hf : f < 8) (hla : ∀ p, p < n → q_laid M (M.1 2) p) (hlj : ∀ p f, p < n → f < 8 → q_kw (M.1 2) f p = true → lj p f < 12 ∧ M.1 15 (8 * p + f) = nI (lj p f)) : f12_knowsThat M (nI a) (nI b) (nI f) = some (nI (q_kt (M.1 2) lj f a b).toNat) := by
  have hn := hs.1.1
  have d1 := m_doKnow (f := f) (show a < 6 by omega) hf (rSt_rd hs ha).2.2 (hla a ha)
  have d2 := m_doKnow (f := f) (show b < 6 by omega) hf (rSt_rd hs hb).2.2 (hla b hb)
  unfold f12_knowsThat q_kt
  cases e1 : q_kw (M.1 2) f a
  · have e1' : (q_kn (M.1 2) a (hP (M.1 2) a 0) 12).testBit f = false := e1
    simp (disch := first | assumption | omega) only [q_lit, Int32.neg_neg, nI_add, pk_mul, q_sub, q_addn, q_nadd, q_lt, q_le, q_eq, q_eqn, q_neq, q_nen, q_ltn, q_nlt, q_len, q_nle, q_nltn, q_nlen, q_cl, q_ib, q_ibn, q_isz0, q_isz1, q_iszb, q_b0, q_b1, q_ng1, q_ng2, q_ng3, q_ng4, q_ng5, q_ng6, Bool.toNat_true, Bool.toNat_false, if_pos, if_neg, q_ct, q_cf, q_let, q_bd, q_it, q_if, Nat.zero_add, Nat.add_zero, true_and, and_true, false_and, and_false, or_false, false_or, or_true, true_or, Bool.true_eq_false, Bool.false_eq_true, wi_s, wi_o, wi_r, d1, e1', Bool.false_and]
  · have e1' : (q_kn (M.1 2) a (hP (M.1 2) a 0) 12).testBit f = true := e1
    cases e2 : q_kw (M.1 2) f b
    · have e2' : (q_kn (M.1 2) b (hP (M.1 2) b 0) 12).testBit f = false := e2
      simp (disch := first | assumption | omega) only [q_lit, Int32.neg_neg, nI_add, pk_mul, q_sub, q_addn, q_nadd, q_lt, q_le, q_eq, q_eqn, q_neq, q_nen, q_ltn, q_nlt, q_len, q_nle, q_nltn, q_nlen, q_cl, q_ib, q_ibn, q_isz0, q_isz1, q_iszb, q_b0, q_b1, q_ng1, q_ng2, q_ng3, q_ng4, q_ng5, q_ng6, Bool.toNat_true, Bool.toNat_false, if_pos, if_neg, q_ct, q_cf, q_let, q_bd, q_it, q_if, Nat.zero_add, Nat.add_zero, true_and, and_true, false_and, and_false, or_false, false_or, or_true, true_or, Bool.true_eq_false, Bool.false_eq_true, wi_s, wi_o, wi_r, d1, e1', d2, e2', Bool.false_and, Bool.true_and]
    · have e2' : (q_kn (M.1 2) b (hP (M.1 2) b 0) 12).testBit f = true := e2
      obtain ⟨l1, l2⟩ := hlj b f hb hf e2
      have tg := m_tgt hs ha hb l1
      unfold q_tg
      cases e3 : (decide (a = b) || q_met (M.1 2) a b (lj b f))
      · rw [e3] at tg
        simp (disch := first | assumption | omega) only [q_lit, Int32.neg_neg, nI_add, pk_mul, q_sub, q_addn, q_nadd, q_lt, q_le, q_eq, q_eqn, q_neq, q_nen, q_ltn, q_nlt, q_len, q_nle, q_nltn, q_nlen, q_cl, q_ib, q_ibn, q_isz0, q_isz1, q_iszb, q_b0, q_b1, q_ng1, q_ng2, q_ng3, q_ng4, q_ng5, q_ng6, Bool.toNat_true, Bool.toNat_false, if_pos, if_neg, q_ct, q_cf, q_let, q_bd, q_it, q_if, Nat.zero_add, Nat.add_zero, true_and, and_true, false_and, and_false, or_false, false_or, or_true, true_or, Bool.true_eq_false, Bool.false_eq_true, wi_s, wi_o, wi_r, d1, e1', d2, e2', l2, tg, Bool.true_and]
      · rw [e3] at tg
        simp (disch := first | assumption | omega) only [q_lit, Int32.neg_neg, nI_add, pk_mul, q_sub, q_addn, q_nadd, q_lt, q_le, q_eq, q_eqn, q_neq, q_nen, q_ltn, q_nlt, q_len, q_nle, q_nltn, q_nlen, q_cl, q_ib, q_ibn, q_isz0, q_isz1, q_iszb, q_b0, q_b1, q_ng1, q_ng2, q_ng3, q_ng4, q_ng5, q_ng6, Bool.toNat_true, Bool.toNat_false, if_pos, if_neg, q_ct, q_cf, q_let, q_bd, q_it, q_if, Nat.zero_add, Nat.add_zero, true_and, and_true, false_and, and_false, or_false, false_or, or_true, true_or, Bool.true_eq_false, Bool.false_eq_true, wi_s, wi_o, wi_r, d1, e1', d2, e2', l2, tg, Bool.true_and]
theorem m_ktt {RL : rLT} {S : ph_Sh} {X M : ph_Mem} {n t a b c f : Nat} {lj : Nat → Nat → Nat} (hs : rSt RL S X 11 (M.1 2) n t) (ha : a < n) (hb : b < n) (hc : c < n) (hf : f < 8) (hla : ∀ p, p < n → q_laid M (M.1 2) p) (hlj : ∀ p f, p < n → f < 8 → q_kw (M.1 2) f p = true → lj p f < 12 ∧ M.1 15 (8 * p + f) = nI (lj p f)) : f12_knowsThatThat M (nI a) (nI b) (nI c) (nI f) = some (nI (q_ktt (M.1 2) lj f a b c).toNat) := by
  have hn := hs.1.1
  have d1 := m_doKnow (f := f) (show a < 6 by omega) hf (rSt_rd hs ha).2.2 (hla a ha)
  have d2 := m_doKnow (f := f) (show b < 6 by omega) hf (rSt_rd hs hb).2.2 (hla b hb)
  have d3 := m_doKnow (f := f) (show c < 6 by omega) hf (rSt_rd hs hc).2.2 (hla c hc)
  unfold f12_knowsThatThat q_ktt
  cases e1 : q_kw (M.1 2) f a
  · have e1' : (q_kn (M.1 2) a (hP (M.1 2) a 0) 12).testBit f = false := e1
    simp (disch := first | assumption | omega) only [q_lit, Int32.neg_neg, nI_add, pk_mul, q_sub, q_addn, q_nadd, q_lt, q_le, q_eq, q_eqn, q_neq, q_nen, q_ltn, q_nlt, q_len, q_nle, q_nltn, q_nlen, q_cl, q_ib, q_ibn, q_isz0, q_isz1, q_iszb, q_b0, q_b1, q_ng1, q_ng2, q_ng3, q_ng4, q_ng5, q_ng6, Bool.toNat_true, Bool.toNat_false, if_pos, if_neg, q_ct, q_cf, q_let, q_bd, q_it, q_if, Nat.zero_add, Nat.add_zero, true_and, and_true, false_and, and_false, or_false, false_or, or_true, true_or, Bool.true_eq_false, Bool.false_eq_true, wi_s, wi_o, wi_r, d1, e1', Bool.false_and]
  have e1' : (q_kn (M.1 2) a (hP (M.1 2) a 0) 12).testBit f = true := e1
  cases e2 : q_kw (M.1 2) f b
  · have e2' : (q_kn (M.1 2) b (hP (M.1 2) b 0) 12).testBit f = false := e2
    simp (disch := first | assumption | omega) only [q_lit, Int32.neg_neg, nI_add, pk_mul, q_sub, q_addn, q_nadd, q_lt, q_le, q_eq, q_eqn, q_neq, q_nen, q_ltn, q_nlt, q_len, q_nle, q_nltn, q_nlen, q_cl, q_ib, q_ibn, q_isz0, q_isz1, q_iszb, q_b0, q_b1, q_ng1, q_ng2, q_ng3, q_ng4, q_ng5, q_ng6, Bool.toNat_true, Bool.toNat_false, if_pos, if_neg, q_ct, q_cf, q_let, q_bd, q_it, q_if, Nat.zero_add, Nat.add_zero, true_and, and_true, false_and, and_false, or_false, false_or, or_true, true_or, Bool.true_eq_false, Bool.false_eq_true, wi_s, wi_o, wi_r, d1, e1', d2, e2', Bool.false_and, Bool.true_and]
  have e2' : (q_kn (M.1 2) b (hP (M.1 2) b 0) 12).testBit f = true := e2
  cases e3 : q_kw (M.1 2) f c
  · have e3' : (q_kn (M.1 2) c (hP (M.1 2) c 0) 12).testBit f = false := e3
    simp (disch := first | assumption | omega) only [q_lit, Int32.neg_neg, nI_add, pk_mul, q_sub, q_addn, q_nadd, q_lt, q_le, q_eq, q_eqn, q_neq, q_nen, q_ltn, q_nlt, q_len, q_nle, q_nltn, q_nlen, q_cl, q_ib, q_ibn, q_isz0, q_isz1, q_iszb, q_b0, q_b1, q_ng1, q_ng2, q_ng3, q_ng4, q_ng5, q_ng6, Bool.toNat_true, Bool.toNat_false, if_pos, if_neg, q_ct, q_cf, q_let, q_bd, q_it, q_if, Nat.zero_add, Nat.add_zero, true_and, and_true, false_and, and_false, or_false, false_or, or_true, true_or, Bool.true_eq_false, Bool.false_eq_true, wi_s, wi_o, wi_r, d1, e1', d2, e2', d3, e3', Bool.false_and, Bool.true_and]
  have e3' : (q_kn (M.1 2) c (hP (M.1 2) c 0) 12).testBit f = true := e3
  obtain ⟨l1, l2⟩ := hlj c f hc hf e3
  have t1 := m_tgt hs ha hc l1
  have t2 := m_tgt hs hb hc l1
  have t3 := m_tgt hs ha hb l1
  unfold q_tg
  cases e4 : (decide (a = c) || q_met (M.1 2) a c (lj c f))
  · rw [e4] at t1
    simp (disch := first | assumption | omega) only [q_lit, Int32.neg_neg, nI_add, pk_mul, q_sub, q_addn, q_nadd, q_lt, q_le, q_eq, q_eqn, q_neq, q_nen, q_ltn, q_nlt, q_len, q_nle, q_nltn, q_nlen, q_cl, q_ib, q_ibn, q_isz0, q_isz1, q_iszb, q_b0, q_b1, q_ng1, q_ng2, q_ng3, q_ng4, q_ng5, q_ng6, Bool.toNat_true, Bool.toNat_false, if_pos, if_neg, q_ct, q_cf, q_let, q_bd, q_it, q_if, Nat.zero_add, Nat.add_zero, true_and, and_true, false_and, and_false, or_false, false_or, or_true, true_or, Bool.true_eq_false, Bool.false_eq_true, wi_s, wi_o, wi_r, d1, e1', d2, e2', d3, e3', l2, t1, Bool.false_and, Bool.true_and]
  rw [e4] at t1
  cases e5 : (decide (b = c) || q_met (M.1 2) b c (lj c f))
  · rw [e5] at t2
    simp (disch := first | assumption | omega) only [q_lit, Int32.neg_neg, nI_add, pk_mul, q_sub, q_addn, q_nadd, q_lt, q_le, q_eq, q_eqn, q_neq, q_nen, q_ltn, q_nlt, q_len, q_nle, q_nltn, q_nlen, q_cl, q_ib, q_ibn, q_isz0, q_isz1, q_iszb, q_b0, q_b1, q_ng1, q_ng2, q_ng3, q_ng4, q_ng5, q_ng6, Bool.toNat_true, Bool.toNat_false, if_pos, if_neg, q_ct, q_cf, q_let, q_bd, q_it, q_if, Nat.zero_add, Nat.add_zero, true_and, and_true, false_and, and_false, or_false, false_or, or_true, true_or, Bool.true_eq_false, Bool.false_eq_true, wi_s, wi_o, wi_r, d1, e1', d2, e2', d3, e3', l2, t1, t2, Bool.false_and, Bool.true_and]
  rw [e5] at t2
  cases e6 : (decide (a = b) || q_met (M.1 2) a b (lj c f))
  · rw [e6] at t3
    simp (disch := first | assumption | omega) only [q_lit, Int32.neg_neg, nI_add, pk_mul, q_sub, q_addn, q_nadd, q_lt, q_le, q_eq, q_eqn, q_neq, q_nen, q_ltn, q_nlt, q_len, q_nle, q_nltn, q_nlen, q_cl, q_ib, q_ibn, q_isz0, q_isz1, q_iszb, q_b0, q_b1, q_ng1, q_ng2, q_ng3, q_ng4, q_ng5, q_ng6, Bool.toNat_true, Bool.toNat_false, if_pos, if_neg, q_ct, q_cf, q_let, q_bd, q_it, q_if, Nat.zero_add, Nat.add_zero, true_and, and_true, false_and, and_false, or_false, false_or, or_true, true_or, Bool.true_eq_false, Bool.false_eq_true, wi_s, wi_o, wi_r, d1, e1', d2, e2', d3, e3', l2, t1, t2, t3, Bool.false_and, Bool.true_and]
  · rw [e6] at t3
    simp (disch := first | assumption | omega) only [q_lit, Int32.neg_neg, nI_add, pk_mul, q_sub, q_addn, q_nadd, q_lt, q_le, q_eq, q_eqn, q_neq, q_nen, q_ltn, q_nlt, q_len, q_nle, q_nltn, q_nlen, q_cl, q_ib, q_ibn, q_isz0, q_isz1, q_iszb, q_b0, q_b1, q_ng1, q_ng2, q_ng3, q_ng4, q_ng5, q_ng6, Bool.toNat_true, Bool.toNat_false, if_pos, if_neg, q_ct, q_cf, q_let, q_bd, q_it, q_if, Nat.zero_add, Nat.add_zero, true_and, and_true, false_and, and_false, or_false, false_or, or_true, true_or, Bool.true_eq_false, Bool.false_eq_true, wi_s, wi_o, wi_r, d1, e1', d2, e2', d3, e3', l2, t1, t2, t3, Bool.false_and, Bool.true_and]
theorem m_dp_c {RL : rLT} {S : ph_Sh} {X M : ph_Mem} {n t a b f d : Nat} {lj : Nat → Nat → Nat} (hs : rSt RL S X 11 (M.1 2) n t) (hd : d < 4) (ha : a < n) (hb : b < n) (hf : f < 8) (hla : ∀ p, p < n → q_laid M (M.1 2) p) (hlj : ∀ p f, p < n → f < 8 → q_kw (M.1 2) f p = true → lj p f < 12 ∧ M.1 15 (8 * p + f) = nI (lj p f)) (r5 : Int32 → Int32 → Int32 → Int32 → Option Int32) (r37 : Int32 → Int32 → Int32 → Int32 → Int32 → Option Int32) : ∀ (r c fuel : Nat) (fl : Bool), c + r = n → r < fuel → f12_isDeep_l76 M r5 r37 fuel (nI f) (nI d) (nI fl.toNat) (nI a) (nI b) (nI c) = r37 (nI f) (nI d) (nI (fl && (decide (d ≤ 2) || q_af (q_ktt (M.1 2) lj f a b) n c r)).toNat) (nI a) (nI (b + 1))
  | 0, c, f' + 1, fl, e, _ => by
    have hn := hs.1.1
    have hc := hs.1.2.2.2.1
    unfold f12_isDeep_l76 f12_people f12_isDeep_j120
    simp (disch := first | assumption | omega) only [q_lit, Int32.neg_neg, nI_add, pk_mul, q_sub, q_addn, q_nadd, q_lt, q_le, q_eq, q_eqn, q_neq, q_nen, q_ltn, q_nlt, q_len, q_nle, q_nltn, q_nlen, q_cl, q_ib, q_ibn, q_isz0, q_isz1, q_iszb, q_b0, q_b1, q_ng1, q_ng2, q_ng3, q_ng4, q_ng5, q_ng6, Bool.toNat_true, Bool.toNat_false, if_pos, if_neg, q_ct, q_cf, q_let, q_bd, q_it, q_if, Nat.zero_add, Nat.add_zero, true_and, and_true, false_and, and_false, or_false, false_or, or_true, true_or, Bool.true_eq_false, Bool.false_eq_true, wi_s, wi_o, wi_r, hc, q_af, Bool.or_true, Bool.and_true]
  | r + 1, c, f' + 1, fl, e, hf' => by
    have hn := hs.1.1
    have hc := hs.1.2.2.2.1
    have ih := m_dp_c hs hd ha hb hf hla hlj r5 r37 r (c + 1) f'
    by_cases d2 : d ≤ 2
    · unfold f12_isDeep_l76 f12_people f12_isDeep_j120
      simp (disch := first | assumption | omega) only [q_lit, Int32.neg_neg, nI_add, pk_mul, q_sub, q_addn, q_nadd, q_lt, q_le, q_eq, q_eqn, q_neq, q_nen, q_ltn, q_nlt, q_len, q_nle, q_nltn, q_nlen, q_cl, q_ib, q_ibn, q_isz0, q_isz1, q_iszb, q_b0, q_b1, q_ng1, q_ng2, q_ng3, q_ng4, q_ng5, q_ng6, Bool.toNat_true, Bool.toNat_false, if_pos, if_neg, q_ct, q_cf, q_let, q_bd, q_it, q_if, Nat.zero_add, Nat.add_zero, true_and, and_true, false_and, and_false, or_false, false_or, or_true, true_or, Bool.true_eq_false, Bool.false_eq_true, wi_s, wi_o, wi_r, hc, decide_eq_true d2, Bool.true_or, Bool.and_true]
    · have k := m_ktt hs ha hb (show c < n by omega) hf hla hlj
      rw [decide_eq_false d2, Bool.false_or, q_af]
      rw [decide_eq_false d2] at ih
      conv => lhs; unfold f12_isDeep_l76 f12_people f12_isDeep_j112 f12_isDeep_j113
      have i0 := ih false (by omega) (by omega)
      have i1 := ih true (by omega) (by omega)
      simp (disch := first | assumption | omega) only [q_lit, Int32.neg_neg, nI_add, pk_mul, q_sub, q_addn, q_nadd, q_lt, q_le, q_eq, q_eqn, q_neq, q_nen, q_ltn, q_nlt, q_len, q_nle, q_nltn, q_nlen, q_cl, q_ib, q_ibn, q_isz0, q_isz1, q_iszb, q_b0, q_b1, q_ng1, q_ng2, q_ng3, q_ng4, q_ng5, q_ng6, Bool.toNat_true, Bool.toNat_false, if_pos, if_neg, q_ct, q_cf, q_let, q_bd, q_it, q_if, Nat.zero_add, Nat.add_zero, true_and, and_true, false_and, and_false, or_false, false_or, or_true, true_or, Bool.true_eq_false, Bool.false_eq_true, wi_s, wi_o, wi_r, Bool.false_and] at i0
      simp (disch := first | assumption | omega) only [q_lit, Int32.neg_neg, nI_add, pk_mul, q_sub, q_addn, q_nadd, q_lt, q_le, q_eq, q_eqn, q_neq, q_nen, q_ltn, q_nlt, q_len, q_nle, q_nltn, q_nlen, q_cl, q_ib, q_ibn, q_isz0, q_isz1, q_iszb, q_b0, q_b1, q_ng1, q_ng2, q_ng3, q_ng4, q_ng5, q_ng6, Bool.toNat_true, Bool.toNat_false, if_pos, if_neg, q_ct, q_cf, q_let, q_bd, q_it, q_if, Nat.zero_add, Nat.add_zero, true_and, and_true, false_and, and_false, or_false, false_or, or_true, true_or, Bool.true_eq_false, Bool.false_eq_true, wi_s, wi_o, wi_r, Bool.true_and, Bool.false_or] at i1
      cases fl
      · simp (disch := first | assumption | omega) only [q_lit, Int32.neg_neg, nI_add, pk_mul, q_sub, q_addn, q_nadd, q_lt, q_le, q_eq, q_eqn, q_neq, q_nen, q_ltn, q_nlt, q_len, q_nle, q_nltn, q_nlen, q_cl, q_ib, q_ibn, q_isz0, q_isz1, q_iszb, q_b0, q_b1, q_ng1, q_ng2, q_ng3, q_ng4, q_ng5, q_ng6, Bool.toNat_true, Bool.toNat_false, if_pos, if_neg, q_ct, q_cf, q_let, q_bd, q_it, q_if, Nat.zero_add, Nat.add_zero, true_and, and_true, false_and, and_false, or_false, false_or, or_true, true_or, Bool.true_eq_false, Bool.false_eq_true, wi_s, wi_o, wi_r, hc, Bool.false_and]
        exact i0
      · cases e1 : q_ktt (M.1 2) lj f a b c
        · rw [e1] at k
          simp (disch := first | assumption | omega) only [q_lit, Int32.neg_neg, nI_add, pk_mul, q_sub, q_addn, q_nadd, q_lt, q_le, q_eq, q_eqn, q_neq, q_nen, q_ltn, q_nlt, q_len, q_nle, q_nltn, q_nlen, q_cl, q_ib, q_ibn, q_isz0, q_isz1, q_iszb, q_b0, q_b1, q_ng1, q_ng2, q_ng3, q_ng4, q_ng5, q_ng6, Bool.toNat_true, Bool.toNat_false, if_pos, if_neg, q_ct, q_cf, q_let, q_bd, q_it, q_if, Nat.zero_add, Nat.add_zero, true_and, and_true, false_and, and_false, or_false, false_or, or_true, true_or, Bool.true_eq_false, Bool.false_eq_true, wi_s, wi_o, wi_r, hc, k, Bool.false_and, Bool.true_and]
          exact i0
        · rw [e1] at k
          simp (disch := first | assumption | omega) only [q_lit, Int32.neg_neg, nI_add, pk_mul, q_sub, q_addn, q_nadd, q_lt, q_le, q_eq, q_eqn, q_neq, q_nen, q_ltn, q_nlt, q_len, q_nle, q_nltn, q_nlen, q_cl, q_ib, q_ibn, q_isz0, q_isz1, q_iszb, q_b0, q_b1, q_ng1, q_ng2, q_ng3, q_ng4, q_ng5, q_ng6, Bool.toNat_true, Bool.toNat_false, if_pos, if_neg, q_ct, q_cf, q_let, q_bd, q_it, q_if, Nat.zero_add, Nat.add_zero, true_and, and_true, false_and, and_false, or_false, false_or, or_true, true_or, Bool.true_eq_false, Bool.false_eq_true, wi_s, wi_o, wi_r, hc, k, Bool.true_and]
          exact i1
theorem m_dp_b {RL : rLT} {S : ph_Sh} {X M : ph_Mem} {n t a f d : Nat} {lj : Nat → Nat → Nat} (hs : rSt RL S X 11 (M.1 2) n t) (hd : d < 4) (ha : a < n) (hf : f < 8) (hla : ∀ p, p < n → q_laid M (M.1 2) p) (hlj : ∀ p f, p < n → f < 8 → q_kw (M.1 2) f p = true → lj p f < 12 ∧ M.1 15 (8 * p + f) = nI (lj p f)) (r5 : Int32 → Int32 → Int32 → Int32 → Option Int32) : ∀ (r b fuel : Nat) (fl : Bool), b + r = n → r < fuel → f12_isDeep_l37 M r5 fuel (nI f) (nI d) (nI fl.toNat) (nI a) (nI b) = r5 (nI f) (nI d) (nI (fl && (decide (d ≤ 1) || q_af (fun b => q_kt (M.1 2) lj f a b && (decide (d ≤ 2) || q_al (q_ktt (M.1 2) lj f a b) n)) n b r)).toNat) (nI (a + 1))
  | 0, b, f' + 1, fl, e, _ => by
    have hn := hs.1.1
    have hc := hs.1.2.2.2.1
    unfold f12_isDeep_l37 f12_people f12_isDeep_j126
    simp (disch := first | assumption | omega) only [q_lit, Int32.neg_neg, nI_add, pk_mul, q_sub, q_addn, q_nadd, q_lt, q_le, q_eq, q_eqn, q_neq, q_nen, q_ltn, q_nlt, q_len, q_nle, q_nltn, q_nlen, q_cl, q_ib, q_ibn, q_isz0, q_isz1, q_iszb, q_b0, q_b1, q_ng1, q_ng2, q_ng3, q_ng4, q_ng5, q_ng6, Bool.toNat_true, Bool.toNat_false, if_pos, if_neg, q_ct, q_cf, q_let, q_bd, q_it, q_if, Nat.zero_add, Nat.add_zero, true_and, and_true, false_and, and_false, or_false, false_or, or_true, true_or, Bool.true_eq_false, Bool.false_eq_true, wi_s, wi_o, wi_r, hc, q_af, Bool.or_true, Bool.and_true]
  | r + 1, b, f' + 1, fl, e, hf' => by
    have hn := hs.1.1
    have hc := hs.1.2.2.2.1
    have ih := m_dp_b hs hd ha hf hla hlj r5 r (b + 1) f'
    by_cases d1 : d ≤ 1
    · unfold f12_isDeep_l37 f12_people f12_isDeep_j126
      simp (disch := first | assumption | omega) only [q_lit, Int32.neg_neg, nI_add, pk_mul, q_sub, q_addn, q_nadd, q_lt, q_le, q_eq, q_eqn, q_neq, q_nen, q_ltn, q_nlt, q_len, q_nle, q_nltn, q_nlen, q_cl, q_ib, q_ibn, q_isz0, q_isz1, q_iszb, q_b0, q_b1, q_ng1, q_ng2, q_ng3, q_ng4, q_ng5, q_ng6, Bool.toNat_true, Bool.toNat_false, if_pos, if_neg, q_ct, q_cf, q_let, q_bd, q_it, q_if, Nat.zero_add, Nat.add_zero, true_and, and_true, false_and, and_false, or_false, false_or, or_true, true_or, Bool.true_eq_false, Bool.false_eq_true, wi_s, wi_o, wi_r, hc, decide_eq_true d1, Bool.true_or, Bool.and_true]
    · have k := m_kt hs ha (show b < n by omega) hf hla hlj
      have ic := fun fl => m_dp_c hs hd ha (show b < n by omega) hf hla hlj r5 (f12_isDeep_l37 M r5 f') n 0 10000 fl (by omega) (by omega)
      rw [q_af_al] at ic
      rw [decide_eq_false d1, Bool.false_or, q_af]
      rw [decide_eq_false d1] at ih
      conv => lhs; unfold f12_isDeep_l37 f12_people f12_isDeep_j71 f12_isDeep_j72
      have i0 := ic false
      have i1 := ic true
      simp (disch := first | assumption | omega) only [q_lit, Int32.neg_neg, nI_add, pk_mul, q_sub, q_addn, q_nadd, q_lt, q_le, q_eq, q_eqn, q_neq, q_nen, q_ltn, q_nlt, q_len, q_nle, q_nltn, q_nlen, q_cl, q_ib, q_ibn, q_isz0, q_isz1, q_iszb, q_b0, q_b1, q_ng1, q_ng2, q_ng3, q_ng4, q_ng5, q_ng6, Bool.toNat_true, Bool.toNat_false, if_pos, if_neg, q_ct, q_cf, q_let, q_bd, q_it, q_if, Nat.zero_add, Nat.add_zero, true_and, and_true, false_and, and_false, or_false, false_or, or_true, true_or, Bool.true_eq_false, Bool.false_eq_true, wi_s, wi_o, wi_r, Bool.false_and] at i0
      simp (disch := first | assumption | omega) only [q_lit, Int32.neg_neg, nI_add, pk_mul, q_sub, q_addn, q_nadd, q_lt, q_le, q_eq, q_eqn, q_neq, q_nen, q_ltn, q_nlt, q_len, q_nle, q_nltn, q_nlen, q_cl, q_ib, q_ibn, q_isz0, q_isz1, q_iszb, q_b0, q_b1, q_ng1, q_ng2, q_ng3, q_ng4, q_ng5, q_ng6, Bool.toNat_true, Bool.toNat_false, if_pos, if_neg, q_ct, q_cf, q_let, q_bd, q_it, q_if, Nat.zero_add, Nat.add_zero, true_and, and_true, false_and, and_false, or_false, false_or, or_true, true_or, Bool.true_eq_false, Bool.false_eq_true, wi_s, wi_o, wi_r, Bool.true_and] at i1
      have h0 := ih false (by omega) (by omega)
      simp (disch := first | assumption | omega) only [q_lit, Int32.neg_neg, nI_add, pk_mul, q_sub, q_addn, q_nadd, q_lt, q_le, q_eq, q_eqn, q_neq, q_nen, q_ltn, q_nlt, q_len, q_nle, q_nltn, q_nlen, q_cl, q_ib, q_ibn, q_isz0, q_isz1, q_iszb, q_b0, q_b1, q_ng1, q_ng2, q_ng3, q_ng4, q_ng5, q_ng6, Bool.toNat_true, Bool.toNat_false, if_pos, if_neg, q_ct, q_cf, q_let, q_bd, q_it, q_if, Nat.zero_add, Nat.add_zero, true_and, and_true, false_and, and_false, or_false, false_or, or_true, true_or, Bool.true_eq_false, Bool.false_eq_true, wi_s, wi_o, wi_r, Bool.false_and] at h0
      cases fl
      · simp (disch := first | assumption | omega) only [q_lit, Int32.neg_neg, nI_add, pk_mul, q_sub, q_addn, q_nadd, q_lt, q_le, q_eq, q_eqn, q_neq, q_nen, q_ltn, q_nlt, q_len, q_nle, q_nltn, q_nlen, q_cl, q_ib, q_ibn, q_isz0, q_isz1, q_iszb, q_b0, q_b1, q_ng1, q_ng2, q_ng3, q_ng4, q_ng5, q_ng6, Bool.toNat_true, Bool.toNat_false, if_pos, if_neg, q_ct, q_cf, q_let, q_bd, q_it, q_if, Nat.zero_add, Nat.add_zero, true_and, and_true, false_and, and_false, or_false, false_or, or_true, true_or, Bool.true_eq_false, Bool.false_eq_true, wi_s, wi_o, wi_r, hc, i0, Bool.false_and]
        exact h0
      · cases e1 : q_kt (M.1 2) lj f a b
        · rw [e1] at k
          simp (disch := first | assumption | omega) only [q_lit, Int32.neg_neg, nI_add, pk_mul, q_sub, q_addn, q_nadd, q_lt, q_le, q_eq, q_eqn, q_neq, q_nen, q_ltn, q_nlt, q_len, q_nle, q_nltn, q_nlen, q_cl, q_ib, q_ibn, q_isz0, q_isz1, q_iszb, q_b0, q_b1, q_ng1, q_ng2, q_ng3, q_ng4, q_ng5, q_ng6, Bool.toNat_true, Bool.toNat_false, if_pos, if_neg, q_ct, q_cf, q_let, q_bd, q_it, q_if, Nat.zero_add, Nat.add_zero, true_and, and_true, false_and, and_false, or_false, false_or, or_true, true_or, Bool.true_eq_false, Bool.false_eq_true, wi_s, wi_o, wi_r, hc, k, i0, Bool.false_and, Bool.true_and]
          exact h0
        · rw [e1] at k
          have h1 := ih (decide (d ≤ 2) || q_al (q_ktt (M.1 2) lj f a b) n) (by omega) (by omega)
          simp (disch := first | assumption | omega) only [q_lit, Int32.neg_neg, nI_add, pk_mul, q_sub, q_addn, q_nadd, q_lt, q_le, q_eq, q_eqn, q_neq, q_nen, q_ltn, q_nlt, q_len, q_nle, q_nltn, q_nlen, q_cl, q_ib, q_ibn, q_isz0, q_isz1, q_iszb, q_b0, q_b1, q_ng1, q_ng2, q_ng3, q_ng4, q_ng5, q_ng6, Bool.toNat_true, Bool.toNat_false, if_pos, if_neg, q_ct, q_cf, q_let, q_bd, q_it, q_if, Nat.zero_add, Nat.add_zero, true_and, and_true, false_and, and_false, or_false, false_or, or_true, true_or, Bool.true_eq_false, Bool.false_eq_true, wi_s, wi_o, wi_r, hc, k, i1, Bool.true_and]
          rw [h1, Bool.false_or]
theorem m_dp_a {RL : rLT} {S : ph_Sh} {X M : ph_Mem} {n t f d : Nat} {lj : Nat → Nat → Nat} (hs : rSt RL S X 11 (M.1 2) n t) (hd : d < 4) (hf : f < 8) (hla : ∀ p, p < n → q_laid M (M.1 2) p) (hlj : ∀ p f, p < n → f < 8 → q_kw (M.1 2) f p = true → lj p f < 12 ∧ M.1 15 (8 * p + f) = nI (lj p f)) : ∀ (r a fuel : Nat) (fl : Bool), a + r = n → r < fuel → f12_isDeep_l5 M fuel (nI f) (nI d) (nI fl.toNat) (nI a) = some (nI (fl && q_af (fun a => q_kw (M.1 2) f a && (decide (d ≤ 1) || q_al (fun b => q_kt (M.1 2) lj f a b && (decide (d ≤ 2) || q_al (q_ktt (M.1 2) lj f a b) n)) n)) n a r).toNat)
  | 0, a, f' + 1, fl, e, _ => by
    have hn := hs.1.1
    have hc := hs.1.2.2.2.1
    unfold f12_isDeep_l5 f12_people
    simp (disch := first | assumption | omega) only [q_lit, Int32.neg_neg, nI_add, pk_mul, q_sub, q_addn, q_nadd, q_lt, q_le, q_eq, q_eqn, q_neq, q_nen, q_ltn, q_nlt, q_len, q_nle, q_nltn, q_nlen, q_cl, q_ib, q_ibn, q_isz0, q_isz1, q_iszb, q_b0, q_b1, q_ng1, q_ng2, q_ng3, q_ng4, q_ng5, q_ng6, Bool.toNat_true, Bool.toNat_false, if_pos, if_neg, q_ct, q_cf, q_let, q_bd, q_it, q_if, Nat.zero_add, Nat.add_zero, true_and, and_true, false_and, and_false, or_false, false_or, or_true, true_or, Bool.true_eq_false, Bool.false_eq_true, wi_s, wi_o, wi_r, hc, q_af, Bool.and_true]
  | r + 1, a, f' + 1, fl, e, hf' => by
    have hn := hs.1.1
    have hc := hs.1.2.2.2.1
    have ih := m_dp_a hs hd hf hla hlj r (a + 1) f'
    have k := m_doKnow (f := f) (show a < 6 by omega) hf (rSt_rd hs (show a < n by omega)).2.2 (hla a (by omega))
    have ib := fun fl => m_dp_b hs hd (show a < n by omega) hf hla hlj (f12_isDeep_l5 M f') n 0 10000 fl (by omega) (by omega)
    rw [q_af_al] at ib
    rw [q_af]
    conv => lhs; unfold f12_isDeep_l5 f12_people f12_isDeep_j32 f12_isDeep_j33
    have i0 := ib false
    have i1 := ib true
    simp (disch := first | assumption | omega) only [q_lit, Int32.neg_neg, nI_add, pk_mul, q_sub, q_addn, q_nadd, q_lt, q_le, q_eq, q_eqn, q_neq, q_nen, q_ltn, q_nlt, q_len, q_nle, q_nltn, q_nlen, q_cl, q_ib, q_ibn, q_isz0, q_isz1, q_iszb, q_b0, q_b1, q_ng1, q_ng2, q_ng3, q_ng4, q_ng5, q_ng6, Bool.toNat_true, Bool.toNat_false, if_pos, if_neg, q_ct, q_cf, q_let, q_bd, q_it, q_if, Nat.zero_add, Nat.add_zero, true_and, and_true, false_and, and_false, or_false, false_or, or_true, true_or, Bool.true_eq_false, Bool.false_eq_true, wi_s, wi_o, wi_r, Bool.false_and] at i0
    simp (disch := first | assumption | omega) only [q_lit, Int32.neg_neg, nI_add, pk_mul, q_sub, q_addn, q_nadd, q_lt, q_le, q_eq, q_eqn, q_neq, q_nen, q_ltn, q_nlt, q_len, q_nle, q_nltn, q_nlen, q_cl, q_ib, q_ibn, q_isz0, q_isz1, q_iszb, q_b0, q_b1, q_ng1, q_ng2, q_ng3, q_ng4, q_ng5, q_ng6, Bool.toNat_true, Bool.toNat_false, if_pos, if_neg, q_ct, q_cf, q_let, q_bd, q_it, q_if, Nat.zero_add, Nat.add_zero, true_and, and_true, false_and, and_false, or_false, false_or, or_true, true_or, Bool.true_eq_false, Bool.false_eq_true, wi_s, wi_o, wi_r, Bool.true_and] at i1
    have h0 := ih false (by omega) (by omega)
    simp (disch := first | assumption | omega) only [q_lit, Int32.neg_neg, nI_add, pk_mul, q_sub, q_addn, q_nadd, q_lt, q_le, q_eq, q_eqn, q_neq, q_nen, q_ltn, q_nlt, q_len, q_nle, q_nltn, q_nlen, q_cl, q_ib, q_ibn, q_isz0, q_isz1, q_iszb, q_b0, q_b1, q_ng1, q_ng2, q_ng3, q_ng4, q_ng5, q_ng6, Bool.toNat_true, Bool.toNat_false, if_pos, if_neg, q_ct, q_cf, q_let, q_bd, q_it, q_if, Nat.zero_add, Nat.add_zero, true_and, and_true, false_and, and_false, or_false, false_or, or_true, true_or, Bool.true_eq_false, Bool.false_eq_true, wi_s, wi_o, wi_r, Bool.false_and] at h0
    cases fl
    · simp (disch := first | assumption | omega) only [q_lit, Int32.neg_neg, nI_add, pk_mul, q_sub, q_addn, q_nadd, q_lt, q_le, q_eq, q_eqn, q_neq, q_nen, q_ltn, q_nlt, q_len, q_nle, q_nltn, q_nlen, q_cl, q_ib, q_ibn, q_isz0, q_isz1, q_iszb, q_b0, q_b1, q_ng1, q_ng2, q_ng3, q_ng4, q_ng5, q_ng6, Bool.toNat_true, Bool.toNat_false, if_pos, if_neg, q_ct, q_cf, q_let, q_bd, q_it, q_if, Nat.zero_add, Nat.add_zero, true_and, and_true, false_and, and_false, or_false, false_or, or_true, true_or, Bool.true_eq_false, Bool.false_eq_true, wi_s, wi_o, wi_r, hc, i0, Bool.false_and]
      exact h0
    · cases e1 : q_kw (M.1 2) f a
      · have e1' : (q_kn (M.1 2) a (hP (M.1 2) a 0) 12).testBit f = false := e1
        simp (disch := first | assumption | omega) only [q_lit, Int32.neg_neg, nI_add, pk_mul, q_sub, q_addn, q_nadd, q_lt, q_le, q_eq, q_eqn, q_neq, q_nen, q_ltn, q_nlt, q_len, q_nle, q_nltn, q_nlen, q_cl, q_ib, q_ibn, q_isz0, q_isz1, q_iszb, q_b0, q_b1, q_ng1, q_ng2, q_ng3, q_ng4, q_ng5, q_ng6, Bool.toNat_true, Bool.toNat_false, if_pos, if_neg, q_ct, q_cf, q_let, q_bd, q_it, q_if, Nat.zero_add, Nat.add_zero, true_and, and_true, false_and, and_false, or_false, false_or, or_true, true_or, Bool.true_eq_false, Bool.false_eq_true, wi_s, wi_o, wi_r, hc, k, e1', i0, Bool.false_and, Bool.true_and]
        exact h0
      · have e1' : (q_kn (M.1 2) a (hP (M.1 2) a 0) 12).testBit f = true := e1
        have h1 := ih (decide (d ≤ 1) || q_al (fun b => q_kt (M.1 2) lj f a b && (decide (d ≤ 2) || q_al (q_ktt (M.1 2) lj f a b) n)) n) (by omega) (by omega)
        simp (disch := first | assumption | omega) only [q_lit, Int32.neg_neg, nI_add, pk_mul, q_sub, q_addn, q_nadd, q_lt, q_le, q_eq, q_eqn, q_neq, q_nen, q_ltn, q_nlt, q_len, q_nle, q_nltn, q_nlen, q_cl, q_ib, q_ibn, q_isz0, q_isz1, q_iszb, q_b0, q_b1, q_ng1, q_ng2, q_ng3, q_ng4, q_ng5, q_ng6, Bool.toNat_true, Bool.toNat_false, if_pos, if_neg, q_ct, q_cf, q_let, q_bd, q_it, q_if, Nat.zero_add, Nat.add_zero, true_and, and_true, false_and, and_false, or_false, false_or, or_true, true_or, Bool.true_eq_false, Bool.false_eq_true, wi_s, wi_o, wi_r, hc, k, e1', i1, Bool.true_and]
        rw [h1]
/-- both say the same of a fact -/
theorem q_dpe {g : Nat → Int32} {lj : Nat → Nat → Nat} {n d f : Nat} (hd : d < 4) (hd0 : 0 < d) : (q_al (q_kw g f) n && (decide (d ≤ 1) || q_al (fun l => q_ik g lj n d l f) n)) = q_al (fun a => q_kw g f a && (decide (d ≤ 1) || q_al (fun b => q_kt g lj f a b && (decide (d ≤ 2) || q_al (q_ktt g lj f a b) n)) n)) n := by
  have tgc : ∀ a b h, q_tg g a b h = q_tg g b a h := by
    intro a b h
    unfold q_tg
    rw [q_met_c]
    congr 1
    apply decide_eq_decide.mpr
    exact ⟨Eq.symm, Eq.symm⟩
  rw [Bool.eq_iff_iff, Bool.and_eq_true, q_al_iff, q_al_iff]
  by_cases d1 : d ≤ 1
  · simp only [d1, decide_true, Bool.true_or, and_true, Bool.and_true]
  simp only [d1, decide_false, Bool.false_or]
  have ikf : ∀ l, q_ik g lj n d l f = true ↔ ∀ a, a < n → ∀ b, b < a → (2 < d ∨ a = l ∨ b = l) → q_met g a b (lj l f) = true := by
    intro l
    unfold q_ik
    rw [q_al_iff]
    constructor
    · intro q a ha b hb hc
      have := (q_al_iff _ a).mp (q a ha) b hb
      rw [Bool.or_eq_true] at this
      rcases this with z | z
      · exfalso
        simp at z
        omega
      · exact z
    · intro q a ha
      rw [q_al_iff]
      intro b hb
      rw [Bool.or_eq_true]
      by_cases hc : 2 < d ∨ a = l ∨ b = l
      · exact Or.inr (q a ha b hb hc)
      · left
        simp
        omega
  -- any two that matter, in any order
  have ik2 : ∀ l, q_ik g lj n d l f = true → ∀ a b, a < n → b < n → (2 < d ∨ a = l ∨ b = l) → q_tg g a b (lj l f) = true := by
    intro l q a b ha hb hc
    rw [ikf] at q
    rcases Nat.lt_trichotomy a b with h | h | h
    · rw [tgc]
      unfold q_tg
      rw [q b hb a h (by omega), Bool.or_true]
    · subst h
      unfold q_tg
      simp
    · unfold q_tg
      rw [q a ha b h hc, Bool.or_true]
  constructor
  · intro ⟨q1, q2⟩ a ha
    rw [Bool.and_eq_true]
    refine ⟨q1 a ha, ?_⟩
    rw [q_al_iff]
    intro b hb
    rw [Bool.and_eq_true, Bool.or_eq_true]
    have q2' := (q_al_iff _ n).mp q2
    refine ⟨?_, ?_⟩
    · unfold q_kt
      rw [q1 a ha, q1 b hb, ik2 b (q2' b hb) a b ha hb (Or.inr (Or.inr rfl))]
      rfl
    · by_cases d2 : d ≤ 2
      · exact Or.inl (decide_eq_true d2)
      · right
        rw [q_al_iff]
        intro c hc
        unfold q_ktt
        rw [q1 a ha, q1 b hb, q1 c hc, ik2 c (q2' c hc) a c ha hc (Or.inr (Or.inr rfl)), ik2 c (q2' c hc) b c hb hc (Or.inr (Or.inr rfl)), ik2 c (q2' c hc) a b ha hb (Or.inl (by omega))]
        rfl
  · intro q
    have k1 : ∀ a, a < n → q_kw g f a = true := fun a ha => (Bool.and_eq_true _ _ ▸ q a ha : q_kw g f a = true ∧ _).1
    have k2 : ∀ a, a < n → ∀ b, b < n → q_kt g lj f a b = true ∧ (d ≤ 2 ∨ ∀ c, c < n → q_ktt g lj f a b c = true) := by
      intro a ha b hb
      have z := q a ha
      rw [Bool.and_eq_true, q_al_iff] at z
      have z2 := z.2 b hb
      rw [Bool.and_eq_true, Bool.or_eq_true, q_al_iff] at z2
      refine ⟨z2.1, z2.2.imp (fun y => of_decide_eq_true y) id⟩
    refine ⟨k1, ?_⟩
    rw [q_al_iff]
    intro l hl
    rw [ikf]
    intro a ha b hb hc
    have nab : ¬ a = b := by omega
    have fin : q_tg g a b (lj l f) = true → q_met g a b (lj l f) = true := by
      intro z
      unfold q_tg at z
      rw [decide_eq_false nab, Bool.false_or] at z
      exact z
    apply fin
    by_cases d2 : d ≤ 2
    · rcases hc with hc | hc | hc
      · omega
      · subst hc
        have z := (k2 b (by omega) a ha).1
        unfold q_kt at z
        rw [Bool.and_eq_true] at z
        rw [tgc]
        exact z.2
      · subst hc
        have z := (k2 a ha b (by omega)).1
        unfold q_kt at z
        rw [Bool.and_eq_true] at z
        exact z.2
    · rcases (k2 a ha b (by omega)).2 with z | z
      · omega
      · have z1 := z l hl
        unfold q_ktt at z1
        rw [Bool.and_eq_true] at z1
        exact z1.2
theorem m_dp_f {RL : rLT} {S : ph_Sh} {X M : ph_Mem} {n t d : Nat} {lj : Nat → Nat → Nat} (hs : rSt RL S X 11 (M.1 2) n t) (hd : d < 4) (hd0 : 0 < d) (hla : ∀ p, p < n → q_laid M (M.1 2) p) (hlj : ∀ p f, p < n → f < 8 → q_kw (M.1 2) f p = true → lj p f < 12 ∧ M.1 15 (8 * p + f) = nI (lj p f)) (P : Nat → Bool) (hP : ∀ f, f < 8 → P f = (q_al (q_kw (M.1 2) f) n && (decide (d ≤ 1) || q_al (fun l => q_ik (M.1 2) lj n d l f) n))) : ∀ (r f fuel : Nat), f + r = 8 → r < fuel → f12_deep_l26 fuel (nI d) (nI (q_bs P f)) (nI f) M = some (nI (q_bs P 8), M)
  | 0, f, f' + 1, e, _ => by
    have : f = 8 := by omega
    subst this
    unfold f12_deep_l26
    simp (disch := first | assumption | omega) only [q_lit, Int32.neg_neg, nI_add, pk_mul, q_sub, q_addn, q_nadd, q_lt, q_le, q_eq, q_eqn, q_neq, q_nen, q_ltn, q_nlt, q_len, q_nle, q_nltn, q_nlen, q_cl, q_ib, q_ibn, q_isz0, q_isz1, q_iszb, q_b0, q_b1, q_ng1, q_ng2, q_ng3, q_ng4, q_ng5, q_ng6, Bool.toNat_true, Bool.toNat_false, if_pos, if_neg, q_ct, q_cf, q_let, q_bd, q_it, q_if, Nat.zero_add, Nat.add_zero, true_and, and_true, false_and, and_false, or_false, false_or, or_true, true_or, Bool.true_eq_false, Bool.false_eq_true, wi_s, wi_o, wi_r]
  | r + 1, f, f' + 1, e, hf' => by
    have hn := hs.1.1
    have ih := m_dp_f hs hd hd0 hla hlj P hP r (f + 1) f' (by omega) (by omega)
    have ia := m_dp_a hs hd (show f < 8 by omega) hla hlj n 0 10000 true (by omega) (by omega)
    rw [q_af_al, Bool.true_and, ← q_dpe hd hd0, ← hP f (by omega)] at ia
    have ia' : f12_isDeep M (nI f) (nI d) = some (nI (P f).toNat) := ia
    unfold f12_deep_l26 f12_deep_j49
    cases e1 : P f
    · simp (disch := first | assumption | omega) only [q_lit, Int32.neg_neg, nI_add, pk_mul, q_sub, q_addn, q_nadd, q_lt, q_le, q_eq, q_eqn, q_neq, q_nen, q_ltn, q_nlt, q_len, q_nle, q_nltn, q_nlen, q_cl, q_ib, q_ibn, q_isz0, q_isz1, q_iszb, q_b0, q_b1, q_ng1, q_ng2, q_ng3, q_ng4, q_ng5, q_ng6, Bool.toNat_true, Bool.toNat_false, if_pos, if_neg, q_ct, q_cf, q_let, q_bd, q_it, q_if, Nat.zero_add, Nat.add_zero, true_and, and_true, false_and, and_false, or_false, false_or, or_true, true_or, Bool.true_eq_false, Bool.false_eq_true, wi_s, wi_o, wi_r, ia', e1, q_or, Nat.or_zero]
      rw [q_bs_step.2 e1]
      exact ih
    · simp (disch := first | assumption | omega) only [q_lit, Int32.neg_neg, nI_add, pk_mul, q_sub, q_addn, q_nadd, q_lt, q_le, q_eq, q_eqn, q_neq, q_nen, q_ltn, q_nlt, q_len, q_nle, q_nltn, q_nlen, q_cl, q_ib, q_ibn, q_isz0, q_isz1, q_iszb, q_b0, q_b1, q_ng1, q_ng2, q_ng3, q_ng4, q_ng5, q_ng6, Bool.toNat_true, Bool.toNat_false, if_pos, if_neg, q_ct, q_cf, q_let, q_bd, q_it, q_if, Nat.zero_add, Nat.add_zero, true_and, and_true, false_and, and_false, or_false, false_or, or_true, true_or, Bool.true_eq_false, Bool.false_eq_true, wi_s, wi_o, wi_r, ia', e1, q_1sl, q_or]
      rw [q_bs_step.1 e1]
      exact ih
theorem s_deep {RL : rLT} (hRL : rLoc RL) : lws_deep (Rel RL) := by
  intro S X K h a1
  obtain ⟨n, t, hs, hl⟩ := h.2.2.2.2.2
  have hn := hs.1.1
  have c1 := hs.1.2.2.1
  have c2 := hs.1.2.2.2.1
  unfold f11_deep f12_deep f12_people
  rcases q_rng a1 3 with ⟨d, hd, hd', rfl⟩ | hv | ⟨v, hv, hv', rfl⟩
  · by_cases d0 : d = 0
    · subst d0
      have w : f12_within K (nI 0) (nI 1) (nI 3) = some (nI 0) := by unfold f12_within; simp (disch := first | assumption | omega) only [q_lit, Int32.neg_neg, nI_add, pk_mul, q_sub, q_addn, q_nadd, q_lt, q_le, q_eq, q_eqn, q_neq, q_nen, q_ltn, q_nlt, q_len, q_nle, q_nltn, q_nlen, q_cl, q_ib, q_ibn, q_isz0, q_isz1, q_iszb, q_b0, q_b1, q_ng1, q_ng2, q_ng3, q_ng4, q_ng5, q_ng6, Bool.toNat_true, Bool.toNat_false, if_pos, if_neg, q_ct, q_cf, q_let, q_bd, q_it, q_if, Nat.zero_add, Nat.add_zero, true_and, and_true, false_and, and_false, or_false, false_or, or_true, true_or, Bool.true_eq_false, Bool.false_eq_true, wi_s, wi_o, wi_r]
      simp (disch := first | assumption | omega) only [q_lit, Int32.neg_neg, nI_add, pk_mul, q_sub, q_addn, q_nadd, q_lt, q_le, q_eq, q_eqn, q_neq, q_nen, q_ltn, q_nlt, q_len, q_nle, q_nltn, q_nlen, q_cl, q_ib, q_ibn, q_isz0, q_isz1, q_iszb, q_b0, q_b1, q_ng1, q_ng2, q_ng3, q_ng4, q_ng5, q_ng6, Bool.toNat_true, Bool.toNat_false, if_pos, if_neg, q_ct, q_cf, q_let, q_bd, q_it, q_if, Nat.zero_add, Nat.add_zero, true_and, and_true, false_and, and_false, or_false, false_or, or_true, true_or, Bool.true_eq_false, Bool.false_eq_true, wi_s, wi_o, wi_r, w]
      exact ⟨_, _, rfl, rfl, h⟩
    · have w : f12_within K (nI d) (nI 1) (nI 3) = some (nI 1) := by unfold f12_within; simp (disch := first | assumption | omega) only [q_lit, Int32.neg_neg, nI_add, pk_mul, q_sub, q_addn, q_nadd, q_lt, q_le, q_eq, q_eqn, q_neq, q_nen, q_ltn, q_nlt, q_len, q_nle, q_nltn, q_nlen, q_cl, q_ib, q_ibn, q_isz0, q_isz1, q_iszb, q_b0, q_b1, q_ng1, q_ng2, q_ng3, q_ng4, q_ng5, q_ng6, Bool.toNat_true, Bool.toNat_false, if_pos, if_neg, q_ct, q_cf, q_let, q_bd, q_it, q_if, Nat.zero_add, Nat.add_zero, true_and, and_true, false_and, and_false, or_false, false_or, or_true, true_or, Bool.true_eq_false, Bool.false_eq_true, wi_s, wi_o, wi_r]
      by_cases n0 : n = 0
      · subst n0
        simp (disch := first | assumption | omega) only [q_lit, Int32.neg_neg, nI_add, pk_mul, q_sub, q_addn, q_nadd, q_lt, q_le, q_eq, q_eqn, q_neq, q_nen, q_ltn, q_nlt, q_len, q_nle, q_nltn, q_nlen, q_cl, q_ib, q_ibn, q_isz0, q_isz1, q_iszb, q_b0, q_b1, q_ng1, q_ng2, q_ng3, q_ng4, q_ng5, q_ng6, Bool.toNat_true, Bool.toNat_false, if_pos, if_neg, q_ct, q_cf, q_let, q_bd, q_it, q_if, Nat.zero_add, Nat.add_zero, true_and, and_true, false_and, and_false, or_false, false_or, or_true, true_or, Bool.true_eq_false, Bool.false_eq_true, wi_s, wi_o, wi_r, w, c1, c2]
        exact ⟨_, _, rfl, rfl, h⟩
      · obtain ⟨K', k1, k2, k3, k4⟩ := m_lays hn c2 (fun p hp => (rSt_rd hs hp).2.2)
        have rel : Rel RL S X K' := Rel_fr hRL h (fun _ _ _ => rfl) (fun _ _ _ => rfl) (fun c j hc => k3 c j (by unfold rKj at hc; omega) (by unfold rKj at hc; omega))
        have eg : K'.1 2 = K.1 2 := funext fun j => k3 2 j (by omega) (by omega)
        have hs' : rSt RL S X 11 (K'.1 2) n t := by rw [eg]; exact hs
        rw [← eg] at k2
        have hq : ∀ p f, p < n → f < 8 → q_kw (K'.1 2) f p = true → q_lh (K'.1 2) p f (hP (K'.1 2) p 0) ((K'.1 15 (8 * p + f)).toNatClampNeg) ∧ K'.1 15 (8 * p + f) = nI ((K'.1 15 (8 * p + f)).toNatClampNeg) := by
          intro p f hp hf hb
          obtain ⟨j, j1, j2⟩ := (k2 p hp).2 f hf hb
          have j12 := j1.1
          rw [j2, q_cl (by omega)]
          exact ⟨j1, rfl⟩
        obtain ⟨kn, b1, b2, b3⟩ := x_dp_1 (lj := fun p f => (K'.1 15 (8 * p + f)).toNatClampNeg) hs' (show d < 4 by omega) (by omega) (fun p f hp hf hb => (hq p f hp hf hb).1) n 0 10000 255 (by omega) (by omega) (by omega) (fun f hf => by
          have : (255 : Nat) = 2 ^ 8 - 1 := by decide
          rw [this, Nat.testBit_two_pow_sub_one, q_al]
          exact decide_eq_true hf)
        have b2' : f0_factsKnownDeep S X (nI d) = some (nI kn) := b2
        have m2 := m_dp_f (lj := fun p f => (K'.1 15 (8 * p + f)).toNatClampNeg) hs' (show d < 4 by omega) (by omega) k2 (fun p f hp hf hb => ⟨(hq p f hp hf hb).1.1, (hq p f hp hf hb).2⟩) (fun f => kn.testBit f) (fun f hf => b3 f hf) 8 0 10000 (by omega) (by omega)
        have ekn : q_bs (fun f => kn.testBit f) 8 = kn := by
          apply Nat.eq_of_testBit_eq
          intro i
          rw [q_bs_bit]
          by_cases i8 : i < 8
          · rw [decide_eq_true i8, Bool.true_and]
          · rw [decide_eq_false i8, Bool.false_and, Nat.testBit_lt_two_pow (Nat.lt_of_lt_of_le b1 (Nat.pow_le_pow_right (n := 2) (i := 8) (by omega) (by omega)))]
        rw [ekn] at m2
        have m2' : f12_deep_l26 10000 (nI d) (nI 0) (nI 0) K' = some (nI kn, K') := m2
        simp (disch := first | assumption | omega) only [q_lit, Int32.neg_neg, nI_add, pk_mul, q_sub, q_addn, q_nadd, q_lt, q_le, q_eq, q_eqn, q_neq, q_nen, q_ltn, q_nlt, q_len, q_nle, q_nltn, q_nlen, q_cl, q_ib, q_ibn, q_isz0, q_isz1, q_iszb, q_b0, q_b1, q_ng1, q_ng2, q_ng3, q_ng4, q_ng5, q_ng6, Bool.toNat_true, Bool.toNat_false, if_pos, if_neg, q_ct, q_cf, q_let, q_bd, q_it, q_if, Nat.zero_add, Nat.add_zero, true_and, and_true, false_and, and_false, or_false, false_or, or_true, true_or, Bool.true_eq_false, Bool.false_eq_true, wi_s, wi_o, wi_r, w, c1, c2, b2', k1, m2']
        exact ⟨_, _, rfl, rfl, rel⟩
  · have w : f12_within K a1 (nI 1) (nI 3) = some (nI 0) := by unfold f12_within; simp (disch := first | assumption | omega) only [q_lit, Int32.neg_neg, nI_add, pk_mul, q_sub, q_addn, q_nadd, q_lt, q_le, q_eq, q_eqn, q_neq, q_nen, q_ltn, q_nlt, q_len, q_nle, q_nltn, q_nlen, q_cl, q_ib, q_ibn, q_isz0, q_isz1, q_iszb, q_b0, q_b1, q_ng1, q_ng2, q_ng3, q_ng4, q_ng5, q_ng6, Bool.toNat_true, Bool.toNat_false, if_pos, if_neg, q_ct, q_cf, q_let, q_bd, q_it, q_if, Nat.zero_add, Nat.add_zero, true_and, and_true, false_and, and_false, or_false, false_or, or_true, true_or, Bool.true_eq_false, Bool.false_eq_true, wi_s, wi_o, wi_r]
    simp (disch := first | assumption | omega) only [q_lit, Int32.neg_neg, nI_add, pk_mul, q_sub, q_addn, q_nadd, q_lt, q_le, q_eq, q_eqn, q_neq, q_nen, q_ltn, q_nlt, q_len, q_nle, q_nltn, q_nlen, q_cl, q_ib, q_ibn, q_isz0, q_isz1, q_iszb, q_b0, q_b1, q_ng1, q_ng2, q_ng3, q_ng4, q_ng5, q_ng6, Bool.toNat_true, Bool.toNat_false, if_pos, if_neg, q_ct, q_cf, q_let, q_bd, q_it, q_if, Nat.zero_add, Nat.add_zero, true_and, and_true, false_and, and_false, or_false, false_or, or_true, true_or, Bool.true_eq_false, Bool.false_eq_true, wi_s, wi_o, wi_r, w]
    exact ⟨_, _, rfl, rfl, h⟩
  · have w : f12_within K (nI v) (nI 1) (nI 3) = some (nI 0) := by unfold f12_within; simp (disch := first | assumption | omega) only [q_lit, Int32.neg_neg, nI_add, pk_mul, q_sub, q_addn, q_nadd, q_lt, q_le, q_eq, q_eqn, q_neq, q_nen, q_ltn, q_nlt, q_len, q_nle, q_nltn, q_nlen, q_cl, q_ib, q_ibn, q_isz0, q_isz1, q_iszb, q_b0, q_b1, q_ng1, q_ng2, q_ng3, q_ng4, q_ng5, q_ng6, Bool.toNat_true, Bool.toNat_false, if_pos, if_neg, q_ct, q_cf, q_let, q_bd, q_it, q_if, Nat.zero_add, Nat.add_zero, true_and, and_true, false_and, and_false, or_false, false_or, or_true, true_or, Bool.true_eq_false, Bool.false_eq_true, wi_s, wi_o, wi_r]
    simp (disch := first | assumption | omega) only [q_lit, Int32.neg_neg, nI_add, pk_mul, q_sub, q_addn, q_nadd, q_lt, q_le, q_eq, q_eqn, q_neq, q_nen, q_ltn, q_nlt, q_len, q_nle, q_nltn, q_nlen, q_cl, q_ib, q_ibn, q_isz0, q_isz1, q_iszb, q_b0, q_b1, q_ng1, q_ng2, q_ng3, q_ng4, q_ng5, q_ng6, Bool.toNat_true, Bool.toNat_false, if_pos, if_neg, q_ct, q_cf, q_let, q_bd, q_it, q_if, Nat.zero_add, Nat.add_zero, true_and, and_true, false_and, and_false, or_false, false_or, or_true, true_or, Bool.true_eq_false, Bool.false_eq_true, wi_s, wi_o, wi_r, w]
    exact ⟨_, _, rfl, rfl, h⟩
