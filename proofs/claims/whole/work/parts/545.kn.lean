/-! PURE HALF: what one knows, in both -/
/-- the street's rows of hours, as they are read -/
def rRd (X : ph_Mem) (c : Nat) (g : Nat → Int32) (p : Nat) : Prop := (∀ h, h < 12 → X.1 (c + 5) (12 * p + h) = g (12 * p + h) ∧ X.1 (c + 2) (12 * p + h) = g (223 + (12 * p + h)) ∧ X.1 (c + 3) (12 * p + h) = g (295 + (12 * p + h)) ∧ X.1 (c + 4) (12 * p + h) = g (367 + (12 * p + h))) ∧ (∀ f, f < 8 → X.1 (c + 8) f = g (439 + f)) ∧ q_fo g p
theorem rSt_rd {RL : rLT} {S : ph_Sh} {X : ph_Mem} {c : Nat} {g : Nat → Int32} {n t p : Nat} (hs : rSt RL S X c g n t) (hp : p < n) : rRd X c g p := by
  obtain ⟨s1, s2, s3, s4, s5, s6, s7⟩ := hs
  obtain ⟨⟨d, d1, d2, d3, d4⟩, _⟩ := s2
  refine ⟨fun h hh => ⟨(d4 (12 * p + h) (by omega)).1, ?_⟩, fun f hf => (s4 f hf).1, fun h hh => ?_, fun f hf => (s4 f hf).2⟩
  · have e := s3.1 (12 * p + h) (by omega)
    exact ⟨e.1, e.2.2.1, e.2.2.2.2.1⟩
  · exact (s3.1 (12 * p + h) (by omega)).2.1
theorem x_learn {S : ph_Sh} {X : ph_Mem} {c p h known : Nat} {g : Nat → Int32} (hr : rRd X c g p) (hh : h < 12) (hk : known < 256) : ∃ v, f9_learnable S X c (g (223 + (12 * p + h))) (nI known) = some (nI v) ∧ known ||| v = q_ks g p h known := by
  unfold f9_learnable f9_learnable_j30 q_ks
  rcases hr.2.2.1 h hh with e | ⟨f, hf, e⟩
  · rw [e]
    exact ⟨0, by simp (disch := first | assumption | omega) only [q_lit, Int32.neg_neg, nI_add, pk_mul, q_sub, q_addn, q_nadd, q_lt, q_le, q_eq, q_eqn, q_neq, q_nen, q_ltn, q_nlt, q_len, q_nle, q_nltn, q_nlen, q_cl, q_ib, q_ibn, q_isz0, q_isz1, q_iszb, q_b0, q_b1, q_ng1, q_ng2, q_ng3, q_ng4, q_ng5, q_ng6, Bool.toNat_true, Bool.toNat_false, if_pos, if_neg, q_ct, q_cf, q_let, q_bd, q_it, q_if, Nat.zero_add, Nat.add_zero, true_and, and_true, false_and, and_false, or_false, false_or, or_true, true_or, Bool.true_eq_false, Bool.false_eq_true, wi_s, wi_o, wi_r], by simp (disch := first | assumption | omega) only [q_lit, Int32.neg_neg, nI_add, pk_mul, q_sub, q_addn, q_nadd, q_lt, q_le, q_eq, q_eqn, q_neq, q_nen, q_ltn, q_nlt, q_len, q_nle, q_nltn, q_nlen, q_cl, q_ib, q_ibn, q_isz0, q_isz1, q_iszb, q_b0, q_b1, q_ng1, q_ng2, q_ng3, q_ng4, q_ng5, q_ng6, Bool.toNat_true, Bool.toNat_false, if_pos, if_neg, q_ct, q_cf, q_let, q_bd, q_it, q_if, Nat.zero_add, Nat.add_zero, true_and, and_true, false_and, and_false, or_false, false_or, or_true, true_or, Bool.true_eq_false, Bool.false_eq_true, wi_s, wi_o, wi_r, Nat.or_zero]⟩
  · rw [e]
    have e2 := hr.2.1 f hf
    rcases hr.2.2.2 f hf with e3 | ⟨k, hk8, e3⟩
    · exact ⟨2 ^ f, by simp (disch := first | assumption | omega) only [q_lit, Int32.neg_neg, nI_add, pk_mul, q_sub, q_addn, q_nadd, q_lt, q_le, q_eq, q_eqn, q_neq, q_nen, q_ltn, q_nlt, q_len, q_nle, q_nltn, q_nlen, q_cl, q_ib, q_ibn, q_isz0, q_isz1, q_iszb, q_b0, q_b1, q_ng1, q_ng2, q_ng3, q_ng4, q_ng5, q_ng6, Bool.toNat_true, Bool.toNat_false, if_pos, if_neg, q_ct, q_cf, q_let, q_bd, q_it, q_if, Nat.zero_add, Nat.add_zero, true_and, and_true, false_and, and_false, or_false, false_or, or_true, true_or, Bool.true_eq_false, Bool.false_eq_true, wi_s, wi_o, wi_r, e2, e3, q_1sl], by simp (disch := first | assumption | omega) only [q_lit, Int32.neg_neg, nI_add, pk_mul, q_sub, q_addn, q_nadd, q_lt, q_le, q_eq, q_eqn, q_neq, q_nen, q_ltn, q_nlt, q_len, q_nle, q_nltn, q_nlen, q_cl, q_ib, q_ibn, q_isz0, q_isz1, q_iszb, q_b0, q_b1, q_ng1, q_ng2, q_ng3, q_ng4, q_ng5, q_ng6, Bool.toNat_true, Bool.toNat_false, if_pos, if_neg, q_ct, q_cf, q_let, q_bd, q_it, q_if, Nat.zero_add, Nat.add_zero, true_and, and_true, false_and, and_false, or_false, false_or, or_true, true_or, Bool.true_eq_false, Bool.false_eq_true, wi_s, wi_o, wi_r, e3, true_or]⟩
    · cases hb : known.testBit k
      · refine ⟨0, by simp (disch := first | assumption | omega) only [q_lit, Int32.neg_neg, nI_add, pk_mul, q_sub, q_addn, q_nadd, q_lt, q_le, q_eq, q_eqn, q_neq, q_nen, q_ltn, q_nlt, q_len, q_nle, q_nltn, q_nlen, q_cl, q_ib, q_ibn, q_isz0, q_isz1, q_iszb, q_b0, q_b1, q_ng1, q_ng2, q_ng3, q_ng4, q_ng5, q_ng6, Bool.toNat_true, Bool.toNat_false, if_pos, if_neg, q_ct, q_cf, q_let, q_bd, q_it, q_if, Nat.zero_add, Nat.add_zero, true_and, and_true, false_and, and_false, or_false, false_or, or_true, true_or, Bool.true_eq_false, Bool.false_eq_true, wi_s, wi_o, wi_r, e2, e3, x_bit, hb], ?_⟩
        simp (disch := first | assumption | omega) only [q_lit, Int32.neg_neg, nI_add, pk_mul, q_sub, q_addn, q_nadd, q_lt, q_le, q_eq, q_eqn, q_neq, q_nen, q_ltn, q_nlt, q_len, q_nle, q_nltn, q_nlen, q_cl, q_ib, q_ibn, q_isz0, q_isz1, q_iszb, q_b0, q_b1, q_ng1, q_ng2, q_ng3, q_ng4, q_ng5, q_ng6, Bool.toNat_true, Bool.toNat_false, if_pos, if_neg, q_ct, q_cf, q_let, q_bd, q_it, q_if, Nat.zero_add, Nat.add_zero, true_and, and_true, false_and, and_false, or_false, false_or, or_true, true_or, Bool.true_eq_false, Bool.false_eq_true, wi_s, wi_o, wi_r, e3, hb, false_or, Nat.or_zero]
      · refine ⟨2 ^ f, by simp (disch := first | assumption | omega) only [q_lit, Int32.neg_neg, nI_add, pk_mul, q_sub, q_addn, q_nadd, q_lt, q_le, q_eq, q_eqn, q_neq, q_nen, q_ltn, q_nlt, q_len, q_nle, q_nltn, q_nlen, q_cl, q_ib, q_ibn, q_isz0, q_isz1, q_iszb, q_b0, q_b1, q_ng1, q_ng2, q_ng3, q_ng4, q_ng5, q_ng6, Bool.toNat_true, Bool.toNat_false, if_pos, if_neg, q_ct, q_cf, q_let, q_bd, q_it, q_if, Nat.zero_add, Nat.add_zero, true_and, and_true, false_and, and_false, or_false, false_or, or_true, true_or, Bool.true_eq_false, Bool.false_eq_true, wi_s, wi_o, wi_r, e2, e3, x_bit, hb, q_1sl], ?_⟩
        simp (disch := first | assumption | omega) only [q_lit, Int32.neg_neg, nI_add, pk_mul, q_sub, q_addn, q_nadd, q_lt, q_le, q_eq, q_eqn, q_neq, q_nen, q_ltn, q_nlt, q_len, q_nle, q_nltn, q_nlen, q_cl, q_ib, q_ibn, q_isz0, q_isz1, q_iszb, q_b0, q_b1, q_ng1, q_ng2, q_ng3, q_ng4, q_ng5, q_ng6, Bool.toNat_true, Bool.toNat_false, if_pos, if_neg, q_ct, q_cf, q_let, q_bd, q_it, q_if, Nat.zero_add, Nat.add_zero, true_and, and_true, false_and, and_false, or_false, false_or, or_true, true_or, Bool.true_eq_false, Bool.false_eq_true, wi_s, wi_o, wi_r, e3, hb, or_true]
theorem x_holds {S : ph_Sh} {X : ph_Mem} {c p h : Nat} {g : Nat → Int32} (hp : p < 6) (hh : h < 12) (e : X.1 (c + 5) (12 * p + h) = g (12 * p + h)) : f9_holds S X c (nI p) (nI h) = some (nI (hP g p 0 h).toNat) := by
  unfold f9_holds
  simp (disch := first | assumption | omega) only [q_lit, Int32.neg_neg, nI_add, pk_mul, q_sub, q_addn, q_nadd, q_lt, q_le, q_eq, q_eqn, q_neq, q_nen, q_ltn, q_nlt, q_len, q_nle, q_nltn, q_nlen, q_cl, q_ib, q_ibn, q_isz0, q_isz1, q_iszb, q_b0, q_b1, q_ng1, q_ng2, q_ng3, q_ng4, q_ng5, q_ng6, Bool.toNat_true, Bool.toNat_false, if_pos, if_neg, q_ct, q_cf, q_let, q_bd, q_it, q_if, Nat.zero_add, Nat.add_zero, true_and, and_true, false_and, and_false, or_false, false_or, or_true, true_or, Bool.true_eq_false, Bool.false_eq_true, wi_s, wi_o, wi_r, x_place, e]
  unfold hP
  by_cases q : g (12 * p + h) = nI 0
  · rw [if_pos q, decide_eq_true q]; rfl
  · rw [if_neg q, decide_eq_false q]; rfl
theorem m_holds {K : ph_Mem} {p h : Nat} (hp : p < 6) (hh : h < 12) : f12_holds K (nI p) (nI h) = some (nI (hP (K.1 2) p 0 h).toNat) := by
  unfold f12_holds
  unfold hP
  by_cases q : K.1 2 (12 * p + h) = nI 0
  · rw [decide_eq_true q]; simp (disch := first | assumption | omega) only [q_lit, Int32.neg_neg, nI_add, pk_mul, q_sub, q_addn, q_nadd, q_lt, q_le, q_eq, q_eqn, q_neq, q_nen, q_ltn, q_nlt, q_len, q_nle, q_nltn, q_nlen, q_cl, q_ib, q_ibn, q_isz0, q_isz1, q_iszb, q_b0, q_b1, q_ng1, q_ng2, q_ng3, q_ng4, q_ng5, q_ng6, Bool.toNat_true, Bool.toNat_false, if_pos, if_neg, q_ct, q_cf, q_let, q_bd, q_it, q_if, Nat.zero_add, Nat.add_zero, true_and, and_true, false_and, and_false, or_false, false_or, or_true, true_or, Bool.true_eq_false, Bool.false_eq_true, wi_s, wi_o, wi_r, m_state, q]
  · rw [decide_eq_false q]; simp (disch := first | assumption | omega) only [q_lit, Int32.neg_neg, nI_add, pk_mul, q_sub, q_addn, q_nadd, q_lt, q_le, q_eq, q_eqn, q_neq, q_nen, q_ltn, q_nlt, q_len, q_nle, q_nltn, q_nlen, q_cl, q_ib, q_ibn, q_isz0, q_isz1, q_iszb, q_b0, q_b1, q_ng1, q_ng2, q_ng3, q_ng4, q_ng5, q_ng6, Bool.toNat_true, Bool.toNat_false, if_pos, if_neg, q_ct, q_cf, q_let, q_bd, q_it, q_if, Nat.zero_add, Nat.add_zero, true_and, and_true, false_and, and_false, or_false, false_or, or_true, true_or, Bool.true_eq_false, Bool.false_eq_true, wi_s, wi_o, wi_r, m_state, q]
/-- the hours that are held and not gone -/
def q_hg (g : Nat → Int32) (p gone : Nat) (h : Nat) : Bool := hP g p 0 h && !gone.testBit h
theorem x_known_l {S : ph_Sh} {X : ph_Mem} {c p gone : Nat} {g : Nat → Int32} (hr : rRd X c g p) (hp : p < 6) (hgo : gone < 4096) : ∀ (k h fuel : Nat), h + k = 12 → k < fuel → f9_knownWithout_l5 S c X fuel (nI p) (nI gone) (nI (q_kn g p (q_hg g p gone) h)) (nI h) = some (nI (q_kn g p (q_hg g p gone) 12))
  | 0, h, f + 1, e, _ => by
    have : h = 12 := by omega
    subst this
    unfold f9_knownWithout_l5
    simp (disch := first | assumption | omega) only [q_lit, Int32.neg_neg, nI_add, pk_mul, q_sub, q_addn, q_nadd, q_lt, q_le, q_eq, q_eqn, q_neq, q_nen, q_ltn, q_nlt, q_len, q_nle, q_nltn, q_nlen, q_cl, q_ib, q_ibn, q_isz0, q_isz1, q_iszb, q_b0, q_b1, q_ng1, q_ng2, q_ng3, q_ng4, q_ng5, q_ng6, Bool.toNat_true, Bool.toNat_false, if_pos, if_neg, q_ct, q_cf, q_let, q_bd, q_it, q_if, Nat.zero_add, Nat.add_zero, true_and, and_true, false_and, and_false, or_false, false_or, or_true, true_or, Bool.true_eq_false, Bool.false_eq_true, wi_s, wi_o, wi_r]
  | k + 1, h, f + 1, e, hf => by
    have ih := x_known_l (S := S) hr hp hgo k (h + 1) f (by omega) (by omega)
    obtain ⟨v, v1, v2⟩ := x_learn (S := S) hr (h := h) (by omega) (q_kn_lt (H := q_hg g p gone) hr.2.2 h (by omega))
    rw [q_kn] at ih
    unfold f9_knownWithout_l5 f9_knownWithout_j50
    have e1 := (hr.1 h (by omega)).1
    have e2 := (hr.1 h (by omega)).2.1
    unfold q_hg at ih v1 v2 ⊢
    cases b1 : hP g p 0 h <;> cases b2 : gone.testBit h <;> simp only [b1, b2, Bool.and_true, Bool.and_false, Bool.not_true, Bool.not_false, Bool.true_and, Bool.false_and, if_true, Bool.false_eq_true, if_false] at ih
    · simp (disch := first | assumption | omega) only [q_lit, Int32.neg_neg, nI_add, pk_mul, q_sub, q_addn, q_nadd, q_lt, q_le, q_eq, q_eqn, q_neq, q_nen, q_ltn, q_nlt, q_len, q_nle, q_nltn, q_nlen, q_cl, q_ib, q_ibn, q_isz0, q_isz1, q_iszb, q_b0, q_b1, q_ng1, q_ng2, q_ng3, q_ng4, q_ng5, q_ng6, Bool.toNat_true, Bool.toNat_false, if_pos, if_neg, q_ct, q_cf, q_let, q_bd, q_it, q_if, Nat.zero_add, Nat.add_zero, true_and, and_true, false_and, and_false, or_false, false_or, or_true, true_or, Bool.true_eq_false, Bool.false_eq_true, wi_s, wi_o, wi_r, x_holds hp (by omega) e1, b1]
      exact ih
    · simp (disch := first | assumption | omega) only [q_lit, Int32.neg_neg, nI_add, pk_mul, q_sub, q_addn, q_nadd, q_lt, q_le, q_eq, q_eqn, q_neq, q_nen, q_ltn, q_nlt, q_len, q_nle, q_nltn, q_nlen, q_cl, q_ib, q_ibn, q_isz0, q_isz1, q_iszb, q_b0, q_b1, q_ng1, q_ng2, q_ng3, q_ng4, q_ng5, q_ng6, Bool.toNat_true, Bool.toNat_false, if_pos, if_neg, q_ct, q_cf, q_let, q_bd, q_it, q_if, Nat.zero_add, Nat.add_zero, true_and, and_true, false_and, and_false, or_false, false_or, or_true, true_or, Bool.true_eq_false, Bool.false_eq_true, wi_s, wi_o, wi_r, x_holds hp (by omega) e1, b1]
      exact ih
    · simp (disch := first | assumption | omega) only [q_lit, Int32.neg_neg, nI_add, pk_mul, q_sub, q_addn, q_nadd, q_lt, q_le, q_eq, q_eqn, q_neq, q_nen, q_ltn, q_nlt, q_len, q_nle, q_nltn, q_nlen, q_cl, q_ib, q_ibn, q_isz0, q_isz1, q_iszb, q_b0, q_b1, q_ng1, q_ng2, q_ng3, q_ng4, q_ng5, q_ng6, Bool.toNat_true, Bool.toNat_false, if_pos, if_neg, q_ct, q_cf, q_let, q_bd, q_it, q_if, Nat.zero_add, Nat.add_zero, true_and, and_true, false_and, and_false, or_false, false_or, or_true, true_or, Bool.true_eq_false, Bool.false_eq_true, wi_s, wi_o, wi_r, x_holds hp (by omega) e1, b1, x_bit, b2, x_place, e2, v1, q_or, v2]
      exact ih
    · simp (disch := first | assumption | omega) only [q_lit, Int32.neg_neg, nI_add, pk_mul, q_sub, q_addn, q_nadd, q_lt, q_le, q_eq, q_eqn, q_neq, q_nen, q_ltn, q_nlt, q_len, q_nle, q_nltn, q_nlen, q_cl, q_ib, q_ibn, q_isz0, q_isz1, q_iszb, q_b0, q_b1, q_ng1, q_ng2, q_ng3, q_ng4, q_ng5, q_ng6, Bool.toNat_true, Bool.toNat_false, if_pos, if_neg, q_ct, q_cf, q_let, q_bd, q_it, q_if, Nat.zero_add, Nat.add_zero, true_and, and_true, false_and, and_false, or_false, false_or, or_true, true_or, Bool.true_eq_false, Bool.false_eq_true, wi_s, wi_o, wi_r, x_holds hp (by omega) e1, b1, x_bit, b2]
      exact ih
theorem x_known {S : ph_Sh} {X : ph_Mem} {c p gone : Nat} {g : Nat → Int32} (hr : rRd X c g p) (hp : p < 6) (hgo : gone < 4096) : f9_knownWithout S X c (nI p) (nI gone) = some (nI (q_kn g p (q_hg g p gone) 12)) := x_known_l hr hp hgo 12 0 10000 (by omega) (by omega)
/-- the hour in which a fact was learned -/
def q_lh (g : Nat → Int32) (p f : Nat) (H : Nat → Bool) (h : Nat) : Prop := h < 12 ∧ (q_kn g p H h).testBit f = false ∧ (q_kn g p H (h + 1)).testBit f = true
theorem q_ks_mono {g : Nat → Int32} {p h k f : Nat} (e : k.testBit f = true) : (q_ks g p h k).testBit f = true := by
  unfold q_ks
  split
  · exact e
  · split
    · rw [Nat.testBit_or, e, Bool.true_or]
    · exact e
theorem q_kn_mono {g : Nat → Int32} {p f : Nat} {H : Nat → Bool} {a : Nat} (e : (q_kn g p H a).testBit f = true) : ∀ k, (q_kn g p H (a + k)).testBit f = true
  | 0 => e
  | k + 1 => by
    have := q_kn_mono e k
    rw [← Nat.add_assoc, q_kn]
    split
    · exact q_ks_mono this
    · exact this
theorem q_lh_un {g : Nat → Int32} {p f : Nat} {H : Nat → Bool} {a b : Nat} (ha : q_lh g p f H a) (hb : q_lh g p f H b) : a = b := by
  rcases Nat.lt_trichotomy a b with h | h | h
  · have := q_kn_mono ha.2.2 (b - (a + 1))
    rw [show a + 1 + (b - (a + 1)) = b by omega, hb.2.1] at this
    exact absurd this (by simp)
  · exact h
  · have := q_kn_mono hb.2.2 (a - (b + 1))
    rw [show b + 1 + (a - (b + 1)) = a by omega, ha.2.1] at this
    exact absurd this (by simp)
/-- the class finds it -/
theorem x_lh_l {S : ph_Sh} {X : ph_Mem} {c p fa : Nat} {g : Nat → Int32} (hr : rRd X c g p) (hp : p < 6) (hfa : fa < 8) : ∀ (k h fuel : Nat), h + k = 12 → k < fuel → (q_kn g p (hP g p 0) h).testBit fa = false → (∃ j, q_lh g p fa (hP g p 0) j ∧ f9_hourOfLearning_l5 S c X fuel (nI p) (nI fa) (nI (q_kn g p (hP g p 0) h)) (nI h) = some (nI j)) ∨ ((q_kn g p (hP g p 0) 12).testBit fa = false ∧ f9_hourOfLearning_l5 S c X fuel (nI p) (nI fa) (nI (q_kn g p (hP g p 0) h)) (nI h) = some (-nI 1))
  | 0, h, f + 1, e, _, hb => by
    have : h = 12 := by omega
    subst this
    right
    refine ⟨hb, ?_⟩
    unfold f9_hourOfLearning_l5
    simp (disch := first | assumption | omega) only [q_lit, Int32.neg_neg, nI_add, pk_mul, q_sub, q_addn, q_nadd, q_lt, q_le, q_eq, q_eqn, q_neq, q_nen, q_ltn, q_nlt, q_len, q_nle, q_nltn, q_nlen, q_cl, q_ib, q_ibn, q_isz0, q_isz1, q_iszb, q_b0, q_b1, q_ng1, q_ng2, q_ng3, q_ng4, q_ng5, q_ng6, Bool.toNat_true, Bool.toNat_false, if_pos, if_neg, q_ct, q_cf, q_let, q_bd, q_it, q_if, Nat.zero_add, Nat.add_zero, true_and, and_true, false_and, and_false, or_false, false_or, or_true, true_or, Bool.true_eq_false, Bool.false_eq_true, wi_s, wi_o, wi_r]
  | k + 1, h, f + 1, e, hf, hb => by
    have ih := x_lh_l (S := S) hr hp hfa k (h + 1) f (by omega) (by omega)
    obtain ⟨v, v1, v2⟩ := x_learn (S := S) hr (h := h) (by omega) (q_kn_lt (H := hP g p 0) hr.2.2 h (by omega))
    have hlt := q_kn_lt (H := hP g p 0) hr.2.2 h (by omega)
    have hlt' := q_kn_lt (H := hP g p 0) hr.2.2 (h + 1) (by omega)
    have e1 := (hr.1 h (by omega)).1
    have e2 := (hr.1 h (by omega)).2.1
    have key : f9_hourOfLearning_l5 S c X (f + 1) (nI p) (nI fa) (nI (q_kn g p (hP g p 0) h)) (nI h) = f9_hourOfLearning_j41 S c X (f9_hourOfLearning_l5 S c X f) (nI p) (nI fa) (nI (q_kn g p (hP g p 0) (h + 1))) (nI h) := by
      rw [q_kn]
      conv => lhs; unfold f9_hourOfLearning_l5
      cases b1 : hP g p 0 h
      · simp (disch := first | assumption | omega) only [q_lit, Int32.neg_neg, nI_add, pk_mul, q_sub, q_addn, q_nadd, q_lt, q_le, q_eq, q_eqn, q_neq, q_nen, q_ltn, q_nlt, q_len, q_nle, q_nltn, q_nlen, q_cl, q_ib, q_ibn, q_isz0, q_isz1, q_iszb, q_b0, q_b1, q_ng1, q_ng2, q_ng3, q_ng4, q_ng5, q_ng6, Bool.toNat_true, Bool.toNat_false, if_pos, if_neg, q_ct, q_cf, q_let, q_bd, q_it, q_if, Nat.zero_add, Nat.add_zero, true_and, and_true, false_and, and_false, or_false, false_or, or_true, true_or, Bool.true_eq_false, Bool.false_eq_true, wi_s, wi_o, wi_r, x_holds hp (by omega) e1, b1]
      · simp (disch := first | assumption | omega) only [q_lit, Int32.neg_neg, nI_add, pk_mul, q_sub, q_addn, q_nadd, q_lt, q_le, q_eq, q_eqn, q_neq, q_nen, q_ltn, q_nlt, q_len, q_nle, q_nltn, q_nlen, q_cl, q_ib, q_ibn, q_isz0, q_isz1, q_iszb, q_b0, q_b1, q_ng1, q_ng2, q_ng3, q_ng4, q_ng5, q_ng6, Bool.toNat_true, Bool.toNat_false, if_pos, if_neg, q_ct, q_cf, q_let, q_bd, q_it, q_if, Nat.zero_add, Nat.add_zero, true_and, and_true, false_and, and_false, or_false, false_or, or_true, true_or, Bool.true_eq_false, Bool.false_eq_true, wi_s, wi_o, wi_r, x_holds hp (by omega) e1, b1, x_place, e2, v1, q_or, v2]
    rw [key]
    unfold f9_hourOfLearning_j41
    cases b2 : (q_kn g p (hP g p 0) (h + 1)).testBit fa
    · have := ih b2
      simp (disch := first | assumption | omega) only [q_lit, Int32.neg_neg, nI_add, pk_mul, q_sub, q_addn, q_nadd, q_lt, q_le, q_eq, q_eqn, q_neq, q_nen, q_ltn, q_nlt, q_len, q_nle, q_nltn, q_nlen, q_cl, q_ib, q_ibn, q_isz0, q_isz1, q_iszb, q_b0, q_b1, q_ng1, q_ng2, q_ng3, q_ng4, q_ng5, q_ng6, Bool.toNat_true, Bool.toNat_false, if_pos, if_neg, q_ct, q_cf, q_let, q_bd, q_it, q_if, Nat.zero_add, Nat.add_zero, true_and, and_true, false_and, and_false, or_false, false_or, or_true, true_or, Bool.true_eq_false, Bool.false_eq_true, wi_s, wi_o, wi_r, x_bit, b2]
      exact this
    · left
      exact ⟨h, ⟨by omega, hb, b2⟩, by simp (disch := first | assumption | omega) only [q_lit, Int32.neg_neg, nI_add, pk_mul, q_sub, q_addn, q_nadd, q_lt, q_le, q_eq, q_eqn, q_neq, q_nen, q_ltn, q_nlt, q_len, q_nle, q_nltn, q_nlen, q_cl, q_ib, q_ibn, q_isz0, q_isz1, q_iszb, q_b0, q_b1, q_ng1, q_ng2, q_ng3, q_ng4, q_ng5, q_ng6, Bool.toNat_true, Bool.toNat_false, if_pos, if_neg, q_ct, q_cf, q_let, q_bd, q_it, q_if, Nat.zero_add, Nat.add_zero, true_and, and_true, false_and, and_false, or_false, false_or, or_true, true_or, Bool.true_eq_false, Bool.false_eq_true, wi_s, wi_o, wi_r, x_bit, b2]⟩
theorem x_lh {S : ph_Sh} {X : ph_Mem} {c p fa : Nat} {g : Nat → Int32} (hr : rRd X c g p) (hp : p < 6) (hfa : fa < 8) : (∃ j, q_lh g p fa (hP g p 0) j ∧ f9_hourOfLearning S X c (nI p) (nI fa) = some (nI j)) ∨ ((q_kn g p (hP g p 0) 12).testBit fa = false ∧ f9_hourOfLearning S X c (nI p) (nI fa) = some (-nI 1)) := x_lh_l hr hp hfa 12 0 10000 (by omega) (by omega) (by simp [q_kn])
/-- the model's, with what it writes: cell 15, p's facts -/
theorem m_known_l {p hrs : Nat} (hp : p < 6) (hh : hrs < 4096) {g : Nat → Int32} (hg : q_fo g p) : ∀ (k h fuel : Nat) (K : ph_Mem), h + k = 12 → k < fuel → K.1 2 = g → (∀ f, f < 8 → (q_kn g p (fun h => hrs.testBit h) h).testBit f = true → ∃ j, q_lh g p f (fun h => hrs.testBit h) j ∧ K.1 15 (8 * p + f) = nI j) → ∃ K', f12_knownBy_l5 fuel (nI p) (nI hrs) (nI (q_kn g p (fun h => hrs.testBit h) h)) (nI h) K = some (nI (q_kn g p (fun h => hrs.testBit h) 12), K') ∧ (∀ f, f < 8 → (q_kn g p (fun h => hrs.testBit h) 12).testBit f = true → ∃ j, q_lh g p f (fun h => hrs.testBit h) j ∧ K'.1 15 (8 * p + f) = nI j) ∧ (∀ c j, c ≠ 15 ∨ j < 8 * p ∨ 8 * p + 8 ≤ j → K'.1 c j = K.1 c j) ∧ K'.2 = K.2
  | 0, h, f + 1, K, e, _, hK, hI => by
    have : h = 12 := by omega
    subst this
    refine ⟨K, ?_, hI, fun _ _ _ => rfl, rfl⟩
    unfold f12_knownBy_l5
    simp (disch := first | assumption | omega) only [q_lit, Int32.neg_neg, nI_add, pk_mul, q_sub, q_addn, q_nadd, q_lt, q_le, q_eq, q_eqn, q_neq, q_nen, q_ltn, q_nlt, q_len, q_nle, q_nltn, q_nlen, q_cl, q_ib, q_ibn, q_isz0, q_isz1, q_iszb, q_b0, q_b1, q_ng1, q_ng2, q_ng3, q_ng4, q_ng5, q_ng6, Bool.toNat_true, Bool.toNat_false, if_pos, if_neg, q_ct, q_cf, q_let, q_bd, q_it, q_if, Nat.zero_add, Nat.add_zero, true_and, and_true, false_and, and_false, or_false, false_or, or_true, true_or, Bool.true_eq_false, Bool.false_eq_true, wi_s, wi_o, wi_r]
  | k + 1, h, f + 1, K, e, hf, hK, hI => by
    have hlt := q_kn_lt (H := fun h => hrs.testBit h) hg h (by omega)
    have ih := m_known_l hp hh hg k (h + 1) f
    have eg : ∀ j, K.1 2 j = g j := fun j => by rw [hK]
    -- not learned here
    have stay : q_kn g p (fun h => hrs.testBit h) (h + 1) = q_kn g p (fun h => hrs.testBit h) h → f12_knownBy_l5 (f + 1) (nI p) (nI hrs) (nI (q_kn g p (fun h => hrs.testBit h) h)) (nI h) K = f12_knownBy_l5 f (nI p) (nI hrs) (nI (q_kn g p (fun h => hrs.testBit h) h)) (nI (h + 1)) K → ∃ K', f12_knownBy_l5 (f + 1) (nI p) (nI hrs) (nI (q_kn g p (fun h => hrs.testBit h) h)) (nI h) K = some (nI (q_kn g p (fun h => hrs.testBit h) 12), K') ∧ (∀ f, f < 8 → (q_kn g p (fun h => hrs.testBit h) 12).testBit f = true → ∃ j, q_lh g p f (fun h => hrs.testBit h) j ∧ K'.1 15 (8 * p + f) = nI j) ∧ (∀ c j, c ≠ 15 ∨ j < 8 * p ∨ 8 * p + 8 ≤ j → K'.1 c j = K.1 c j) ∧ K'.2 = K.2 := by
      intro q1 q2
      have := ih K (by omega) (by omega) hK
      rw [q1] at this
      rw [q2]
      exact this hI
    cases b1 : hrs.testBit h
    · refine stay (by rw [q_kn]; simp only [b1, Bool.false_eq_true, if_false]) ?_
      conv => lhs; unfold f12_knownBy_l5 f12_knownBy_j110
      simp (disch := first | assumption | omega) only [q_lit, Int32.neg_neg, nI_add, pk_mul, q_sub, q_addn, q_nadd, q_lt, q_le, q_eq, q_eqn, q_neq, q_nen, q_ltn, q_nlt, q_len, q_nle, q_nltn, q_nlen, q_cl, q_ib, q_ibn, q_isz0, q_isz1, q_iszb, q_b0, q_b1, q_ng1, q_ng2, q_ng3, q_ng4, q_ng5, q_ng6, Bool.toNat_true, Bool.toNat_false, if_pos, if_neg, q_ct, q_cf, q_let, q_bd, q_it, q_if, Nat.zero_add, Nat.add_zero, true_and, and_true, false_and, and_false, or_false, false_or, or_true, true_or, Bool.true_eq_false, Bool.false_eq_true, wi_s, wi_o, wi_r, m_place, m_bit, b1]
    · rcases hg.1 h (by omega) with e1 | ⟨fa, hfa, e1⟩
      · refine stay (by rw [q_kn]; simp only [b1, if_true]; unfold q_ks; rw [if_pos e1]) ?_
        conv => lhs; unfold f12_knownBy_l5 f12_knownBy_j110
        simp (disch := first | assumption | omega) only [q_lit, Int32.neg_neg, nI_add, pk_mul, q_sub, q_addn, q_nadd, q_lt, q_le, q_eq, q_eqn, q_neq, q_nen, q_ltn, q_nlt, q_len, q_nle, q_nltn, q_nlen, q_cl, q_ib, q_ibn, q_isz0, q_isz1, q_iszb, q_b0, q_b1, q_ng1, q_ng2, q_ng3, q_ng4, q_ng5, q_ng6, Bool.toNat_true, Bool.toNat_false, if_pos, if_neg, q_ct, q_cf, q_let, q_bd, q_it, q_if, Nat.zero_add, Nat.add_zero, true_and, and_true, false_and, and_false, or_false, false_or, or_true, true_or, Bool.true_eq_false, Bool.false_eq_true, wi_s, wi_o, wi_r, m_place, m_bit, b1, eg, e1]
      · have hlearn : (g (439 + fa) = -nI 1 ∨ ∃ nd, nd < 8 ∧ g (439 + fa) = nI nd ∧ (q_kn g p (fun h => hrs.testBit h) h).testBit nd = true) → ∃ K', f12_knownBy_l5 (f + 1) (nI p) (nI hrs) (nI (q_kn g p (fun h => hrs.testBit h) h)) (nI h) K = some (nI (q_kn g p (fun h => hrs.testBit h) 12), K') ∧ (∀ f, f < 8 → (q_kn g p (fun h => hrs.testBit h) 12).testBit f = true → ∃ j, q_lh g p f (fun h => hrs.testBit h) j ∧ K'.1 15 (8 * p + f) = nI j) ∧ (∀ c j, c ≠ 15 ∨ j < 8 * p ∨ 8 * p + 8 ≤ j → K'.1 c j = K.1 c j) ∧ K'.2 = K.2 := by
          intro hor
          have enew : q_kn g p (fun h => hrs.testBit h) (h + 1) = q_kn g p (fun h => hrs.testBit h) h ||| 2 ^ fa := by
            rw [q_kn]
            simp only [b1, if_true]
            unfold q_ks
            rw [e1, q_cl (by omega), if_neg (by simp (disch := first | assumption | omega) only [q_lit, Int32.neg_neg, nI_add, pk_mul, q_sub, q_addn, q_nadd, q_lt, q_le, q_eq, q_eqn, q_neq, q_nen, q_ltn, q_nlt, q_len, q_nle, q_nltn, q_nlen, q_cl, q_ib, q_ibn, q_isz0, q_isz1, q_iszb, q_b0, q_b1, q_ng1, q_ng2, q_ng3, q_ng4, q_ng5, q_ng6, Bool.toNat_true, Bool.toNat_false, if_pos, if_neg, q_ct, q_cf, q_let, q_bd, q_it, q_if, Nat.zero_add, Nat.add_zero, true_and, and_true, false_and, and_false, or_false, false_or, or_true, true_or, Bool.true_eq_false, Bool.false_eq_true, wi_s, wi_o, wi_r]; simp), if_pos]
            rcases hor with q | ⟨nd, hnd, q1, q2⟩
            · exact Or.inl q
            · right
              rw [q1, q_cl (by omega)]
              exact q2
          have tail : ∀ K1 : ph_Mem, f12_knownBy_j80 (f12_knownBy_l5 f) (nI p) (nI hrs) (nI (q_kn g p (fun h => hrs.testBit h) h)) (nI h) (nI fa) K = f12_knownBy_l5 f (nI p) (nI hrs) (nI (q_kn g p (fun h => hrs.testBit h) (h + 1))) (nI (h + 1)) (if (q_kn g p (fun h => hrs.testBit h) h).testBit fa then K else ph_wi K 15 (8 * p + fa) (nI h)) := by
            intro _
            unfold f12_knownBy_j80 f12_knownBy_j103 f12_knownBy_j110
            rw [enew]
            cases b2 : (q_kn g p (fun h => hrs.testBit h) h).testBit fa
            · simp (disch := first | assumption | omega) only [q_lit, Int32.neg_neg, nI_add, pk_mul, q_sub, q_addn, q_nadd, q_lt, q_le, q_eq, q_eqn, q_neq, q_nen, q_ltn, q_nlt, q_len, q_nle, q_nltn, q_nlen, q_cl, q_ib, q_ibn, q_isz0, q_isz1, q_iszb, q_b0, q_b1, q_ng1, q_ng2, q_ng3, q_ng4, q_ng5, q_ng6, Bool.toNat_true, Bool.toNat_false, if_pos, if_neg, q_ct, q_cf, q_let, q_bd, q_it, q_if, Nat.zero_add, Nat.add_zero, true_and, and_true, false_and, and_false, or_false, false_or, or_true, true_or, Bool.true_eq_false, Bool.false_eq_true, wi_s, wi_o, wi_r, m_bit, b2, q_1sl, q_or]
            · simp (disch := first | assumption | omega) only [q_lit, Int32.neg_neg, nI_add, pk_mul, q_sub, q_addn, q_nadd, q_lt, q_le, q_eq, q_eqn, q_neq, q_nen, q_ltn, q_nlt, q_len, q_nle, q_nltn, q_nlen, q_cl, q_ib, q_ibn, q_isz0, q_isz1, q_iszb, q_b0, q_b1, q_ng1, q_ng2, q_ng3, q_ng4, q_ng5, q_ng6, Bool.toNat_true, Bool.toNat_false, if_pos, if_neg, q_ct, q_cf, q_let, q_bd, q_it, q_if, Nat.zero_add, Nat.add_zero, true_and, and_true, false_and, and_false, or_false, false_or, or_true, true_or, Bool.true_eq_false, Bool.false_eq_true, wi_s, wi_o, wi_r, m_bit, b2, q_1sl, q_or]
          have unf : f12_knownBy_l5 (f + 1) (nI p) (nI hrs) (nI (q_kn g p (fun h => hrs.testBit h) h)) (nI h) K = f12_knownBy_j80 (f12_knownBy_l5 f) (nI p) (nI hrs) (nI (q_kn g p (fun h => hrs.testBit h) h)) (nI h) (nI fa) K := by
            conv => lhs; unfold f12_knownBy_l5
            rcases hor with q | ⟨nd, hnd, q1, q2⟩
            · simp (disch := first | assumption | omega) only [q_lit, Int32.neg_neg, nI_add, pk_mul, q_sub, q_addn, q_nadd, q_lt, q_le, q_eq, q_eqn, q_neq, q_nen, q_ltn, q_nlt, q_len, q_nle, q_nltn, q_nlen, q_cl, q_ib, q_ibn, q_isz0, q_isz1, q_iszb, q_b0, q_b1, q_ng1, q_ng2, q_ng3, q_ng4, q_ng5, q_ng6, Bool.toNat_true, Bool.toNat_false, if_pos, if_neg, q_ct, q_cf, q_let, q_bd, q_it, q_if, Nat.zero_add, Nat.add_zero, true_and, and_true, false_and, and_false, or_false, false_or, or_true, true_or, Bool.true_eq_false, Bool.false_eq_true, wi_s, wi_o, wi_r, m_place, m_bit, b1, eg, e1, q]
            · simp (disch := first | assumption | omega) only [q_lit, Int32.neg_neg, nI_add, pk_mul, q_sub, q_addn, q_nadd, q_lt, q_le, q_eq, q_eqn, q_neq, q_nen, q_ltn, q_nlt, q_len, q_nle, q_nltn, q_nlen, q_cl, q_ib, q_ibn, q_isz0, q_isz1, q_iszb, q_b0, q_b1, q_ng1, q_ng2, q_ng3, q_ng4, q_ng5, q_ng6, Bool.toNat_true, Bool.toNat_false, if_pos, if_neg, q_ct, q_cf, q_let, q_bd, q_it, q_if, Nat.zero_add, Nat.add_zero, true_and, and_true, false_and, and_false, or_false, false_or, or_true, true_or, Bool.true_eq_false, Bool.false_eq_true, wi_s, wi_o, wi_r, m_place, m_bit, b1, eg, e1, q1, q2]
          rw [unf, tail K]
          cases b2 : (q_kn g p (fun h => hrs.testBit h) h).testBit fa
          · have hK1 : (ph_wi K 15 (8 * p + fa) (nI h)).1 2 = g := by funext j; simp (disch := first | assumption | omega) only [q_lit, Int32.neg_neg, nI_add, pk_mul, q_sub, q_addn, q_nadd, q_lt, q_le, q_eq, q_eqn, q_neq, q_nen, q_ltn, q_nlt, q_len, q_nle, q_nltn, q_nlen, q_cl, q_ib, q_ibn, q_isz0, q_isz1, q_iszb, q_b0, q_b1, q_ng1, q_ng2, q_ng3, q_ng4, q_ng5, q_ng6, Bool.toNat_true, Bool.toNat_false, if_pos, if_neg, q_ct, q_cf, q_let, q_bd, q_it, q_if, Nat.zero_add, Nat.add_zero, true_and, and_true, false_and, and_false, or_false, false_or, or_true, true_or, Bool.true_eq_false, Bool.false_eq_true, wi_s, wi_o, wi_r]; exact eg j
            obtain ⟨K', r1, r2, r3, r4⟩ := ih (ph_wi K 15 (8 * p + fa) (nI h)) (by omega) (by omega) hK1 (fun f' hf' hb => by
              by_cases ef : f' = fa
              · subst ef
                refine ⟨h, ⟨by omega, b2, hb⟩, by simp (disch := first | assumption | omega) only [q_lit, Int32.neg_neg, nI_add, pk_mul, q_sub, q_addn, q_nadd, q_lt, q_le, q_eq, q_eqn, q_neq, q_nen, q_ltn, q_nlt, q_len, q_nle, q_nltn, q_nlen, q_cl, q_ib, q_ibn, q_isz0, q_isz1, q_iszb, q_b0, q_b1, q_ng1, q_ng2, q_ng3, q_ng4, q_ng5, q_ng6, Bool.toNat_true, Bool.toNat_false, if_pos, if_neg, q_ct, q_cf, q_let, q_bd, q_it, q_if, Nat.zero_add, Nat.add_zero, true_and, and_true, false_and, and_false, or_false, false_or, or_true, true_or, Bool.true_eq_false, Bool.false_eq_true, wi_s, wi_o, wi_r]⟩
              · have : (q_kn g p (fun h => hrs.testBit h) h).testBit f' = true := by
                  rw [enew, Nat.testBit_or, Nat.testBit_two_pow] at hb
                  simpa [Ne.symm ef] using hb
                obtain ⟨j, j1, j2⟩ := hI f' hf' this
                exact ⟨j, j1, by simp (disch := first | assumption | omega) only [q_lit, Int32.neg_neg, nI_add, pk_mul, q_sub, q_addn, q_nadd, q_lt, q_le, q_eq, q_eqn, q_neq, q_nen, q_ltn, q_nlt, q_len, q_nle, q_nltn, q_nlen, q_cl, q_ib, q_ibn, q_isz0, q_isz1, q_iszb, q_b0, q_b1, q_ng1, q_ng2, q_ng3, q_ng4, q_ng5, q_ng6, Bool.toNat_true, Bool.toNat_false, if_pos, if_neg, q_ct, q_cf, q_let, q_bd, q_it, q_if, Nat.zero_add, Nat.add_zero, true_and, and_true, false_and, and_false, or_false, false_or, or_true, true_or, Bool.true_eq_false, Bool.false_eq_true, wi_s, wi_o, wi_r]; exact j2⟩)
            refine ⟨K', by simpa using r1, r2, fun c j hc => ?_, r4.trans wi_r⟩
            rw [r3 c j hc]
            by_cases ec : c = 15
            · subst ec
              rw [wi_k (by omega)]
            · rw [wi_c ec]
          · obtain ⟨K', r1, r2, r3, r4⟩ := ih K (by omega) (by omega) hK (fun f' hf' hb => by
              refine hI f' hf' ?_
              rw [enew, Nat.testBit_or, Nat.testBit_two_pow] at hb
              by_cases ef : fa = f'
              · subst ef; exact b2
              · simpa [ef] using hb)
            exact ⟨K', by simpa using r1, r2, r3, r4⟩
        rcases hg.2 fa hfa with e2 | ⟨nd, hnd, e2⟩
        · exact hlearn (Or.inl e2)
        · cases b3 : (q_kn g p (fun h => hrs.testBit h) h).testBit nd
          · refine stay ?_ ?_
            · rw [q_kn]
              simp only [b1, if_true]
              unfold q_ks
              rw [e1, q_cl (by omega), if_neg (by simp (disch := first | assumption | omega) only [q_lit, Int32.neg_neg, nI_add, pk_mul, q_sub, q_addn, q_nadd, q_lt, q_le, q_eq, q_eqn, q_neq, q_nen, q_ltn, q_nlt, q_len, q_nle, q_nltn, q_nlen, q_cl, q_ib, q_ibn, q_isz0, q_isz1, q_iszb, q_b0, q_b1, q_ng1, q_ng2, q_ng3, q_ng4, q_ng5, q_ng6, Bool.toNat_true, Bool.toNat_false, if_pos, if_neg, q_ct, q_cf, q_let, q_bd, q_it, q_if, Nat.zero_add, Nat.add_zero, true_and, and_true, false_and, and_false, or_false, false_or, or_true, true_or, Bool.true_eq_false, Bool.false_eq_true, wi_s, wi_o, wi_r]; simp), e2, q_cl (by omega), b3, if_neg]
              simp (disch := first | assumption | omega) only [q_lit, Int32.neg_neg, nI_add, pk_mul, q_sub, q_addn, q_nadd, q_lt, q_le, q_eq, q_eqn, q_neq, q_nen, q_ltn, q_nlt, q_len, q_nle, q_nltn, q_nlen, q_cl, q_ib, q_ibn, q_isz0, q_isz1, q_iszb, q_b0, q_b1, q_ng1, q_ng2, q_ng3, q_ng4, q_ng5, q_ng6, Bool.toNat_true, Bool.toNat_false, if_pos, if_neg, q_ct, q_cf, q_let, q_bd, q_it, q_if, Nat.zero_add, Nat.add_zero, true_and, and_true, false_and, and_false, or_false, false_or, or_true, true_or, Bool.true_eq_false, Bool.false_eq_true, wi_s, wi_o, wi_r]
              simp
            · conv => lhs; unfold f12_knownBy_l5 f12_knownBy_j110
              simp (disch := first | assumption | omega) only [q_lit, Int32.neg_neg, nI_add, pk_mul, q_sub, q_addn, q_nadd, q_lt, q_le, q_eq, q_eqn, q_neq, q_nen, q_ltn, q_nlt, q_len, q_nle, q_nltn, q_nlen, q_cl, q_ib, q_ibn, q_isz0, q_isz1, q_iszb, q_b0, q_b1, q_ng1, q_ng2, q_ng3, q_ng4, q_ng5, q_ng6, Bool.toNat_true, Bool.toNat_false, if_pos, if_neg, q_ct, q_cf, q_let, q_bd, q_it, q_if, Nat.zero_add, Nat.add_zero, true_and, and_true, false_and, and_false, or_false, false_or, or_true, true_or, Bool.true_eq_false, Bool.false_eq_true, wi_s, wi_o, wi_r, m_place, m_bit, b1, eg, e1, e2, b3]
          · exact hlearn (Or.inr ⟨nd, hnd, e2, b3⟩)
theorem m_known {p hrs : Nat} (hp : p < 6) (hh : hrs < 4096) {K : ph_Mem} (hg : q_fo (K.1 2) p) : ∃ K', f12_knownBy K (nI p) (nI hrs) = some (nI (q_kn (K.1 2) p (fun h => hrs.testBit h) 12), K') ∧ (∀ f, f < 8 → (q_kn (K.1 2) p (fun h => hrs.testBit h) 12).testBit f = true → ∃ j, q_lh (K.1 2) p f (fun h => hrs.testBit h) j ∧ K'.1 15 (8 * p + f) = nI j) ∧ (∀ c j, c ≠ 15 ∨ j < 8 * p ∨ 8 * p + 8 ≤ j → K'.1 c j = K.1 c j) ∧ K'.2 = K.2 := m_known_l hp hh hg 12 0 10000 K (by omega) (by omega) rfl (fun f _ h => absurd h (by simp [q_kn]))
theorem q_kn_ext {g : Nat → Int32} {p : Nat} {H H' : Nat → Bool} : ∀ n, (∀ h, h < n → H h = H' h) → q_kn g p H n = q_kn g p H' n
  | 0, _ => rfl
  | n + 1, e => by rw [q_kn, q_kn, q_kn_ext n (fun h hh => e h (by omega)), e n (by omega)]
