/-! PURE HALF: redeem, a day, an auction on a street -/
theorem x_redeem {RL : rLT} (hRL : rLoc RL) {S : ph_Sh} {X : ph_Mem} {c l : Nat} {g : Nat → Int32} {n t p h d nx sz : Nat} (hc : ph_isS c) (hcl : c + 12 ≤ l) (hl : l < 80) (hs : rSt RL S X c g n t) (hp : p < n) (hh : h < 12) (hd : d ≤ 999) (hd2 : g 222 = nI d) (hlg : xLg X l nx sz) (V : Nat → Nat → Nat)
    (hV0 : g (12 * p + h) = nI 1 → V 1 d ≤ 9999) (hVx : ∀ (X1 : ph_Mem) (kd : Nat), (∀ e j, (c ≤ e ∧ e < c + 12) ∨ 88 ≤ e → X1.1 e j = X.1 e j) → (∀ i, X1.2.2 (c + 11) i = X.2.2 (c + 11) i) → kd < 3 → (kd = 1 → g (12 * p + h) = nI 1) → ∃ X', f9_ruled S X1 c (nI kd) (nI p) (nI h) (nI d) = some (nI (V kd d), X') ∧ xSc X1 X') {u : Nat} (hu : g (216 + p) = nI u) (hu2 : u ≤ 99999) :
    (¬ (g (12 * p + h) = nI 1 ∧ V 1 d ≤ u) → ∃ X', f9_tryRedeem S X c (nI p) (nI h) l = some (-nI 3, X') ∧ xSc X X') ∧
    (g (12 * p + h) = nI 1 ∧ V 1 d ≤ u → ∃ X', f9_tryRedeem S X c (nI p) (nI h) l = some (nI (V 1 d), X') ∧ xTr X X' c l ∧ xEn X X' l c nx sz 1 (12 * p + h) ∧ ∀ g', (∀ j, g' j = gRed g p (12 * p + h) (u - V 1 d) j) → rSt RL S X' c g' n t) := by
  have hn := hs.1.1
  have c11 : 11 ≤ c := by unfold ph_isS at hc; omega
  have c47 : c ≤ 47 := by unfold ph_isS at hc; omega
  obtain ⟨s, s1, s2, s3⟩ := rSt_hr hs hp hh
  obtain ⟨d', d1', d2', d3'⟩ := rSt_day hs
  have hdd : d' = d := (nI_eq (by omega) (by omega)).mp (d3'.symm.trans hd2)
  subst hdd
  obtain ⟨u', u1', u2', u3'⟩ := rSt_pu hs (show p < 6 by omega)
  have huu : u' = u := (nI_eq (by omega) (by omega)).mp (u3'.symm.trans hu)
  subst huu
  have hpl : 12 * p + h < 72 := by omega
  refine ⟨fun hno => ?_, fun ⟨h1, h2⟩ => ?_⟩
  · unfold f9_tryRedeem
    by_cases e0 : s = 1
    · subst e0
      obtain ⟨X1, v1, v2⟩ := hVx X 1 (fun _ _ _ => rfl) (fun _ => rfl) (by omega) (fun _ => s3)
      have hv := hV0 s3
      have lt : ¬ V 1 d' ≤ u' := fun q => hno ⟨s3, q⟩
      have e1 : X1.1 (c + 1) p = nI u' := (v2.1 _ _ (by omega)).trans u2'
      refine ⟨X1, ?_, v2⟩
      simp (disch := first | assumption | omega) only [q_lit, Int32.neg_neg, nI_add, pk_mul, q_sub, q_addn, q_nadd, q_lt, q_le, q_eq, q_eqn, q_neq, q_nen, q_ltn, q_nlt, q_len, q_nle, q_nltn, q_nlen, q_cl, q_ib, q_ibn, q_isz0, q_isz1, q_iszb, q_b0, q_b1, q_ng1, q_ng2, q_ng3, q_ng4, q_ng5, q_ng6, Bool.toNat_true, Bool.toNat_false, if_pos, if_neg, q_ct, q_cf, q_let, q_bd, q_it, q_if, Nat.zero_add, Nat.add_zero, true_and, and_true, false_and, and_false, or_false, false_or, or_true, true_or, Bool.true_eq_false, Bool.false_eq_true, wi_s, wi_o, wi_r, x_place, s2, d2', v1, e1]
    · refine ⟨X, ?_, ⟨fun _ _ _ => rfl, rfl, fun _ _ _ => rfl⟩⟩
      simp (disch := first | assumption | omega) only [q_lit, Int32.neg_neg, nI_add, pk_mul, q_sub, q_addn, q_nadd, q_lt, q_le, q_eq, q_eqn, q_neq, q_nen, q_ltn, q_nlt, q_len, q_nle, q_nltn, q_nlen, q_cl, q_ib, q_ibn, q_isz0, q_isz1, q_iszb, q_b0, q_b1, q_ng1, q_ng2, q_ng3, q_ng4, q_ng5, q_ng6, Bool.toNat_true, Bool.toNat_false, if_pos, if_neg, q_ct, q_cf, q_let, q_bd, q_it, q_if, Nat.zero_add, Nat.add_zero, true_and, and_true, false_and, and_false, or_false, false_or, or_true, true_or, Bool.true_eq_false, Bool.false_eq_true, wi_s, wi_o, wi_r, x_place, s2]
  · have e0 : s = 1 := (nI_eq (by omega) (by omega)).mp (s3.symm.trans h1)
    subst e0
    have hv := hV0 s3
    obtain ⟨X2, w1, w2⟩ := hVx X 1 (fun _ _ _ => rfl) (fun _ => rfl) (by omega) (fun _ => s3)
    have x2 : ∀ e j, e ≠ 6 → X2.1 e j = X.1 e j := fun e j he => w2.1 e j he
    obtain ⟨q1, q2, q3, q4⟩ := hlg
    obtain ⟨M1, m1, m2⟩ := x_add (S := S) (M := X2) (k := 1) hcl q1 q2 hpl ((x2 l 1 (by omega)).trans q3) ((x2 l 2 (by omega)).trans q4)
    obtain ⟨a1, a2, a3, a4, a5, a6, a7, a8, a9, b1, b2, b3⟩ := id m2
    have mo : ∀ e j, e ≠ 6 → e ≠ l → e ≠ l + 1 → M1.1 e j = X.1 e j := fun e j h1 h2 h3 => (b2 e j h3 (Or.inl h2)).trans (x2 e j h1)
    have eX2p : X2.1 (c + 1) p = nI u' := (x2 _ _ (by omega)).trans u2'
    have eM1p : M1.1 (c + 1) p = nI u' := (mo _ _ (by omega) (by omega) (by omega)).trans u2'
    refine ⟨ph_wi (ph_wi (ph_wi (ph_wi M1 (c + 1) p (nI (u' - V 1 d'))) (c + 5) (12 * p + h) (nI 0)) (c + 6) (12 * p + h) (-nI 1)) (c + 7) (12 * p + h) (-nI 1), ?_, ?_, ?_, fun g' hg' => ?_⟩
    · unfold f9_tryRedeem
      simp (disch := first | assumption | omega) only [q_lit, Int32.neg_neg, nI_add, pk_mul, q_sub, q_addn, q_nadd, q_lt, q_le, q_eq, q_eqn, q_neq, q_nen, q_ltn, q_nlt, q_len, q_nle, q_nltn, q_nlen, q_cl, q_ib, q_ibn, q_isz0, q_isz1, q_iszb, q_b0, q_b1, q_ng1, q_ng2, q_ng3, q_ng4, q_ng5, q_ng6, Bool.toNat_true, Bool.toNat_false, if_pos, if_neg, q_ct, q_cf, q_let, q_bd, q_it, q_if, Nat.zero_add, Nat.add_zero, true_and, and_true, false_and, and_false, or_false, false_or, or_true, true_or, Bool.true_eq_false, Bool.false_eq_true, wi_s, wi_o, wi_r, x_place, s2, d2', w1, eX2p, m1, eM1p, x_setst]
    · refine ⟨fun e j h1 h2 h3 h4 => ?_, ?_, fun j h1 h2 => ?_, fun e j h1 => ?_⟩
      · simp (disch := first | assumption | omega) only [q_lit, Int32.neg_neg, nI_add, pk_mul, q_sub, q_addn, q_nadd, q_lt, q_le, q_eq, q_eqn, q_neq, q_nen, q_ltn, q_nlt, q_len, q_nle, q_nltn, q_nlen, q_cl, q_ib, q_ibn, q_isz0, q_isz1, q_iszb, q_b0, q_b1, q_ng1, q_ng2, q_ng3, q_ng4, q_ng5, q_ng6, Bool.toNat_true, Bool.toNat_false, if_pos, if_neg, q_ct, q_cf, q_let, q_bd, q_it, q_if, Nat.zero_add, Nat.add_zero, true_and, and_true, false_and, and_false, or_false, false_or, or_true, true_or, Bool.true_eq_false, Bool.false_eq_true, wi_s, wi_o, wi_r]; exact mo e j h2 h3 h4
      · simp (disch := first | assumption | omega) only [q_lit, Int32.neg_neg, nI_add, pk_mul, q_sub, q_addn, q_nadd, q_lt, q_le, q_eq, q_eqn, q_neq, q_nen, q_ltn, q_nlt, q_len, q_nle, q_nltn, q_nlen, q_cl, q_ib, q_ibn, q_isz0, q_isz1, q_iszb, q_b0, q_b1, q_ng1, q_ng2, q_ng3, q_ng4, q_ng5, q_ng6, Bool.toNat_true, Bool.toNat_false, if_pos, if_neg, q_ct, q_cf, q_let, q_bd, q_it, q_if, Nat.zero_add, Nat.add_zero, true_and, and_true, false_and, and_false, or_false, false_or, or_true, true_or, Bool.true_eq_false, Bool.false_eq_true, wi_s, wi_o, wi_r]; rw [b3, w2.2.1]
      · simp (disch := first | assumption | omega) only [q_lit, Int32.neg_neg, nI_add, pk_mul, q_sub, q_addn, q_nadd, q_lt, q_le, q_eq, q_eqn, q_neq, q_nen, q_ltn, q_nlt, q_len, q_nle, q_nltn, q_nlen, q_cl, q_ib, q_ibn, q_isz0, q_isz1, q_iszb, q_b0, q_b1, q_ng1, q_ng2, q_ng3, q_ng4, q_ng5, q_ng6, Bool.toNat_true, Bool.toNat_false, if_pos, if_neg, q_ct, q_cf, q_let, q_bd, q_it, q_if, Nat.zero_add, Nat.add_zero, true_and, and_true, false_and, and_false, or_false, false_or, or_true, true_or, Bool.true_eq_false, Bool.false_eq_true, wi_s, wi_o, wi_r]; rw [b2 l j (by omega) (by omega)]; exact x2 l j (by omega)
      · simp (disch := first | assumption | omega) only [q_lit, Int32.neg_neg, nI_add, pk_mul, q_sub, q_addn, q_nadd, q_lt, q_le, q_eq, q_eqn, q_neq, q_nen, q_ltn, q_nlt, q_len, q_nle, q_nltn, q_nlen, q_cl, q_ib, q_ibn, q_isz0, q_isz1, q_iszb, q_b0, q_b1, q_ng1, q_ng2, q_ng3, q_ng4, q_ng5, q_ng6, Bool.toNat_true, Bool.toNat_false, if_pos, if_neg, q_ct, q_cf, q_let, q_bd, q_it, q_if, Nat.zero_add, Nat.add_zero, true_and, and_true, false_and, and_false, or_false, false_or, or_true, true_or, Bool.true_eq_false, Bool.false_eq_true, wi_s, wi_o, wi_r]; rw [b3, w2.2.2 e j h1]
    · refine ⟨X2, fun e j he => x2 e j (by omega), M1, m2, by simp (disch := first | assumption | omega) only [q_lit, Int32.neg_neg, nI_add, pk_mul, q_sub, q_addn, q_nadd, q_lt, q_le, q_eq, q_eqn, q_neq, q_nen, q_ltn, q_nlt, q_len, q_nle, q_nltn, q_nlen, q_cl, q_ib, q_ibn, q_isz0, q_isz1, q_iszb, q_b0, q_b1, q_ng1, q_ng2, q_ng3, q_ng4, q_ng5, q_ng6, Bool.toNat_true, Bool.toNat_false, if_pos, if_neg, q_ct, q_cf, q_let, q_bd, q_it, q_if, Nat.zero_add, Nat.add_zero, true_and, and_true, false_and, and_false, or_false, false_or, or_true, true_or, Bool.true_eq_false, Bool.false_eq_true, wi_s, wi_o, wi_r], by simp (disch := first | assumption | omega) only [q_lit, Int32.neg_neg, nI_add, pk_mul, q_sub, q_addn, q_nadd, q_lt, q_le, q_eq, q_eqn, q_neq, q_nen, q_ltn, q_nlt, q_len, q_nle, q_nltn, q_nlen, q_cl, q_ib, q_ibn, q_isz0, q_isz1, q_iszb, q_b0, q_b1, q_ng1, q_ng2, q_ng3, q_ng4, q_ng5, q_ng6, Bool.toNat_true, Bool.toNat_false, if_pos, if_neg, q_ct, q_cf, q_let, q_bd, q_it, q_if, Nat.zero_add, Nat.add_zero, true_and, and_true, false_and, and_false, or_false, false_or, or_true, true_or, Bool.true_eq_false, Bool.false_eq_true, wi_s, wi_o, wi_r], fun j => by simp (disch := first | assumption | omega) only [q_lit, Int32.neg_neg, nI_add, pk_mul, q_sub, q_addn, q_nadd, q_lt, q_le, q_eq, q_eqn, q_neq, q_nen, q_ltn, q_nlt, q_len, q_nle, q_nltn, q_nlen, q_cl, q_ib, q_ibn, q_isz0, q_isz1, q_iszb, q_b0, q_b1, q_ng1, q_ng2, q_ng3, q_ng4, q_ng5, q_ng6, Bool.toNat_true, Bool.toNat_false, if_pos, if_neg, q_ct, q_cf, q_let, q_bd, q_it, q_if, Nat.zero_add, Nat.add_zero, true_and, and_true, false_and, and_false, or_false, false_or, or_true, true_or, Bool.true_eq_false, Bool.false_eq_true, wi_s, wi_o, wi_r], fun j hj he => ?_⟩
      simp (disch := first | assumption | omega) only [q_lit, Int32.neg_neg, nI_add, pk_mul, q_sub, q_addn, q_nadd, q_lt, q_le, q_eq, q_eqn, q_neq, q_nen, q_ltn, q_nlt, q_len, q_nle, q_nltn, q_nlen, q_cl, q_ib, q_ibn, q_isz0, q_isz1, q_iszb, q_b0, q_b1, q_ng1, q_ng2, q_ng3, q_ng4, q_ng5, q_ng6, Bool.toNat_true, Bool.toNat_false, if_pos, if_neg, q_ct, q_cf, q_let, q_bd, q_it, q_if, Nat.zero_add, Nat.add_zero, true_and, and_true, false_and, and_false, or_false, false_or, or_true, true_or, Bool.true_eq_false, Bool.false_eq_true, wi_s, wi_o, wi_r]
      rw [mo _ _ (by omega) (by omega) (by omega), mo _ _ (by omega) (by omega) (by omega), mo _ _ (by omega) (by omega) (by omega)]
      exact ⟨rfl, rfl, rfl⟩
    · have hg0 : ∀ j, j < 72 → j ≠ 12 * p + h → g' j = g j ∧ g' (72 + j) = g (72 + j) ∧ g' (144 + j) = g (144 + j) := fun j h1 h2 => by
        rw [hg', hg', hg']
        unfold gRed
        rw [if_neg (by omega), if_neg (by omega), if_neg (by omega), if_neg (by omega), if_neg (by omega), if_neg (by omega)]
        exact ⟨rfl, rfl, rfl⟩
      refine rSt_mv hRL hs (fun j => ?_) (fun e j _ => ?_) (fun j _ => ?_) ?_ (fun e j _ => ?_) (fun j hj => ?_) ?_
      · simp (disch := first | assumption | omega) only [q_lit, Int32.neg_neg, nI_add, pk_mul, q_sub, q_addn, q_nadd, q_lt, q_le, q_eq, q_eqn, q_neq, q_nen, q_ltn, q_nlt, q_len, q_nle, q_nltn, q_nlen, q_cl, q_ib, q_ibn, q_isz0, q_isz1, q_iszb, q_b0, q_b1, q_ng1, q_ng2, q_ng3, q_ng4, q_ng5, q_ng6, Bool.toNat_true, Bool.toNat_false, if_pos, if_neg, q_ct, q_cf, q_let, q_bd, q_it, q_if, Nat.zero_add, Nat.add_zero, true_and, and_true, false_and, and_false, or_false, false_or, or_true, true_or, Bool.true_eq_false, Bool.false_eq_true, wi_s, wi_o, wi_r]; exact mo _ _ (by omega) (by omega) (by omega)
      · simp (disch := first | assumption | omega) only [q_lit, Int32.neg_neg, nI_add, pk_mul, q_sub, q_addn, q_nadd, q_lt, q_le, q_eq, q_eqn, q_neq, q_nen, q_ltn, q_nlt, q_len, q_nle, q_nltn, q_nlen, q_cl, q_ib, q_ibn, q_isz0, q_isz1, q_iszb, q_b0, q_b1, q_ng1, q_ng2, q_ng3, q_ng4, q_ng5, q_ng6, Bool.toNat_true, Bool.toNat_false, if_pos, if_neg, q_ct, q_cf, q_let, q_bd, q_it, q_if, Nat.zero_add, Nat.add_zero, true_and, and_true, false_and, and_false, or_false, false_or, or_true, true_or, Bool.true_eq_false, Bool.false_eq_true, wi_s, wi_o, wi_r]; exact mo _ _ (by omega) (by omega) (by omega)
      · simp (disch := first | assumption | omega) only [q_lit, Int32.neg_neg, nI_add, pk_mul, q_sub, q_addn, q_nadd, q_lt, q_le, q_eq, q_eqn, q_neq, q_nen, q_ltn, q_nlt, q_len, q_nle, q_nltn, q_nlen, q_cl, q_ib, q_ibn, q_isz0, q_isz1, q_iszb, q_b0, q_b1, q_ng1, q_ng2, q_ng3, q_ng4, q_ng5, q_ng6, Bool.toNat_true, Bool.toNat_false, if_pos, if_neg, q_ct, q_cf, q_let, q_bd, q_it, q_if, Nat.zero_add, Nat.add_zero, true_and, and_true, false_and, and_false, or_false, false_or, or_true, true_or, Bool.true_eq_false, Bool.false_eq_true, wi_s, wi_o, wi_r]; exact mo _ _ (by omega) (by omega) (by omega)
      · simp (disch := first | assumption | omega) only [q_lit, Int32.neg_neg, nI_add, pk_mul, q_sub, q_addn, q_nadd, q_lt, q_le, q_eq, q_eqn, q_neq, q_nen, q_ltn, q_nlt, q_len, q_nle, q_nltn, q_nlen, q_cl, q_ib, q_ibn, q_isz0, q_isz1, q_iszb, q_b0, q_b1, q_ng1, q_ng2, q_ng3, q_ng4, q_ng5, q_ng6, Bool.toNat_true, Bool.toNat_false, if_pos, if_neg, q_ct, q_cf, q_let, q_bd, q_it, q_if, Nat.zero_add, Nat.add_zero, true_and, and_true, false_and, and_false, or_false, false_or, or_true, true_or, Bool.true_eq_false, Bool.false_eq_true, wi_s, wi_o, wi_r]; rw [b3, w2.2.1]
      · simp (disch := first | assumption | omega) only [q_lit, Int32.neg_neg, nI_add, pk_mul, q_sub, q_addn, q_nadd, q_lt, q_le, q_eq, q_eqn, q_neq, q_nen, q_ltn, q_nlt, q_len, q_nle, q_nltn, q_nlen, q_cl, q_ib, q_ibn, q_isz0, q_isz1, q_iszb, q_b0, q_b1, q_ng1, q_ng2, q_ng3, q_ng4, q_ng5, q_ng6, Bool.toNat_true, Bool.toNat_false, if_pos, if_neg, q_ct, q_cf, q_let, q_bd, q_it, q_if, Nat.zero_add, Nat.add_zero, true_and, and_true, false_and, and_false, or_false, false_or, or_true, true_or, Bool.true_eq_false, Bool.false_eq_true, wi_s, wi_o, wi_r]; exact mo _ _ (by omega) (by omega) (by omega)
      · rw [hg']; unfold gRed
        rw [if_neg (by omega), if_neg (by omega)]
      · refine rMv_pl hs.2.1 hn (show 12 * p + h < 12 * n by omega) ?_ ?_ (fun j h1 h2 => ?_) hg0 (fun q hq => ?_) (fun e he1 he2 => ?_)
        · unfold rVw; simp (disch := first | assumption | omega) only [q_lit, Int32.neg_neg, nI_add, pk_mul, q_sub, q_addn, q_nadd, q_lt, q_le, q_eq, q_eqn, q_neq, q_nen, q_ltn, q_nlt, q_len, q_nle, q_nltn, q_nlen, q_cl, q_ib, q_ibn, q_isz0, q_isz1, q_iszb, q_b0, q_b1, q_ng1, q_ng2, q_ng3, q_ng4, q_ng5, q_ng6, Bool.toNat_true, Bool.toNat_false, if_pos, if_neg, q_ct, q_cf, q_let, q_bd, q_it, q_if, Nat.zero_add, Nat.add_zero, true_and, and_true, false_and, and_false, or_false, false_or, or_true, true_or, Bool.true_eq_false, Bool.false_eq_true, wi_s, wi_o, wi_r]; exact mo _ _ (by omega) (by omega) (by omega)
        · rw [hg']; unfold gRed
          rw [if_neg (by omega), if_neg (by omega)]
        · unfold rVw; simp (disch := first | assumption | omega) only [q_lit, Int32.neg_neg, nI_add, pk_mul, q_sub, q_addn, q_nadd, q_lt, q_le, q_eq, q_eqn, q_neq, q_nen, q_ltn, q_nlt, q_len, q_nle, q_nltn, q_nlen, q_cl, q_ib, q_ibn, q_isz0, q_isz1, q_iszb, q_b0, q_b1, q_ng1, q_ng2, q_ng3, q_ng4, q_ng5, q_ng6, Bool.toNat_true, Bool.toNat_false, if_pos, if_neg, q_ct, q_cf, q_let, q_bd, q_it, q_if, Nat.zero_add, Nat.add_zero, true_and, and_true, false_and, and_false, or_false, false_or, or_true, true_or, Bool.true_eq_false, Bool.false_eq_true, wi_s, wi_o, wi_r]
          exact ⟨mo _ _ (by omega) (by omega) (by omega), mo _ _ (by omega) (by omega) (by omega), mo _ _ (by omega) (by omega) (by omega)⟩
        · unfold rVw
          by_cases eq : q = p
          · subst eq
            rw [hg']
            unfold gRed
            simp (disch := first | assumption | omega) only [q_lit, Int32.neg_neg, nI_add, pk_mul, q_sub, q_addn, q_nadd, q_lt, q_le, q_eq, q_eqn, q_neq, q_nen, q_ltn, q_nlt, q_len, q_nle, q_nltn, q_nlen, q_cl, q_ib, q_ibn, q_isz0, q_isz1, q_iszb, q_b0, q_b1, q_ng1, q_ng2, q_ng3, q_ng4, q_ng5, q_ng6, Bool.toNat_true, Bool.toNat_false, if_pos, if_neg, q_ct, q_cf, q_let, q_bd, q_it, q_if, Nat.zero_add, Nat.add_zero, true_and, and_true, false_and, and_false, or_false, false_or, or_true, true_or, Bool.true_eq_false, Bool.false_eq_true, wi_s, wi_o, wi_r]
            exact ⟨⟨_, by omega, rfl⟩, fun z => absurd z (by omega)⟩
          · rw [hg']
            unfold gRed
            simp (disch := first | assumption | omega) only [q_lit, Int32.neg_neg, nI_add, pk_mul, q_sub, q_addn, q_nadd, q_lt, q_le, q_eq, q_eqn, q_neq, q_nen, q_ltn, q_nlt, q_len, q_nle, q_nltn, q_nlen, q_cl, q_ib, q_ibn, q_isz0, q_isz1, q_iszb, q_b0, q_b1, q_ng1, q_ng2, q_ng3, q_ng4, q_ng5, q_ng6, Bool.toNat_true, Bool.toNat_false, if_pos, if_neg, q_ct, q_cf, q_let, q_bd, q_it, q_if, Nat.zero_add, Nat.add_zero, true_and, and_true, false_and, and_false, or_false, false_or, or_true, true_or, Bool.true_eq_false, Bool.false_eq_true, wi_s, wi_o, wi_r]
            rw [mo _ _ (by omega) (by omega) (by omega)]
            exact hs.2.1.2.2 q hq
        · rw [hg', hg', hg']
          unfold gRed rVw
          simp (disch := first | assumption | omega) only [q_lit, Int32.neg_neg, nI_add, pk_mul, q_sub, q_addn, q_nadd, q_lt, q_le, q_eq, q_eqn, q_neq, q_nen, q_ltn, q_nlt, q_len, q_nle, q_nltn, q_nlen, q_cl, q_ib, q_ibn, q_isz0, q_isz1, q_iszb, q_b0, q_b1, q_ng1, q_ng2, q_ng3, q_ng4, q_ng5, q_ng6, Bool.toNat_true, Bool.toNat_false, if_pos, if_neg, q_ct, q_cf, q_let, q_bd, q_it, q_if, Nat.zero_add, Nat.add_zero, true_and, and_true, false_and, and_false, or_false, false_or, or_true, true_or, Bool.true_eq_false, Bool.false_eq_true, wi_s, wi_o, wi_r]
          exact ⟨⟨0, by omega, rfl⟩, fun z => absurd z (by omega), fun _ => trivial⟩
/-- a day: purses have inc more, 99,999 at most -/
def gDay (g : Nat → Int32) (n d inc : Nat) : Nat → Int32 := fun j => if j = 222 then nI (d + 1) else if 216 ≤ j ∧ j < 216 + n then nI (min 99999 ((g j).toNatClampNeg + inc)) else g j
theorem x_day_l {S : ph_Sh} {c l n inc : Nat} (hn : n ≤ 6) (hinc : inc ≤ 99) (M0 : ph_Mem) (h1 : M0.1 c 1 = nI n) (h10 : M0.1 (c + 10) 1 = nI inc) (hp : ∀ q, q < n → ∃ u, u ≤ 99999 ∧ M0.1 (c + 1) q = nI u) : ∀ (r q fuel : Nat) (M : ph_Mem), q + r = n → r < fuel → (∀ e j, e ≠ c + 1 ∨ q ≤ j → M.1 e j = M0.1 e j) → (∀ j, j < q → M.1 (c + 1) j = nI (min 99999 ((M0.1 (c + 1) j).toNatClampNeg + inc))) → M.2 = M0.2 → ∃ M', f9_tryNextDay_l34 S c l fuel (nI q) M = some (M0.1 (c + 10) 0, M') ∧ (∀ e j, e ≠ c + 1 ∨ n ≤ j → M'.1 e j = M0.1 e j) ∧ (∀ j, j < n → M'.1 (c + 1) j = nI (min 99999 ((M0.1 (c + 1) j).toNatClampNeg + inc))) ∧ M'.2 = M0.2
  | 0, q, f + 1, M, e, _, g1, g2, g3 => by
    have : q = n := by omega
    subst this
    have z1 : M.1 c 1 = nI q := (g1 c 1 (by omega)).trans h1
    have z2 : M.1 (c + 10) 0 = M0.1 (c + 10) 0 := g1 _ _ (by omega)
    refine ⟨M, ?_, g1, g2, g3⟩
    unfold f9_tryNextDay_l34
    simp (disch := first | assumption | omega) only [q_lit, Int32.neg_neg, nI_add, pk_mul, q_sub, q_addn, q_nadd, q_lt, q_le, q_eq, q_eqn, q_neq, q_nen, q_ltn, q_nlt, q_len, q_nle, q_nltn, q_nlen, q_cl, q_ib, q_ibn, q_isz0, q_isz1, q_iszb, q_b0, q_b1, q_ng1, q_ng2, q_ng3, q_ng4, q_ng5, q_ng6, Bool.toNat_true, Bool.toNat_false, if_pos, if_neg, q_ct, q_cf, q_let, q_bd, q_it, q_if, Nat.zero_add, Nat.add_zero, true_and, and_true, false_and, and_false, or_false, false_or, or_true, true_or, Bool.true_eq_false, Bool.false_eq_true, wi_s, wi_o, wi_r, z1, z2]
  | r + 1, q, f + 1, M, e, hf, g1, g2, g3 => by
    have z1 : M.1 c 1 = nI n := (g1 c 1 (by omega)).trans h1
    have z2 : M.1 (c + 10) 1 = nI inc := (g1 _ _ (by omega)).trans h10
    obtain ⟨u, u1, u2⟩ := hp q (by omega)
    have z3 : M.1 (c + 1) q = nI u := (g1 _ _ (by omega)).trans u2
    obtain ⟨M', y1, y2, y3, y4⟩ := x_day_l (S := S) (l := l) hn hinc M0 h1 h10 hp r (q + 1) f (ph_wi M (c + 1) q (nI (min 99999 (u + inc)))) (by omega) (by omega) (fun e j he => by simp (disch := first | assumption | omega) only [q_lit, Int32.neg_neg, nI_add, pk_mul, q_sub, q_addn, q_nadd, q_lt, q_le, q_eq, q_eqn, q_neq, q_nen, q_ltn, q_nlt, q_len, q_nle, q_nltn, q_nlen, q_cl, q_ib, q_ibn, q_isz0, q_isz1, q_iszb, q_b0, q_b1, q_ng1, q_ng2, q_ng3, q_ng4, q_ng5, q_ng6, Bool.toNat_true, Bool.toNat_false, if_pos, if_neg, q_ct, q_cf, q_let, q_bd, q_it, q_if, Nat.zero_add, Nat.add_zero, true_and, and_true, false_and, and_false, or_false, false_or, or_true, true_or, Bool.true_eq_false, Bool.false_eq_true, wi_s, wi_o, wi_r]; exact g1 e j (by omega)) (fun j hj => by
      by_cases ej : j = q
      · subst ej; simp (disch := first | assumption | omega) only [q_lit, Int32.neg_neg, nI_add, pk_mul, q_sub, q_addn, q_nadd, q_lt, q_le, q_eq, q_eqn, q_neq, q_nen, q_ltn, q_nlt, q_len, q_nle, q_nltn, q_nlen, q_cl, q_ib, q_ibn, q_isz0, q_isz1, q_iszb, q_b0, q_b1, q_ng1, q_ng2, q_ng3, q_ng4, q_ng5, q_ng6, Bool.toNat_true, Bool.toNat_false, if_pos, if_neg, q_ct, q_cf, q_let, q_bd, q_it, q_if, Nat.zero_add, Nat.add_zero, true_and, and_true, false_and, and_false, or_false, false_or, or_true, true_or, Bool.true_eq_false, Bool.false_eq_true, wi_s, wi_o, wi_r, u2]
      · simp (disch := first | assumption | omega) only [q_lit, Int32.neg_neg, nI_add, pk_mul, q_sub, q_addn, q_nadd, q_lt, q_le, q_eq, q_eqn, q_neq, q_nen, q_ltn, q_nlt, q_len, q_nle, q_nltn, q_nlen, q_cl, q_ib, q_ibn, q_isz0, q_isz1, q_iszb, q_b0, q_b1, q_ng1, q_ng2, q_ng3, q_ng4, q_ng5, q_ng6, Bool.toNat_true, Bool.toNat_false, if_pos, if_neg, q_ct, q_cf, q_let, q_bd, q_it, q_if, Nat.zero_add, Nat.add_zero, true_and, and_true, false_and, and_false, or_false, false_or, or_true, true_or, Bool.true_eq_false, Bool.false_eq_true, wi_s, wi_o, wi_r]; exact g2 j (by omega)) g3
    refine ⟨M', ?_, y2, y3, y4⟩
    unfold f9_tryNextDay_l34
    simp (disch := first | assumption | omega) only [q_lit, Int32.neg_neg, nI_add, pk_mul, q_sub, q_addn, q_nadd, q_lt, q_le, q_eq, q_eqn, q_neq, q_nen, q_ltn, q_nlt, q_len, q_nle, q_nltn, q_nlen, q_cl, q_ib, q_ibn, q_isz0, q_isz1, q_iszb, q_b0, q_b1, q_ng1, q_ng2, q_ng3, q_ng4, q_ng5, q_ng6, Bool.toNat_true, Bool.toNat_false, if_pos, if_neg, q_ct, q_cf, q_let, q_bd, q_it, q_if, Nat.zero_add, Nat.add_zero, true_and, and_true, false_and, and_false, or_false, false_or, or_true, true_or, Bool.true_eq_false, Bool.false_eq_true, wi_s, wi_o, wi_r, z1, z2, z3, q_min]
    exact y1
theorem x_day {RL : rLT} (hRL : rLoc RL) {S : ph_Sh} {X : ph_Mem} {c l : Nat} {g : Nat → Int32} {n t d nx sz inc : Nat} (hc : ph_isS c) (hcl : c + 12 ≤ l) (hl : l < 80) (hs : rSt RL S X c g n t) (hd : d ≤ 999) (hd2 : g 222 = nI d) (hinc : inc ≤ 99) (hi2 : g 471 = nI inc) (hlg : xLg X l nx sz) :
    (d = 999 → f9_tryNextDay S X c l = some (-nI 3, X)) ∧
    (d < 999 → ∃ X', f9_tryNextDay S X c l = some (nI (d + 1), X') ∧ xTr X X' c l ∧ xEn X X' l c nx sz 2 0 ∧ ∀ g', (∀ j, g' j = gDay g n d inc j) → rSt RL S X' c g' n t) := by
  have hn := hs.1.1
  have c11 : 11 ≤ c := by unfold ph_isS at hc; omega
  have c47 : c ≤ 47 := by unfold ph_isS at hc; omega
  obtain ⟨d', d1', d2', d3'⟩ := rSt_day hs
  have hdd : d' = d := (nI_eq (by omega) (by omega)).mp (d3'.symm.trans hd2)
  subst hdd
  refine ⟨fun e => ?_, fun hlt => ?_⟩
  · unfold f9_tryNextDay
    simp (disch := first | assumption | omega) only [q_lit, Int32.neg_neg, nI_add, pk_mul, q_sub, q_addn, q_nadd, q_lt, q_le, q_eq, q_eqn, q_neq, q_nen, q_ltn, q_nlt, q_len, q_nle, q_nltn, q_nlen, q_cl, q_ib, q_ibn, q_isz0, q_isz1, q_iszb, q_b0, q_b1, q_ng1, q_ng2, q_ng3, q_ng4, q_ng5, q_ng6, Bool.toNat_true, Bool.toNat_false, if_pos, if_neg, q_ct, q_cf, q_let, q_bd, q_it, q_if, Nat.zero_add, Nat.add_zero, true_and, and_true, false_and, and_false, or_false, false_or, or_true, true_or, Bool.true_eq_false, Bool.false_eq_true, wi_s, wi_o, wi_r, d2']
  · obtain ⟨q1, q2, q3, q4⟩ := hlg
    obtain ⟨M1, m1, m2⟩ := x_add (S := S) (M := X) (k := 2) (pl := 0) hcl q1 q2 (by omega) q3 q4
    obtain ⟨a1, a2, a3, a4, a5, a6, a7, a8, a9, b1, b2, b3⟩ := id m2
    have mo : ∀ e j, e ≠ l → e ≠ l + 1 → M1.1 e j = X.1 e j := fun e j h2 h3 => b2 e j h3 (Or.inl h2)
    have eM1d : M1.1 (c + 10) 0 = nI d' := (mo _ _ (by omega) (by omega)).trans d2'
    have ei : X.1 (c + 10) 1 = nI inc := Eq.trans hs.2.2.2.2.2.1.1.1 hi2
    have hpu : ∀ q, q < 6 → ∃ u, u ≤ 99999 ∧ X.1 (c + 1) q = nI u ∧ g (216 + q) = nI u := fun q hq => rSt_pu hs hq
    obtain ⟨X', y1, y2, y3, y4⟩ := x_day_l (S := S) (c := c) (l := l) hn hinc (ph_wi M1 (c + 10) 0 (nI (d' + 1))) (by simp (disch := first | assumption | omega) only [q_lit, Int32.neg_neg, nI_add, pk_mul, q_sub, q_addn, q_nadd, q_lt, q_le, q_eq, q_eqn, q_neq, q_nen, q_ltn, q_nlt, q_len, q_nle, q_nltn, q_nlen, q_cl, q_ib, q_ibn, q_isz0, q_isz1, q_iszb, q_b0, q_b1, q_ng1, q_ng2, q_ng3, q_ng4, q_ng5, q_ng6, Bool.toNat_true, Bool.toNat_false, if_pos, if_neg, q_ct, q_cf, q_let, q_bd, q_it, q_if, Nat.zero_add, Nat.add_zero, true_and, and_true, false_and, and_false, or_false, false_or, or_true, true_or, Bool.true_eq_false, Bool.false_eq_true, wi_s, wi_o, wi_r]; rw [mo _ _ (by omega) (by omega)]; exact hs.1.2.2.1) (by simp (disch := first | assumption | omega) only [q_lit, Int32.neg_neg, nI_add, pk_mul, q_sub, q_addn, q_nadd, q_lt, q_le, q_eq, q_eqn, q_neq, q_nen, q_ltn, q_nlt, q_len, q_nle, q_nltn, q_nlen, q_cl, q_ib, q_ibn, q_isz0, q_isz1, q_iszb, q_b0, q_b1, q_ng1, q_ng2, q_ng3, q_ng4, q_ng5, q_ng6, Bool.toNat_true, Bool.toNat_false, if_pos, if_neg, q_ct, q_cf, q_let, q_bd, q_it, q_if, Nat.zero_add, Nat.add_zero, true_and, and_true, false_and, and_false, or_false, false_or, or_true, true_or, Bool.true_eq_false, Bool.false_eq_true, wi_s, wi_o, wi_r]; rw [mo _ _ (by omega) (by omega)]; exact ei) (fun q hq => by
      obtain ⟨u, u1, u2, u3⟩ := hpu q (by omega)
      exact ⟨u, u1, by simp (disch := first | assumption | omega) only [q_lit, Int32.neg_neg, nI_add, pk_mul, q_sub, q_addn, q_nadd, q_lt, q_le, q_eq, q_eqn, q_neq, q_nen, q_ltn, q_nlt, q_len, q_nle, q_nltn, q_nlen, q_cl, q_ib, q_ibn, q_isz0, q_isz1, q_iszb, q_b0, q_b1, q_ng1, q_ng2, q_ng3, q_ng4, q_ng5, q_ng6, Bool.toNat_true, Bool.toNat_false, if_pos, if_neg, q_ct, q_cf, q_let, q_bd, q_it, q_if, Nat.zero_add, Nat.add_zero, true_and, and_true, false_and, and_false, or_false, false_or, or_true, true_or, Bool.true_eq_false, Bool.false_eq_true, wi_s, wi_o, wi_r]; rw [mo _ _ (by omega) (by omega)]; exact u2⟩) n 0 10000 (ph_wi M1 (c + 10) 0 (nI (d' + 1))) (by omega) (by omega) (fun _ _ _ => rfl) (fun j hj => absurd hj (by omega)) rfl
    have xo : ∀ e j, e ≠ c + 1 → (e ≠ c + 10 ∨ j ≠ 0) → e ≠ l → e ≠ l + 1 → X'.1 e j = X.1 e j := fun e j h1 h2 h3 h4 => by rw [y2 e j (by omega), wi_o h2]; exact mo e j h3 h4
    have x10 : X'.1 (c + 10) 0 = nI (d' + 1) := by rw [y2 _ _ (by omega)]; simp (disch := first | assumption | omega) only [q_lit, Int32.neg_neg, nI_add, pk_mul, q_sub, q_addn, q_nadd, q_lt, q_le, q_eq, q_eqn, q_neq, q_nen, q_ltn, q_nlt, q_len, q_nle, q_nltn, q_nlen, q_cl, q_ib, q_ibn, q_isz0, q_isz1, q_iszb, q_b0, q_b1, q_ng1, q_ng2, q_ng3, q_ng4, q_ng5, q_ng6, Bool.toNat_true, Bool.toNat_false, if_pos, if_neg, q_ct, q_cf, q_let, q_bd, q_it, q_if, Nat.zero_add, Nat.add_zero, true_and, and_true, false_and, and_false, or_false, false_or, or_true, true_or, Bool.true_eq_false, Bool.false_eq_true, wi_s, wi_o, wi_r]
    have x1 : ∀ j, j < n → X'.1 (c + 1) j = nI (min 99999 ((X.1 (c + 1) j).toNatClampNeg + inc)) := fun j hj => by
      have := y3 j hj
      rw [wi_o (by omega), mo _ _ (by omega) (by omega)] at this
      exact this
    have x1' : ∀ j, n ≤ j → X'.1 (c + 1) j = X.1 (c + 1) j := fun j hj => by rw [y2 _ _ (by omega), wi_o (by omega)]; exact mo _ _ (by omega) (by omega)
    refine ⟨X', ?_, ⟨fun e j h1 h2 h3 h4 => xo e j (by omega) (by omega) h3 h4, ?_, fun j h1 h2 => ?_, fun e j h1 => ?_⟩, ?_, fun g' hg' => ?_⟩
    · unfold f9_tryNextDay
      simp (disch := first | assumption | omega) only [q_lit, Int32.neg_neg, nI_add, pk_mul, q_sub, q_addn, q_nadd, q_lt, q_le, q_eq, q_eqn, q_neq, q_nen, q_ltn, q_nlt, q_len, q_nle, q_nltn, q_nlen, q_cl, q_ib, q_ibn, q_isz0, q_isz1, q_iszb, q_b0, q_b1, q_ng1, q_ng2, q_ng3, q_ng4, q_ng5, q_ng6, Bool.toNat_true, Bool.toNat_false, if_pos, if_neg, q_ct, q_cf, q_let, q_bd, q_it, q_if, Nat.zero_add, Nat.add_zero, true_and, and_true, false_and, and_false, or_false, false_or, or_true, true_or, Bool.true_eq_false, Bool.false_eq_true, wi_s, wi_o, wi_r] at y1
      simp (disch := first | assumption | omega) only [q_lit, Int32.neg_neg, nI_add, pk_mul, q_sub, q_addn, q_nadd, q_lt, q_le, q_eq, q_eqn, q_neq, q_nen, q_ltn, q_nlt, q_len, q_nle, q_nltn, q_nlen, q_cl, q_ib, q_ibn, q_isz0, q_isz1, q_iszb, q_b0, q_b1, q_ng1, q_ng2, q_ng3, q_ng4, q_ng5, q_ng6, Bool.toNat_true, Bool.toNat_false, if_pos, if_neg, q_ct, q_cf, q_let, q_bd, q_it, q_if, Nat.zero_add, Nat.add_zero, true_and, and_true, false_and, and_false, or_false, false_or, or_true, true_or, Bool.true_eq_false, Bool.false_eq_true, wi_s, wi_o, wi_r, d2', m1, eM1d]
      exact y1
    · rw [y4]; simp (disch := first | assumption | omega) only [q_lit, Int32.neg_neg, nI_add, pk_mul, q_sub, q_addn, q_nadd, q_lt, q_le, q_eq, q_eqn, q_neq, q_nen, q_ltn, q_nlt, q_len, q_nle, q_nltn, q_nlen, q_cl, q_ib, q_ibn, q_isz0, q_isz1, q_iszb, q_b0, q_b1, q_ng1, q_ng2, q_ng3, q_ng4, q_ng5, q_ng6, Bool.toNat_true, Bool.toNat_false, if_pos, if_neg, q_ct, q_cf, q_let, q_bd, q_it, q_if, Nat.zero_add, Nat.add_zero, true_and, and_true, false_and, and_false, or_false, false_or, or_true, true_or, Bool.true_eq_false, Bool.false_eq_true, wi_s, wi_o, wi_r]; rw [b3]
    · rw [y2 _ _ (by omega), wi_o (by omega), b2 l j (by omega) (by omega)]
    · rw [y4]; simp (disch := first | assumption | omega) only [q_lit, Int32.neg_neg, nI_add, pk_mul, q_sub, q_addn, q_nadd, q_lt, q_le, q_eq, q_eqn, q_neq, q_nen, q_ltn, q_nlt, q_len, q_nle, q_nltn, q_nlen, q_cl, q_ib, q_ibn, q_isz0, q_isz1, q_iszb, q_b0, q_b1, q_ng1, q_ng2, q_ng3, q_ng4, q_ng5, q_ng6, Bool.toNat_true, Bool.toNat_false, if_pos, if_neg, q_ct, q_cf, q_let, q_bd, q_it, q_if, Nat.zero_add, Nat.add_zero, true_and, and_true, false_and, and_false, or_false, false_or, or_true, true_or, Bool.true_eq_false, Bool.false_eq_true, wi_s, wi_o, wi_r]; rw [b3]
    · refine ⟨X, fun _ _ _ => rfl, M1, m2, ?_, ?_, fun j => ?_, fun j hj he => ?_⟩
      · rw [y2 _ _ (by omega), wi_o (by omega)]
      · rw [y2 _ _ (by omega), wi_o (by omega)]
      · rw [y2 _ _ (by omega), wi_o (by omega)]
      · exact ⟨xo _ _ (by omega) (by omega) (by omega) (by omega), xo _ _ (by omega) (by omega) (by omega) (by omega), xo _ _ (by omega) (by omega) (by omega) (by omega)⟩
    · have gg : ∀ j, j < 216 ∨ 223 ≤ j → g' j = g j := fun j hj => by
        rw [hg']; unfold gDay; rw [if_neg (by omega), if_neg (by omega)]
      refine rSt_mv hRL hs (fun j => xo _ _ (by omega) (by omega) (by omega) (by omega)) (fun e j _ => xo _ _ (by omega) (by omega) (by omega) (by omega)) (fun j _ => xo _ _ (by omega) (by omega) (by omega) (by omega)) (by rw [y4]; simp (disch := first | assumption | omega) only [q_lit, Int32.neg_neg, nI_add, pk_mul, q_sub, q_addn, q_nadd, q_lt, q_le, q_eq, q_eqn, q_neq, q_nen, q_ltn, q_nlt, q_len, q_nle, q_nltn, q_nlen, q_cl, q_ib, q_ibn, q_isz0, q_isz1, q_iszb, q_b0, q_b1, q_ng1, q_ng2, q_ng3, q_ng4, q_ng5, q_ng6, Bool.toNat_true, Bool.toNat_false, if_pos, if_neg, q_ct, q_cf, q_let, q_bd, q_it, q_if, Nat.zero_add, Nat.add_zero, true_and, and_true, false_and, and_false, or_false, false_or, or_true, true_or, Bool.true_eq_false, Bool.false_eq_true, wi_s, wi_o, wi_r]; rw [b3]) (fun e j _ => xo _ _ (by omega) (by omega) (by omega) (by omega)) (fun j hj => gg j (by omega)) ?_
      obtain ⟨⟨d, h1, h2, h3, h4⟩, h5, h6⟩ := hs.2.1
      have ed : d = d' := (nI_eq (by omega) (by omega)).mp (h3.symm.trans hd2)
      subst ed
      refine ⟨⟨d + 1, by omega, x10, by rw [hg']; unfold gDay; rw [if_pos rfl], fun j hj => ?_⟩, fun j hj hk => ?_, fun q hq => ?_⟩
      · rw [gg j (by omega), gg (72 + j) (by omega), gg (144 + j) (by omega)]
        have o := h4 j hj
        unfold rVw at o ⊢
        simp only at o ⊢
        rw [xo _ _ (by omega) (by omega) (by omega) (by omega), xo _ _ (by omega) (by omega) (by omega) (by omega), xo _ _ (by omega) (by omega) (by omega) (by omega)]
        refine ⟨o.1, o.2.1, fun z => ?_, o.2.2.2⟩
        obtain ⟨o1, o2, o3, ⟨x, o4, o5⟩⟩ := o.2.2.1 z
        exact ⟨o1, o2, o3, ⟨x, by omega, o5⟩⟩
      · rw [gg j (by omega)]
        have o := h5 j hj hk
        unfold rVw at o ⊢
        simp only at o ⊢
        rw [xo _ _ (by omega) (by omega) (by omega) (by omega), xo _ _ (by omega) (by omega) (by omega) (by omega), xo _ _ (by omega) (by omega) (by omega) (by omega)]
        exact o
      · have o := h6 q hq
        obtain ⟨u, u1, u2, u3⟩ := hpu q hq
        unfold rVw at o ⊢
        simp only at o ⊢
        rw [hg']
        unfold gDay
        rw [if_neg (by omega)]
        by_cases hqn : q < n
        · rw [if_pos (by omega), x1 q hqn, u2, u3]
          exact ⟨rfl, ⟨_, by omega, rfl⟩, fun z => absurd z (by omega)⟩
        · rw [if_neg (by omega), x1' q (by omega)]
          exact o
