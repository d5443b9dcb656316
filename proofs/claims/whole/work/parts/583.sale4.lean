/-! PURE HALF: sale -/
theorem sl_R_lt (b : Nat → Nat → Nat) (n : Nat) : ∀ m U, sl_R b n m U < (n + 1) ^ m
  | 0, U => by rw [sl_R, Nat.pow_zero]; omega
  | m + 1, U => by
    rw [sl_R, Nat.pow_succ]
    have h1 := sl_R_lt b n m (sl_U U (sl_B b n m U) n)
    have h2 := sl_B_le b n m U
    have h3 : sl_B b n m U * (n + 1) ^ m ≤ n * (n + 1) ^ m := Nat.mul_le_mul_right _ h2
    rw [Nat.mul_comm ((n + 1) ^ m), Nat.add_mul, Nat.one_mul]
    omega
theorem sl_R_at (b : Nat → Nat → Nat) (n : Nat) : ∀ k, k ≤ 4 → ∃ c, sl_R b n 4 0 = c * (n + 1) ^ (4 - k) + sl_R b n (4 - k) (sl_Us b n k)
  | 0, _ => ⟨0, by rw [Nat.zero_mul, Nat.zero_add, sl_Us]⟩
  | k + 1, hk => by
    obtain ⟨c, hc⟩ := sl_R_at b n k (by omega)
    refine ⟨c * (n + 1) + sl_B b n (3 - k) (sl_Us b n k), ?_⟩
    rw [hc, show 4 - k = (3 - k) + 1 by omega, show 4 - (k + 1) = 3 - k by omega, sl_R, sl_Us, Nat.pow_succ, Nat.add_mul, Nat.mul_comm ((n + 1) ^ (3 - k)), ← Nat.mul_assoc, Nat.add_assoc]
theorem sl_dgB (b : Nat → Nat → Nat) (n k : Nat) (hk : k < 4) : sl_dg n (sl_R b n 4 0) k = sl_B b n (3 - k) (sl_Us b n k) := by
  obtain ⟨c, hc⟩ := sl_R_at b n k (by omega)
  unfold sl_dg
  have h1 := sl_R_lt b n (3 - k) (sl_U (sl_Us b n k) (sl_B b n (3 - k) (sl_Us b n k)) n)
  have h2 := sl_B_le b n (3 - k) (sl_Us b n k)
  rw [hc, show 4 - k = (3 - k) + 1 by omega, sl_R, Nat.pow_succ]
  have hpos : 0 < (n + 1) ^ (3 - k) := Nat.pow_pos (by omega)
  generalize (n + 1) ^ (3 - k) = P at *
  generalize sl_B b n (3 - k) (sl_Us b n k) = B at *
  generalize sl_R b n (3 - k) (sl_U (sl_Us b n k) B n) = R at *
  have e : c * (P * (n + 1)) + (B * P + R) = (c * (n + 1) + B) * P + R := by
    rw [Nat.add_mul, Nat.mul_comm P, ← Nat.mul_assoc, Nat.add_assoc]
  rw [e, Nat.mul_comm _ P, Nat.mul_add_div hpos, Nat.div_eq_of_lt h1, Nat.add_zero, Nat.mul_comm c, Nat.mul_add_mod, Nat.mod_eq_of_lt (by omega)]
theorem s_sale {RL : rLT} (hRL : rLoc RL) : lws_sale (Rel RL) := by
  intro S X K h a1
  obtain ⟨n, t, hs, hl⟩ := h.2.2.2.2.2
  have hn := hs.1.1
  obtain ⟨p1, p2⟩ := q_p6 hn
  unfold f11_sale f12_sale
  rcases q_rng a1 8 with ⟨w, hw, hw', rfl⟩ | hv | ⟨v, hv, hv', rfl⟩
  · have hb : ∀ p l, p < n → l < 4 → sl_b (K.1 2) p l ≤ 999 ∧ X.1 20 (p * 4 + l) = nI (sl_b (K.1 2) p l) ∧ K.1 2 (447 + (p * 4 + l)) = nI (sl_b (K.1 2) p l) := by
      intro p l hp hl
      obtain ⟨c1, ⟨v, v1, v2⟩⟩ := hs.2.2.2.2.1 (p * 4 + l) (by omega)
      have e : sl_b (K.1 2) p l = v := by unfold sl_b; rw [v2, q_cl (by omega)]
      rw [e]
      exact ⟨v1, Eq.trans c1 v2, v2⟩
    generalize hbg : sl_b (K.1 2) = b at hb
    obtain ⟨M, m1, m2, m3, m4, m5⟩ := x_settle (S := S) hn hs.1.2.2.1 (fun p l q1 q2 => ⟨(hb p l q1 q2).1, (hb p l q1 q2).2.1⟩) h.2.1.2.2.2.2.2.2.2.2.1
    obtain ⟨N, k1, k2, k3, k4, k5⟩ := m_sells (b := b) (U0 := 0) (x := -nI 1) hn K hs.1.2.2.2.1 (fun p l q1 q2 => ⟨(hb p l q1 q2).1, (hb p l q1 q2).2.2⟩) (Or.inl ⟨rfl, rfl⟩)
    have tot : M.1 82 0 = nI (sl_M b n 4 0) := m4 0 (by omega) 0 p2
    have by' : ∀ k, k < 4 → N.1 21 k = nI (sl_by b n k) := fun k hk => by
      rw [k5 k hk, sl_dgB b n k hk]
      rfl
    have rel : ∀ N' : ph_Mem, (∀ c j, c ≠ 21 → (c ≠ 0 ∨ j ≠ 38) → N'.1 c j = K.1 c j) → Rel RL S M N' := fun N' q => Rel_fr hRL h (fun c j hc => m2 c j (by unfold rXj at hc; omega) (by unfold rXj at hc; omega)) (fun c j _ => by rw [m3]) (fun c j hc => q c j (by unfold rKj at hc; omega) (by unfold rKj at hc; omega))
    by_cases w0 : w = 0
    · subst w0
      unfold f3_total
      simp (disch := first | assumption | omega) only [q_lit, Int32.neg_neg, nI_add, pk_mul, q_sub, q_addn, q_nadd, q_lt, q_le, q_eq, q_eqn, q_neq, q_nen, q_ltn, q_nlt, q_len, q_nle, q_nltn, q_nlen, q_cl, q_ib, q_ibn, q_isz0, q_isz1, q_iszb, q_b0, q_b1, q_ng1, q_ng2, q_ng3, q_ng4, q_ng5, q_ng6, Bool.toNat_true, Bool.toNat_false, if_pos, if_neg, q_ct, q_cf, q_let, q_bd, q_it, q_if, Nat.zero_add, Nat.add_zero, true_and, and_true, false_and, and_false, or_false, false_or, or_true, true_or, Bool.true_eq_false, Bool.false_eq_true, wi_s, wi_o, wi_r, m_wi, m1, k1, tot, k4]
      exact ⟨_, _, _, rfl, rfl, rel N k2⟩
    by_cases w4 : w ≤ 4
    · have e1 := m5 (w - 1) (by omega)
      have e2 := by' (w - 1) (by omega)
      unfold f3_buyerOf
      simp (disch := first | assumption | omega) only [q_lit, Int32.neg_neg, nI_add, pk_mul, q_sub, q_addn, q_nadd, q_lt, q_le, q_eq, q_eqn, q_neq, q_nen, q_ltn, q_nlt, q_len, q_nle, q_nltn, q_nlen, q_cl, q_ib, q_ibn, q_isz0, q_isz1, q_iszb, q_b0, q_b1, q_ng1, q_ng2, q_ng3, q_ng4, q_ng5, q_ng6, Bool.toNat_true, Bool.toNat_false, if_pos, if_neg, q_ct, q_cf, q_let, q_bd, q_it, q_if, Nat.zero_add, Nat.add_zero, true_and, and_true, false_and, and_false, or_false, false_or, or_true, true_or, Bool.true_eq_false, Bool.false_eq_true, wi_s, wi_o, wi_r, m_wi, m1, k1, e1, e2]
      exact ⟨_, _, _, rfl, rfl, rel N k2⟩
    · have e1 := m5 (w - 5) (by omega)
      have e2 := by' (w - 5) (by omega)
      have ew : w - 1 - 4 = w - 5 := by omega
      unfold f3_paymentFor
      have hB := sl_B_le b n (3 - (w - 5)) (sl_Us b n (w - 5))
      by_cases hbn : sl_B b n (3 - (w - 5)) (sl_Us b n (w - 5)) = n
      · have e3 : sl_by b n (w - 5) = 100 := by unfold sl_by; rw [if_pos hbn]
        rw [e3] at e1 e2
        simp (disch := first | assumption | omega) only [q_lit, Int32.neg_neg, nI_add, pk_mul, q_sub, q_addn, q_nadd, q_lt, q_le, q_eq, q_eqn, q_neq, q_nen, q_ltn, q_nlt, q_len, q_nle, q_nltn, q_nlen, q_cl, q_ib, q_ibn, q_isz0, q_isz1, q_iszb, q_b0, q_b1, q_ng1, q_ng2, q_ng3, q_ng4, q_ng5, q_ng6, Bool.toNat_true, Bool.toNat_false, if_pos, if_neg, q_ct, q_cf, q_let, q_bd, q_it, q_if, Nat.zero_add, Nat.add_zero, true_and, and_true, false_and, and_false, or_false, false_or, or_true, true_or, Bool.true_eq_false, Bool.false_eq_true, wi_s, wi_o, wi_r, m_wi, m1, k1, ew, e1, e2]
        exact ⟨_, _, _, rfl, rfl, rel N k2⟩
      · have e3 : sl_by b n (w - 5) = sl_B b n (3 - (w - 5)) (sl_Us b n (w - 5)) := by unfold sl_by; rw [if_neg hbn]
        rw [e3] at e1 e2
        generalize sl_B b n (3 - (w - 5)) (sl_Us b n (w - 5)) = p at *
        have hp : p < n := by omega
        obtain ⟨b1, b2, b3⟩ := hb p (w - 5) hp (by omega)
        have bM : M.1 20 (p * 4 + (w - 5)) = nI (b p (w - 5)) := (m2 20 _ (by omega) (by omega)).trans b2
        have bN : N.1 2 (447 + (p * 4 + (w - 5))) = nI (b p (w - 5)) := (k2 2 _ (by omega) (by omega)).trans b3
        have p2n : 2 ^ p < 2 ^ n := Nat.pow_lt_pow_right (by omega) hp
        have l0 : M.1 82 (2 ^ p) = nI (sl_M b n 4 (2 ^ p)) := by
          have := m4 0 (by omega) (2 ^ p) p2n
          rw [Nat.zero_mul, Nat.zero_add] at this
          exact this
        obtain ⟨N2, j1, j2, j3, j4, j5⟩ := m_sells (b := b) (U0 := 2 ^ p) (x := nI p) hn N ((k2 2 475 (by omega) (by omega)).trans hs.1.2.2.2.1) (fun p l q1 q2 => ⟨(hb p l q1 q2).1, (k2 2 _ (by omega) (by omega)).trans (hb p l q1 q2).2.2⟩) (Or.inr ⟨p, hp, rfl, rfl⟩)
        have ei : 447 + 4 * p + w - 5 = 447 + (p * 4 + (w - 5)) := by omega
        generalize sl_M b n 4 (2 ^ p) = mp at *
        generalize hA : nI (sl_M b n 4 0) - nI (b p (w - 5)) = A
        have ans : ∀ P Q : Option (Int32 × ph_Mem), P = some (nI mp - A, M) → Q = some (nI mp - A, N2) → ∃ r' X' K', P = some (r', X') ∧ Q = some (r', K') ∧ Rel RL S X' K' := fun P Q q1 q2 => ⟨_, _, _, q1, q2, rel N2 (fun c j hc hd => (j2 c j hc hd).trans (k2 c j hc hd))⟩
        apply ans
        · rw [← hA]
          simp (disch := first | assumption | omega) only [q_lit, q_lt, q_le, q_eq, q_cl, q_ib, q_sub, if_pos, if_neg, q_ct, q_let, q_bd, m1, ew, e1, bM, tot, q_1sl, l0, nI_add, pk_mul]
        · rw [← hA]
          simp (disch := first | assumption | omega) only [q_lit, m_wi, q_lt, q_le, q_eq, q_cl, q_ib, q_sub, if_pos, if_neg, q_ct, q_let, q_bd, k1, e2, bN, k4, ei, j1, j4, nI_add, pk_mul]
  · simp (disch := first | assumption | omega) only [q_lit, Int32.neg_neg, nI_add, pk_mul, q_sub, q_addn, q_nadd, q_lt, q_le, q_eq, q_eqn, q_neq, q_nen, q_ltn, q_nlt, q_len, q_nle, q_nltn, q_nlen, q_cl, q_ib, q_ibn, q_isz0, q_isz1, q_iszb, q_b0, q_b1, q_ng1, q_ng2, q_ng3, q_ng4, q_ng5, q_ng6, Bool.toNat_true, Bool.toNat_false, if_pos, if_neg, q_ct, q_cf, q_let, q_bd, q_it, q_if, Nat.zero_add, Nat.add_zero, true_and, and_true, false_and, and_false, or_false, false_or, or_true, true_or, Bool.true_eq_false, Bool.false_eq_true, wi_s, wi_o, wi_r, m_wn]
    exact ⟨_, _, _, rfl, rfl, h⟩
  · simp (disch := first | assumption | omega) only [q_lit, Int32.neg_neg, nI_add, pk_mul, q_sub, q_addn, q_nadd, q_lt, q_le, q_eq, q_eqn, q_neq, q_nen, q_ltn, q_nlt, q_len, q_nle, q_nltn, q_nlen, q_cl, q_ib, q_ibn, q_isz0, q_isz1, q_iszb, q_b0, q_b1, q_ng1, q_ng2, q_ng3, q_ng4, q_ng5, q_ng6, Bool.toNat_true, Bool.toNat_false, if_pos, if_neg, q_ct, q_cf, q_let, q_bd, q_it, q_if, Nat.zero_add, Nat.add_zero, true_and, and_true, false_and, and_false, or_false, false_or, or_true, true_or, Bool.true_eq_false, Bool.false_eq_true, wi_s, wi_o, wi_r, m_wo]
    exact ⟨_, _, _, rfl, rfl, h⟩
