/-! PURE HALF: years -/
theorem s_years {RL : rLT} (hRL : rLoc RL) (hRul : rRul RL) : lws_years (Rel RL) := by
  intro S X K h a1 a2
  obtain ⟨h1, h2, h3, h4, h5, n, t, hs, hlg⟩ := id h
  have hn := hs.1.1
  have bad : Rel RL S (ph_wi (ph_wi X 3 1 (X.1 3 1 + nI 1)) 0 18 (-nI 1)) (ph_wi (ph_wi K 0 0 (-nI 1)) 1 1 (K.1 1 1 + nI 1)) := Rel_ref hRL h 1 (by omega)
  unfold f11_years f12_years f11_years_j22 f12_years_j20
  have c1 := hs.1.2.2.1
  have c2 := hs.1.2.2.2.1
  rcases q_rng a1 1000000 with ⟨s, hv, hv', rfl⟩ | hv | ⟨s, hv, hv', rfl⟩
  · rcases q_rng a2 60 with ⟨m, hm, hm', rfl⟩ | hm | ⟨m, hm, hm', rfl⟩
    · by_cases m0 : m = 0
      · subst m0
        have w : f12_within K (nI 0) (nI 1) (nI 60) = some (nI 0) := by unfold f12_within; simp (disch := first | assumption | omega) only [q_lit, Int32.neg_neg, nI_add, pk_mul, q_sub, q_addn, q_nadd, q_lt, q_le, q_eq, q_eqn, q_neq, q_nen, q_ltn, q_nlt, q_len, q_nle, q_nltn, q_nlen, q_cl, q_ib, q_ibn, q_isz0, q_isz1, q_iszb, q_b0, q_b1, q_ng1, q_ng2, q_ng3, q_ng4, q_ng5, q_ng6, Bool.toNat_true, Bool.toNat_false, if_pos, if_neg, q_ct, q_cf, q_let, q_bd, q_it, q_if, Nat.zero_add, Nat.add_zero, true_and, and_true, false_and, and_false, or_false, false_or, or_true, true_or, Bool.true_eq_false, Bool.false_eq_true, wi_s, wi_o, wi_r]
        simp (disch := first | assumption | omega) only [q_lit, Int32.neg_neg, nI_add, pk_mul, q_sub, q_addn, q_nadd, q_lt, q_le, q_eq, q_eqn, q_neq, q_nen, q_ltn, q_nlt, q_len, q_nle, q_nltn, q_nlen, q_cl, q_ib, q_ibn, q_isz0, q_isz1, q_iszb, q_b0, q_b1, q_ng1, q_ng2, q_ng3, q_ng4, q_ng5, q_ng6, Bool.toNat_true, Bool.toNat_false, if_pos, if_neg, q_ct, q_cf, q_let, q_bd, q_it, q_if, Nat.zero_add, Nat.add_zero, true_and, and_true, false_and, and_false, or_false, false_or, or_true, true_or, Bool.true_eq_false, Bool.false_eq_true, wi_s, wi_o, wi_r, m_wi, w, x_refused, m_refuses]
        exact ⟨_, _, _, rfl, rfl, bad⟩
      have w : f12_within K (nI m) (nI 1) (nI 60) = some (nI 1) := by unfold f12_within; simp (disch := first | assumption | omega) only [q_lit, Int32.neg_neg, nI_add, pk_mul, q_sub, q_addn, q_nadd, q_lt, q_le, q_eq, q_eqn, q_neq, q_nen, q_ltn, q_nlt, q_len, q_nle, q_nltn, q_nlen, q_cl, q_ib, q_ibn, q_isz0, q_isz1, q_iszb, q_b0, q_b1, q_ng1, q_ng2, q_ng3, q_ng4, q_ng5, q_ng6, Bool.toNat_true, Bool.toNat_false, if_pos, if_neg, q_ct, q_cf, q_let, q_bd, q_it, q_if, Nat.zero_add, Nat.add_zero, true_and, and_true, false_and, and_false, or_false, false_or, or_true, true_or, Bool.true_eq_false, Bool.false_eq_true, wi_s, wi_o, wi_r]
      by_cases n0 : n = 0
      · subst n0
        unfold f12_people
        simp (disch := first | assumption | omega) only [q_lit, Int32.neg_neg, nI_add, pk_mul, q_sub, q_addn, q_nadd, q_lt, q_le, q_eq, q_eqn, q_neq, q_nen, q_ltn, q_nlt, q_len, q_nle, q_nltn, q_nlen, q_cl, q_ib, q_ibn, q_isz0, q_isz1, q_iszb, q_b0, q_b1, q_ng1, q_ng2, q_ng3, q_ng4, q_ng5, q_ng6, Bool.toNat_true, Bool.toNat_false, if_pos, if_neg, q_ct, q_cf, q_let, q_bd, q_it, q_if, Nat.zero_add, Nat.add_zero, true_and, and_true, false_and, and_false, or_false, false_or, or_true, true_or, Bool.true_eq_false, Bool.false_eq_true, wi_s, wi_o, wi_r, m_wi, w, c1, c2, x_refused, m_refuses]
        exact ⟨_, _, _, rfl, rfl, Rel_ref hRL h 3 (by omega)⟩
      obtain ⟨X1, x1, z⟩ := x_copy (S := S) (X := X) (c := 23) (q := 11) (by omega) hs.2.2.2.2.2.2.1
      have st := rSt_cp hRL (c := 23) hs (by omega) z (g' := K.1 2) (fun j _ => rfl)
      have zo := z.2.2.2.2.2.2.2.2.2
      obtain ⟨⟨t1, ⟨inc, i1, i2⟩⟩, _⟩ := hs.2.2.2.2.2.1
      generalize eK1 : ph_wi (ph_wi K 0 53 (nI s)) 0 52 (nI n) = K1
      have k1o : ∀ d j, (d ≠ 0 ∨ (j ≠ 53 ∧ j ≠ 52)) → K1.1 d j = K.1 d j := fun d j q => by rw [← eK1, wi_o (by omega), wi_o (by omega)]
      have as := m_aside (K := K1) (k := 0) (by omega)
      generalize eK2 : ph_cp K1 2 0 5 (223 * 0) 223 = K2 at as
      have k2o : ∀ d j, d ≠ 5 → K2.1 d j = K1.1 d j := fun d j q => by rw [← eK2, cp_out (by omega)]
      have k25 : ∀ j, j < 223 → K2.1 5 j = K.1 2 j := fun j hj => by
        rw [← eK2, cp_in (by omega), k1o _ _ (by omega), show 0 + (j - 223 * 0) = j by omega]
      have k22 : K2.1 2 = K.1 2 := funext fun j => (k2o 2 j (by omega)).trans (k1o 2 j (by omega))
      obtain ⟨sa, sb, sp1, sp2, sp3, sp4⟩ := h2.2.2.2.2.2.1
      have hI : yInv RL S X1 K2 (ph_wl X1 84 4 (lN s)) K2 n t s := by
        refine ⟨?_, ⟨sa, sb, sp1, sp2, ?_, ?_⟩, by omega, wl_s, ?_, fun _ _ _ _ _ _ => rfl, rfl, fun _ _ _ _ _ => rfl⟩
        · rw [k22]
          exact rSt_fr hRL st rfl rfl rfl (fun _ _ => rfl) (fun _ _ _ _ _ => rfl) (fun _ _ => rfl) (fun _ _ => rfl) (fun _ _ => rfl) (fun _ _ => rfl) (fun _ _ _ => rfl) (fun _ _ => rfl)
        · exact (zo 61 1 (by omega)).1.trans sp3
        · exact (zo 61 2 (by omega)).1.trans sp4
        · rw [k2o _ _ (by omega), ← eK1]; simp (disch := first | assumption | omega) only [q_lit, Int32.neg_neg, nI_add, pk_mul, q_sub, q_addn, q_nadd, q_lt, q_le, q_eq, q_eqn, q_neq, q_nen, q_ltn, q_nlt, q_len, q_nle, q_nltn, q_nlen, q_cl, q_ib, q_ibn, q_isz0, q_isz1, q_iszb, q_b0, q_b1, q_ng1, q_ng2, q_ng3, q_ng4, q_ng5, q_ng6, Bool.toNat_true, Bool.toNat_false, if_pos, if_neg, q_ct, q_cf, q_let, q_bd, q_it, q_if, Nat.zero_add, Nat.add_zero, true_and, and_true, false_and, and_false, or_false, false_or, or_true, true_or, Bool.true_eq_false, Bool.false_eq_true, wi_s, wi_o, wi_r]
      have k52 : K2.1 0 52 = nI n := by rw [k2o _ _ (by omega), ← eK1]; simp (disch := first | assumption | omega) only [q_lit, Int32.neg_neg, nI_add, pk_mul, q_sub, q_addn, q_nadd, q_lt, q_le, q_eq, q_eqn, q_neq, q_nen, q_ltn, q_nlt, q_len, q_nle, q_nltn, q_nlen, q_cl, q_ib, q_ibn, q_isz0, q_isz1, q_iszb, q_b0, q_b1, q_ng1, q_ng2, q_ng3, q_ng4, q_ng5, q_ng6, Bool.toNat_true, Bool.toNat_false, if_pos, if_neg, q_ct, q_cf, q_let, q_bd, q_it, q_if, Nat.zero_add, Nat.add_zero, true_and, and_true, false_and, and_false, or_false, false_or, or_true, true_or, Bool.true_eq_false, Bool.false_eq_true, wi_s, wi_o, wi_r]
      have k471 : K2.1 2 471 = nI inc := by rw [k22]; exact i2
      obtain ⟨v, s', X2, K3, w1, w2, w3, w4⟩ := yr_l hRL hRul h1.1 (show 0 < n by omega) hm i1 k471 k52 m 0 10000 10000 0 s (ph_wl X1 84 4 (lN s)) K2 (by omega) (by omega) (by omega) (by omega) hI
      obtain ⟨ys, ⟨lx, lz, y1, y2, y3, y4⟩, _, _, _, y6, y7, y8⟩ := w4
      obtain ⟨M, b1, b2, b3, b4, b5⟩ := x_kp_l hRL (ph_wi X2 84 0 (nI n)) (rSt_fr hRL ys (by simp (disch := first | assumption | omega) only [q_lit, Int32.neg_neg, nI_add, pk_mul, q_sub, q_addn, q_nadd, q_lt, q_le, q_eq, q_eqn, q_neq, q_nen, q_ltn, q_nlt, q_len, q_nle, q_nltn, q_nlen, q_cl, q_ib, q_ibn, q_isz0, q_isz1, q_iszb, q_b0, q_b1, q_ng1, q_ng2, q_ng3, q_ng4, q_ng5, q_ng6, Bool.toNat_true, Bool.toNat_false, if_pos, if_neg, q_ct, q_cf, q_let, q_bd, q_it, q_if, Nat.zero_add, Nat.add_zero, true_and, and_true, false_and, and_false, or_false, false_or, or_true, true_or, Bool.true_eq_false, Bool.false_eq_true, wi_s, wi_o, wi_r]) (by simp (disch := first | assumption | omega) only [q_lit, Int32.neg_neg, nI_add, pk_mul, q_sub, q_addn, q_nadd, q_lt, q_le, q_eq, q_eqn, q_neq, q_nen, q_ltn, q_nlt, q_len, q_nle, q_nltn, q_nlen, q_cl, q_ib, q_ibn, q_isz0, q_isz1, q_iszb, q_b0, q_b1, q_ng1, q_ng2, q_ng3, q_ng4, q_ng5, q_ng6, Bool.toNat_true, Bool.toNat_false, if_pos, if_neg, q_ct, q_cf, q_let, q_bd, q_it, q_if, Nat.zero_add, Nat.add_zero, true_and, and_true, false_and, and_false, or_false, false_or, or_true, true_or, Bool.true_eq_false, Bool.false_eq_true, wi_s, wi_o, wi_r]) (by simp (disch := first | assumption | omega) only [q_lit, Int32.neg_neg, nI_add, pk_mul, q_sub, q_addn, q_nadd, q_lt, q_le, q_eq, q_eqn, q_neq, q_nen, q_ltn, q_nlt, q_len, q_nle, q_nltn, q_nlen, q_cl, q_ib, q_ibn, q_isz0, q_isz1, q_iszb, q_b0, q_b1, q_ng1, q_ng2, q_ng3, q_ng4, q_ng5, q_ng6, Bool.toNat_true, Bool.toNat_false, if_pos, if_neg, q_ct, q_cf, q_let, q_bd, q_it, q_if, Nat.zero_add, Nat.add_zero, true_and, and_true, false_and, and_false, or_false, false_or, or_true, true_or, Bool.true_eq_false, Bool.false_eq_true, wi_s, wi_o, wi_r]) (fun p _ => by simp (disch := first | assumption | omega) only [q_lit, Int32.neg_neg, nI_add, pk_mul, q_sub, q_addn, q_nadd, q_lt, q_le, q_eq, q_eqn, q_neq, q_nen, q_ltn, q_nlt, q_len, q_nle, q_nltn, q_nlen, q_cl, q_ib, q_ibn, q_isz0, q_isz1, q_iszb, q_b0, q_b1, q_ng1, q_ng2, q_ng3, q_ng4, q_ng5, q_ng6, Bool.toNat_true, Bool.toNat_false, if_pos, if_neg, q_ct, q_cf, q_let, q_bd, q_it, q_if, Nat.zero_add, Nat.add_zero, true_and, and_true, false_and, and_false, or_false, false_or, or_true, true_or, Bool.true_eq_false, Bool.false_eq_true, wi_s, wi_o, wi_r]) (fun d j _ _ _ => by simp (disch := first | assumption | omega) only [q_lit, Int32.neg_neg, nI_add, pk_mul, q_sub, q_addn, q_nadd, q_lt, q_le, q_eq, q_eqn, q_neq, q_nen, q_ltn, q_nlt, q_len, q_nle, q_nltn, q_nlen, q_cl, q_ib, q_ibn, q_isz0, q_isz1, q_iszb, q_b0, q_b1, q_ng1, q_ng2, q_ng3, q_ng4, q_ng5, q_ng6, Bool.toNat_true, Bool.toNat_false, if_pos, if_neg, q_ct, q_cf, q_let, q_bd, q_it, q_if, Nat.zero_add, Nat.add_zero, true_and, and_true, false_and, and_false, or_false, false_or, or_true, true_or, Bool.true_eq_false, Bool.false_eq_true, wi_s, wi_o, wi_r]) (fun j _ => by simp (disch := first | assumption | omega) only [q_lit, Int32.neg_neg, nI_add, pk_mul, q_sub, q_addn, q_nadd, q_lt, q_le, q_eq, q_eqn, q_neq, q_nen, q_ltn, q_nlt, q_len, q_nle, q_nltn, q_nlen, q_cl, q_ib, q_ibn, q_isz0, q_isz1, q_iszb, q_b0, q_b1, q_ng1, q_ng2, q_ng3, q_ng4, q_ng5, q_ng6, Bool.toNat_true, Bool.toNat_false, if_pos, if_neg, q_ct, q_cf, q_let, q_bd, q_it, q_if, Nat.zero_add, Nat.add_zero, true_and, and_true, false_and, and_false, or_false, false_or, or_true, true_or, Bool.true_eq_false, Bool.false_eq_true, wi_s, wi_o, wi_r]) (fun j _ => by simp (disch := first | assumption | omega) only [q_lit, Int32.neg_neg, nI_add, pk_mul, q_sub, q_addn, q_nadd, q_lt, q_le, q_eq, q_eqn, q_neq, q_nen, q_ltn, q_nlt, q_len, q_nle, q_nltn, q_nlen, q_cl, q_ib, q_ibn, q_isz0, q_isz1, q_iszb, q_b0, q_b1, q_ng1, q_ng2, q_ng3, q_ng4, q_ng5, q_ng6, Bool.toNat_true, Bool.toNat_false, if_pos, if_neg, q_ct, q_cf, q_let, q_bd, q_it, q_if, Nat.zero_add, Nat.add_zero, true_and, and_true, false_and, and_false, or_false, false_or, or_true, true_or, Bool.true_eq_false, Bool.false_eq_true, wi_s, wi_o, wi_r]) (fun j _ => by simp (disch := first | assumption | omega) only [q_lit, Int32.neg_neg, nI_add, pk_mul, q_sub, q_addn, q_nadd, q_lt, q_le, q_eq, q_eqn, q_neq, q_nen, q_ltn, q_nlt, q_len, q_nle, q_nltn, q_nlen, q_cl, q_ib, q_ibn, q_isz0, q_isz1, q_iszb, q_b0, q_b1, q_ng1, q_ng2, q_ng3, q_ng4, q_ng5, q_ng6, Bool.toNat_true, Bool.toNat_false, if_pos, if_neg, q_ct, q_cf, q_let, q_bd, q_it, q_if, Nat.zero_add, Nat.add_zero, true_and, and_true, false_and, and_false, or_false, false_or, or_true, true_or, Bool.true_eq_false, Bool.false_eq_true, wi_s, wi_o, wi_r]) (fun i _ => rfl) (fun d j _ => by simp (disch := first | assumption | omega) only [q_lit, Int32.neg_neg, nI_add, pk_mul, q_sub, q_addn, q_nadd, q_lt, q_le, q_eq, q_eqn, q_neq, q_nen, q_ltn, q_nlt, q_len, q_nle, q_nltn, q_nlen, q_cl, q_ib, q_ibn, q_isz0, q_isz1, q_iszb, q_b0, q_b1, q_ng1, q_ng2, q_ng3, q_ng4, q_ng5, q_ng6, Bool.toNat_true, Bool.toNat_false, if_pos, if_neg, q_ct, q_cf, q_let, q_bd, q_it, q_if, Nat.zero_add, Nat.add_zero, true_and, and_true, false_and, and_false, or_false, false_or, or_true, true_or, Bool.true_eq_false, Bool.false_eq_true, wi_s, wi_o, wi_r]) (fun j _ => rfl)) n 0 10000 (ph_wi X2 84 0 (nI n)) (by omega) (by omega) (by simp (disch := first | assumption | omega) only [q_lit, Int32.neg_neg, nI_add, pk_mul, q_sub, q_addn, q_nadd, q_lt, q_le, q_eq, q_eqn, q_neq, q_nen, q_ltn, q_nlt, q_len, q_nle, q_nltn, q_nlen, q_cl, q_ib, q_ibn, q_isz0, q_isz1, q_iszb, q_b0, q_b1, q_ng1, q_ng2, q_ng3, q_ng4, q_ng5, q_ng6, Bool.toNat_true, Bool.toNat_false, if_pos, if_neg, q_ct, q_cf, q_let, q_bd, q_it, q_if, Nat.zero_add, Nat.add_zero, true_and, and_true, false_and, and_false, or_false, false_or, or_true, true_or, Bool.true_eq_false, Bool.false_eq_true, wi_s, wi_o, wi_r]) (fun _ _ _ => rfl) rfl (fun q hq => absurd hq (by omega))
      obtain ⟨K4, d1, d2, d3⟩ := m_kp (a := v) hn K3 (fun p hp => (rSt_rd ys hp).2.2) n 0 10000 K3 (by omega) (by omega) ((y8 0 52 (by omega) (by omega) (by omega)).trans k52) (fun _ _ _ _ _ _ => rfl) (fun q hq => absurd hq (by omega))
      have tb := m_tback (K := K4) (k := 0) (by omega)
      have ln : (nI s).toInt64 = lN s := q_tol (by omega)
      have eX : f10_live S X1 23 61 (nI s) (nI m) = some (nI v, M) := by
        unfold f10_live
        rw [ln, q_let, q_lit, q_lit, w2]
        unfold f10_live_j116 f10_keep
        rw [show X2.1 23 1 = nI n from ys.1.2.2.1, q_let, q_lit, b1, q_bd]
      have eM : f12_years_l63 10000 (nI m) (nI 0) (nI 0) K2 = some (nI v, ph_wi (ph_cp K4 5 (223 * 0) 2 0 223) 0 0 (nI 0)) := by
        rw [w3]
        unfold f12_years_j160
        rw [q_lit, d1]
        unfold f12_years_j230
        simp (disch := first | assumption | omega) only [q_lit, Int32.neg_neg, nI_add, pk_mul, q_sub, q_addn, q_nadd, q_lt, q_le, q_eq, q_eqn, q_neq, q_nen, q_ltn, q_nlt, q_len, q_nle, q_nltn, q_nlen, q_cl, q_ib, q_ibn, q_isz0, q_isz1, q_iszb, q_b0, q_b1, q_ng1, q_ng2, q_ng3, q_ng4, q_ng5, q_ng6, Bool.toNat_true, Bool.toNat_false, if_pos, if_neg, q_ct, q_cf, q_let, q_bd, q_it, q_if, Nat.zero_add, Nat.add_zero, true_and, and_true, false_and, and_false, or_false, false_or, or_true, true_or, Bool.true_eq_false, Bool.false_eq_true, wi_s, wi_o, wi_r, tb, m_good]
      unfold f12_people
      have k475 : (ph_wi K 0 53 (nI s)).1 2 475 = nI n := by simp (disch := first | assumption | omega) only [q_lit, Int32.neg_neg, nI_add, pk_mul, q_sub, q_addn, q_nadd, q_lt, q_le, q_eq, q_eqn, q_neq, q_nen, q_ltn, q_nlt, q_len, q_nle, q_nltn, q_nlen, q_cl, q_ib, q_ibn, q_isz0, q_isz1, q_iszb, q_b0, q_b1, q_ng1, q_ng2, q_ng3, q_ng4, q_ng5, q_ng6, Bool.toNat_true, Bool.toNat_false, if_pos, if_neg, q_ct, q_cf, q_let, q_bd, q_it, q_if, Nat.zero_add, Nat.add_zero, true_and, and_true, false_and, and_false, or_false, false_or, or_true, true_or, Bool.true_eq_false, Bool.false_eq_true, wi_s, wi_o, wi_r]; exact c2
      simp (disch := first | assumption | omega) only [q_lit, Int32.neg_neg, nI_add, pk_mul, q_sub, q_addn, q_nadd, q_lt, q_le, q_eq, q_eqn, q_neq, q_nen, q_ltn, q_nlt, q_len, q_nle, q_nltn, q_nlen, q_cl, q_ib, q_ibn, q_isz0, q_isz1, q_iszb, q_b0, q_b1, q_ng1, q_ng2, q_ng3, q_ng4, q_ng5, q_ng6, Bool.toNat_true, Bool.toNat_false, if_pos, if_neg, q_ct, q_cf, q_let, q_bd, q_it, q_if, Nat.zero_add, Nat.add_zero, true_and, and_true, false_and, and_false, or_false, false_or, or_true, true_or, Bool.true_eq_false, Bool.false_eq_true, wi_s, wi_o, wi_r, m_wi, w, c1, c2, x1, eX, x_acc, eK1, as, eM]
      refine ⟨_, _, _, rfl, rfl, Rel_acc hRL ?_⟩
      -- what differs from the beginning
      have mx : ∀ d j, (d < 23 ∨ 35 ≤ d) → d ≠ 6 → (d ≠ 61 ∨ (j ≠ 1 ∧ j ≠ 2)) → d ≠ 62 → (d < 84 ∨ 88 ≤ d) → M.1 d j = X.1 d j := fun d j q1 q2 q3 q4 q5 => by
        rw [b3 d j q5, wi_o (by omega), y6 d j q1 q2 q3 q4]
        exact (zo d j (by omega)).1
      have mr : ∀ d j, (d < 23 ∨ 35 ≤ d) → M.2.2 d j = X.2.2 d j := fun d j q => by
        rw [b4]
        show X2.2.2 d j = _
        rw [y7]
        exact (zo d j (by omega)).2
      have k4 : ∀ d j, d ≠ 15 → d ≠ 24 → d ≠ 25 → d ≠ 26 → d ≠ 12 → d ≠ 5 → (d ≠ 0 ∨ (j ≠ 8 ∧ j ≠ 22 ∧ j ≠ 23 ∧ j ≠ 24 ∧ j ≠ 53 ∧ j ≠ 52)) → (d ≠ 2 ∨ 223 ≤ j) → K4.1 d j = K.1 d j := fun d j q1 q2 q3 q4 q5 q6 q7 q8 => by
        rw [d2 d j q1 q2 q3 q4, y8 d j q5 (by omega) q8, k2o d j q6, k1o d j (by omega)]
      have k45 : ∀ j, j < 223 → K4.1 5 j = K.1 2 j := fun j hj => by
        rw [d2 5 j (by omega) (by omega) (by omega) (by omega), y8 5 j (by omega) (by omega) (by omega)]
        exact k25 j hj
      have kq : ∀ d j, d ≠ 15 → d ≠ 24 → d ≠ 25 → d ≠ 26 → d ≠ 12 → d ≠ 5 → (d ≠ 0 ∨ (j ≠ 8 ∧ j ≠ 22 ∧ j ≠ 23 ∧ j ≠ 24 ∧ j ≠ 53 ∧ j ≠ 52)) → (ph_cp K4 5 (223 * 0) 2 0 223).1 d j = K.1 d j := fun d j q1 q2 q3 q4 q5 q6 q7 => by
        by_cases q8 : d ≠ 2 ∨ 223 ≤ j
        · rw [cp_out (by omega)]; exact k4 d j q1 q2 q3 q4 q5 q6 q7 q8
        · have : d = 2 := by omega
          subst this
          rw [cp_in (by omega), show 223 * 0 + (j - 0) = j by omega]
          exact k45 j (by omega)
      obtain ⟨a1', a2', a3', a4', a5', _, _, a8', a9', e1', e2', e3'⟩ := h2
      refine ⟨⟨h1.1, fun e i he hi => by
        by_cases q : e = 34
        · subst q
          rw [b4]
          exact ys.2.2.2.2.2.2.1 i hi
        · rw [mr e i (by omega)]; exact h1.2 e i he hi⟩, ⟨?_, fun i hi => ?_, ?_, ?_, ?_, ⟨lx, lz, y1, y2, ?_, ?_⟩, ⟨n, hn, b2, ?_, fun p hp => ?_⟩, ?_, fun j q1 q2 => ?_, ?_, ?_, fun j hj => ?_⟩, ?_, ?_, ?_, n, t, ?_, ?_⟩
      · rw [mx _ _ (by omega) (by omega) (by omega) (by omega) (by omega), kq _ _ (by omega) (by omega) (by omega) (by omega) (by omega) (by omega) (by omega)]; exact a1'
      · rw [mx _ _ (by omega) (by omega) (by omega) (by omega) (by omega), kq _ _ (by omega) (by omega) (by omega) (by omega) (by omega) (by omega) (by omega)]; exact a2' i hi
      · rw [mx _ _ (by omega) (by omega) (by omega) (by omega) (by omega), kq _ _ (by omega) (by omega) (by omega) (by omega) (by omega) (by omega) (by omega)]; exact a3'
      · rw [mx _ _ (by omega) (by omega) (by omega) (by omega) (by omega), kq _ _ (by omega) (by omega) (by omega) (by omega) (by omega) (by omega) (by omega)]; exact a4'
      · rw [mx _ _ (by omega) (by omega) (by omega) (by omega) (by omega), kq _ _ (by omega) (by omega) (by omega) (by omega) (by omega) (by omega) (by omega)]; exact a5'
      · rw [b3 _ _ (by omega), wi_o (by omega)]; exact y3
      · rw [b3 _ _ (by omega), wi_o (by omega)]; exact y4
      · rw [cp_out (by omega), d2 _ _ (by omega) (by omega) (by omega) (by omega), y8 _ _ (by omega) (by omega) (by omega)]; exact k52
      · obtain ⟨u1, u2, u3⟩ := b5 p hp
        obtain ⟨r1, r2, r3⟩ := d3 p hp
        rw [cp_out (by omega), cp_out (by omega), cp_out (by omega), u1, u2, u3, r1, r2, r3, wi_o (by omega)]
        exact ⟨(ys.2.1.2.2 p (by omega)).1, rfl, rfl⟩
      · rw [mx _ _ (by omega) (by omega) (by omega) (by omega) (by omega)]; exact a8'
      · rw [mx _ _ (by omega) (by omega) (by omega) (by omega) (by omega)]; exact a9' j q1 q2
      · rw [mr _ _ (by omega)]; exact e1'
      · rw [mr _ _ (by omega)]; exact e2'
      · rw [kq _ _ (by omega) (by omega) (by omega) (by omega) (by omega) (by omega) (by omega)]; exact e3' j hj
      · exact rTape_fr h3 (mx _ _ (by omega) (by omega) (by omega) (by omega) (by omega)) (kq _ _ (by omega) (by omega) (by omega) (by omega) (by omega) (by omega) (by omega)) (fun j _ => mx _ _ (by omega) (by omega) (by omega) (by omega) (by omega)) (fun j _ => kq _ _ (by omega) (by omega) (by omega) (by omega) (by omega) (by omega) (by omega))
      · exact rImg_fr hRL (by omega) h4 (mx _ _ (by omega) (by omega) (by omega) (by omega) (by omega)) (kq _ _ (by omega) (by omega) (by omega) (by omega) (by omega) (by omega) (by omega)) (fun d j _ _ => mx _ _ (by omega) (by omega) (by omega) (by omega) (by omega)) (fun d j _ => mr _ _ (by omega)) (fun d j _ => mx _ _ (by omega) (by omega) (by omega) (by omega) (by omega)) (fun j => kq _ _ (by omega) (by omega) (by omega) (by omega) (by omega) (by omega) (by omega))
      · exact rImg_fr hRL (by omega) h5 (mx _ _ (by omega) (by omega) (by omega) (by omega) (by omega)) (kq _ _ (by omega) (by omega) (by omega) (by omega) (by omega) (by omega) (by omega)) (fun d j _ _ => mx _ _ (by omega) (by omega) (by omega) (by omega) (by omega)) (fun d j _ => mr _ _ (by omega)) (fun d j _ => mx _ _ (by omega) (by omega) (by omega) (by omega) (by omega)) (fun j => kq _ _ (by omega) (by omega) (by omega) (by omega) (by omega) (by omega) (by omega))
      · exact rSt_fr hRL hs (mx _ _ (by omega) (by omega) (by omega) (by omega) (by omega)) (mx _ _ (by omega) (by omega) (by omega) (by omega) (by omega)) (mx _ _ (by omega) (by omega) (by omega) (by omega) (by omega)) (fun p _ => mx _ _ (by omega) (by omega) (by omega) (by omega) (by omega)) (fun d j _ _ _ => mx _ _ (by omega) (by omega) (by omega) (by omega) (by omega)) (fun j _ => mx _ _ (by omega) (by omega) (by omega) (by omega) (by omega)) (fun j _ => mx _ _ (by omega) (by omega) (by omega) (by omega) (by omega)) (fun j _ => mx _ _ (by omega) (by omega) (by omega) (by omega) (by omega)) (fun i _ => mr _ _ (by omega)) (fun d j _ => mx _ _ (by omega) (by omega) (by omega) (by omega) (by omega)) (fun j _ => kq _ _ (by omega) (by omega) (by omega) (by omega) (by omega) (by omega) (by omega))
      · exact rLog_fr hn hlg (mx _ _ (by omega) (by omega) (by omega) (by omega) (by omega)) (mx _ _ (by omega) (by omega) (by omega) (by omega) (by omega)) (kq _ _ (by omega) (by omega) (by omega) (by omega) (by omega) (by omega) (by omega)) (fun j _ => mx _ _ (by omega) (by omega) (by omega) (by omega) (by omega)) (fun j _ => kq _ _ (by omega) (by omega) (by omega) (by omega) (by omega) (by omega) (by omega)) (fun d j _ _ _ => mx _ _ (by omega) (by omega) (by omega) (by omega) (by omega))
    · have w : f12_within K a2 (nI 1) (nI 60) = some (nI 0) := by unfold f12_within; simp (disch := first | assumption | omega) only [q_lit, Int32.neg_neg, nI_add, pk_mul, q_sub, q_addn, q_nadd, q_lt, q_le, q_eq, q_eqn, q_neq, q_nen, q_ltn, q_nlt, q_len, q_nle, q_nltn, q_nlen, q_cl, q_ib, q_ibn, q_isz0, q_isz1, q_iszb, q_b0, q_b1, q_ng1, q_ng2, q_ng3, q_ng4, q_ng5, q_ng6, Bool.toNat_true, Bool.toNat_false, if_pos, if_neg, q_ct, q_cf, q_let, q_bd, q_it, q_if, Nat.zero_add, Nat.add_zero, true_and, and_true, false_and, and_false, or_false, false_or, or_true, true_or, Bool.true_eq_false, Bool.false_eq_true, wi_s, wi_o, wi_r]
      simp (disch := first | assumption | omega) only [q_lit, Int32.neg_neg, nI_add, pk_mul, q_sub, q_addn, q_nadd, q_lt, q_le, q_eq, q_eqn, q_neq, q_nen, q_ltn, q_nlt, q_len, q_nle, q_nltn, q_nlen, q_cl, q_ib, q_ibn, q_isz0, q_isz1, q_iszb, q_b0, q_b1, q_ng1, q_ng2, q_ng3, q_ng4, q_ng5, q_ng6, Bool.toNat_true, Bool.toNat_false, if_pos, if_neg, q_ct, q_cf, q_let, q_bd, q_it, q_if, Nat.zero_add, Nat.add_zero, true_and, and_true, false_and, and_false, or_false, false_or, or_true, true_or, Bool.true_eq_false, Bool.false_eq_true, wi_s, wi_o, wi_r, m_wi, w, x_refused, m_refuses]
      exact ⟨_, _, _, rfl, rfl, bad⟩
    · have w : f12_within K (nI m) (nI 1) (nI 60) = some (nI 0) := by unfold f12_within; simp (disch := first | assumption | omega) only [q_lit, Int32.neg_neg, nI_add, pk_mul, q_sub, q_addn, q_nadd, q_lt, q_le, q_eq, q_eqn, q_neq, q_nen, q_ltn, q_nlt, q_len, q_nle, q_nltn, q_nlen, q_cl, q_ib, q_ibn, q_isz0, q_isz1, q_iszb, q_b0, q_b1, q_ng1, q_ng2, q_ng3, q_ng4, q_ng5, q_ng6, Bool.toNat_true, Bool.toNat_false, if_pos, if_neg, q_ct, q_cf, q_let, q_bd, q_it, q_if, Nat.zero_add, Nat.add_zero, true_and, and_true, false_and, and_false, or_false, false_or, or_true, true_or, Bool.true_eq_false, Bool.false_eq_true, wi_s, wi_o, wi_r]
      simp (disch := first | assumption | omega) only [q_lit, Int32.neg_neg, nI_add, pk_mul, q_sub, q_addn, q_nadd, q_lt, q_le, q_eq, q_eqn, q_neq, q_nen, q_ltn, q_nlt, q_len, q_nle, q_nltn, q_nlen, q_cl, q_ib, q_ibn, q_isz0, q_isz1, q_iszb, q_b0, q_b1, q_ng1, q_ng2, q_ng3, q_ng4, q_ng5, q_ng6, Bool.toNat_true, Bool.toNat_false, if_pos, if_neg, q_ct, q_cf, q_let, q_bd, q_it, q_if, Nat.zero_add, Nat.add_zero, true_and, and_true, false_and, and_false, or_false, false_or, or_true, true_or, Bool.true_eq_false, Bool.false_eq_true, wi_s, wi_o, wi_r, m_wi, w, x_refused, m_refuses]
      exact ⟨_, _, _, rfl, rfl, bad⟩
  · simp (disch := first | assumption | omega) only [q_lit, Int32.neg_neg, nI_add, pk_mul, q_sub, q_addn, q_nadd, q_lt, q_le, q_eq, q_eqn, q_neq, q_nen, q_ltn, q_nlt, q_len, q_nle, q_nltn, q_nlen, q_cl, q_ib, q_ibn, q_isz0, q_isz1, q_iszb, q_b0, q_b1, q_ng1, q_ng2, q_ng3, q_ng4, q_ng5, q_ng6, Bool.toNat_true, Bool.toNat_false, if_pos, if_neg, q_ct, q_cf, q_let, q_bd, q_it, q_if, Nat.zero_add, Nat.add_zero, true_and, and_true, false_and, and_false, or_false, false_or, or_true, true_or, Bool.true_eq_false, Bool.false_eq_true, wi_s, wi_o, wi_r, m_wn, x_refused, m_refuses]
    exact ⟨_, _, _, rfl, rfl, bad⟩
  · simp (disch := first | assumption | omega) only [q_lit, Int32.neg_neg, nI_add, pk_mul, q_sub, q_addn, q_nadd, q_lt, q_le, q_eq, q_eqn, q_neq, q_nen, q_ltn, q_nlt, q_len, q_nle, q_nltn, q_nlen, q_cl, q_ib, q_ibn, q_isz0, q_isz1, q_iszb, q_b0, q_b1, q_ng1, q_ng2, q_ng3, q_ng4, q_ng5, q_ng6, Bool.toNat_true, Bool.toNat_false, if_pos, if_neg, q_ct, q_cf, q_let, q_bd, q_it, q_if, Nat.zero_add, Nat.add_zero, true_and, and_true, false_and, and_false, or_false, false_or, or_true, true_or, Bool.true_eq_false, Bool.false_eq_true, wi_s, wi_o, wi_r, m_wo, x_refused, m_refuses]
    exact ⟨_, _, _, rfl, rfl, bad⟩
