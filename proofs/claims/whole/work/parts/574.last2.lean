/-! PURE HALF: lasting -/
theorem x_fillL {S : ph_Sh} {c L : Nat} (hL : ph_len S c = L) (hL2 : L < 10000) {v : Int64} (M0 : ph_Mem) : ∀ (r i fuel : Nat) (M : ph_Mem), i + r = L → r < fuel → (∀ j, j < i → M.2.1 c j = v) → M.1 = M0.1 → M.2.2 = M0.2.2 → ∃ M', f7_fill_d0a16_l6 S c fuel v (nI i) (nI L) M = some M' ∧ (∀ j, j < L → M'.2.1 c j = v) ∧ M'.1 = M0.1 ∧ M'.2.2 = M0.2.2
  | 0, i, f + 1, M, e, _, h1, h2, h3 => by
    have : i = L := by omega
    subst this
    refine ⟨M, ?_, h1, h2, h3⟩
    unfold f7_fill_d0a16_l6
    simp (disch := first | assumption | omega) only [q_lit, Int32.neg_neg, nI_add, pk_mul, q_sub, q_addn, q_nadd, q_lt, q_le, q_eq, q_eqn, q_neq, q_nen, q_ltn, q_nlt, q_len, q_nle, q_nltn, q_nlen, q_cl, q_ib, q_ibn, q_isz0, q_isz1, q_iszb, q_b0, q_b1, q_ng1, q_ng2, q_ng3, q_ng4, q_ng5, q_ng6, Bool.toNat_true, Bool.toNat_false, if_pos, if_neg, q_ct, q_cf, q_let, q_bd, q_it, q_if, Nat.zero_add, Nat.add_zero, true_and, and_true, false_and, and_false, or_false, false_or, or_true, true_or, Bool.true_eq_false, Bool.false_eq_true, wi_s, wi_o, wi_r]
  | r + 1, i, f + 1, M, e, hf, h1, h2, h3 => by
    obtain ⟨M', y1, y2, y3, y4⟩ := x_fillL hL hL2 M0 r (i + 1) f (ph_wl M c i v) (by omega) (by omega) (fun j hj => by
      by_cases q : j = i
      · subst q; rw [wl_s]
      · rw [wl_o (by omega)]; exact h1 j (by omega)) h2 h3
    refine ⟨M', ?_, y2, y3, y4⟩
    unfold f7_fill_d0a16_l6
    simp (disch := first | assumption | omega) only [q_lit, Int32.neg_neg, nI_add, pk_mul, q_sub, q_addn, q_nadd, q_lt, q_le, q_eq, q_eqn, q_neq, q_nen, q_ltn, q_nlt, q_len, q_nle, q_nltn, q_nlen, q_cl, q_ib, q_ibn, q_isz0, q_isz1, q_iszb, q_b0, q_b1, q_ng1, q_ng2, q_ng3, q_ng4, q_ng5, q_ng6, Bool.toNat_true, Bool.toNat_false, if_pos, if_neg, q_ct, q_cf, q_let, q_bd, q_it, q_if, Nat.zero_add, Nat.add_zero, true_and, and_true, false_and, and_false, or_false, false_or, or_true, true_or, Bool.true_eq_false, Bool.false_eq_true, wi_s, wi_o, wi_r, hL]
    exact y1
theorem m_fillL {p s n : Int32} (K0 : ph_Mem) : ∀ (r i fuel : Nat) (K : ph_Mem), i + r = 42 → r < fuel → (∀ j, j < i → K.2.1 22 j = 0) → K.1 = K0.1 → K.2.2 = K0.2.2 → ∃ K', f12_lasting_l36 fuel p s n (nI i) K = f12_lasting_j57 p s n K' ∧ (∀ j, j < 42 → K'.2.1 22 j = 0) ∧ K'.1 = K0.1 ∧ K'.2.2 = K0.2.2
  | 0, i, f + 1, K, e, _, h1, h2, h3 => by
    have : i = 42 := by omega
    subst this
    refine ⟨K, ?_, h1, h2, h3⟩
    unfold f12_lasting_l36
    simp (disch := first | assumption | omega) only [q_lit, Int32.neg_neg, nI_add, pk_mul, q_sub, q_addn, q_nadd, q_lt, q_le, q_eq, q_eqn, q_neq, q_nen, q_ltn, q_nlt, q_len, q_nle, q_nltn, q_nlen, q_cl, q_ib, q_ibn, q_isz0, q_isz1, q_iszb, q_b0, q_b1, q_ng1, q_ng2, q_ng3, q_ng4, q_ng5, q_ng6, Bool.toNat_true, Bool.toNat_false, if_pos, if_neg, q_ct, q_cf, q_let, q_bd, q_it, q_if, Nat.zero_add, Nat.add_zero, true_and, and_true, false_and, and_false, or_false, false_or, or_true, true_or, Bool.true_eq_false, Bool.false_eq_true, wi_s, wi_o, wi_r]
  | r + 1, i, f + 1, K, e, hf, h1, h2, h3 => by
    obtain ⟨K', y1, y2, y3, y4⟩ := m_fillL (p := p) (s := s) (n := n) K0 r (i + 1) f (ph_wl K 22 i 0) (by omega) (by omega) (fun j hj => by
      by_cases q : j = i
      · subst q; rw [wl_s]
      · rw [wl_o (by omega)]; exact h1 j (by omega)) h2 h3
    refine ⟨K', ?_, y2, y3, y4⟩
    unfold f12_lasting_l36
    simp (disch := first | assumption | omega) only [q_lit, Int32.neg_neg, nI_add, pk_mul, q_sub, q_addn, q_nadd, q_lt, q_le, q_eq, q_eqn, q_neq, q_nen, q_ltn, q_nlt, q_len, q_nle, q_nltn, q_nlen, q_cl, q_ib, q_ibn, q_isz0, q_isz1, q_iszb, q_b0, q_b1, q_ng1, q_ng2, q_ng3, q_ng4, q_ng5, q_ng6, Bool.toNat_true, Bool.toNat_false, if_pos, if_neg, q_ct, q_cf, q_let, q_bd, q_it, q_if, Nat.zero_add, Nat.add_zero, true_and, and_true, false_and, and_false, or_false, false_or, or_true, true_or, Bool.true_eq_false, Bool.false_eq_true, wi_s, wi_o, wi_r]
    exact y1
theorem s_lasting {RL : rLT} (hRL : rLoc RL) : lws_lasting (Rel RL) := by
  intro S X K h a1 a2 a3
  obtain ⟨n, t, hs, hl⟩ := h.2.2.2.2.2
  have hn := hs.1.1
  unfold f11_lasting f12_lasting
  obtain ⟨b, e1, e2, e3, _⟩ := d_pers S hs.1.2.2.1 hs.1.2.2.2.1 hs.1.1 a1
  cases b
  · simp (disch := first | assumption | omega) only [q_lit, Int32.neg_neg, nI_add, pk_mul, q_sub, q_addn, q_nadd, q_lt, q_le, q_eq, q_eqn, q_neq, q_nen, q_ltn, q_nlt, q_len, q_nle, q_nltn, q_nlen, q_cl, q_ib, q_ibn, q_isz0, q_isz1, q_iszb, q_b0, q_b1, q_ng1, q_ng2, q_ng3, q_ng4, q_ng5, q_ng6, Bool.toNat_true, Bool.toNat_false, if_pos, if_neg, q_ct, q_cf, q_let, q_bd, q_it, q_if, Nat.zero_add, Nat.add_zero, true_and, and_true, false_and, and_false, or_false, false_or, or_true, true_or, Bool.true_eq_false, Bool.false_eq_true, wi_s, wi_o, wi_r, e1, e2]
    exact ⟨_, _, _, rfl, rfl, h⟩
  obtain ⟨p, hp, rfl⟩ := e3 rfl
  rcases q_rng a2 9999 with ⟨s, hv, hv', rfl⟩ | hv | ⟨v, hv, hv', rfl⟩
  · rcases q_rng a3 40 with ⟨m, hm, hm', rfl⟩ | hm | ⟨m, hm, hm', rfl⟩
    · obtain ⟨pe, ⟨pu, pu1, pu2⟩, _⟩ := hs.2.1.2.2 p (by omega)
      have ex : X.1 12 p = nI pu := Eq.trans pe pu2
      obtain ⟨⟨t1, ⟨inc, i1, i2⟩⟩, _, ⟨t3, ⟨o, o1, o2⟩⟩, _⟩ := hs.2.2.2.2.2.1
      have ei : X.1 21 1 = nI inc := Eq.trans t1 i2
      have eo : X.1 21 3 = nI o := Eq.trans t3 o2
      have hL : ph_len S 4 = 41 := by rw [x_len h.1.1 (by omega)]; rfl
      obtain ⟨M0, f1, f2, f3, f4⟩ := x_fillL (S := S) hL (by omega) (v := 0) X 41 0 10000 X (by omega) (by omega) (fun j hj => absurd hj (by omega)) rfl rfl
      obtain ⟨N0, g1, g2, g3, g4⟩ := m_fillL (p := nI p) (s := nI s) (n := nI m) K 42 0 10000 K (by omega) (by omega) (fun j hj => absurd hj (by omega)) rfl rfl
      have f1' : f7_fill_d0a16 S X 4 0 = some M0 := by
        unfold f7_fill_d0a16
        rw [q_let, hL]
        exact f1
      obtain ⟨v, M', N', c1, c2, c3, c4, c5, c6⟩ := la_days (S := S) (show p < 6 by omega) pu1 hv i1 o1 hm X K ei pu2 i2 o2 m 1 10000 10000 (fun j => if j = 0 then 1000000000000 else 0) (ph_wl M0 4 0 1000000000000) (ph_wl N0 22 0 1000000000000) (by omega) (by omega) (by omega) (by omega) f3 f4 g3 g4 (fun j hj => by rw [if_neg (by omega)]) (fun j hj => by
          by_cases j0 : j = 0
          · subst j0; rw [wl_s, if_pos rfl]
          · rw [wl_o (by omega), if_neg j0]; exact f2 j (by omega)) (fun j hj => by
          by_cases j0 : j = 0
          · subst j0; rw [wl_s, if_pos rfl]
          · rw [wl_o (by omega), if_neg j0]; exact g2 j (by omega))
      have eo' : (ph_wl M0 4 0 1000000000000).1 21 3 = nI o := by rw [wl_1, f3]; exact eo
      unfold f12_lasting_j57 at g1
      simp (disch := first | assumption | omega) only [q_lit, Int32.neg_neg, nI_add, pk_mul, q_sub, q_addn, q_nadd, q_lt, q_le, q_eq, q_eqn, q_neq, q_nen, q_ltn, q_nlt, q_len, q_nle, q_nltn, q_nlen, q_cl, q_ib, q_ibn, q_isz0, q_isz1, q_iszb, q_b0, q_b1, q_ng1, q_ng2, q_ng3, q_ng4, q_ng5, q_ng6, Bool.toNat_true, Bool.toNat_false, if_pos, if_neg, q_ct, q_cf, q_let, q_bd, q_it, q_if, Nat.zero_add, Nat.add_zero, true_and, and_true, false_and, and_false, or_false, false_or, or_true, true_or, Bool.true_eq_false, Bool.false_eq_true, wi_s, wi_o, wi_r, c2] at g1
      unfold f11_chanceOfLasting
      simp (disch := first | assumption | omega) only [q_lit, Int32.neg_neg, nI_add, pk_mul, q_sub, q_addn, q_nadd, q_lt, q_le, q_eq, q_eqn, q_neq, q_nen, q_ltn, q_nlt, q_len, q_nle, q_nltn, q_nlen, q_cl, q_ib, q_ibn, q_isz0, q_isz1, q_iszb, q_b0, q_b1, q_ng1, q_ng2, q_ng3, q_ng4, q_ng5, q_ng6, Bool.toNat_true, Bool.toNat_false, if_pos, if_neg, q_ct, q_cf, q_let, q_bd, q_it, q_if, Nat.zero_add, Nat.add_zero, true_and, and_true, false_and, and_false, or_false, false_or, or_true, true_or, Bool.true_eq_false, Bool.false_eq_true, wi_s, wi_o, wi_r, e1, e2, m_wi, ex, f1', eo', c1, g1]
      refine ⟨_, _, _, rfl, rfl, Rel_fr hRL h (fun c j _ => by rw [c3]) (fun c j _ => by rw [c4]) (fun c j _ => by rw [c5])⟩
    · simp (disch := first | assumption | omega) only [q_lit, Int32.neg_neg, nI_add, pk_mul, q_sub, q_addn, q_nadd, q_lt, q_le, q_eq, q_eqn, q_neq, q_nen, q_ltn, q_nlt, q_len, q_nle, q_nltn, q_nlen, q_cl, q_ib, q_ibn, q_isz0, q_isz1, q_iszb, q_b0, q_b1, q_ng1, q_ng2, q_ng3, q_ng4, q_ng5, q_ng6, Bool.toNat_true, Bool.toNat_false, if_pos, if_neg, q_ct, q_cf, q_let, q_bd, q_it, q_if, Nat.zero_add, Nat.add_zero, true_and, and_true, false_and, and_false, or_false, false_or, or_true, true_or, Bool.true_eq_false, Bool.false_eq_true, wi_s, wi_o, wi_r, e1, e2, m_wi, m_wn]
      exact ⟨_, _, _, rfl, rfl, h⟩
    · simp (disch := first | assumption | omega) only [q_lit, Int32.neg_neg, nI_add, pk_mul, q_sub, q_addn, q_nadd, q_lt, q_le, q_eq, q_eqn, q_neq, q_nen, q_ltn, q_nlt, q_len, q_nle, q_nltn, q_nlen, q_cl, q_ib, q_ibn, q_isz0, q_isz1, q_iszb, q_b0, q_b1, q_ng1, q_ng2, q_ng3, q_ng4, q_ng5, q_ng6, Bool.toNat_true, Bool.toNat_false, if_pos, if_neg, q_ct, q_cf, q_let, q_bd, q_it, q_if, Nat.zero_add, Nat.add_zero, true_and, and_true, false_and, and_false, or_false, false_or, or_true, true_or, Bool.true_eq_false, Bool.false_eq_true, wi_s, wi_o, wi_r, e1, e2, m_wi, m_wo]
      exact ⟨_, _, _, rfl, rfl, h⟩
  · simp (disch := first | assumption | omega) only [q_lit, Int32.neg_neg, nI_add, pk_mul, q_sub, q_addn, q_nadd, q_lt, q_le, q_eq, q_eqn, q_neq, q_nen, q_ltn, q_nlt, q_len, q_nle, q_nltn, q_nlen, q_cl, q_ib, q_ibn, q_isz0, q_isz1, q_iszb, q_b0, q_b1, q_ng1, q_ng2, q_ng3, q_ng4, q_ng5, q_ng6, Bool.toNat_true, Bool.toNat_false, if_pos, if_neg, q_ct, q_cf, q_let, q_bd, q_it, q_if, Nat.zero_add, Nat.add_zero, true_and, and_true, false_and, and_false, or_false, false_or, or_true, true_or, Bool.true_eq_false, Bool.false_eq_true, wi_s, wi_o, wi_r, e1, e2, m_wn]
    exact ⟨_, _, _, rfl, rfl, h⟩
  · simp (disch := first | assumption | omega) only [q_lit, Int32.neg_neg, nI_add, pk_mul, q_sub, q_addn, q_nadd, q_lt, q_le, q_eq, q_eqn, q_neq, q_nen, q_ltn, q_nlt, q_len, q_nle, q_nltn, q_nlen, q_cl, q_ib, q_ibn, q_isz0, q_isz1, q_iszb, q_b0, q_b1, q_ng1, q_ng2, q_ng3, q_ng4, q_ng5, q_ng6, Bool.toNat_true, Bool.toNat_false, if_pos, if_neg, q_ct, q_cf, q_let, q_bd, q_it, q_if, Nat.zero_add, Nat.add_zero, true_and, and_true, false_and, and_false, or_false, false_or, or_true, true_or, Bool.true_eq_false, Bool.false_eq_true, wi_s, wi_o, wi_r, e1, e2, m_wo]
    exact ⟨_, _, _, rfl, rfl, h⟩
