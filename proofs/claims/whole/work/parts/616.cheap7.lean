/-! PURE HALF: the cheapest way, the pawned hours numbered -/
def ch_h (P : Nat → Bool) : Nat → List Nat
  | 0 => []
  | k + 1 => if P k = true then ch_h P k ++ [k] else ch_h P k
theorem ch_h_mem (P : Nat → Bool) : ∀ k x, x ∈ ch_h P k → x < k ∧ P x = true
  | 0, x, h => absurd h (by simp [ch_h])
  | k + 1, x, h => by
    rw [ch_h] at h
    by_cases e : P k = true
    · rw [if_pos e] at h
      rcases List.mem_append.mp h with q | q
      · have := ch_h_mem P k x q
        exact ⟨by omega, this.2⟩
      · rw [List.mem_singleton] at q
        subst q
        exact ⟨by omega, e⟩
    · rw [if_neg e] at h
      have := ch_h_mem P k x h
      exact ⟨by omega, this.2⟩
theorem ch_h_nd (P : Nat → Bool) : ∀ k, (ch_h P k).Nodup
  | 0 => by simp [ch_h]
  | k + 1 => by
    rw [ch_h]
    have ih := ch_h_nd P k
    by_cases e : P k = true
    · rw [if_pos e, List.nodup_append]
      refine ⟨ih, by simp, fun x hx y hy => ?_⟩
      rw [List.mem_singleton] at hy
      have := (ch_h_mem P k x hx).1
      omega
    · rw [if_neg e]; exact ih
theorem ch_h_len (P : Nat → Bool) {s : Nat} : ∀ k, (∀ i, i < k → s.testBit i = P i) → (ch_h P k).length = q_pc s k
  | 0, _ => by simp [ch_h, q_pc]
  | k + 1, h => by
    have ih := ch_h_len P (s := s) k (fun i hi => h i (by omega))
    rw [ch_h, q_pc, h k (by omega)]
    cases e : P k
    · rw [if_neg (by simp), ih]; rfl
    · rw [if_pos rfl, List.length_append, ih]; rfl
theorem ch_h_mono (P : Nat → Bool) : ∀ r k, (ch_h P k).length ≤ (ch_h P (k + r)).length
  | 0, k => Nat.le_refl _
  | r + 1, k => by
    have ih := ch_h_mono P r k
    rw [← Nat.add_assoc, ch_h]
    by_cases e : P (k + r) = true
    · rw [if_pos e, List.length_append]; omega
    · rw [if_neg e]; exact ih
theorem ch_h_inj (P : Nat → Bool) {k i j : Nat} (hi : i < (ch_h P k).length) (hj : j < (ch_h P k).length) (e : (ch_h P k).getD i 0 = (ch_h P k).getD j 0) : i = j := by
  rw [List.getD_eq_getElem?_getD, List.getD_eq_getElem?_getD, List.getElem?_eq_getElem hi, List.getElem?_eq_getElem hj] at e
  exact (List.getElem_inj (ch_h_nd P k)).mp e
theorem ch_h_get (P : Nat → Bool) {k i : Nat} (hi : i < (ch_h P k).length) : (ch_h P k).getD i 0 < k ∧ P ((ch_h P k).getD i 0) = true := by
  rw [List.getD_eq_getElem?_getD, List.getElem?_eq_getElem hi]
  exact ch_h_mem P k _ (List.getElem_mem hi)
theorem m_che {p : Nat} {a2 : Int32} (hp : p < 6) (K0 : ph_Mem) (h6 : (ch_h (hP (K0.1 2) p 1) 12).length ≤ 6) : ∀ (r h fuel : Nat) (K : ph_Mem), h + r = 12 → r < fuel → (∀ e j, e ≠ 18 → (e ≠ 0 ∨ j ≠ 35) → K.1 e j = K0.1 e j) → K.1 0 35 = nI (ch_h (hP (K0.1 2) p 1) h).length → (∀ i, i < (ch_h (hP (K0.1 2) p 1) h).length → K.1 18 i = nI ((ch_h (hP (K0.1 2) p 1) h).getD i 0)) → ∃ K', f12_cheapest_l36 fuel (nI p) a2 (nI h) K = f12_cheapest_j81 (nI p) a2 K' ∧ (∀ e j, e ≠ 18 → (e ≠ 0 ∨ j ≠ 35) → K'.1 e j = K0.1 e j) ∧ K'.1 0 35 = nI (ch_h (hP (K0.1 2) p 1) 12).length ∧ (∀ i, i < (ch_h (hP (K0.1 2) p 1) 12).length → K'.1 18 i = nI ((ch_h (hP (K0.1 2) p 1) 12).getD i 0))
  | _, _, 0, _, _, hf, _, _, _ => absurd hf (by omega)
  | 0, h, f + 1, K, e, _, c1, c2, c3 => by
    have : h = 12 := by omega
    subst this
    refine ⟨K, ?_, c1, c2, c3⟩
    unfold f12_cheapest_l36
    rw [if_pos (by decide)]
  | r + 1, h, f + 1, K, e, hf, c1, c2, c3 => by
    have st := m_state (K := K) (p := p) (h := h) hp (by omega)
    rw [c1 2 _ (by omega) (by omega)] at st
    have mo := ch_h_mono (hP (K0.1 2) p 1) r (h + 1)
    rw [show h + 1 + r = 12 by omega] at mo
    by_cases ex : K0.1 2 (12 * p + h) = nI 1
    · have eP : hP (K0.1 2) p 1 h = true := by unfold hP; exact decide_eq_true ex
      have eh : ch_h (hP (K0.1 2) p 1) (h + 1) = ch_h (hP (K0.1 2) p 1) h ++ [h] := by rw [ch_h, if_pos eP]
      have el : (ch_h (hP (K0.1 2) p 1) (h + 1)).length = (ch_h (hP (K0.1 2) p 1) h).length + 1 := by rw [eh, List.length_append]; rfl
      rw [ex] at st
      have ih := m_che (a2 := a2) hp K0 h6 r (h + 1) f (ph_wi (ph_wi K 18 (ch_h (hP (K0.1 2) p 1) h).length (nI h)) 0 35 (nI ((ch_h (hP (K0.1 2) p 1) h).length + 1))) (by omega) (by omega) (fun e j q1 q2 => by rw [wi_o (by omega), wi_o (by omega)]; exact c1 e j q1 q2) (by rw [wi_s, el]) (fun i hi => by
        rw [wi_o (by omega), eh, ch_getD_app]
        by_cases ei : i = (ch_h (hP (K0.1 2) p 1) h).length
        · rw [ei, wi_s, if_neg (by omega), if_pos rfl]
        · rw [wi_o (by omega), if_pos (by omega)]; exact c3 i (by omega))
      obtain ⟨K', r1, r2⟩ := ih
      refine ⟨K', ?_, r2⟩
      rw [← r1]
      generalize (ch_h (hP (K0.1 2) p 1) h).length = q at *
      conv => lhs; unfold f12_cheapest_l36
      unfold f12_cheapest_j75
      simp (disch := first | assumption | omega) only [q_lit, Int32.neg_neg, nI_add, pk_mul, q_sub, q_addn, q_nadd, q_lt, q_le, q_eq, q_eqn, q_neq, q_nen, q_ltn, q_nlt, q_len, q_nle, q_nltn, q_nlen, q_cl, q_ib, q_ibn, q_isz0, q_isz1, q_iszb, q_b0, q_b1, q_ng1, q_ng2, q_ng3, q_ng4, q_ng5, q_ng6, Bool.toNat_true, Bool.toNat_false, if_pos, if_neg, q_ct, q_cf, q_let, q_bd, q_it, q_if, Nat.zero_add, Nat.add_zero, true_and, and_true, false_and, and_false, or_false, false_or, or_true, true_or, Bool.true_eq_false, Bool.false_eq_true, wi_s, wi_o, wi_r, st, c2]
    · have eP : hP (K0.1 2) p 1 h = false := by unfold hP; exact decide_eq_false ex
      have eh : ch_h (hP (K0.1 2) p 1) (h + 1) = ch_h (hP (K0.1 2) p 1) h := by rw [ch_h, if_neg (by rw [eP]; decide)]
      have ih := m_che (a2 := a2) hp K0 h6 r (h + 1) f K (by omega) (by omega) c1 (by rw [eh]; exact c2) (by rw [eh]; exact c3)
      obtain ⟨K', r1, r2⟩ := ih
      refine ⟨K', ?_, r2⟩
      rw [← r1]
      conv => lhs; unfold f12_cheapest_l36
      unfold f12_cheapest_j75
      simp (disch := first | assumption | omega) only [q_lit, Int32.neg_neg, nI_add, pk_mul, q_sub, q_addn, q_nadd, q_lt, q_le, q_eq, q_eqn, q_neq, q_nen, q_ltn, q_nlt, q_len, q_nle, q_nltn, q_nlen, q_cl, q_ib, q_ibn, q_isz0, q_isz1, q_iszb, q_b0, q_b1, q_ng1, q_ng2, q_ng3, q_ng4, q_ng5, q_ng6, Bool.toNat_true, Bool.toNat_false, if_pos, if_neg, q_ct, q_cf, q_let, q_bd, q_it, q_if, Nat.zero_add, Nat.add_zero, true_and, and_true, false_and, and_false, or_false, false_or, or_true, true_or, Bool.true_eq_false, Bool.false_eq_true, wi_s, wi_o, wi_r, st]
theorem x_che {S : ph_Sh} {P : Nat → Bool} (X0 : ph_Mem) (h6 : (ch_h P 12).length ≤ 6) : ∀ (r h fuel : Nat) (M : ph_Mem), h + r = 12 → r < fuel → (∀ e j, e ≠ 77 → (e ≠ 76 ∨ j ≠ 6) → M.1 e j = X0.1 e j) → M.2 = X0.2 → M.1 76 6 = nI (ch_h P h).length → (∀ i, i < (ch_h P h).length → M.1 77 i = nI ((ch_h P h).getD i 0)) → ∃ M', f7_plan_l41 S fuel (nI (q_bs P 12)) (nI h) M = f7_plan_j90 S M' ∧ (∀ e j, e ≠ 77 → (e ≠ 76 ∨ j ≠ 6) → M'.1 e j = X0.1 e j) ∧ M'.2 = X0.2 ∧ M'.1 76 6 = nI (ch_h P 12).length ∧ (∀ i, i < (ch_h P 12).length → M'.1 77 i = nI ((ch_h P 12).getD i 0))
  | _, _, 0, _, _, hf, _, _, _, _ => absurd hf (by omega)
  | 0, h, f + 1, M, e, _, c1, c0, c2, c3 => by
    have : h = 12 := by omega
    subst this
    refine ⟨M, ?_, c1, c0, c2, c3⟩
    unfold f7_plan_l41
    rw [if_pos (by decide)]
  | r + 1, h, f + 1, M, e, hf, c1, c0, c2, c3 => by
    have lt := q_bs12 P
    have bt := x_bit (S := S) (X := M) (w := q_bs P 12) (i := h) (by omega) (by omega)
    rw [q_bs_bit, decide_eq_true (show h < 12 by omega), Bool.true_and] at bt
    have mo := ch_h_mono P r (h + 1)
    rw [show h + 1 + r = 12 by omega] at mo
    cases eP : P h
    · rw [eP] at bt
      have eh : ch_h P (h + 1) = ch_h P h := by rw [ch_h, if_neg (by rw [eP]; decide)]
      obtain ⟨M', r1, r2⟩ := x_che (S := S) X0 h6 r (h + 1) f M (by omega) (by omega) c1 c0 (by rw [eh]; exact c2) (by rw [eh]; exact c3)
      refine ⟨M', ?_, r2⟩
      rw [← r1]
      generalize q_bs P 12 = s at *
      conv => lhs; unfold f7_plan_l41
      unfold f7_plan_j84
      simp (disch := first | assumption | omega) only [q_lit, Int32.neg_neg, nI_add, pk_mul, q_sub, q_addn, q_nadd, q_lt, q_le, q_eq, q_eqn, q_neq, q_nen, q_ltn, q_nlt, q_len, q_nle, q_nltn, q_nlen, q_cl, q_ib, q_ibn, q_isz0, q_isz1, q_iszb, q_b0, q_b1, q_ng1, q_ng2, q_ng3, q_ng4, q_ng5, q_ng6, Bool.toNat_true, Bool.toNat_false, if_pos, if_neg, q_ct, q_cf, q_let, q_bd, q_it, q_if, Nat.zero_add, Nat.add_zero, true_and, and_true, false_and, and_false, or_false, false_or, or_true, true_or, Bool.true_eq_false, Bool.false_eq_true, wi_s, wi_o, wi_r, bt]
    · rw [eP] at bt
      have eh : ch_h P (h + 1) = ch_h P h ++ [h] := by rw [ch_h, if_pos eP]
      have el : (ch_h P (h + 1)).length = (ch_h P h).length + 1 := by rw [eh, List.length_append]; rfl
      obtain ⟨M', r1, r2⟩ := x_che (S := S) X0 h6 r (h + 1) f (ph_wi (ph_wi M 77 (ch_h P h).length (nI h)) 76 6 (nI ((ch_h P h).length + 1))) (by omega) (by omega) (fun e j q1 q2 => by rw [wi_o (by omega), wi_o (by omega)]; exact c1 e j q1 q2) c0 (by rw [wi_s, el]) (fun i hi => by
        rw [wi_o (by omega), eh, ch_getD_app]
        by_cases ei : i = (ch_h P h).length
        · rw [ei, wi_s, if_neg (by omega), if_pos rfl]
        · rw [wi_o (by omega), if_pos (by omega)]; exact c3 i (by omega))
      refine ⟨M', ?_, r2⟩
      rw [← r1]
      generalize q_bs P 12 = s at *
      generalize (ch_h P h).length = q at *
      conv => lhs; unfold f7_plan_l41
      unfold f7_plan_j84
      simp (disch := first | assumption | omega) only [q_lit, Int32.neg_neg, nI_add, pk_mul, q_sub, q_addn, q_nadd, q_lt, q_le, q_eq, q_eqn, q_neq, q_nen, q_ltn, q_nlt, q_len, q_nle, q_nltn, q_nlen, q_cl, q_ib, q_ibn, q_isz0, q_isz1, q_iszb, q_b0, q_b1, q_ng1, q_ng2, q_ng3, q_ng4, q_ng5, q_ng6, Bool.toNat_true, Bool.toNat_false, if_pos, if_neg, q_ct, q_cf, q_let, q_bd, q_it, q_if, Nat.zero_add, Nat.add_zero, true_and, and_true, false_and, and_false, or_false, false_or, or_true, true_or, Bool.true_eq_false, Bool.false_eq_true, wi_s, wi_o, wi_r, bt, c2]
