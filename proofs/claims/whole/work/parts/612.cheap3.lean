/-! PURE HALF: the cheapest way, the model's row -/
/-- while a row is paid: day w, purse u, the hours in dn are had back -/
def ch_k (K0 K : ph_Mem) (hr : Nat → Nat) (n m p d w u : Nat) (dn : List Nat) : Prop :=
  (∀ j, (72 ≤ j ∧ j < 216) ∨ 223 ≤ j → K.1 2 j = K0.1 2 j) ∧ K.1 2 222 = nI (d + w) ∧ K.1 2 (216 + p) = nI u ∧ (∀ q, q < n → ∃ v, v ≤ 100100 ∧ K.1 2 (216 + q) = nI v) ∧ (∀ i, i < m → i ∉ dn → K.1 2 (12 * p + hr i) = nI 1) ∧ (∀ e j, e ≠ 2 → e ≠ 12 → (e ≠ 0 ∨ (j ≠ 8 ∧ j ≠ 22 ∧ j ≠ 23 ∧ j ≠ 24)) → K.1 e j = K0.1 e j)
theorem m_ch_f {C : Nat → Nat → Nat} {inc n m p d : Nat} {hr : Nat → Nat} (K0 : ph_Mem) (hp : p < n) (hn : n ≤ 6) (hinc : inc ≤ 99) (hd : d ≤ 999) (h475 : K0.1 2 475 = nI n) (h471 : K0.1 2 471 = nI inc) (hh : ∀ i, i < m → hr i < 12) (hinj : ∀ i j, i < m → j < m → hr i = hr j → i = j) (hC : ∀ i w, i < m → w ≤ 61 → C i w ≤ 9999) (hV : ∀ i w, i < m → w ≤ 61 → ∀ K : ph_Mem, (∀ j, (72 ≤ j ∧ j < 216) ∨ 223 ≤ j → K.1 2 j = K0.1 2 j) → K.1 2 222 = nI (d + w) → ∃ K', f12_costsFor K (nI p) (nI (hr i)) = some (nI (C i w), K') ∧ kSc K K') (rc : Int32 → Int32 → Int32 → Int32 → ph_Mem → Option (Int32 × ph_Mem)) {i k a w0 u0 : Nat} (hi : i < m) (hk : k < 6) (ha : a ≤ 100000) (h19 : K0.1 19 k = nI (hr i)) (dn : List Nat) (hdn : i ∉ dn) : ∀ (r w fuel : Nat) (K : ph_Mem), w + r = 61 → w0 ≤ w → r < fuel → u0 + (w - w0) * inc ≤ 99999 → ch_k K0 K hr n m p d w (u0 + (w - w0) * inc) dn → (∀ w', ch_f C inc i w0 u0 w r = some w' → ∃ K', f12_paysRow_l31 rc fuel (nI p) (nI (d + 60)) (nI a) (nI k) K = rc (nI p) (nI (d + 60)) (nI (a + C i w')) (nI (k + 1)) K' ∧ u0 + (w' - w0) * inc ≤ 99999 ∧ ch_k K0 K' hr n m p d w' (u0 + (w' - w0) * inc - C i w') (i :: dn)) ∧ (ch_f C inc i w0 u0 w r = none → ∃ K' w' u', f12_paysRow_l31 rc fuel (nI p) (nI (d + 60)) (nI a) (nI k) K = f12_paysRow_j105 (nI 1000000000) K' ∧ ch_k K0 K' hr n m p d w' u' dn)
  | r, w, 0, K, _, _, hf, _, _ => absurd hf (by omega)
  | r, w, f + 1, K, e, hw, hf, hu, hI => by
    obtain ⟨c1, c2, c3, c4, c5, c6⟩ := id hI
    have hst := c5 i hi hdn
    have hhi := hh i hi
    have hci := hC i w hi (by omega)
    have k19 : K.1 19 k = nI (hr i) := (c6 19 k (by omega) (by omega) (by omega)).trans h19
    obtain ⟨K1, r1, r2⟩ := m_canRed (s := 1) (v := C i w) (show p < 6 by omega) hhi (by omega) hst (fun _ => hci) c3 hu (fun _ => hV i w hi (by omega) K c1 c2)
    have d1 : ∀ j, K1.1 2 j = K.1 2 j := fun j => r2.1 2 j (by omega) (by omega)
    have hI1 : ch_k K0 K1 hr n m p d w (u0 + (w - w0) * inc) dn := ⟨fun j hj => (d1 j).trans (c1 j hj), (d1 _).trans c2, (d1 _).trans c3, fun q hq => by
      obtain ⟨v, v1, v2⟩ := c4 q hq
      exact ⟨v, v1, (d1 _).trans v2⟩, fun i' h1 h2 => (d1 _).trans (c5 i' h1 h2), fun e j q1 q2 q3 => (r2.1 e j q2 q3).trans (c6 e j q1 q2 q3)⟩
    have k119 : K1.1 19 k = nI (hr i) := (r2.1 19 k (by omega) (by omega)).trans k19
    have e222 : K1.1 2 222 = nI (d + w) := (d1 _).trans c2
    cases r with
    | zero =>
      -- behind the last day
      have w61 : w = 61 := by omega
      subst w61
      refine ⟨fun w' z => by rw [ch_f] at z; exact absurd z (by simp), fun _ => ⟨K1, 61, _, ?_, hI1⟩⟩
      unfold f12_paysRow_l31 f12_paysRow_j65 f12_paysRow_j77
      by_cases hx : C i 61 ≤ u0 + (61 - w0) * inc
      · rw [decide_eq_true ⟨rfl, hx⟩] at r1
        simp (disch := first | assumption | omega) only [q_lit, Int32.neg_neg, nI_add, pk_mul, q_sub, q_addn, q_nadd, q_lt, q_le, q_eq, q_eqn, q_neq, q_nen, q_ltn, q_nlt, q_len, q_nle, q_nltn, q_nlen, q_cl, q_ib, q_ibn, q_isz0, q_isz1, q_iszb, q_b0, q_b1, q_ng1, q_ng2, q_ng3, q_ng4, q_ng5, q_ng6, Bool.toNat_true, Bool.toNat_false, if_pos, if_neg, q_ct, q_cf, q_let, q_bd, q_it, q_if, Nat.zero_add, Nat.add_zero, true_and, and_true, false_and, and_false, or_false, false_or, or_true, true_or, Bool.true_eq_false, Bool.false_eq_true, wi_s, wi_o, wi_r, k19, r1, e222]
      · rw [decide_eq_false (fun q => hx q.2)] at r1
        simp (disch := first | assumption | omega) only [q_lit, Int32.neg_neg, nI_add, pk_mul, q_sub, q_addn, q_nadd, q_lt, q_le, q_eq, q_eqn, q_neq, q_nen, q_ltn, q_nlt, q_len, q_nle, q_nltn, q_nlen, q_cl, q_ib, q_ibn, q_isz0, q_isz1, q_iszb, q_b0, q_b1, q_ng1, q_ng2, q_ng3, q_ng4, q_ng5, q_ng6, Bool.toNat_true, Bool.toNat_false, if_pos, if_neg, q_ct, q_cf, q_let, q_bd, q_it, q_if, Nat.zero_add, Nat.add_zero, true_and, and_true, false_and, and_false, or_false, false_or, or_true, true_or, Bool.true_eq_false, Bool.false_eq_true, wi_s, wi_o, wi_r, k19, r1, e222]
    | succ r =>
      rw [ch_f]
      by_cases hx : C i w ≤ u0 + (w - w0) * inc
      · rw [if_pos hx]
        rw [decide_eq_true ⟨rfl, hx⟩] at r1
        refine ⟨fun w' z => ?_, fun z => absurd z (by simp)⟩
        injection z with z
        subst z
        obtain ⟨K2, n1, n2, n3, n4⟩ := m_redeems (K := K1) (show p < 6 by omega) hhi hci hx ((d1 _).trans c3) hu (hV i w hi (by omega) K1 (fun j hj => (d1 j).trans (c1 j hj)) e222)
        have g0 : ∀ j, j ≠ 12 * p + hr i → j ≠ 216 + p → K2.1 2 j = K.1 2 j := fun j q1 q2 => by rw [n2 j]; unfold gRed; rw [if_neg q1, if_neg q2]; exact d1 j
        refine ⟨K2, ?_, hu, ⟨fun j hj => (g0 j (by omega) (by omega)).trans (c1 j hj), (g0 _ (by omega) (by omega)).trans c2, ?_, fun q hq => ?_, fun i' h1 h2 => ?_, fun e j q1 q2 q3 => ?_⟩⟩
        · unfold f12_paysRow_l31 f12_paysRow_j65
          simp (disch := first | assumption | omega) only [q_lit, Int32.neg_neg, nI_add, pk_mul, q_sub, q_addn, q_nadd, q_lt, q_le, q_eq, q_eqn, q_neq, q_nen, q_ltn, q_nlt, q_len, q_nle, q_nltn, q_nlen, q_cl, q_ib, q_ibn, q_isz0, q_isz1, q_iszb, q_b0, q_b1, q_ng1, q_ng2, q_ng3, q_ng4, q_ng5, q_ng6, Bool.toNat_true, Bool.toNat_false, if_pos, if_neg, q_ct, q_cf, q_let, q_bd, q_it, q_if, Nat.zero_add, Nat.add_zero, true_and, and_true, false_and, and_false, or_false, false_or, or_true, true_or, Bool.true_eq_false, Bool.false_eq_true, wi_s, wi_o, wi_r, k19, r1, e222, k119, n1]
        · rw [n2]; unfold gRed; rw [if_neg (by omega), if_pos rfl]
        · by_cases eq : q = p
          · subst eq
            exact ⟨u0 + (w - w0) * inc - C i w, by omega, by rw [n2]; unfold gRed; rw [if_neg (by omega), if_pos rfl]⟩
          · obtain ⟨v, v1, v2⟩ := c4 q hq
            exact ⟨v, v1, (g0 _ (by omega) (by omega)).trans v2⟩
        · have ne : i' ≠ i := fun q => h2 (by rw [q]; exact List.mem_cons_self ..)
          have nh : hr i' ≠ hr i := fun q => ne (hinj i' i h1 hi q)
          have := hh i' h1
          rw [g0 _ (by omega) (by omega)]
          exact c5 i' h1 (fun q => h2 (List.mem_cons_of_mem _ q))
        · rw [n3 e j q1 q2 q3]
          exact hI1.2.2.2.2.2 e j q1 q2 q3
      · rw [if_neg hx]
        rw [decide_eq_false (fun q => hx q.2)] at r1
        obtain ⟨K2, n1, n2, n3, n4⟩ := m_day (K := K1) hn hinc ((d1 _).trans ((c1 _ (by omega)).trans h475)) ((d1 _).trans ((c1 _ (by omega)).trans h471)) e222 (fun q hq => by
          obtain ⟨v, v1, v2⟩ := c4 q hq
          exact ⟨v, v1, (d1 _).trans v2⟩)
        have g0 : ∀ j, j < 216 ∨ 223 ≤ j → K2.1 2 j = K.1 2 j := fun j q1 => by rw [n2 j]; unfold gDay; rw [if_neg (by omega), if_neg (by omega)]; exact d1 j
        have sm : (w + 1 - w0) * inc = (w - w0) * inc + inc := by rw [show w + 1 - w0 = (w - w0) + 1 by omega, Nat.succ_mul]
        have hI2 : ch_k K0 K2 hr n m p d (w + 1) (u0 + (w + 1 - w0) * inc) dn := by
          refine ⟨fun j hj => (g0 j (by omega)).trans (c1 j hj), ?_, ?_, fun q hq => ?_, fun i' h1 h2 => ?_, fun e j q1 q2 q3 => ?_⟩
          · rw [n2]; unfold gDay; rw [if_pos rfl, Nat.add_assoc]
          · rw [n2]; unfold gDay; rw [if_neg (by omega), if_pos (by omega), d1, c3, q_cl (by omega), sm]
            congr 1
            omega
          · obtain ⟨v, v1, v2⟩ := c4 q hq
            refine ⟨min 99999 (v + inc), by omega, ?_⟩
            rw [n2]; unfold gDay; rw [if_neg (by omega), if_pos (by omega), d1, v2, q_cl (by omega)]
          · have := hh i' h1
            rw [g0 _ (by omega)]; exact c5 i' h1 h2
          · rw [n3 e j q1]; exact hI1.2.2.2.2.2 e j q1 q2 q3
        obtain ⟨ya, yb⟩ := m_ch_f K0 hp hn hinc hd h475 h471 hh hinj hC hV rc hi hk ha h19 dn hdn r (w + 1) f K2 (by omega) (by omega) (by omega) (by omega) hI2
        have un : f12_paysRow_l31 rc (f + 1) (nI p) (nI (d + 60)) (nI a) (nI k) K = f12_paysRow_l31 rc f (nI p) (nI (d + 60)) (nI a) (nI k) K2 := by
          conv => lhs; unfold f12_paysRow_l31
          simp (disch := first | assumption | omega) only [q_lit, Int32.neg_neg, nI_add, pk_mul, q_sub, q_addn, q_nadd, q_lt, q_le, q_eq, q_eqn, q_neq, q_nen, q_ltn, q_nlt, q_len, q_nle, q_nltn, q_nlen, q_cl, q_ib, q_ibn, q_isz0, q_isz1, q_iszb, q_b0, q_b1, q_ng1, q_ng2, q_ng3, q_ng4, q_ng5, q_ng6, Bool.toNat_true, Bool.toNat_false, if_pos, if_neg, q_ct, q_cf, q_let, q_bd, q_it, q_if, Nat.zero_add, Nat.add_zero, true_and, and_true, false_and, and_false, or_false, false_or, or_true, true_or, Bool.true_eq_false, Bool.false_eq_true, wi_s, wi_o, wi_r, k19, r1, e222, n1]
        rw [un]
        exact ⟨ya, yb⟩
