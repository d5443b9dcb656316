/-! PURE HALF: raise, the plan and the model's side -/
/-- the rulings of all twelve hours -/
theorem rRul_all {RL : rLT} (hRul : rRul RL) {S : ph_Sh} {X : ph_Mem} {g : Nat → Int32} {n t p d : Nat} (hS : ph_SX S) (hs : rSt RL S X 11 g n t) (hp : p < n) (hd : d ≤ 999) (hd2 : g 222 = nI d) : ∃ V : Nat → Nat → Nat → Nat, ∀ h, h < 12 →
  (∀ today, d ≤ today → today ≤ 1060 → V h 0 today ≤ 999 ∧ V h 2 today ≤ 1 ∧ (g (12 * p + h) = nI 1 → V h 1 today ≤ 9999)) ∧
  (∀ (X1 : ph_Mem) (kd today : Nat), (∀ e j, (11 ≤ e ∧ e < 23) ∨ 88 ≤ e → X1.1 e j = X.1 e j) → (∀ i, X1.2.2 22 i = X.2.2 22 i) → kd < 3 → (kd = 1 → g (12 * p + h) = nI 1) → d ≤ today → today ≤ 1060 → ∃ X', f9_ruled S X1 11 (nI kd) (nI p) (nI h) (nI today) = some (nI (V h kd today), X') ∧ xSc X1 X') ∧
  (∀ (K : ph_Mem) (today : Nat), (∀ j, (72 ≤ j ∧ j < 216) ∨ 223 ≤ j → K.1 2 j = g j) → K.1 2 222 = nI today → d ≤ today → today ≤ 1060 → (∃ K', f12_lendsFor K (nI p) (nI h) = some (nI (V h 0 today), K') ∧ kSc K K') ∧ (∃ K', f12_isBarred K (nI p) (nI h) = some (nI (V h 2 today), K') ∧ kSc K K') ∧ (g (12 * p + h) = nI 1 → ∃ K', f12_costsFor K (nI p) (nI h) = some (nI (V h 1 today), K') ∧ kSc K K')) := by
  have h0 : ∀ h, ∃ V : Nat → Nat → Nat, h < 12 → (∀ today, d ≤ today → today ≤ 1060 → V 0 today ≤ 999 ∧ V 2 today ≤ 1 ∧ (g (12 * p + h) = nI 1 → V 1 today ≤ 9999)) ∧ (∀ (X1 : ph_Mem) (kd today : Nat), (∀ e j, (11 ≤ e ∧ e < 23) ∨ 88 ≤ e → X1.1 e j = X.1 e j) → (∀ i, X1.2.2 22 i = X.2.2 22 i) → kd < 3 → (kd = 1 → g (12 * p + h) = nI 1) → d ≤ today → today ≤ 1060 → ∃ X', f9_ruled S X1 11 (nI kd) (nI p) (nI h) (nI today) = some (nI (V kd today), X') ∧ xSc X1 X') ∧ (∀ (K : ph_Mem) (today : Nat), (∀ j, (72 ≤ j ∧ j < 216) ∨ 223 ≤ j → K.1 2 j = g j) → K.1 2 222 = nI today → d ≤ today → today ≤ 1060 → (∃ K', f12_lendsFor K (nI p) (nI h) = some (nI (V 0 today), K') ∧ kSc K K') ∧ (∃ K', f12_isBarred K (nI p) (nI h) = some (nI (V 2 today), K') ∧ kSc K K') ∧ (g (12 * p + h) = nI 1 → ∃ K', f12_costsFor K (nI p) (nI h) = some (nI (V 1 today), K') ∧ kSc K K')) := by
    intro h
    by_cases hh : h < 12
    · obtain ⟨V, v⟩ := hRul S X 11 g n t p h d hS (Or.inl rfl) hs hp hh hd hd2
      exact ⟨V, fun _ => v⟩
    · exact ⟨fun _ _ => 0, fun q => absurd q hh⟩
  obtain ⟨V, hV⟩ := Classical.axiomOfChoice h0
  exact ⟨V, hV⟩
/-- can be pawned; what it lends then -/
def ra_c (g : Nat → Int32) (p d : Nat) (V : Nat → Nat → Nat → Nat) (h : Nat) : Bool := hP g p 0 h && decide (V h 2 d = 0)
def ra_l (g : Nat → Int32) (p d : Nat) (V : Nat → Nat → Nat → Nat) (h : Nat) : Nat := if ra_c g p d V h then V h 0 d else 0
theorem ra_s_full {f : Nat → Nat} : ∀ k, k ≤ 11 → ra_s f 4095 (k + 1) = ra_s f 4095 k + f k := by
  intro k hk
  have : (4095 : Nat).testBit k = true := by
    have e : (4095 : Nat) = 2 ^ 12 - 1 := by decide
    rw [e, Nat.testBit_two_pow_sub_one]
    exact decide_eq_true (by omega)
  rw [ra_s, this]
  rfl
theorem x_plan_l {RL : rLT} (hRL : rLoc RL) {S : ph_Sh} {X : ph_Mem} {g : Nat → Int32} {n t p d : Nat} (hs : rSt RL S X 11 g n t) (hp : p < n) (hd : d ≤ 999) (hd1 : X.1 21 0 = nI d) {V : Nat → Nat → Nat → Nat} (hV : ∀ h, h < 12 → V h 0 d ≤ 999 ∧ V h 2 d ≤ 1 ∧ ∀ (X1 : ph_Mem) (kd : Nat), (∀ e j, (11 ≤ e ∧ e < 23) ∨ 88 ≤ e → X1.1 e j = X.1 e j) → (∀ i, X1.2.2 22 i = X.2.2 22 i) → kd < 3 → kd ≠ 1 → ∃ X', f9_ruled S X1 11 (nI kd) (nI p) (nI h) (nI d) = some (nI (V h kd d), X') ∧ xSc X1 X') (h3 : X.1 73 3 = nI p) : ∀ (r h fuel : Nat) (M : ph_Mem), h + r = 12 → r < fuel → (∀ e j, e ≠ 6 → e ≠ 74 → e ≠ 75 → (e ≠ 73 ∨ j ≠ 6) → M.1 e j = X.1 e j) → M.2.2 = X.2.2 → M.1 73 6 = nI (q_bs (ra_c g p d V) h) → (∀ i, i < h → M.1 74 i = nI (ra_l g p d V i)) → (∀ i, i ≤ h → M.1 75 i = nI (ra_s (ra_l g p d V) 4095 i)) → ∃ M', f5_plan_l36 S fuel (nI h) M = f5_plan_j183 S M' ∧ (∀ e j, e ≠ 6 → e ≠ 74 → e ≠ 75 → (e ≠ 73 ∨ j ≠ 6) → M'.1 e j = X.1 e j) ∧ M'.2.2 = X.2.2 ∧ M'.1 73 6 = nI (q_bs (ra_c g p d V) 12) ∧ (∀ i, i < 12 → M'.1 74 i = nI (ra_l g p d V i)) ∧ (∀ i, i ≤ 12 → M'.1 75 i = nI (ra_s (ra_l g p d V) 4095 i))
  | 0, h, f + 1, M, e, _, m1, m2, m3, m4, m5 => by
    have : h = 12 := by omega
    subst this
    refine ⟨M, ?_, m1, m2, m3, m4, m5⟩
    unfold f5_plan_l36
    simp (disch := first | assumption | omega) only [q_lit, Int32.neg_neg, nI_add, pk_mul, q_sub, q_addn, q_nadd, q_lt, q_le, q_eq, q_eqn, q_neq, q_nen, q_ltn, q_nlt, q_len, q_nle, q_nltn, q_nlen, q_cl, q_ib, q_ibn, q_isz0, q_isz1, q_iszb, q_b0, q_b1, q_ng1, q_ng2, q_ng3, q_ng4, q_ng5, q_ng6, Bool.toNat_true, Bool.toNat_false, if_pos, if_neg, q_ct, q_cf, q_let, q_bd, q_it, q_if, Nat.zero_add, Nat.add_zero, true_and, and_true, false_and, and_false, or_false, false_or, or_true, true_or, Bool.true_eq_false, Bool.false_eq_true, wi_s, wi_o, wi_r]
  | r + 1, h, f + 1, M, e, hf, m1, m2, m3, m4, m5 => by
    have hn := hs.1.1
    have hh : h < 12 := by omega
    obtain ⟨v0, v2, vx⟩ := hV h hh
    have n3 : M.1 73 3 = nI p := (m1 73 3 (by omega) (by omega) (by omega) (by omega)).trans h3
    have nd : M.1 21 0 = nI d := (m1 21 0 (by omega) (by omega) (by omega) (by omega)).trans hd1
    have hst : M.1 (11 + 5) (12 * p + h) = g (12 * p + h) := (m1 _ _ (by omega) (by omega) (by omega) (by omega)).trans ((rSt_rd hs hp).1 h hh).1
    have ho := x_holds (S := S) (c := 11) (show p < 6 by omega) hh hst
    have lb := ra_s_le (m := 999) (f := ra_l g p d V) 4095 h (fun i hi => by
      unfold ra_l
      split
      · exact (hV i (by omega)).1
      · omega)
    have l999 : ra_l g p d V h ≤ 999 := by unfold ra_l; split <;> omega
    have bsl := q_bs_lt (ra_c g p d V) h
    -- the tail: what is written
    have tail : ∀ (M1 : ph_Mem) (x5 : Int32), xSc M M1 → (x5 = nI (ra_c g p d V h).toNat) → ∃ M', f5_plan_j130 S (f5_plan_l36 S f) (nI h) x5 (nI (ra_l g p d V h)) (nI h) M1 = f5_plan_j183 S M' ∧ (∀ e j, e ≠ 6 → e ≠ 74 → e ≠ 75 → (e ≠ 73 ∨ j ≠ 6) → M'.1 e j = X.1 e j) ∧ M'.2.2 = X.2.2 ∧ M'.1 73 6 = nI (q_bs (ra_c g p d V) 12) ∧ (∀ i, i < 12 → M'.1 74 i = nI (ra_l g p d V i)) ∧ (∀ i, i ≤ 12 → M'.1 75 i = nI (ra_s (ra_l g p d V) 4095 i)) := by
      intro M1 x5 hx hx5
      have s75 : M1.1 75 h = nI (ra_s (ra_l g p d V) 4095 h) := (hx.1 75 h (by omega)).trans (m5 h (Nat.le_refl _))
      have s6 : M1.1 73 6 = nI (q_bs (ra_c g p d V) h) := (hx.1 73 6 (by omega)).trans m3
      obtain ⟨M', y⟩ := x_plan_l hRL hs hp hd hd1 hV h3 r (h + 1) f (ph_wi (ph_wi (ph_wi M1 74 h (nI (ra_l g p d V h))) 75 (h + 1) (nI (ra_s (ra_l g p d V) 4095 h + ra_l g p d V h))) 73 6 (nI (q_bs (ra_c g p d V) (h + 1)))) (by omega) (by omega) (fun e j q1 q2 q3 q4 => by simp (disch := first | assumption | omega) only [q_lit, Int32.neg_neg, nI_add, pk_mul, q_sub, q_addn, q_nadd, q_lt, q_le, q_eq, q_eqn, q_neq, q_nen, q_ltn, q_nlt, q_len, q_nle, q_nltn, q_nlen, q_cl, q_ib, q_ibn, q_isz0, q_isz1, q_iszb, q_b0, q_b1, q_ng1, q_ng2, q_ng3, q_ng4, q_ng5, q_ng6, Bool.toNat_true, Bool.toNat_false, if_pos, if_neg, q_ct, q_cf, q_let, q_bd, q_it, q_if, Nat.zero_add, Nat.add_zero, true_and, and_true, false_and, and_false, or_false, false_or, or_true, true_or, Bool.true_eq_false, Bool.false_eq_true, wi_s, wi_o, wi_r]; rw [hx.1 e j q1]; exact m1 e j q1 q2 q3 q4) (hx.2.1.trans m2) (by simp (disch := first | assumption | omega) only [q_lit, Int32.neg_neg, nI_add, pk_mul, q_sub, q_addn, q_nadd, q_lt, q_le, q_eq, q_eqn, q_neq, q_nen, q_ltn, q_nlt, q_len, q_nle, q_nltn, q_nlen, q_cl, q_ib, q_ibn, q_isz0, q_isz1, q_iszb, q_b0, q_b1, q_ng1, q_ng2, q_ng3, q_ng4, q_ng5, q_ng6, Bool.toNat_true, Bool.toNat_false, if_pos, if_neg, q_ct, q_cf, q_let, q_bd, q_it, q_if, Nat.zero_add, Nat.add_zero, true_and, and_true, false_and, and_false, or_false, false_or, or_true, true_or, Bool.true_eq_false, Bool.false_eq_true, wi_s, wi_o, wi_r]) (fun i hi => by
        by_cases ei : i = h
        · subst ei; simp (disch := first | assumption | omega) only [q_lit, Int32.neg_neg, nI_add, pk_mul, q_sub, q_addn, q_nadd, q_lt, q_le, q_eq, q_eqn, q_neq, q_nen, q_ltn, q_nlt, q_len, q_nle, q_nltn, q_nlen, q_cl, q_ib, q_ibn, q_isz0, q_isz1, q_iszb, q_b0, q_b1, q_ng1, q_ng2, q_ng3, q_ng4, q_ng5, q_ng6, Bool.toNat_true, Bool.toNat_false, if_pos, if_neg, q_ct, q_cf, q_let, q_bd, q_it, q_if, Nat.zero_add, Nat.add_zero, true_and, and_true, false_and, and_false, or_false, false_or, or_true, true_or, Bool.true_eq_false, Bool.false_eq_true, wi_s, wi_o, wi_r]
        · simp (disch := first | assumption | omega) only [q_lit, Int32.neg_neg, nI_add, pk_mul, q_sub, q_addn, q_nadd, q_lt, q_le, q_eq, q_eqn, q_neq, q_nen, q_ltn, q_nlt, q_len, q_nle, q_nltn, q_nlen, q_cl, q_ib, q_ibn, q_isz0, q_isz1, q_iszb, q_b0, q_b1, q_ng1, q_ng2, q_ng3, q_ng4, q_ng5, q_ng6, Bool.toNat_true, Bool.toNat_false, if_pos, if_neg, q_ct, q_cf, q_let, q_bd, q_it, q_if, Nat.zero_add, Nat.add_zero, true_and, and_true, false_and, and_false, or_false, false_or, or_true, true_or, Bool.true_eq_false, Bool.false_eq_true, wi_s, wi_o, wi_r]; rw [hx.1 _ _ (by omega)]; exact m4 i (by omega)) (fun i hi => by
        by_cases ei : i = h + 1
        · subst ei; simp (disch := first | assumption | omega) only [q_lit, Int32.neg_neg, nI_add, pk_mul, q_sub, q_addn, q_nadd, q_lt, q_le, q_eq, q_eqn, q_neq, q_nen, q_ltn, q_nlt, q_len, q_nle, q_nltn, q_nlen, q_cl, q_ib, q_ibn, q_isz0, q_isz1, q_iszb, q_b0, q_b1, q_ng1, q_ng2, q_ng3, q_ng4, q_ng5, q_ng6, Bool.toNat_true, Bool.toNat_false, if_pos, if_neg, q_ct, q_cf, q_let, q_bd, q_it, q_if, Nat.zero_add, Nat.add_zero, true_and, and_true, false_and, and_false, or_false, false_or, or_true, true_or, Bool.true_eq_false, Bool.false_eq_true, wi_s, wi_o, wi_r]; rw [ra_s_full h (by omega)]
        · simp (disch := first | assumption | omega) only [q_lit, Int32.neg_neg, nI_add, pk_mul, q_sub, q_addn, q_nadd, q_lt, q_le, q_eq, q_eqn, q_neq, q_nen, q_ltn, q_nlt, q_len, q_nle, q_nltn, q_nlen, q_cl, q_ib, q_ibn, q_isz0, q_isz1, q_iszb, q_b0, q_b1, q_ng1, q_ng2, q_ng3, q_ng4, q_ng5, q_ng6, Bool.toNat_true, Bool.toNat_false, if_pos, if_neg, q_ct, q_cf, q_let, q_bd, q_it, q_if, Nat.zero_add, Nat.add_zero, true_and, and_true, false_and, and_false, or_false, false_or, or_true, true_or, Bool.true_eq_false, Bool.false_eq_true, wi_s, wi_o, wi_r]; rw [hx.1 _ _ (by omega)]; exact m5 i (by omega))
      refine ⟨M', ?_, y.2⟩
      rw [← y.1, hx5]
      unfold f5_plan_j130 f5_plan_j173
      cases ec : ra_c g p d V h
      · have := q_bs_step.2 ec
        simp (disch := first | assumption | omega) only [q_lit, Int32.neg_neg, nI_add, pk_mul, q_sub, q_addn, q_nadd, q_lt, q_le, q_eq, q_eqn, q_neq, q_nen, q_ltn, q_nlt, q_len, q_nle, q_nltn, q_nlen, q_cl, q_ib, q_ibn, q_isz0, q_isz1, q_iszb, q_b0, q_b1, q_ng1, q_ng2, q_ng3, q_ng4, q_ng5, q_ng6, Bool.toNat_true, Bool.toNat_false, if_pos, if_neg, q_ct, q_cf, q_let, q_bd, q_it, q_if, Nat.zero_add, Nat.add_zero, true_and, and_true, false_and, and_false, or_false, false_or, or_true, true_or, Bool.true_eq_false, Bool.false_eq_true, wi_s, wi_o, wi_r, s75, s6, q_or, Nat.or_zero, this]
      · have := q_bs_step.1 ec
        simp (disch := first | assumption | omega) only [q_lit, Int32.neg_neg, nI_add, pk_mul, q_sub, q_addn, q_nadd, q_lt, q_le, q_eq, q_eqn, q_neq, q_nen, q_ltn, q_nlt, q_len, q_nle, q_nltn, q_nlen, q_cl, q_ib, q_ibn, q_isz0, q_isz1, q_iszb, q_b0, q_b1, q_ng1, q_ng2, q_ng3, q_ng4, q_ng5, q_ng6, Bool.toNat_true, Bool.toNat_false, if_pos, if_neg, q_ct, q_cf, q_let, q_bd, q_it, q_if, Nat.zero_add, Nat.add_zero, true_and, and_true, false_and, and_false, or_false, false_or, or_true, true_or, Bool.true_eq_false, Bool.false_eq_true, wi_s, wi_o, wi_r, s75, s6, q_or, q_1sl, this]
    unfold f5_plan_l36 f5_plan_j89 f5_plan_j90
    cases eh : hP g p 0 h
    · have ec : ra_c g p d V h = false := by unfold ra_c; rw [eh, Bool.false_and]
      have el : ra_l g p d V h = 0 := by unfold ra_l; rw [ec]; rfl
      have tl := tail M (nI 0) ⟨fun _ _ _ => rfl, rfl, fun _ _ _ => rfl⟩ (by rw [ec]; rfl)
      rw [el] at tl
      simp (disch := first | assumption | omega) only [q_lit, Int32.neg_neg, nI_add, pk_mul, q_sub, q_addn, q_nadd, q_lt, q_le, q_eq, q_eqn, q_neq, q_nen, q_ltn, q_nlt, q_len, q_nle, q_nltn, q_nlen, q_cl, q_ib, q_ibn, q_isz0, q_isz1, q_iszb, q_b0, q_b1, q_ng1, q_ng2, q_ng3, q_ng4, q_ng5, q_ng6, Bool.toNat_true, Bool.toNat_false, if_pos, if_neg, q_ct, q_cf, q_let, q_bd, q_it, q_if, Nat.zero_add, Nat.add_zero, true_and, and_true, false_and, and_false, or_false, false_or, or_true, true_or, Bool.true_eq_false, Bool.false_eq_true, wi_s, wi_o, wi_r, n3, ho, eh]
      exact tl
    · obtain ⟨M1, w1, w2⟩ := vx M 2 (fun e j he => m1 e j (by omega) (by omega) (by omega) (by omega)) (fun i => by rw [m2]) (by omega) (by omega)
      by_cases ev : V h 2 d = 0
      · have ec : ra_c g p d V h = true := by unfold ra_c; rw [eh, ev]; rfl
        have el : ra_l g p d V h = V h 0 d := by unfold ra_l; rw [ec]; rfl
        obtain ⟨M2, z1, z2⟩ := vx M1 0 (fun e j he => (w2.1 e j (by omega)).trans (m1 e j (by omega) (by omega) (by omega) (by omega))) (fun i => by rw [w2.2.1, m2]) (by omega) (by omega)
        have tl := tail M2 (nI 1) ⟨fun e j he => (z2.1 e j he).trans (w2.1 e j he), z2.2.1.trans w2.2.1, fun e j he => (z2.2.2 e j he).trans (w2.2.2 e j he)⟩ (by rw [ec]; rfl)
        rw [el] at tl
        rw [ev] at w1
        have n3' : M1.1 73 3 = nI p := (w2.1 _ _ (by omega)).trans n3
        have nd' : M1.1 21 0 = nI d := (w2.1 _ _ (by omega)).trans nd
        simp (disch := first | assumption | omega) only [q_lit, Int32.neg_neg, nI_add, pk_mul, q_sub, q_addn, q_nadd, q_lt, q_le, q_eq, q_eqn, q_neq, q_nen, q_ltn, q_nlt, q_len, q_nle, q_nltn, q_nlen, q_cl, q_ib, q_ibn, q_isz0, q_isz1, q_iszb, q_b0, q_b1, q_ng1, q_ng2, q_ng3, q_ng4, q_ng5, q_ng6, Bool.toNat_true, Bool.toNat_false, if_pos, if_neg, q_ct, q_cf, q_let, q_bd, q_it, q_if, Nat.zero_add, Nat.add_zero, true_and, and_true, false_and, and_false, or_false, false_or, or_true, true_or, Bool.true_eq_false, Bool.false_eq_true, wi_s, wi_o, wi_r, n3, nd, ho, eh, w1, n3', nd', z1]
        exact tl
      · have ec : ra_c g p d V h = false := by unfold ra_c; rw [decide_eq_false ev, Bool.and_false]
        have el : ra_l g p d V h = 0 := by unfold ra_l; rw [ec]; rfl
        have ev1 : V h 2 d = 1 := by omega
        rw [ev1] at w1
        have tl := tail M1 (nI 0) w2 (by rw [ec]; rfl)
        rw [el] at tl
        simp (disch := first | assumption | omega) only [q_lit, Int32.neg_neg, nI_add, pk_mul, q_sub, q_addn, q_nadd, q_lt, q_le, q_eq, q_eqn, q_neq, q_nen, q_ltn, q_nlt, q_len, q_nle, q_nltn, q_nlen, q_cl, q_ib, q_ibn, q_isz0, q_isz1, q_iszb, q_b0, q_b1, q_ng1, q_ng2, q_ng3, q_ng4, q_ng5, q_ng6, Bool.toNat_true, Bool.toNat_false, if_pos, if_neg, q_ct, q_cf, q_let, q_bd, q_it, q_if, Nat.zero_add, Nat.add_zero, true_and, and_true, false_and, and_false, or_false, false_or, or_true, true_or, Bool.true_eq_false, Bool.false_eq_true, wi_s, wi_o, wi_r, n3, nd, ho, eh, w1]
        exact tl
