/-! PURE HALF: copies, person, image, back -/
theorem cp_at {M : ph_Mem} {s sp d dp n c j : Nat} : (ph_cp M s sp d dp n).1 c j = if c = d ∧ dp ≤ j ∧ j < dp + n then M.1 s (sp + (j - dp)) else M.1 c j := by
  unfold ph_cp va_cpy
  by_cases h : c = d
  · subst h
    by_cases g : dp ≤ j ∧ j < dp + n
    · simp [g]
    · rw [if_neg (fun q => g q.2)]
      simp [g]
  · simp [h]
theorem cp_in {M : ph_Mem} {s sp d dp n j : Nat} (h : dp ≤ j ∧ j < dp + n) : (ph_cp M s sp d dp n).1 d j = M.1 s (sp + (j - dp)) := by
  rw [cp_at, if_pos ⟨rfl, h⟩]
theorem cp_out {M : ph_Mem} {s sp d dp n c j : Nat} (h : c ≠ d ∨ j < dp ∨ dp + n ≤ j) : (ph_cp M s sp d dp n).1 c j = M.1 c j := by
  rw [cp_at, if_neg (by omega)]
theorem cp_0 {M : ph_Mem} {s sp d dp : Nat} : ph_cp M s sp d dp 0 = M := by
  apply Prod.ext
  · funext c j
    rw [cp_out (by omega)]
  · rfl
theorem cp_r {M : ph_Mem} {s sp d dp n : Nat} : (ph_cp M s sp d dp n).2 = M.2 := rfl
/-- one more place copied -/
theorem cp_st {M : ph_Mem} {s sp d dp n : Nat} {v : Int32} (hv : v = M.1 s (sp + n)) : ph_wi (ph_cp M s sp d dp n) d (dp + n) v = ph_cp M s sp d dp (n + 1) := by
  apply Prod.ext
  · funext c j
    rw [wi_if, cp_at, cp_at]
    by_cases h : c = d ∧ j = dp + n
    · obtain ⟨rfl, rfl⟩ := h
      rw [if_pos ⟨rfl, rfl⟩, if_pos (by omega), hv, Nat.add_sub_cancel_left]
    · rw [if_neg h]
      by_cases g : c = d ∧ dp ≤ j ∧ j < dp + n
      · rw [if_pos g, if_pos (by omega)]
      · rw [if_neg g, if_neg (by omega)]
  · rfl
theorem m_img_l {k : Nat} (hk : k < 2) {K : ph_Mem} : ∀ (r i fuel : Nat), i + r = 6085 → r < fuel → f12_image_l17 fuel (nI k) (nI i) (ph_cp K 2 0 3 (6085 * k) i) = f12_image_j48 (nI k) (ph_cp K 2 0 3 (6085 * k) 6085)
  | 0, i, f + 1, e, _ => by
    have : i = 6085 := by omega
    subst this
    unfold f12_image_l17
    simp (disch := first | assumption | omega) only [q_lit, Int32.neg_neg, nI_add, pk_mul, q_sub, q_addn, q_nadd, q_lt, q_le, q_eq, q_eqn, q_neq, q_nen, q_ltn, q_nlt, q_len, q_nle, q_nltn, q_nlen, q_cl, q_ib, q_ibn, q_isz0, q_isz1, q_iszb, q_b0, q_b1, q_ng1, q_ng2, q_ng3, q_ng4, q_ng5, q_ng6, Bool.toNat_true, Bool.toNat_false, if_pos, if_neg, q_ct, q_cf, q_let, q_bd, q_it, q_if, Nat.zero_add, Nat.add_zero, true_and, and_true, false_and, and_false, or_false, false_or, or_true, true_or, Bool.true_eq_false, Bool.false_eq_true, wi_s, wi_o, wi_r]
  | r + 1, i, f + 1, e, hf => by
    have ih := m_img_l hk (K := K) r (i + 1) f (by omega) (by omega)
    unfold f12_image_l17
    simp (disch := first | assumption | omega) only [q_lit, Int32.neg_neg, nI_add, pk_mul, q_sub, q_addn, q_nadd, q_lt, q_le, q_eq, q_eqn, q_neq, q_nen, q_ltn, q_nlt, q_len, q_nle, q_nltn, q_nlen, q_cl, q_ib, q_ibn, q_isz0, q_isz1, q_iszb, q_b0, q_b1, q_ng1, q_ng2, q_ng3, q_ng4, q_ng5, q_ng6, Bool.toNat_true, Bool.toNat_false, if_pos, if_neg, q_ct, q_cf, q_let, q_bd, q_it, q_if, Nat.zero_add, Nat.add_zero, true_and, and_true, false_and, and_false, or_false, false_or, or_true, true_or, Bool.true_eq_false, Bool.false_eq_true, wi_s, wi_o, wi_r]
    rw [cp_st (by rw [cp_out (by omega), Nat.zero_add])]
    exact ih
theorem m_bk_l {k : Nat} (hk : k < 2) {K : ph_Mem} : ∀ (r i fuel : Nat), i + r = 6085 → r < fuel → f12_back_l33 fuel (nI k) (nI i) (ph_cp K 3 (6085 * k) 2 0 i) = f12_back_j64 (ph_cp K 3 (6085 * k) 2 0 6085)
  | 0, i, f + 1, e, _ => by
    have : i = 6085 := by omega
    subst this
    unfold f12_back_l33
    simp (disch := first | assumption | omega) only [q_lit, Int32.neg_neg, nI_add, pk_mul, q_sub, q_addn, q_nadd, q_lt, q_le, q_eq, q_eqn, q_neq, q_nen, q_ltn, q_nlt, q_len, q_nle, q_nltn, q_nlen, q_cl, q_ib, q_ibn, q_isz0, q_isz1, q_iszb, q_b0, q_b1, q_ng1, q_ng2, q_ng3, q_ng4, q_ng5, q_ng6, Bool.toNat_true, Bool.toNat_false, if_pos, if_neg, q_ct, q_cf, q_let, q_bd, q_it, q_if, Nat.zero_add, Nat.add_zero, true_and, and_true, false_and, and_false, or_false, false_or, or_true, true_or, Bool.true_eq_false, Bool.false_eq_true, wi_s, wi_o, wi_r]
  | r + 1, i, f + 1, e, hf => by
    have ih := m_bk_l hk (K := K) r (i + 1) f (by omega) (by omega)
    unfold f12_back_l33
    simp (disch := first | assumption | omega) only [q_lit, Int32.neg_neg, nI_add, pk_mul, q_sub, q_addn, q_nadd, q_lt, q_le, q_eq, q_eqn, q_neq, q_nen, q_ltn, q_nlt, q_len, q_nle, q_nltn, q_nlen, q_cl, q_ib, q_ibn, q_isz0, q_isz1, q_iszb, q_b0, q_b1, q_ng1, q_ng2, q_ng3, q_ng4, q_ng5, q_ng6, Bool.toNat_true, Bool.toNat_false, if_pos, if_neg, q_ct, q_cf, q_let, q_bd, q_it, q_if, Nat.zero_add, Nat.add_zero, true_and, and_true, false_and, and_false, or_false, false_or, or_true, true_or, Bool.true_eq_false, Bool.false_eq_true, wi_s, wi_o, wi_r]
    have := cp_st (M := K) (s := 3) (sp := 6085 * k) (d := 2) (dp := 0) (n := i) (v := (ph_cp K 3 (6085 * k) 2 0 i).1 3 (6085 * k + i)) (by rw [cp_out (by omega)])
    rw [Nat.zero_add] at this
    rw [this]
    exact ih
theorem wr_at {M : ph_Mem} {c k d j : Nat} {v : Option Nat} : (ph_wr M c k v).2.2 d j = if d = c ∧ j = k then v else M.2.2 d j := by
  unfold ph_wr ph_u2
  by_cases h : d = c <;> by_cases g : j = k <;> simp [h, g]
/-- a street copied -/
theorem x_copy_l {S : ph_Sh} {c q : Nat} (hne : c + 11 ≠ q + 11) {X0 : ph_Mem} (hok : ∀ i, i < 6 → ph_okN S (X0.2.2 (q + 11) i) = true) : ∀ (r i fuel : Nat) (X : ph_Mem), i + r = 6 → r < fuel → X.1 = X0.1 → (∀ d j, (d ≠ c + 11 ∨ i ≤ j) → X.2.2 d j = X0.2.2 d j) → (∀ j, j < i → X.2.2 (c + 11) j = X0.2.2 (q + 11) j) → ∃ X', f9_copyFrom_l159 S c q fuel (nI i) X = some X' ∧ X'.1 = (ph_wi (ph_wi X0 c 13 (X0.1 q 13)) c 14 (X0.1 q 14)).1 ∧ (∀ d j, (d ≠ c + 11 ∨ 6 ≤ j) → X'.2.2 d j = X0.2.2 d j) ∧ (∀ j, j < 6 → X'.2.2 (c + 11) j = X0.2.2 (q + 11) j)
  | 0, i, f + 1, X, e, _, h1, h2, h3 => by
    have : i = 6 := by omega
    subst this
    unfold f9_copyFrom_l159 f9_copyFrom_j183
    simp (disch := first | assumption | omega) only [q_lit, Int32.neg_neg, nI_add, pk_mul, q_sub, q_addn, q_nadd, q_lt, q_le, q_eq, q_eqn, q_neq, q_nen, q_ltn, q_nlt, q_len, q_nle, q_nltn, q_nlen, q_cl, q_ib, q_ibn, q_isz0, q_isz1, q_iszb, q_b0, q_b1, q_ng1, q_ng2, q_ng3, q_ng4, q_ng5, q_ng6, Bool.toNat_true, Bool.toNat_false, if_pos, if_neg, q_ct, q_cf, q_let, q_bd, q_it, q_if, Nat.zero_add, Nat.add_zero, true_and, and_true, false_and, and_false, or_false, false_or, or_true, true_or, Bool.true_eq_false, Bool.false_eq_true, wi_s, wi_o, wi_r]
    refine ⟨_, rfl, ?_, h2, h3⟩
    unfold ph_wi
    rw [h1]
  | r + 1, i, f + 1, X, e, hf, h1, h2, h3 => by
    have e1 : X.2.2 (q + 11) i = X0.2.2 (q + 11) i := h2 _ _ (Or.inl (Ne.symm hne))
    have ih := x_copy_l hne hok r (i + 1) f (ph_wr X (c + 11) i (X0.2.2 (q + 11) i)) (by omega) (by omega) h1 (fun d j hd => by
      rw [wr_at, if_neg (by omega)]
      exact h2 d j (by omega)) (fun j hj => by
      rw [wr_at]
      by_cases g : j = i
      · subst g; rw [if_pos ⟨rfl, rfl⟩]
      · rw [if_neg (by omega)]; exact h3 j (by omega))
    unfold f9_copyFrom_l159
    simp (disch := first | assumption | omega) only [q_lit, Int32.neg_neg, nI_add, pk_mul, q_sub, q_addn, q_nadd, q_lt, q_le, q_eq, q_eqn, q_neq, q_nen, q_ltn, q_nlt, q_len, q_nle, q_nltn, q_nlen, q_cl, q_ib, q_ibn, q_isz0, q_isz1, q_iszb, q_b0, q_b1, q_ng1, q_ng2, q_ng3, q_ng4, q_ng5, q_ng6, Bool.toNat_true, Bool.toNat_false, if_pos, if_neg, q_ct, q_cf, q_let, q_bd, q_it, q_if, Nat.zero_add, Nat.add_zero, true_and, and_true, false_and, and_false, or_false, false_or, or_true, true_or, Bool.true_eq_false, Bool.false_eq_true, wi_s, wi_o, wi_r, e1, hok i (by omega)]
    exact ih
/-- a street copied: its rows -/
def qc_0 (X : ph_Mem) (c q : Nat) : ph_Mem := ph_wi X c 1 (X.1 q 1)
def qc_1 (X : ph_Mem) (c q : Nat) : ph_Mem := ph_cp (qc_0 X c q) (q + 1) 0 (c + 1) 0 6
def qc_2 (X : ph_Mem) (c q : Nat) : ph_Mem := ph_cp (qc_1 X c q) (q + 2) 0 (c + 2) 0 72
def qc_3 (X : ph_Mem) (c q : Nat) : ph_Mem := ph_cp (qc_2 X c q) (q + 3) 0 (c + 3) 0 72
def qc_4 (X : ph_Mem) (c q : Nat) : ph_Mem := ph_cp (qc_3 X c q) (q + 4) 0 (c + 4) 0 72
def qc_5 (X : ph_Mem) (c q : Nat) : ph_Mem := ph_cp (qc_4 X c q) (q + 5) 0 (c + 5) 0 72
def qc_6 (X : ph_Mem) (c q : Nat) : ph_Mem := ph_cp (qc_5 X c q) (q + 6) 0 (c + 6) 0 72
def qc_7 (X : ph_Mem) (c q : Nat) : ph_Mem := ph_cp (qc_6 X c q) (q + 7) 0 (c + 7) 0 72
def qc_8 (X : ph_Mem) (c q : Nat) : ph_Mem := ph_cp (qc_7 X c q) (q + 8) 0 (c + 8) 0 8
def qc_9 (X : ph_Mem) (c q : Nat) : ph_Mem := ph_cp (qc_8 X c q) (q + 9) 0 (c + 9) 0 24
def qc_10 (X : ph_Mem) (c q : Nat) : ph_Mem := ph_cp (qc_9 X c q) (q + 10) 0 (c + 10) 0 5
theorem qc_o0 {X : ph_Mem} {c q d j : Nat} (h : d ≠ c) : (qc_0 X c q).1 d j = X.1 d j := by unfold qc_0; rw [wi_c h]
theorem qc_o1 {X : ph_Mem} {c q d j : Nat} (h : d < c ∨ c + 12 ≤ d) : (qc_1 X c q).1 d j = X.1 d j := by unfold qc_1; rw [cp_out (by omega)]; exact qc_o0 (by omega)
theorem qc_o2 {X : ph_Mem} {c q d j : Nat} (h : d < c ∨ c + 12 ≤ d) : (qc_2 X c q).1 d j = X.1 d j := by unfold qc_2; rw [cp_out (by omega)]; exact qc_o1 (by omega)
theorem qc_o3 {X : ph_Mem} {c q d j : Nat} (h : d < c ∨ c + 12 ≤ d) : (qc_3 X c q).1 d j = X.1 d j := by unfold qc_3; rw [cp_out (by omega)]; exact qc_o2 (by omega)
theorem qc_o4 {X : ph_Mem} {c q d j : Nat} (h : d < c ∨ c + 12 ≤ d) : (qc_4 X c q).1 d j = X.1 d j := by unfold qc_4; rw [cp_out (by omega)]; exact qc_o3 (by omega)
theorem qc_o5 {X : ph_Mem} {c q d j : Nat} (h : d < c ∨ c + 12 ≤ d) : (qc_5 X c q).1 d j = X.1 d j := by unfold qc_5; rw [cp_out (by omega)]; exact qc_o4 (by omega)
theorem qc_o6 {X : ph_Mem} {c q d j : Nat} (h : d < c ∨ c + 12 ≤ d) : (qc_6 X c q).1 d j = X.1 d j := by unfold qc_6; rw [cp_out (by omega)]; exact qc_o5 (by omega)
theorem qc_o7 {X : ph_Mem} {c q d j : Nat} (h : d < c ∨ c + 12 ≤ d) : (qc_7 X c q).1 d j = X.1 d j := by unfold qc_7; rw [cp_out (by omega)]; exact qc_o6 (by omega)
theorem qc_o8 {X : ph_Mem} {c q d j : Nat} (h : d < c ∨ c + 12 ≤ d) : (qc_8 X c q).1 d j = X.1 d j := by unfold qc_8; rw [cp_out (by omega)]; exact qc_o7 (by omega)
theorem qc_o9 {X : ph_Mem} {c q d j : Nat} (h : d < c ∨ c + 12 ≤ d) : (qc_9 X c q).1 d j = X.1 d j := by unfold qc_9; rw [cp_out (by omega)]; exact qc_o8 (by omega)
theorem qc_o10 {X : ph_Mem} {c q d j : Nat} (h : d < c ∨ c + 12 ≤ d) : (qc_10 X c q).1 d j = X.1 d j := by unfold qc_10; rw [cp_out (by omega)]; exact qc_o9 (by omega)
theorem qc_p0 {X : ph_Mem} {c q : Nat} : (qc_0 X c q).1 c 1 = X.1 q 1 := by unfold qc_0; rw [wi_s]
theorem qc_p1 {X : ph_Mem} {c q : Nat} : (qc_1 X c q).1 c 1 = X.1 q 1 := by unfold qc_1; rw [cp_out (by omega)]; exact qc_p0
theorem qc_p2 {X : ph_Mem} {c q : Nat} : (qc_2 X c q).1 c 1 = X.1 q 1 := by unfold qc_2; rw [cp_out (by omega)]; exact qc_p1
theorem qc_p3 {X : ph_Mem} {c q : Nat} : (qc_3 X c q).1 c 1 = X.1 q 1 := by unfold qc_3; rw [cp_out (by omega)]; exact qc_p2
theorem qc_p4 {X : ph_Mem} {c q : Nat} : (qc_4 X c q).1 c 1 = X.1 q 1 := by unfold qc_4; rw [cp_out (by omega)]; exact qc_p3
theorem qc_p5 {X : ph_Mem} {c q : Nat} : (qc_5 X c q).1 c 1 = X.1 q 1 := by unfold qc_5; rw [cp_out (by omega)]; exact qc_p4
theorem qc_p6 {X : ph_Mem} {c q : Nat} : (qc_6 X c q).1 c 1 = X.1 q 1 := by unfold qc_6; rw [cp_out (by omega)]; exact qc_p5
theorem qc_p7 {X : ph_Mem} {c q : Nat} : (qc_7 X c q).1 c 1 = X.1 q 1 := by unfold qc_7; rw [cp_out (by omega)]; exact qc_p6
theorem qc_p8 {X : ph_Mem} {c q : Nat} : (qc_8 X c q).1 c 1 = X.1 q 1 := by unfold qc_8; rw [cp_out (by omega)]; exact qc_p7
theorem qc_p9 {X : ph_Mem} {c q : Nat} : (qc_9 X c q).1 c 1 = X.1 q 1 := by unfold qc_9; rw [cp_out (by omega)]; exact qc_p8
theorem qc_p10 {X : ph_Mem} {c q : Nat} : (qc_10 X c q).1 c 1 = X.1 q 1 := by unfold qc_10; rw [cp_out (by omega)]; exact qc_p9
theorem qc_i1_1 {X : ph_Mem} {c q j : Nat} (hne : c + 12 ≤ q ∨ q + 12 ≤ c) (hj : j < 6) : (qc_1 X c q).1 (c + 1) j = X.1 (q + 1) j := by unfold qc_1; rw [cp_in (by omega), qc_o0 (by omega), Nat.zero_add, Nat.sub_zero]
theorem qc_i1_2 {X : ph_Mem} {c q j : Nat} (hne : c + 12 ≤ q ∨ q + 12 ≤ c) (hj : j < 6) : (qc_2 X c q).1 (c + 1) j = X.1 (q + 1) j := by unfold qc_2; rw [cp_out (by omega)]; exact qc_i1_1 hne hj
theorem qc_i1_3 {X : ph_Mem} {c q j : Nat} (hne : c + 12 ≤ q ∨ q + 12 ≤ c) (hj : j < 6) : (qc_3 X c q).1 (c + 1) j = X.1 (q + 1) j := by unfold qc_3; rw [cp_out (by omega)]; exact qc_i1_2 hne hj
theorem qc_i1_4 {X : ph_Mem} {c q j : Nat} (hne : c + 12 ≤ q ∨ q + 12 ≤ c) (hj : j < 6) : (qc_4 X c q).1 (c + 1) j = X.1 (q + 1) j := by unfold qc_4; rw [cp_out (by omega)]; exact qc_i1_3 hne hj
theorem qc_i1_5 {X : ph_Mem} {c q j : Nat} (hne : c + 12 ≤ q ∨ q + 12 ≤ c) (hj : j < 6) : (qc_5 X c q).1 (c + 1) j = X.1 (q + 1) j := by unfold qc_5; rw [cp_out (by omega)]; exact qc_i1_4 hne hj
theorem qc_i1_6 {X : ph_Mem} {c q j : Nat} (hne : c + 12 ≤ q ∨ q + 12 ≤ c) (hj : j < 6) : (qc_6 X c q).1 (c + 1) j = X.1 (q + 1) j := by unfold qc_6; rw [cp_out (by omega)]; exact qc_i1_5 hne hj
theorem qc_i1_7 {X : ph_Mem} {c q j : Nat} (hne : c + 12 ≤ q ∨ q + 12 ≤ c) (hj : j < 6) : (qc_7 X c q).1 (c + 1) j = X.1 (q + 1) j := by unfold qc_7; rw [cp_out (by omega)]; exact qc_i1_6 hne hj
theorem qc_i1_8 {X : ph_Mem} {c q j : Nat} (hne : c + 12 ≤ q ∨ q + 12 ≤ c) (hj : j < 6) : (qc_8 X c q).1 (c + 1) j = X.1 (q + 1) j := by unfold qc_8; rw [cp_out (by omega)]; exact qc_i1_7 hne hj
theorem qc_i1_9 {X : ph_Mem} {c q j : Nat} (hne : c + 12 ≤ q ∨ q + 12 ≤ c) (hj : j < 6) : (qc_9 X c q).1 (c + 1) j = X.1 (q + 1) j := by unfold qc_9; rw [cp_out (by omega)]; exact qc_i1_8 hne hj
theorem qc_i1_10 {X : ph_Mem} {c q j : Nat} (hne : c + 12 ≤ q ∨ q + 12 ≤ c) (hj : j < 6) : (qc_10 X c q).1 (c + 1) j = X.1 (q + 1) j := by unfold qc_10; rw [cp_out (by omega)]; exact qc_i1_9 hne hj
theorem qc_i2_2 {X : ph_Mem} {c q j : Nat} (hne : c + 12 ≤ q ∨ q + 12 ≤ c) (hj : j < 72) : (qc_2 X c q).1 (c + 2) j = X.1 (q + 2) j := by unfold qc_2; rw [cp_in (by omega), qc_o1 (by omega), Nat.zero_add, Nat.sub_zero]
theorem qc_i2_3 {X : ph_Mem} {c q j : Nat} (hne : c + 12 ≤ q ∨ q + 12 ≤ c) (hj : j < 72) : (qc_3 X c q).1 (c + 2) j = X.1 (q + 2) j := by unfold qc_3; rw [cp_out (by omega)]; exact qc_i2_2 hne hj
theorem qc_i2_4 {X : ph_Mem} {c q j : Nat} (hne : c + 12 ≤ q ∨ q + 12 ≤ c) (hj : j < 72) : (qc_4 X c q).1 (c + 2) j = X.1 (q + 2) j := by unfold qc_4; rw [cp_out (by omega)]; exact qc_i2_3 hne hj
theorem qc_i2_5 {X : ph_Mem} {c q j : Nat} (hne : c + 12 ≤ q ∨ q + 12 ≤ c) (hj : j < 72) : (qc_5 X c q).1 (c + 2) j = X.1 (q + 2) j := by unfold qc_5; rw [cp_out (by omega)]; exact qc_i2_4 hne hj
theorem qc_i2_6 {X : ph_Mem} {c q j : Nat} (hne : c + 12 ≤ q ∨ q + 12 ≤ c) (hj : j < 72) : (qc_6 X c q).1 (c + 2) j = X.1 (q + 2) j := by unfold qc_6; rw [cp_out (by omega)]; exact qc_i2_5 hne hj
theorem qc_i2_7 {X : ph_Mem} {c q j : Nat} (hne : c + 12 ≤ q ∨ q + 12 ≤ c) (hj : j < 72) : (qc_7 X c q).1 (c + 2) j = X.1 (q + 2) j := by unfold qc_7; rw [cp_out (by omega)]; exact qc_i2_6 hne hj
theorem qc_i2_8 {X : ph_Mem} {c q j : Nat} (hne : c + 12 ≤ q ∨ q + 12 ≤ c) (hj : j < 72) : (qc_8 X c q).1 (c + 2) j = X.1 (q + 2) j := by unfold qc_8; rw [cp_out (by omega)]; exact qc_i2_7 hne hj
theorem qc_i2_9 {X : ph_Mem} {c q j : Nat} (hne : c + 12 ≤ q ∨ q + 12 ≤ c) (hj : j < 72) : (qc_9 X c q).1 (c + 2) j = X.1 (q + 2) j := by unfold qc_9; rw [cp_out (by omega)]; exact qc_i2_8 hne hj
theorem qc_i2_10 {X : ph_Mem} {c q j : Nat} (hne : c + 12 ≤ q ∨ q + 12 ≤ c) (hj : j < 72) : (qc_10 X c q).1 (c + 2) j = X.1 (q + 2) j := by unfold qc_10; rw [cp_out (by omega)]; exact qc_i2_9 hne hj
theorem qc_i3_3 {X : ph_Mem} {c q j : Nat} (hne : c + 12 ≤ q ∨ q + 12 ≤ c) (hj : j < 72) : (qc_3 X c q).1 (c + 3) j = X.1 (q + 3) j := by unfold qc_3; rw [cp_in (by omega), qc_o2 (by omega), Nat.zero_add, Nat.sub_zero]
theorem qc_i3_4 {X : ph_Mem} {c q j : Nat} (hne : c + 12 ≤ q ∨ q + 12 ≤ c) (hj : j < 72) : (qc_4 X c q).1 (c + 3) j = X.1 (q + 3) j := by unfold qc_4; rw [cp_out (by omega)]; exact qc_i3_3 hne hj
theorem qc_i3_5 {X : ph_Mem} {c q j : Nat} (hne : c + 12 ≤ q ∨ q + 12 ≤ c) (hj : j < 72) : (qc_5 X c q).1 (c + 3) j = X.1 (q + 3) j := by unfold qc_5; rw [cp_out (by omega)]; exact qc_i3_4 hne hj
theorem qc_i3_6 {X : ph_Mem} {c q j : Nat} (hne : c + 12 ≤ q ∨ q + 12 ≤ c) (hj : j < 72) : (qc_6 X c q).1 (c + 3) j = X.1 (q + 3) j := by unfold qc_6; rw [cp_out (by omega)]; exact qc_i3_5 hne hj
theorem qc_i3_7 {X : ph_Mem} {c q j : Nat} (hne : c + 12 ≤ q ∨ q + 12 ≤ c) (hj : j < 72) : (qc_7 X c q).1 (c + 3) j = X.1 (q + 3) j := by unfold qc_7; rw [cp_out (by omega)]; exact qc_i3_6 hne hj
theorem qc_i3_8 {X : ph_Mem} {c q j : Nat} (hne : c + 12 ≤ q ∨ q + 12 ≤ c) (hj : j < 72) : (qc_8 X c q).1 (c + 3) j = X.1 (q + 3) j := by unfold qc_8; rw [cp_out (by omega)]; exact qc_i3_7 hne hj
theorem qc_i3_9 {X : ph_Mem} {c q j : Nat} (hne : c + 12 ≤ q ∨ q + 12 ≤ c) (hj : j < 72) : (qc_9 X c q).1 (c + 3) j = X.1 (q + 3) j := by unfold qc_9; rw [cp_out (by omega)]; exact qc_i3_8 hne hj
theorem qc_i3_10 {X : ph_Mem} {c q j : Nat} (hne : c + 12 ≤ q ∨ q + 12 ≤ c) (hj : j < 72) : (qc_10 X c q).1 (c + 3) j = X.1 (q + 3) j := by unfold qc_10; rw [cp_out (by omega)]; exact qc_i3_9 hne hj
theorem qc_i4_4 {X : ph_Mem} {c q j : Nat} (hne : c + 12 ≤ q ∨ q + 12 ≤ c) (hj : j < 72) : (qc_4 X c q).1 (c + 4) j = X.1 (q + 4) j := by unfold qc_4; rw [cp_in (by omega), qc_o3 (by omega), Nat.zero_add, Nat.sub_zero]
theorem qc_i4_5 {X : ph_Mem} {c q j : Nat} (hne : c + 12 ≤ q ∨ q + 12 ≤ c) (hj : j < 72) : (qc_5 X c q).1 (c + 4) j = X.1 (q + 4) j := by unfold qc_5; rw [cp_out (by omega)]; exact qc_i4_4 hne hj
theorem qc_i4_6 {X : ph_Mem} {c q j : Nat} (hne : c + 12 ≤ q ∨ q + 12 ≤ c) (hj : j < 72) : (qc_6 X c q).1 (c + 4) j = X.1 (q + 4) j := by unfold qc_6; rw [cp_out (by omega)]; exact qc_i4_5 hne hj
theorem qc_i4_7 {X : ph_Mem} {c q j : Nat} (hne : c + 12 ≤ q ∨ q + 12 ≤ c) (hj : j < 72) : (qc_7 X c q).1 (c + 4) j = X.1 (q + 4) j := by unfold qc_7; rw [cp_out (by omega)]; exact qc_i4_6 hne hj
theorem qc_i4_8 {X : ph_Mem} {c q j : Nat} (hne : c + 12 ≤ q ∨ q + 12 ≤ c) (hj : j < 72) : (qc_8 X c q).1 (c + 4) j = X.1 (q + 4) j := by unfold qc_8; rw [cp_out (by omega)]; exact qc_i4_7 hne hj
theorem qc_i4_9 {X : ph_Mem} {c q j : Nat} (hne : c + 12 ≤ q ∨ q + 12 ≤ c) (hj : j < 72) : (qc_9 X c q).1 (c + 4) j = X.1 (q + 4) j := by unfold qc_9; rw [cp_out (by omega)]; exact qc_i4_8 hne hj
theorem qc_i4_10 {X : ph_Mem} {c q j : Nat} (hne : c + 12 ≤ q ∨ q + 12 ≤ c) (hj : j < 72) : (qc_10 X c q).1 (c + 4) j = X.1 (q + 4) j := by unfold qc_10; rw [cp_out (by omega)]; exact qc_i4_9 hne hj
theorem qc_i5_5 {X : ph_Mem} {c q j : Nat} (hne : c + 12 ≤ q ∨ q + 12 ≤ c) (hj : j < 72) : (qc_5 X c q).1 (c + 5) j = X.1 (q + 5) j := by unfold qc_5; rw [cp_in (by omega), qc_o4 (by omega), Nat.zero_add, Nat.sub_zero]
theorem qc_i5_6 {X : ph_Mem} {c q j : Nat} (hne : c + 12 ≤ q ∨ q + 12 ≤ c) (hj : j < 72) : (qc_6 X c q).1 (c + 5) j = X.1 (q + 5) j := by unfold qc_6; rw [cp_out (by omega)]; exact qc_i5_5 hne hj
theorem qc_i5_7 {X : ph_Mem} {c q j : Nat} (hne : c + 12 ≤ q ∨ q + 12 ≤ c) (hj : j < 72) : (qc_7 X c q).1 (c + 5) j = X.1 (q + 5) j := by unfold qc_7; rw [cp_out (by omega)]; exact qc_i5_6 hne hj
theorem qc_i5_8 {X : ph_Mem} {c q j : Nat} (hne : c + 12 ≤ q ∨ q + 12 ≤ c) (hj : j < 72) : (qc_8 X c q).1 (c + 5) j = X.1 (q + 5) j := by unfold qc_8; rw [cp_out (by omega)]; exact qc_i5_7 hne hj
theorem qc_i5_9 {X : ph_Mem} {c q j : Nat} (hne : c + 12 ≤ q ∨ q + 12 ≤ c) (hj : j < 72) : (qc_9 X c q).1 (c + 5) j = X.1 (q + 5) j := by unfold qc_9; rw [cp_out (by omega)]; exact qc_i5_8 hne hj
theorem qc_i5_10 {X : ph_Mem} {c q j : Nat} (hne : c + 12 ≤ q ∨ q + 12 ≤ c) (hj : j < 72) : (qc_10 X c q).1 (c + 5) j = X.1 (q + 5) j := by unfold qc_10; rw [cp_out (by omega)]; exact qc_i5_9 hne hj
theorem qc_i6_6 {X : ph_Mem} {c q j : Nat} (hne : c + 12 ≤ q ∨ q + 12 ≤ c) (hj : j < 72) : (qc_6 X c q).1 (c + 6) j = X.1 (q + 6) j := by unfold qc_6; rw [cp_in (by omega), qc_o5 (by omega), Nat.zero_add, Nat.sub_zero]
theorem qc_i6_7 {X : ph_Mem} {c q j : Nat} (hne : c + 12 ≤ q ∨ q + 12 ≤ c) (hj : j < 72) : (qc_7 X c q).1 (c + 6) j = X.1 (q + 6) j := by unfold qc_7; rw [cp_out (by omega)]; exact qc_i6_6 hne hj
theorem qc_i6_8 {X : ph_Mem} {c q j : Nat} (hne : c + 12 ≤ q ∨ q + 12 ≤ c) (hj : j < 72) : (qc_8 X c q).1 (c + 6) j = X.1 (q + 6) j := by unfold qc_8; rw [cp_out (by omega)]; exact qc_i6_7 hne hj
theorem qc_i6_9 {X : ph_Mem} {c q j : Nat} (hne : c + 12 ≤ q ∨ q + 12 ≤ c) (hj : j < 72) : (qc_9 X c q).1 (c + 6) j = X.1 (q + 6) j := by unfold qc_9; rw [cp_out (by omega)]; exact qc_i6_8 hne hj
theorem qc_i6_10 {X : ph_Mem} {c q j : Nat} (hne : c + 12 ≤ q ∨ q + 12 ≤ c) (hj : j < 72) : (qc_10 X c q).1 (c + 6) j = X.1 (q + 6) j := by unfold qc_10; rw [cp_out (by omega)]; exact qc_i6_9 hne hj
theorem qc_i7_7 {X : ph_Mem} {c q j : Nat} (hne : c + 12 ≤ q ∨ q + 12 ≤ c) (hj : j < 72) : (qc_7 X c q).1 (c + 7) j = X.1 (q + 7) j := by unfold qc_7; rw [cp_in (by omega), qc_o6 (by omega), Nat.zero_add, Nat.sub_zero]
theorem qc_i7_8 {X : ph_Mem} {c q j : Nat} (hne : c + 12 ≤ q ∨ q + 12 ≤ c) (hj : j < 72) : (qc_8 X c q).1 (c + 7) j = X.1 (q + 7) j := by unfold qc_8; rw [cp_out (by omega)]; exact qc_i7_7 hne hj
theorem qc_i7_9 {X : ph_Mem} {c q j : Nat} (hne : c + 12 ≤ q ∨ q + 12 ≤ c) (hj : j < 72) : (qc_9 X c q).1 (c + 7) j = X.1 (q + 7) j := by unfold qc_9; rw [cp_out (by omega)]; exact qc_i7_8 hne hj
theorem qc_i7_10 {X : ph_Mem} {c q j : Nat} (hne : c + 12 ≤ q ∨ q + 12 ≤ c) (hj : j < 72) : (qc_10 X c q).1 (c + 7) j = X.1 (q + 7) j := by unfold qc_10; rw [cp_out (by omega)]; exact qc_i7_9 hne hj
theorem qc_i8_8 {X : ph_Mem} {c q j : Nat} (hne : c + 12 ≤ q ∨ q + 12 ≤ c) (hj : j < 8) : (qc_8 X c q).1 (c + 8) j = X.1 (q + 8) j := by unfold qc_8; rw [cp_in (by omega), qc_o7 (by omega), Nat.zero_add, Nat.sub_zero]
theorem qc_i8_9 {X : ph_Mem} {c q j : Nat} (hne : c + 12 ≤ q ∨ q + 12 ≤ c) (hj : j < 8) : (qc_9 X c q).1 (c + 8) j = X.1 (q + 8) j := by unfold qc_9; rw [cp_out (by omega)]; exact qc_i8_8 hne hj
theorem qc_i8_10 {X : ph_Mem} {c q j : Nat} (hne : c + 12 ≤ q ∨ q + 12 ≤ c) (hj : j < 8) : (qc_10 X c q).1 (c + 8) j = X.1 (q + 8) j := by unfold qc_10; rw [cp_out (by omega)]; exact qc_i8_9 hne hj
theorem qc_i9_9 {X : ph_Mem} {c q j : Nat} (hne : c + 12 ≤ q ∨ q + 12 ≤ c) (hj : j < 24) : (qc_9 X c q).1 (c + 9) j = X.1 (q + 9) j := by unfold qc_9; rw [cp_in (by omega), qc_o8 (by omega), Nat.zero_add, Nat.sub_zero]
theorem qc_i9_10 {X : ph_Mem} {c q j : Nat} (hne : c + 12 ≤ q ∨ q + 12 ≤ c) (hj : j < 24) : (qc_10 X c q).1 (c + 9) j = X.1 (q + 9) j := by unfold qc_10; rw [cp_out (by omega)]; exact qc_i9_9 hne hj
theorem qc_i10_10 {X : ph_Mem} {c q j : Nat} (hne : c + 12 ≤ q ∨ q + 12 ≤ c) (hj : j < 5) : (qc_10 X c q).1 (c + 10) j = X.1 (q + 10) j := by unfold qc_10; rw [cp_in (by omega), qc_o9 (by omega), Nat.zero_add, Nat.sub_zero]
theorem qc_r {X : ph_Mem} {c q : Nat} : (qc_10 X c q).2 = X.2 := rfl
theorem qc_i {X : ph_Mem} {c q d j : Nat} (hne : c + 12 ≤ q ∨ q + 12 ≤ c) (h1 : 2 ≤ d) (h2 : d < 8) (hj : j < 72) : (qc_10 X c q).1 (c + d) j = X.1 (q + d) j := by
  have h : d = 2 ∨ d = 3 ∨ d = 4 ∨ d = 5 ∨ d = 6 ∨ d = 7 := by omega
  rcases h with rfl | rfl | rfl | rfl | rfl | rfl
  · exact qc_i2_10 hne hj
  · exact qc_i3_10 hne hj
  · exact qc_i4_10 hne hj
  · exact qc_i5_10 hne hj
  · exact qc_i6_10 hne hj
  · exact qc_i7_10 hne hj
theorem x_copyY {S : ph_Sh} {X : ph_Mem} {c q : Nat} : f9_copyFrom S X c q = f9_copyFrom_l159 S c q 10000 (nI 0) (qc_10 X c q) := by
  unfold f9_copyFrom
  have k1 : ph_cpk (nI 0) (nI 0) (nI 6) 6 6 = true := by decide +kernel
  have k2 : ph_cpk (nI 0) (nI 0) (nI 72) 72 72 = true := by decide +kernel
  have k3 : ph_cpk (nI 0) (nI 0) (nI 8) 8 8 = true := by decide +kernel
  have k4 : ph_cpk (nI 0) (nI 0) (nI 24) 24 24 = true := by decide +kernel
  have k5 : ph_cpk (nI 0) (nI 0) (nI 5) 5 5 = true := by decide +kernel
  unfold qc_10 qc_9 qc_8 qc_7 qc_6 qc_5 qc_4 qc_3 qc_2 qc_1 qc_0
  simp (disch := first | assumption | omega) only [q_lit, Int32.neg_neg, nI_add, pk_mul, q_sub, q_addn, q_nadd, q_lt, q_le, q_eq, q_eqn, q_neq, q_nen, q_ltn, q_nlt, q_len, q_nle, q_nltn, q_nlen, q_cl, q_ib, q_ibn, q_isz0, q_isz1, q_iszb, q_b0, q_b1, q_ng1, q_ng2, q_ng3, q_ng4, q_ng5, q_ng6, Bool.toNat_true, Bool.toNat_false, if_pos, if_neg, q_ct, q_cf, q_let, q_bd, q_it, q_if, Nat.zero_add, Nat.add_zero, true_and, and_true, false_and, and_false, or_false, false_or, or_true, true_or, Bool.true_eq_false, Bool.false_eq_true, wi_s, wi_o, wi_r, k1, k2, k3, k4, k5]
/-- a street copied into another one: every place that counts -/
theorem x_copy {S : ph_Sh} {X : ph_Mem} {c q : Nat} (hne : c + 12 ≤ q ∨ q + 12 ≤ c) (hok : ∀ i, i < 6 → ph_okN S (X.2.2 (q + 11) i) = true) : ∃ X', f9_copyFrom S X c q = some X' ∧ X'.1 c 1 = X.1 q 1 ∧ X'.1 c 13 = X.1 q 13 ∧ X'.1 c 14 = X.1 q 14 ∧ (∀ p, p < 6 → X'.1 (c + 1) p = X.1 (q + 1) p) ∧ (∀ d j, 2 ≤ d → d < 8 → j < 72 → X'.1 (c + d) j = X.1 (q + d) j) ∧ (∀ j, j < 8 → X'.1 (c + 8) j = X.1 (q + 8) j) ∧ (∀ j, j < 24 → X'.1 (c + 9) j = X.1 (q + 9) j) ∧ (∀ j, j < 5 → X'.1 (c + 10) j = X.1 (q + 10) j) ∧ (∀ i, i < 6 → X'.2.2 (c + 11) i = X.2.2 (q + 11) i) ∧ (∀ d j, d < c ∨ c + 12 ≤ d → X'.1 d j = X.1 d j ∧ X'.2.2 d j = X.2.2 d j) := by
  obtain ⟨X', z1, z2, z3, z4⟩ := x_copy_l (S := S) (c := c) (q := q) (show c + 11 ≠ q + 11 by omega) (X0 := qc_10 X c q) (fun i hi => by rw [qc_r]; exact hok i hi) 6 0 10000 (qc_10 X c q) (by omega) (by omega) rfl (fun _ _ _ => rfl) (fun j h => absurd h (by omega))
  refine ⟨X', x_copyY.trans z1, ?_, ?_, ?_, fun p hp => ?_, fun d j h1 h2 h3 => ?_, fun j hj => ?_, fun j hj => ?_, fun j hj => ?_, fun i hi => ?_, fun d j h => ⟨?_, ?_⟩⟩
  · rw [z2, wi_o (by omega), wi_o (by omega)]; exact qc_p10
  · rw [z2, wi_o (by omega), wi_s]; exact qc_o10 (by omega)
  · rw [z2, wi_s]; exact qc_o10 (by omega)
  · rw [z2, wi_o (by omega), wi_o (by omega)]; exact qc_i1_10 hne hp
  · rw [z2, wi_o (by omega), wi_o (by omega)]; exact qc_i hne h1 h2 h3
  · rw [z2, wi_o (by omega), wi_o (by omega)]; exact qc_i8_10 hne hj
  · rw [z2, wi_o (by omega), wi_o (by omega)]; exact qc_i9_10 hne hj
  · rw [z2, wi_o (by omega), wi_o (by omega)]; exact qc_i10_10 hne hj
  · rw [z4 i hi, qc_r]
  · rw [z2, wi_o (by omega), wi_o (by omega)]; exact qc_o10 h
  · rw [z3 d j (by omega), qc_r]
