/-! PURE HALF: lasting -/
theorem wl_1 {M : ph_Mem} {c k : Nat} {v : Int64} : (ph_wl M c k v).1 = M.1 := rfl
theorem wl_2 {M : ph_Mem} {c k : Nat} {v : Int64} : (ph_wl M c k v).2.2 = M.2.2 := rfl
theorem wl_at {M : ph_Mem} {c k d j : Nat} {v : Int64} : (ph_wl M c k v).2.1 d j = if d = c ∧ j = k then v else M.2.1 d j := by
  unfold ph_wl ph_u2
  by_cases h : d = c <;> by_cases g : j = k <;> simp [h, g]
theorem wl_s {M : ph_Mem} {c k : Nat} {v : Int64} : (ph_wl M c k v).2.1 c k = v := by rw [wl_at, if_pos ⟨rfl, rfl⟩]
theorem wl_o {M : ph_Mem} {c k d j : Nat} {v : Int64} (h : d ≠ c ∨ j ≠ k) : (ph_wl M c k v).2.1 d j = M.2.1 d j := by rw [wl_at, if_neg (by omega)]
/-- a day's change of the parts -/
def q_T (cN cO : Int64) (C : Nat → Bool) (day : Nat) (f : Nat → Int64) (j : Nat) : Int64 := if day < j then f j else f j * cN / 10 + (if j = 0 then 0 else if C j then f (j - 1) * cO / 10 else 0)
theorem q_lcmp {a b : Nat} (ha : a < 2 ^ 62) (hb : b < 2 ^ 62) : (lg_cmp (lN a) (lN b) < nI 0) = (a < b) := by
  have h := lg_cmp_ge (lN a) (lN b)
  rw [pk_lLE (by omega) (by omega)] at h
  apply propext
  rw [← Int32.not_le]
  show ¬ (0 : Int32) ≤ lg_cmp (lN a) (lN b) ↔ a < b
  rw [h]
  omega
theorem q_ladd (a b : Nat) : lN a + lN b = lN (a + b) := by unfold lN; rw [Int64.ofNat_add]
theorem q_lmul (a b : Nat) : lN a * lN b = lN (a * b) := by unfold lN; rw [Int64.ofNat_mul]
theorem q_tol {a : Nat} (h : a < 2 ^ 31) : (nI a).toInt64 = lN a := nI_l h
theorem q_m1 (k : Nat) : nI (k + 1) + -nI 1 = nI k := by rw [q_addn (by omega), Nat.add_sub_cancel]
/-- the class's day -/
theorem x_la {S : ph_Sh} {pu s inc o day n : Nat} (hpu : pu ≤ 99999) (hs : s ≤ 9999) (hin : inc ≤ 99) (ho : o ≤ 10) (hday : day ≤ 40) (X : ph_Mem) (f : Nat → Int64) (hf : f day = 0) (rc : Int32 → Int32 → Int32 → Int32 → Int32 → ph_Mem → Option (Int64 × ph_Mem)) : ∀ (r fuel : Nat) (M : ph_Mem), r ≤ day → r < fuel → M.1 = X.1 → M.2.2 = X.2.2 → (∀ j, j ≤ 40 → M.2.1 4 j = if r < j then q_T (lN (10 - o)) (lN o) (fun k => decide (k * s ≤ pu + day * inc)) day f j else if j = r then f j * (lN (10 - o)) / 10 else f j) → ∃ M', f11_chanceOfLasting_l64 S rc fuel (nI pu) (nI s) (nI n) (nI o) (nI day) (lN (pu + day * inc)) (nI r + -nI 1) M = rc (nI pu) (nI s) (nI n) (nI o) (nI (day + 1)) M' ∧ M'.1 = X.1 ∧ M'.2.2 = X.2.2 ∧ ∀ j, j ≤ 40 → M'.2.1 4 j = q_T (lN (10 - o)) (lN o) (fun k => decide (k * s ≤ pu + day * inc)) day f j
  | 0, fu + 1, M, h0, _, h1, h2, h3 => by
    refine ⟨M, ?_, h1, h2, fun j hj => ?_⟩
    · unfold f11_chanceOfLasting_l64 f11_chanceOfLasting_j137
      simp (disch := first | assumption | omega) only [q_lit, Int32.neg_neg, nI_add, pk_mul, q_sub, q_addn, q_nadd, q_lt, q_le, q_eq, q_eqn, q_neq, q_nen, q_ltn, q_nlt, q_len, q_nle, q_nltn, q_nlen, q_cl, q_ib, q_ibn, q_isz0, q_isz1, q_iszb, q_b0, q_b1, q_ng1, q_ng2, q_ng3, q_ng4, q_ng5, q_ng6, Bool.toNat_true, Bool.toNat_false, if_pos, if_neg, q_ct, q_cf, q_let, q_bd, q_it, q_if, Nat.zero_add, Nat.add_zero, true_and, and_true, false_and, and_false, or_false, false_or, or_true, true_or, Bool.true_eq_false, Bool.false_eq_true, wi_s, wi_o, wi_r, q_0add]
    · rw [h3 j hj]
      by_cases j0 : j = 0
      · subst j0
        rw [if_neg (by omega), if_pos rfl]
        unfold q_T
        rw [if_neg (by omega), if_pos rfl, Int64.add_zero]
      · rw [if_pos (by omega)]
  | k + 1, fu + 1, M, h0, hfu, h1, h2, h3 => by
    have hk := h3 k (by omega)
    have hk1 := h3 (k + 1) (by omega)
    rw [if_neg (by omega), if_neg (by omega)] at hk
    rw [if_neg (by omega), if_pos rfl] at hk1
    have bs : (k + 1) * s ≤ 40 * 9999 := Nat.mul_le_mul (by omega) hs
    have bi : day * inc ≤ 40 * 99 := Nat.mul_le_mul hday hin
    have bs' : s * (k + 1) = (k + 1) * s := Nat.mul_comm _ _
    by_cases hc : (k + 1) * s ≤ pu + day * inc
    · obtain ⟨M', y1, y2, y3, y4⟩ := x_la hpu hs hin ho hday X f hf rc k fu (ph_wl (ph_wl M 4 k (f k * (lN (10 - o)) / 10)) 4 (k + 1) (f (k + 1) * (lN (10 - o)) / 10 + f k * (lN o) / 10)) (by omega) (by omega) h1 h2 (fun j hj => by
        by_cases j1 : j = k + 1
        · subst j1
          rw [wl_s, if_pos (by omega)]
          unfold q_T
          rw [if_neg (by omega), if_neg (by omega), if_pos (decide_eq_true hc), Nat.add_sub_cancel]
        · rw [wl_o (by omega)]
          by_cases j2 : j = k
          · subst j2
            rw [wl_s, if_neg (by omega), if_pos rfl]
          · rw [wl_o (by omega), h3 j hj]
            by_cases j3 : k < j
            · rw [if_pos (by omega), if_pos j3]
            · rw [if_neg (by omega), if_neg (by omega), if_neg j3, if_neg j2])
      refine ⟨M', ?_, y2, y3, y4⟩
      rw [q_m1]
      unfold f11_chanceOfLasting_l64 f11_chanceOfLasting_j131
      simp (disch := first | assumption | omega) only [q_lit, Int32.neg_neg, nI_add, pk_mul, q_sub, q_addn, q_nadd, q_lt, q_le, q_eq, q_eqn, q_neq, q_nen, q_ltn, q_nlt, q_len, q_nle, q_nltn, q_nlen, q_cl, q_ib, q_ibn, q_isz0, q_isz1, q_iszb, q_b0, q_b1, q_ng1, q_ng2, q_ng3, q_ng4, q_ng5, q_ng6, Bool.toNat_true, Bool.toNat_false, if_pos, if_neg, q_ct, q_cf, q_let, q_bd, q_it, q_if, Nat.zero_add, Nat.add_zero, true_and, and_true, false_and, and_false, or_false, false_or, or_true, true_or, Bool.true_eq_false, Bool.false_eq_true, wi_s, wi_o, wi_r, hk, hk1, q_tol, q_lmul, q_lcmp, bs', wl_o]
      exact y1
    · obtain ⟨M', y1, y2, y3, y4⟩ := x_la hpu hs hin ho hday X f hf rc k fu (ph_wl M 4 k (f k * (lN (10 - o)) / 10)) (by omega) (by omega) h1 h2 (fun j hj => by
        by_cases j2 : j = k
        · subst j2
          rw [wl_s, if_neg (by omega), if_pos rfl]
        · rw [wl_o (by omega), h3 j hj]
          by_cases j1 : j = k + 1
          · subst j1
            rw [if_neg (by omega), if_pos rfl, if_pos (by omega)]
            unfold q_T
            rw [if_neg (by omega), if_neg (by omega), if_neg (by simp; omega), Int64.add_zero]
          · by_cases j3 : k < j
            · rw [if_pos (by omega), if_pos j3]
            · rw [if_neg (by omega), if_neg (by omega), if_neg j3, if_neg j2])
      refine ⟨M', ?_, y2, y3, y4⟩
      rw [q_m1]
      unfold f11_chanceOfLasting_l64 f11_chanceOfLasting_j131
      simp (disch := first | assumption | omega) only [q_lit, Int32.neg_neg, nI_add, pk_mul, q_sub, q_addn, q_nadd, q_lt, q_le, q_eq, q_eqn, q_neq, q_nen, q_ltn, q_nlt, q_len, q_nle, q_nltn, q_nlen, q_cl, q_ib, q_ibn, q_isz0, q_isz1, q_iszb, q_b0, q_b1, q_ng1, q_ng2, q_ng3, q_ng4, q_ng5, q_ng6, Bool.toNat_true, Bool.toNat_false, if_pos, if_neg, q_ct, q_cf, q_let, q_bd, q_it, q_if, Nat.zero_add, Nat.add_zero, true_and, and_true, false_and, and_false, or_false, false_or, or_true, true_or, Bool.true_eq_false, Bool.false_eq_true, wi_s, wi_o, wi_r, hk, hk1, q_tol, q_lmul, q_lcmp, bs', wl_o]
      exact y1
/-- the model's day -/
theorem m_la {pu s inc o day n p : Nat} (hp : p < 6) (hpu : pu ≤ 99999) (hs : s ≤ 9999) (hin : inc ≤ 99) (ho : o ≤ 10) (hday : day ≤ 40) (K : ph_Mem) (h216 : K.1 2 (216 + p) = nI pu) (h471 : K.1 2 471 = nI inc) (h473 : K.1 2 473 = nI o) (f : Nat → Int64) (rc : Int32 → Int32 → Int32 → Int32 → ph_Mem → Option (Int64 × ph_Mem)) : ∀ (r fuel : Nat) (M : ph_Mem), r ≤ day + 1 → r < fuel → M.1 = K.1 → M.2.2 = K.2.2 → (∀ j, j ≤ 40 → M.2.1 22 j = if r ≤ j then q_T (lN (10 - o)) (lN o) (fun k => decide (k * s ≤ pu + day * inc)) day f j else f j) → ∃ M', f12_lasting_l79 rc fuel (nI p) (nI s) (nI n) (nI day) (nI r + -nI 1) M = rc (nI p) (nI s) (nI n) (nI (day + 1)) M' ∧ M'.1 = K.1 ∧ M'.2.2 = K.2.2 ∧ ∀ j, j ≤ 40 → M'.2.1 22 j = q_T (lN (10 - o)) (lN o) (fun k => decide (k * s ≤ pu + day * inc)) day f j
  | 0, fu + 1, M, h0, _, h1, h2, h3 => by
    refine ⟨M, ?_, h1, h2, fun j hj => ?_⟩
    · unfold f12_lasting_l79 f12_lasting_j208
      simp (disch := first | assumption | omega) only [q_lit, Int32.neg_neg, nI_add, pk_mul, q_sub, q_addn, q_nadd, q_lt, q_le, q_eq, q_eqn, q_neq, q_nen, q_ltn, q_nlt, q_len, q_nle, q_nltn, q_nlen, q_cl, q_ib, q_ibn, q_isz0, q_isz1, q_iszb, q_b0, q_b1, q_ng1, q_ng2, q_ng3, q_ng4, q_ng5, q_ng6, Bool.toNat_true, Bool.toNat_false, if_pos, if_neg, q_ct, q_cf, q_let, q_bd, q_it, q_if, Nat.zero_add, Nat.add_zero, true_and, and_true, false_and, and_false, or_false, false_or, or_true, true_or, Bool.true_eq_false, Bool.false_eq_true, wi_s, wi_o, wi_r, q_0add]
    · rw [h3 j hj, if_pos (by omega)]
  | k + 1, fu + 1, M, h0, hfu, h1, h2, h3 => by
    have hk := h3 k (by omega)
    rw [if_neg (by omega)] at hk
    have bi : day * inc ≤ 40 * 99 := Nat.mul_le_mul hday hin
    have e1 : M.1 2 (216 + p) = nI pu := by rw [h1]; exact h216
    have e2 : M.1 2 471 = nI inc := by rw [h1]; exact h471
    have e3 : M.1 2 473 = nI o := by rw [h1]; exact h473
    obtain ⟨M', y1, y2, y3, y4⟩ := m_la (n := n) hp hpu hs hin ho hday K h216 h471 h473 f rc k fu (ph_wl M 22 k (q_T (lN (10 - o)) (lN o) (fun k => decide (k * s ≤ pu + day * inc)) day f k)) (by omega) (by omega) h1 h2 (fun j hj => by
      by_cases j2 : j = k
      · subst j2
        rw [wl_s, if_pos (by omega)]
      · rw [wl_o (by omega), h3 j hj]
        by_cases j3 : k < j
        · rw [if_pos (by omega), if_pos (by omega)]
        · rw [if_neg (by omega), if_neg (by omega)])
    refine ⟨M', ?_, y2, y3, y4⟩
    rw [← y1, q_m1]
    unfold q_T
    rw [if_neg (by omega)]
    conv => lhs; unfold f12_lasting_l79 f12_lasting_j142 f12_lasting_j199 f12_lasting_j200
    by_cases k0 : k = 0
    · subst k0
      simp (disch := first | assumption | omega) only [q_lit, Int32.neg_neg, nI_add, pk_mul, q_sub, q_addn, q_nadd, q_lt, q_le, q_eq, q_eqn, q_neq, q_nen, q_ltn, q_nlt, q_len, q_nle, q_nltn, q_nlen, q_cl, q_ib, q_ibn, q_isz0, q_isz1, q_iszb, q_b0, q_b1, q_ng1, q_ng2, q_ng3, q_ng4, q_ng5, q_ng6, Bool.toNat_true, Bool.toNat_false, if_pos, if_neg, q_ct, q_cf, q_let, q_bd, q_it, q_if, Nat.zero_add, Nat.add_zero, true_and, and_true, false_and, and_false, or_false, false_or, or_true, true_or, Bool.true_eq_false, Bool.false_eq_true, wi_s, wi_o, wi_r, hk, e1, e2, e3, q_tol]
    · have hk1 := h3 (k - 1) (by omega)
      rw [if_neg (by omega)] at hk1
      have bs : (k - 1) * s ≤ 40 * 9999 := Nat.mul_le_mul (by omega) hs
      have eks : k * s = (k - 1) * s + s := by
        obtain ⟨i, rfl⟩ : ∃ i, k = i + 1 := ⟨k - 1, by omega⟩
        rw [Nat.add_sub_cancel, Nat.succ_mul]
      have cmp : (nI (pu + day * inc) - nI ((k - 1) * s) < nI s) = (pu + day * inc < k * s) := by
        apply propext
        rw [Int32.lt_iff_toInt_lt, pk_sub_toInt (by omega) (by omega), nI_toInt (by omega)]
        omega
      generalize eA : nI (pu + day * inc) - nI ((k - 1) * s) = A at cmp
      by_cases hc : k * s ≤ pu + day * inc
      · have cf : (A < nI s) = False := by rw [cmp]; exact eq_false (by omega)
        have hdc : decide (k * s ≤ pu + day * inc) = true := decide_eq_true hc
        have eA' : nI (pu + day * inc - (k - 1) * s) = A := by rw [← eA, q_sub (by omega)]
        simp (disch := first | assumption | omega) only [q_lit, Int32.neg_neg, nI_add, pk_mul, q_sub, q_addn, q_nadd, q_lt, q_le, q_eq, q_eqn, q_neq, q_nen, q_ltn, q_nlt, q_len, q_nle, q_nltn, q_nlen, q_cl, q_ib, q_ibn, q_isz0, q_isz1, q_iszb, q_b0, q_b1, q_ng1, q_ng2, q_ng3, q_ng4, q_ng5, q_ng6, Bool.toNat_true, Bool.toNat_false, if_pos, if_neg, q_ct, q_cf, q_let, q_bd, q_it, q_if, Nat.zero_add, Nat.add_zero, true_and, and_true, false_and, and_false, or_false, false_or, or_true, true_or, Bool.true_eq_false, Bool.false_eq_true, wi_s, wi_o, wi_r, hk, hk1, e1, e2, e3, q_tol, eA, eA', cf, hdc]
      · have cf : (A < nI s) = True := by rw [cmp]; exact eq_true (by omega)
        have hdc : decide (k * s ≤ pu + day * inc) = false := decide_eq_false hc
        by_cases hs2 : (k - 1) * s ≤ pu + day * inc
        · have eA' : nI (pu + day * inc - (k - 1) * s) = A := by rw [← eA, q_sub hs2]
          simp (disch := first | assumption | omega) only [q_lit, Int32.neg_neg, nI_add, pk_mul, q_sub, q_addn, q_nadd, q_lt, q_le, q_eq, q_eqn, q_neq, q_nen, q_ltn, q_nlt, q_len, q_nle, q_nltn, q_nlen, q_cl, q_ib, q_ibn, q_isz0, q_isz1, q_iszb, q_b0, q_b1, q_ng1, q_ng2, q_ng3, q_ng4, q_ng5, q_ng6, Bool.toNat_true, Bool.toNat_false, if_pos, if_neg, q_ct, q_cf, q_let, q_bd, q_it, q_if, Nat.zero_add, Nat.add_zero, true_and, and_true, false_and, and_false, or_false, false_or, or_true, true_or, Bool.true_eq_false, Bool.false_eq_true, wi_s, wi_o, wi_r, hk, hk1, e1, e2, e3, q_tol, eA, eA', cf, hdc]
        · simp (disch := first | assumption | omega) only [q_lit, Int32.neg_neg, nI_add, pk_mul, q_sub, q_addn, q_nadd, q_lt, q_le, q_eq, q_eqn, q_neq, q_nen, q_ltn, q_nlt, q_len, q_nle, q_nltn, q_nlen, q_cl, q_ib, q_ibn, q_isz0, q_isz1, q_iszb, q_b0, q_b1, q_ng1, q_ng2, q_ng3, q_ng4, q_ng5, q_ng6, Bool.toNat_true, Bool.toNat_false, if_pos, if_neg, q_ct, q_cf, q_let, q_bd, q_it, q_if, Nat.zero_add, Nat.add_zero, true_and, and_true, false_and, and_false, or_false, false_or, or_true, true_or, Bool.true_eq_false, Bool.false_eq_true, wi_s, wi_o, wi_r, hk, hk1, e1, e2, e3, q_tol, eA, cf, hdc]
/-- all parts together -/
theorem la_sum {S : ph_Sh} {n : Nat} (hn : n ≤ 40) (M N : ph_Mem) (hj : ∀ j, j ≤ 40 → M.2.1 4 j = N.2.1 22 j) : ∀ (r k fx fk : Nat) (a : Int64), k + r = n + 1 → r < fx → r < fk → ∃ v, f11_chanceOfLasting_l149 S fx (nI n) a (nI k) M = some (v, M) ∧ f12_lasting_l220 fk (nI n) a (nI k) N = some (v, N)
  | 0, k, fx + 1, fk + 1, a, e, _, _ => by
    refine ⟨a, ?_, ?_⟩
    · unfold f11_chanceOfLasting_l149
      simp (disch := first | assumption | omega) only [q_lit, Int32.neg_neg, nI_add, pk_mul, q_sub, q_addn, q_nadd, q_lt, q_le, q_eq, q_eqn, q_neq, q_nen, q_ltn, q_nlt, q_len, q_nle, q_nltn, q_nlen, q_cl, q_ib, q_ibn, q_isz0, q_isz1, q_iszb, q_b0, q_b1, q_ng1, q_ng2, q_ng3, q_ng4, q_ng5, q_ng6, Bool.toNat_true, Bool.toNat_false, if_pos, if_neg, q_ct, q_cf, q_let, q_bd, q_it, q_if, Nat.zero_add, Nat.add_zero, true_and, and_true, false_and, and_false, or_false, false_or, or_true, true_or, Bool.true_eq_false, Bool.false_eq_true, wi_s, wi_o, wi_r]
    · unfold f12_lasting_l220
      simp (disch := first | assumption | omega) only [q_lit, Int32.neg_neg, nI_add, pk_mul, q_sub, q_addn, q_nadd, q_lt, q_le, q_eq, q_eqn, q_neq, q_nen, q_ltn, q_nlt, q_len, q_nle, q_nltn, q_nlen, q_cl, q_ib, q_ibn, q_isz0, q_isz1, q_iszb, q_b0, q_b1, q_ng1, q_ng2, q_ng3, q_ng4, q_ng5, q_ng6, Bool.toNat_true, Bool.toNat_false, if_pos, if_neg, q_ct, q_cf, q_let, q_bd, q_it, q_if, Nat.zero_add, Nat.add_zero, true_and, and_true, false_and, and_false, or_false, false_or, or_true, true_or, Bool.true_eq_false, Bool.false_eq_true, wi_s, wi_o, wi_r]
  | r + 1, k, fx + 1, fk + 1, a, e, hfx, hfk => by
    obtain ⟨v, v1, v2⟩ := la_sum hn M N hj r (k + 1) fx fk (a + M.2.1 4 k) (by omega) (by omega) (by omega)
    refine ⟨v, ?_, ?_⟩
    · unfold f11_chanceOfLasting_l149
      simp (disch := first | assumption | omega) only [q_lit, Int32.neg_neg, nI_add, pk_mul, q_sub, q_addn, q_nadd, q_lt, q_le, q_eq, q_eqn, q_neq, q_nen, q_ltn, q_nlt, q_len, q_nle, q_nltn, q_nlen, q_cl, q_ib, q_ibn, q_isz0, q_isz1, q_iszb, q_b0, q_b1, q_ng1, q_ng2, q_ng3, q_ng4, q_ng5, q_ng6, Bool.toNat_true, Bool.toNat_false, if_pos, if_neg, q_ct, q_cf, q_let, q_bd, q_it, q_if, Nat.zero_add, Nat.add_zero, true_and, and_true, false_and, and_false, or_false, false_or, or_true, true_or, Bool.true_eq_false, Bool.false_eq_true, wi_s, wi_o, wi_r]
      exact v1
    · unfold f12_lasting_l220
      have e1 := (hj k (by omega)).symm
      simp (disch := first | assumption | omega) only [q_lit, Int32.neg_neg, nI_add, pk_mul, q_sub, q_addn, q_nadd, q_lt, q_le, q_eq, q_eqn, q_neq, q_nen, q_ltn, q_nlt, q_len, q_nle, q_nltn, q_nlen, q_cl, q_ib, q_ibn, q_isz0, q_isz1, q_iszb, q_b0, q_b1, q_ng1, q_ng2, q_ng3, q_ng4, q_ng5, q_ng6, Bool.toNat_true, Bool.toNat_false, if_pos, if_neg, q_ct, q_cf, q_let, q_bd, q_it, q_if, Nat.zero_add, Nat.add_zero, true_and, and_true, false_and, and_false, or_false, false_or, or_true, true_or, Bool.true_eq_false, Bool.false_eq_true, wi_s, wi_o, wi_r, e1]
      exact v2
/-- the days, side by side -/
theorem la_days {S : ph_Sh} {pu s inc o n p : Nat} (hp : p < 6) (hpu : pu ≤ 99999) (hs : s ≤ 9999) (hin : inc ≤ 99) (ho : o ≤ 10) (hn : n ≤ 40) (X K : ph_Mem) (hX : X.1 21 1 = nI inc) (h216 : K.1 2 (216 + p) = nI pu) (h471 : K.1 2 471 = nI inc) (h473 : K.1 2 473 = nI o) : ∀ (r day fx fk : Nat) (f : Nat → Int64) (M N : ph_Mem), day + r = n + 1 → 0 < day → r < fx → r < fk → M.1 = X.1 → M.2.2 = X.2.2 → N.1 = K.1 → N.2.2 = K.2.2 → (∀ j, day ≤ j → f j = 0) → (∀ j, j ≤ 40 → M.2.1 4 j = f j) → (∀ j, j ≤ 40 → N.2.1 22 j = f j) → ∃ v M' N', f11_chanceOfLasting_l33 S fx (nI pu) (nI s) (nI n) (nI o) (nI day) M = some (v, M') ∧ f12_lasting_l69 fk (nI p) (nI s) (nI n) (nI day) N = some (v, N') ∧ M'.1 = X.1 ∧ M'.2.2 = X.2.2 ∧ N'.1 = K.1 ∧ N'.2.2 = K.2.2
  | 0, day, fx + 1, fk + 1, f, M, N, e, _, _, _, h1, h2, h3, h4, h5, h6, h7 => by
    obtain ⟨v, v1, v2⟩ := la_sum (S := S) hn M N (fun j hj => (h6 j hj).trans (h7 j hj).symm) (n + 1) 0 10000 10000 0 (by omega) (by omega) (by omega)
    refine ⟨v, M, N, ?_, ?_, h1, h2, h3, h4⟩
    · unfold f11_chanceOfLasting_l33 f11_chanceOfLasting_j143
      simp (disch := first | assumption | omega) only [q_lit, Int32.neg_neg, nI_add, pk_mul, q_sub, q_addn, q_nadd, q_lt, q_le, q_eq, q_eqn, q_neq, q_nen, q_ltn, q_nlt, q_len, q_nle, q_nltn, q_nlen, q_cl, q_ib, q_ibn, q_isz0, q_isz1, q_iszb, q_b0, q_b1, q_ng1, q_ng2, q_ng3, q_ng4, q_ng5, q_ng6, Bool.toNat_true, Bool.toNat_false, if_pos, if_neg, q_ct, q_cf, q_let, q_bd, q_it, q_if, Nat.zero_add, Nat.add_zero, true_and, and_true, false_and, and_false, or_false, false_or, or_true, true_or, Bool.true_eq_false, Bool.false_eq_true, wi_s, wi_o, wi_r]
      exact v1
    · unfold f12_lasting_l69 f12_lasting_j214
      simp (disch := first | assumption | omega) only [q_lit, Int32.neg_neg, nI_add, pk_mul, q_sub, q_addn, q_nadd, q_lt, q_le, q_eq, q_eqn, q_neq, q_nen, q_ltn, q_nlt, q_len, q_nle, q_nltn, q_nlen, q_cl, q_ib, q_ibn, q_isz0, q_isz1, q_iszb, q_b0, q_b1, q_ng1, q_ng2, q_ng3, q_ng4, q_ng5, q_ng6, Bool.toNat_true, Bool.toNat_false, if_pos, if_neg, q_ct, q_cf, q_let, q_bd, q_it, q_if, Nat.zero_add, Nat.add_zero, true_and, and_true, false_and, and_false, or_false, false_or, or_true, true_or, Bool.true_eq_false, Bool.false_eq_true, wi_s, wi_o, wi_r]
      exact v2
  | r + 1, day, fx + 1, fk + 1, f, M, N, e, hd, hfx, hfk, h1, h2, h3, h4, h5, h6, h7 => by
    have bi : day * inc ≤ 40 * 99 := Nat.mul_le_mul (by omega) hin
    obtain ⟨M1, a1, a2, a3, a4⟩ := x_la (S := S) (n := n) hpu hs hin ho (show day ≤ 40 by omega) X f (h5 day (Nat.le_refl _)) (f11_chanceOfLasting_l33 S fx) day 10000 M (Nat.le_refl _) (by omega) h1 h2 (fun j hj => by
      rw [h6 j hj]
      by_cases j1 : day < j
      · rw [if_pos j1]
        unfold q_T
        rw [if_pos j1]
      · rw [if_neg j1]
        by_cases j2 : j = day
        · subst j2
          rw [if_pos rfl, h5 j (Nat.le_refl _), Int64.zero_mul, Int64.zero_div]
        · rw [if_neg j2])
    obtain ⟨N1, b1, b2, b3, b4⟩ := m_la (n := n) hp hpu hs hin ho (show day ≤ 40 by omega) K h216 h471 h473 f (f12_lasting_l69 fk) (day + 1) 10000 N (Nat.le_refl _) (by omega) h3 h4 (fun j hj => by
      rw [h7 j hj]
      by_cases j1 : day + 1 ≤ j
      · rw [if_pos j1]
        unfold q_T
        rw [if_pos (by omega)]
      · rw [if_neg j1])
    obtain ⟨v, M', N', c1, c2, c3, c4, c5, c6⟩ := la_days (S := S) hp hpu hs hin ho hn X K hX h216 h471 h473 r (day + 1) fx fk (q_T (lN (10 - o)) (lN o) (fun k => decide (k * s ≤ pu + day * inc)) day f) M1 N1 (by omega) (by omega) (by omega) (by omega) a2 a3 b2 b3 (fun j hj => by
      unfold q_T
      rw [if_pos (by omega)]
      exact h5 j (by omega)) a4 b4
    refine ⟨v, M', N', ?_, ?_, c3, c4, c5, c6⟩
    · have e1 : M.1 21 1 = nI inc := by rw [h1]; exact hX
      have em : nI day - nI 1 = nI day + -nI 1 := Int32.sub_eq_add_neg ..
      rw [← c1, ← a1]
      conv => lhs; unfold f11_chanceOfLasting_l33
      rw [q_lit, em]
      simp (disch := first | assumption | omega) only [q_lit, Int32.neg_neg, nI_add, pk_mul, q_sub, q_addn, q_nadd, q_lt, q_le, q_eq, q_eqn, q_neq, q_nen, q_ltn, q_nlt, q_len, q_nle, q_nltn, q_nlen, q_cl, q_ib, q_ibn, q_isz0, q_isz1, q_iszb, q_b0, q_b1, q_ng1, q_ng2, q_ng3, q_ng4, q_ng5, q_ng6, Bool.toNat_true, Bool.toNat_false, if_pos, if_neg, q_ct, q_cf, q_let, q_bd, q_it, q_if, Nat.zero_add, Nat.add_zero, true_and, and_true, false_and, and_false, or_false, false_or, or_true, true_or, Bool.true_eq_false, Bool.false_eq_true, wi_s, wi_o, wi_r, e1, q_tol, q_lmul, q_ladd]
    · rw [← c2, ← b1, q_m1]
      conv => lhs; unfold f12_lasting_l69
      simp (disch := first | assumption | omega) only [q_lit, Int32.neg_neg, nI_add, pk_mul, q_sub, q_addn, q_nadd, q_lt, q_le, q_eq, q_eqn, q_neq, q_nen, q_ltn, q_nlt, q_len, q_nle, q_nltn, q_nlen, q_cl, q_ib, q_ibn, q_isz0, q_isz1, q_iszb, q_b0, q_b1, q_ng1, q_ng2, q_ng3, q_ng4, q_ng5, q_ng6, Bool.toNat_true, Bool.toNat_false, if_pos, if_neg, q_ct, q_cf, q_let, q_bd, q_it, q_if, Nat.zero_add, Nat.add_zero, true_and, and_true, false_and, and_false, or_false, false_or, or_true, true_or, Bool.true_eq_false, Bool.false_eq_true, wi_s, wi_o, wi_r]
