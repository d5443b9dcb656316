/-! PURE HALF: the cheapest way to redeem, as numbers: m hours, cost C i w of the i-th on day w, inc a day, 60 days at most -/
/-- the first day from w on, r of them, on which a purse that had u on day w0 has what it costs -/
def ch_f (C : Nat → Nat → Nat) (inc i w0 u : Nat) : Nat → Nat → Option Nat
  | _, 0 => none
  | w, r + 1 => if C i w ≤ u + (w - w0) * inc then some w else ch_f C inc i w0 u (w + 1) r
/-- day, purse, paid -/
abbrev chS : Type := Option (Nat × Nat × Nat)
def ch_1 (C : Nat → Nat → Nat) (inc i : Nat) (s : chS) : chS := match s with
  | none => none
  | some (w, u, a) => match ch_f C inc i w u w (61 - w) with
    | none => none
    | some w' => some (w', u + (w' - w) * inc - C i w', a + C i w')
/-- what is the best so far: paid, and the row -/
abbrev chB : Type := Option (Nat × List Nat)
def ch_b (s : chS) (row : List Nat) (b : chB) : chB := match s with
  | none => b
  | some (_, _, a) => match b with
    | none => some (a, row)
    | some (l, _) => if a < l then some (a, row) else b
/-- all rows that begin so -/
def ch_E (C : Nat → Nat → Nat) (inc m : Nat) : Nat → Nat → List Nat → chS → chB → chB
  | 0, _, row, s, b => ch_b s row b
  | r + 1, used, row, s, b => (List.range m).foldl (fun b i => if used.testBit i then b else ch_E C inc m r (used ||| 2 ^ i) (row ++ [i]) (ch_1 C inc i s) b) b
theorem ch_fold_id {α : Type} {f : chB → α → chB} (b : chB) : ∀ (l : List α), (∀ x, x ∈ l → f b x = b) → l.foldl f b = b
  | [], _ => rfl
  | x :: l, h => by
    rw [List.foldl_cons, h x (List.mem_cons_self ..)]
    exact ch_fold_id b l (fun y hy => h y (List.mem_cons_of_mem _ hy))
theorem ch_E_no (C : Nat → Nat → Nat) (inc m : Nat) : ∀ (r used : Nat) (row : List Nat) (b : chB), ch_E C inc m r used row none b = b
  | 0, _, _, _ => rfl
  | r + 1, used, row, b => by
    rw [ch_E]
    refine ch_fold_id b _ (fun i _ => ?_)
    show (if used.testBit i then b else ch_E C inc m r (used ||| 2 ^ i) (row ++ [i]) none b) = b
    rw [ch_E_no C inc m r, ite_self]
theorem ch_E_ge (C : Nat → Nat → Nat) (inc m : Nat) {l : Nat} {rw0 : List Nat} : ∀ (r used : Nat) (row : List Nat) (s : chS), (∀ w u a, s = some (w, u, a) → l ≤ a) → ch_E C inc m r used row s (some (l, rw0)) = some (l, rw0)
  | 0, _, row, s, h => by
    rw [ch_E]
    unfold ch_b
    cases s with
    | none => rfl
    | some x =>
      obtain ⟨w, u, a⟩ := x
      have := h w u a rfl
      show (if a < l then _ else _) = _
      rw [if_neg (by omega)]
  | r + 1, used, row, s, h => by
    rw [ch_E]
    refine ch_fold_id _ _ (fun i _ => ?_)
    show (if used.testBit i then _ else ch_E C inc m r (used ||| 2 ^ i) (row ++ [i]) (ch_1 C inc i s) (some (l, rw0))) = _
    rw [ch_E_ge C inc m r _ _ _ (fun w u a e => ?_), ite_self]
    unfold ch_1 at e
    cases s with
    | none => exact absurd e (by simp)
    | some x =>
      obtain ⟨w1, u1, a1⟩ := x
      have := h w1 u1 a1 rfl
      simp only at e
      cases ef : ch_f C inc i w1 u1 w1 (61 - w1) with
      | none => rw [ef] at e; exact absurd e (by simp)
      | some w' =>
        rw [ef] at e
        injection e with e
        injection e with e1 e2
        injection e2 with e3 e4
        omega
theorem ch_f_spec (C : Nat → Nat → Nat) (inc i w0 u : Nat) : ∀ (r w : Nat), (∃ w', w ≤ w' ∧ w' < w + r ∧ ch_f C inc i w0 u w r = some w' ∧ C i w' ≤ u + (w' - w0) * inc) ∨ (ch_f C inc i w0 u w r = none)
  | 0, w => Or.inr rfl
  | r + 1, w => by
    rw [ch_f]
    by_cases h : C i w ≤ u + (w - w0) * inc
    · rw [if_pos h]
      exact Or.inl ⟨w, Nat.le_refl _, by omega, rfl, h⟩
    · rw [if_neg h]
      rcases ch_f_spec C inc i w0 u r (w + 1) with ⟨w', h1, h2, h3, h4⟩ | h1
      · exact Or.inl ⟨w', by omega, by omega, h3, h4⟩
      · exact Or.inr h1
/-- the class's memory of costs: not yet asked, or right -/
def ch_co (C : Nat → Nat → Nat) (m : Nat) (M : ph_Mem) : Prop := ∀ i w, i < m → w ≤ 60 → M.1 80 (i * 61 + w) = -nI 1 ∨ M.1 80 (i * 61 + w) = nI (C i w)
/-- what the search leaves as it was -/
def ch_fr (X M : ph_Mem) : Prop := (∀ d j, d ≠ 6 → d ≠ 78 → d ≠ 79 → d ≠ 80 → (d ≠ 76 ∨ (j ≠ 7 ∧ j ≠ 8)) → M.1 d j = X.1 d j) ∧ M.2.2 = X.2.2
theorem x_ch_f {S : ph_Sh} {X : ph_Mem} {C : Nat → Nat → Nat} {inc m p d : Nat} {hr : Nat → Nat} (hm : m ≤ 6) (hinc : inc ≤ 99) (hd : d ≤ 999) (h21 : X.1 21 0 = nI d) (h211 : X.1 21 1 = nI inc) (h5 : X.1 76 5 = nI p) (h77 : ∀ i, i < m → X.1 77 i = nI (hr i)) (hC : ∀ i w, i < m → w ≤ 60 → C i w ≤ 9999) (hV : ∀ i w, i < m → w ≤ 60 → ∀ M : ph_Mem, ch_fr X M → ∃ M', f9_ruled S M 11 (nI 1) (nI p) (nI (hr i)) (nI (d + w)) = some (nI (C i w), M') ∧ xSc M M') {i w0 u : Nat} (hi : i < m) (hu : u ≤ 200000) : ∀ (r w fuel : Nat) (M : ph_Mem), w + r = 61 → w0 ≤ w → r < fuel → ch_fr X M → ch_co C m M → ∃ M', f7_firstDayFor_l3 S fuel (nI i) (nI w0) (nI u) (nI w) M = some ((match ch_f C inc i w0 u w r with | none => -nI 1 | some w' => nI w'), M') ∧ ch_fr X M' ∧ ch_co C m M' ∧ (∀ j, M'.1 78 j = M.1 78 j) ∧ (∀ j, M'.1 79 j = M.1 79 j) ∧ (∀ j, M'.1 76 j = M.1 76 j) ∧ ∀ w', ch_f C inc i w0 u w r = some w' → M'.1 80 (i * 61 + w') = nI (C i w')
  | 0, w, f + 1, M, e, _, _, h1, h2 => by
    have : w = 61 := by omega
    subst this
    refine ⟨M, ?_, h1, h2, fun _ => rfl, fun _ => rfl, fun _ => rfl, fun w' z => ?_⟩
    · unfold f7_firstDayFor_l3
      simp (disch := first | assumption | omega) only [q_lit, Int32.neg_neg, nI_add, pk_mul, q_sub, q_addn, q_nadd, q_lt, q_le, q_eq, q_eqn, q_neq, q_nen, q_ltn, q_nlt, q_len, q_nle, q_nltn, q_nlen, q_cl, q_ib, q_ibn, q_isz0, q_isz1, q_iszb, q_b0, q_b1, q_ng1, q_ng2, q_ng3, q_ng4, q_ng5, q_ng6, Bool.toNat_true, Bool.toNat_false, if_pos, if_neg, q_ct, q_cf, q_let, q_bd, q_it, q_if, Nat.zero_add, Nat.add_zero, true_and, and_true, false_and, and_false, or_false, false_or, or_true, true_or, Bool.true_eq_false, Bool.false_eq_true, wi_s, wi_o, wi_r, ch_f]
    · rw [ch_f] at z; exact absurd z (by simp)
  | r + 1, w, f + 1, M, e, hw, hf, h1, h2 => by
    have hc := hC i w hi (by omega)
    have m21 : M.1 21 0 = nI d := (h1.1 _ _ (by omega) (by omega) (by omega) (by omega) (by omega)).trans h21
    have m211 : M.1 21 1 = nI inc := (h1.1 _ _ (by omega) (by omega) (by omega) (by omega) (by omega)).trans h211
    have m5 : M.1 76 5 = nI p := (h1.1 _ _ (by omega) (by omega) (by omega) (by omega) (by omega)).trans h5
    have m77 : M.1 77 i = nI (hr i) := (h1.1 _ _ (by omega) (by omega) (by omega) (by omega) (by omega)).trans (h77 i hi)
    have bi : (w - w0) * inc ≤ 60 * 99 := Nat.mul_le_mul (by omega) hinc
    -- with the cost at hand
    have tail : ∀ M1 : ph_Mem, ch_fr X M1 → ch_co C m M1 → M1.1 80 (i * 61 + w) = nI (C i w) → (∀ j, M1.1 78 j = M.1 78 j) → (∀ j, M1.1 79 j = M.1 79 j) → (∀ j, M1.1 76 j = M.1 76 j) → ∃ M', f7_firstDayFor_j67 S (f7_firstDayFor_l3 S f) (nI i) (nI w0) (nI u) (nI w) (nI (i * 61 + w)) M1 = some ((match ch_f C inc i w0 u w (r + 1) with | none => -nI 1 | some w' => nI w'), M') ∧ ch_fr X M' ∧ ch_co C m M' ∧ (∀ j, M'.1 78 j = M.1 78 j) ∧ (∀ j, M'.1 79 j = M.1 79 j) ∧ (∀ j, M'.1 76 j = M.1 76 j) ∧ ∀ w', ch_f C inc i w0 u w (r + 1) = some w' → M'.1 80 (i * 61 + w') = nI (C i w') := by
      intro M1 q1 q2 q3 q4 q5 q6
      have m211' : M1.1 21 1 = nI inc := (q1.1 _ _ (by omega) (by omega) (by omega) (by omega) (by omega)).trans h211
      rw [ch_f]
      unfold f7_firstDayFor_j67 f7_purseOn
      by_cases hx : C i w ≤ u + (w - w0) * inc
      · rw [if_pos hx]
        refine ⟨M1, ?_, q1, q2, q4, q5, q6, fun w' z => ?_⟩
        · simp (disch := first | assumption | omega) only [q_lit, Int32.neg_neg, nI_add, pk_mul, q_sub, q_addn, q_nadd, q_lt, q_le, q_eq, q_eqn, q_neq, q_nen, q_ltn, q_nlt, q_len, q_nle, q_nltn, q_nlen, q_cl, q_ib, q_ibn, q_isz0, q_isz1, q_iszb, q_b0, q_b1, q_ng1, q_ng2, q_ng3, q_ng4, q_ng5, q_ng6, Bool.toNat_true, Bool.toNat_false, if_pos, if_neg, q_ct, q_cf, q_let, q_bd, q_it, q_if, Nat.zero_add, Nat.add_zero, true_and, and_true, false_and, and_false, or_false, false_or, or_true, true_or, Bool.true_eq_false, Bool.false_eq_true, wi_s, wi_o, wi_r, m211', q3]
        · injection z with z
          subst z
          exact q3
      · rw [if_neg hx]
        obtain ⟨M', y1, y2, y3, y4, y5, y6, y7⟩ := x_ch_f (S := S) (w0 := w0) (u := u) hm hinc hd h21 h211 h5 h77 hC hV hi hu r (w + 1) f M1 (by omega) (by omega) (by omega) q1 q2
        refine ⟨M', ?_, y2, y3, fun j => (y4 j).trans (q4 j), fun j => (y5 j).trans (q5 j), fun j => (y6 j).trans (q6 j), y7⟩
        simp (disch := first | assumption | omega) only [q_lit, Int32.neg_neg, nI_add, pk_mul, q_sub, q_addn, q_nadd, q_lt, q_le, q_eq, q_eqn, q_neq, q_nen, q_ltn, q_nlt, q_len, q_nle, q_nltn, q_nlen, q_cl, q_ib, q_ibn, q_isz0, q_isz1, q_iszb, q_b0, q_b1, q_ng1, q_ng2, q_ng3, q_ng4, q_ng5, q_ng6, Bool.toNat_true, Bool.toNat_false, if_pos, if_neg, q_ct, q_cf, q_let, q_bd, q_it, q_if, Nat.zero_add, Nat.add_zero, true_and, and_true, false_and, and_false, or_false, false_or, or_true, true_or, Bool.true_eq_false, Bool.false_eq_true, wi_s, wi_o, wi_r, m211', q3]
        exact y1
    unfold f7_firstDayFor_l3
    rcases h2 i w hi (by omega) with h80 | h80
    · obtain ⟨M1, v1, v2⟩ := hV i w hi (by omega) M h1
      obtain ⟨M', y1, y2⟩ := tail (ph_wi M1 80 (i * 61 + w) (nI (C i w))) ⟨fun d j z1 z2 z3 z4 z5 => by rw [wi_o (by omega), v2.1 d j z1]; exact h1.1 d j z1 z2 z3 z4 z5, v2.2.1.trans h1.2⟩ (fun i' w' z1 z2 => by
        by_cases ez : i' * 61 + w' = i * 61 + w
        · have e1 : i' = i := by omega
          have e2 : w' = w := by omega
          subst e1 e2
          right; rw [wi_s]
        · rw [wi_o (by omega), v2.1 _ _ (by omega)]
          exact h2 i' w' z1 z2) wi_s (fun j => by rw [wi_o (by omega), v2.1 _ _ (by omega)]) (fun j => by rw [wi_o (by omega), v2.1 _ _ (by omega)]) (fun j => by rw [wi_o (by omega), v2.1 _ _ (by omega)])
      refine ⟨M', ?_, y2⟩
      simp (disch := first | assumption | omega) only [q_lit, Int32.neg_neg, nI_add, pk_mul, q_sub, q_addn, q_nadd, q_lt, q_le, q_eq, q_eqn, q_neq, q_nen, q_ltn, q_nlt, q_len, q_nle, q_nltn, q_nlen, q_cl, q_ib, q_ibn, q_isz0, q_isz1, q_iszb, q_b0, q_b1, q_ng1, q_ng2, q_ng3, q_ng4, q_ng5, q_ng6, Bool.toNat_true, Bool.toNat_false, if_pos, if_neg, q_ct, q_cf, q_let, q_bd, q_it, q_if, Nat.zero_add, Nat.add_zero, true_and, and_true, false_and, and_false, or_false, false_or, or_true, true_or, Bool.true_eq_false, Bool.false_eq_true, wi_s, wi_o, wi_r, h80, m5, m77, m21, v1]
      exact y1
    · obtain ⟨M', y1, y2⟩ := tail M h1 h2 h80 (fun _ => rfl) (fun _ => rfl) (fun _ => rfl)
      refine ⟨M', ?_, y2⟩
      simp (disch := first | assumption | omega) only [q_lit, Int32.neg_neg, nI_add, pk_mul, q_sub, q_addn, q_nadd, q_lt, q_le, q_eq, q_eqn, q_neq, q_nen, q_ltn, q_nlt, q_len, q_nle, q_nltn, q_nlen, q_cl, q_ib, q_ibn, q_isz0, q_isz1, q_iszb, q_b0, q_b1, q_ng1, q_ng2, q_ng3, q_ng4, q_ng5, q_ng6, Bool.toNat_true, Bool.toNat_false, if_pos, if_neg, q_ct, q_cf, q_let, q_bd, q_it, q_if, Nat.zero_add, Nat.add_zero, true_and, and_true, false_and, and_false, or_false, false_or, or_true, true_or, Bool.true_eq_false, Bool.false_eq_true, wi_s, wi_o, wi_r, h80]
      exact y1
