/-! PURE HALF: the cheapest way, the class's search -/
def ch_en (hr : Nat → Nat) (m : Nat) (b : chB) (M : ph_Mem) : Prop := (b = none ∧ M.1 76 8 = nI 1000000) ∨ ∃ l rw0, b = some (l, rw0) ∧ l ≤ 60000 ∧ rw0.length = m ∧ M.1 76 8 = nI l ∧ ∀ k, k < m → M.1 79 k = nI (hr (rw0.getD k 0))
def ch_lv (b : chB) : Nat := match b with
  | none => 1000000
  | some (l, _) => l
theorem ch_getD_app {l : List Nat} {x k : Nat} : (l ++ [x]).getD k 0 = if k < l.length then l.getD k 0 else if k = l.length then x else 0 := by
  simp only [List.getD_eq_getElem?_getD, List.getElem?_append]
  by_cases h : k < l.length
  · rw [if_pos h, if_pos h]
  · rw [if_neg h, if_neg h]
    by_cases h2 : k = l.length
    · subst h2; simp
    · rw [if_neg h2]
      have : ([x] : List Nat)[k - l.length]? = none := by
        apply List.getElem?_eq_none
        simp
        omega
      rw [this]
      rfl
theorem q_clr {a i : Nat} (h : a.testBit i = false) : (a ||| 2 ^ i) ^^^ ((a ||| 2 ^ i) &&& 2 ^ i) = a := by
  apply Nat.eq_of_testBit_eq
  intro j
  rw [q_andn_b, Nat.testBit_or, Nat.testBit_two_pow]
  by_cases e : i = j
  · subst e; rw [h]; simp
  · simp [e]
theorem x_ch_s {S : ph_Sh} {X : ph_Mem} {C : Nat → Nat → Nat} {inc m p d : Nat} {hr : Nat → Nat} (hm : m ≤ 6) (hinc : inc ≤ 99) (hd : d ≤ 999) (h21 : X.1 21 0 = nI d) (h211 : X.1 21 1 = nI inc) (h5 : X.1 76 5 = nI p) (h6 : X.1 76 6 = nI m) (h77 : ∀ i, i < m → X.1 77 i = nI (hr i)) (hC : ∀ i w, i < m → w ≤ 60 → C i w ≤ 9999) (hV : ∀ i w, i < m → w ≤ 60 → ∀ M : ph_Mem, ch_fr X M → ∃ M', f9_ruled S M 11 (nI 1) (nI p) (nI (hr i)) (nI (d + w)) = some (nI (C i w), M') ∧ xSc M M') : ∀ (r fuel dp used w u a : Nat) (row : List Nat) (b : chB) (M : ph_Mem), dp + r = m → r < fuel → used < 64 → row.length = dp → w ≤ 60 → u ≤ 99999 + 5940 * dp → a ≤ 9999 * dp → ch_fr X M → ch_co C m M → M.1 76 7 = nI used → (∀ k, k < dp → M.1 78 k = nI (hr (row.getD k 0))) → ch_en hr m b M → ∃ M', f7_search_n S fuel M (nI dp) (nI w) (nI u) (nI a) = some M' ∧ ch_fr X M' ∧ ch_co C m M' ∧ M'.1 76 7 = nI used ∧ (∀ k, k < dp → M'.1 78 k = nI (hr (row.getD k 0))) ∧ ch_en hr m (ch_E C inc m r used row (some (w, u, a)) b) M' := by
  intro r
  induction r with
  | zero =>
    intro fuel dp used w u a row b M e1 hf hu hrow hw hu2 ha h1 h2 h3 h4 h5'
    obtain ⟨f, rfl⟩ : ∃ f, fuel = f + 1 := ⟨fuel - 1, by omega⟩
    have : dp = m := by omega
    subst this
    have m6 : M.1 76 6 = nI dp := (h1.1 _ _ (by omega) (by omega) (by omega) (by omega) (by omega)).trans h6
    have h88 : M.1 76 8 = nI (ch_lv b) ∧ (∀ l r, b = some (l, r) → l ≤ 60000) := by
      rcases h5' with ⟨z1, z2⟩ | ⟨l, rw0, z1, z2, z3, z4, z5⟩
      · subst z1; exact ⟨z2, fun l r q => absurd q (by simp)⟩
      · subst z1; exact ⟨z4, fun l r q => by injection q with q; injection q with q1 q2; omega⟩
    have upd : a < (ch_lv b) → ch_b (some (w, u, a)) row b = some (a, row) := by
      intro q
      unfold ch_b
      cases b with
      | none => rfl
      | some x => obtain ⟨l, r⟩ := x; show (if a < l then _ else _) = _; rw [if_pos (show a < l from q)]
    have nup : ¬ a < (ch_lv b) → ch_b (some (w, u, a)) row b = b := by
      intro q
      unfold ch_b
      cases b with
      | none => exact absurd (show a < 1000000 by omega) q
      | some x => obtain ⟨l, r⟩ := x; show (if a < l then _ else _) = _; rw [if_neg (show ¬ a < l from q)]
    have ble : (ch_lv b) ≤ 1000000 := by
      cases b with
      | none => exact (Nat.le_refl _ : 1000000 ≤ 1000000)
      | some x => obtain ⟨l, r⟩ := x; have := h88.2 l r rfl; show l ≤ 1000000; omega
    rw [ch_E]
    generalize ch_lv b = B at *
    rw [f7_search_n]
    unfold f7_search_b
    by_cases hlt : a < B
    · rw [upd hlt]
      have k1 : ph_cpk (nI 0) (nI 0) (nI dp) 6 6 = true := by
        unfold ph_cpk
        have z1 : ¬ nI 0 < 0 := nI_pos (by omega)
        have z2 : ¬ nI dp < 0 := nI_pos (by omega)
        rw [q_cl (by omega), q_cl (by omega)]
        simp [z1, z2]
        omega
      refine ⟨ph_cp (ph_wi M 76 8 (nI a)) 78 0 79 0 dp, ?_, ⟨fun d j z1 z2 z3 z4 z5 => by simp (disch := first | assumption | omega) only [q_lit, Int32.neg_neg, nI_add, pk_mul, q_sub, q_addn, q_nadd, q_lt, q_le, q_eq, q_eqn, q_neq, q_nen, q_ltn, q_nlt, q_len, q_nle, q_nltn, q_nlen, q_cl, q_ib, q_ibn, q_isz0, q_isz1, q_iszb, q_b0, q_b1, q_ng1, q_ng2, q_ng3, q_ng4, q_ng5, q_ng6, Bool.toNat_true, Bool.toNat_false, if_pos, if_neg, q_ct, q_cf, q_let, q_bd, q_it, q_if, Nat.zero_add, Nat.add_zero, true_and, and_true, false_and, and_false, or_false, false_or, or_true, true_or, Bool.true_eq_false, Bool.false_eq_true, wi_s, wi_o, wi_r, cp_out]; exact h1.1 d j z1 z2 z3 z4 z5, h1.2⟩, fun i w z1 z2 => by simp (disch := first | assumption | omega) only [q_lit, Int32.neg_neg, nI_add, pk_mul, q_sub, q_addn, q_nadd, q_lt, q_le, q_eq, q_eqn, q_neq, q_nen, q_ltn, q_nlt, q_len, q_nle, q_nltn, q_nlen, q_cl, q_ib, q_ibn, q_isz0, q_isz1, q_iszb, q_b0, q_b1, q_ng1, q_ng2, q_ng3, q_ng4, q_ng5, q_ng6, Bool.toNat_true, Bool.toNat_false, if_pos, if_neg, q_ct, q_cf, q_let, q_bd, q_it, q_if, Nat.zero_add, Nat.add_zero, true_and, and_true, false_and, and_false, or_false, false_or, or_true, true_or, Bool.true_eq_false, Bool.false_eq_true, wi_s, wi_o, wi_r, cp_out]; exact h2 i w z1 z2, by simp (disch := first | assumption | omega) only [q_lit, Int32.neg_neg, nI_add, pk_mul, q_sub, q_addn, q_nadd, q_lt, q_le, q_eq, q_eqn, q_neq, q_nen, q_ltn, q_nlt, q_len, q_nle, q_nltn, q_nlen, q_cl, q_ib, q_ibn, q_isz0, q_isz1, q_iszb, q_b0, q_b1, q_ng1, q_ng2, q_ng3, q_ng4, q_ng5, q_ng6, Bool.toNat_true, Bool.toNat_false, if_pos, if_neg, q_ct, q_cf, q_let, q_bd, q_it, q_if, Nat.zero_add, Nat.add_zero, true_and, and_true, false_and, and_false, or_false, false_or, or_true, true_or, Bool.true_eq_false, Bool.false_eq_true, wi_s, wi_o, wi_r, cp_out]; exact h3, fun k hk => by simp (disch := first | assumption | omega) only [q_lit, Int32.neg_neg, nI_add, pk_mul, q_sub, q_addn, q_nadd, q_lt, q_le, q_eq, q_eqn, q_neq, q_nen, q_ltn, q_nlt, q_len, q_nle, q_nltn, q_nlen, q_cl, q_ib, q_ibn, q_isz0, q_isz1, q_iszb, q_b0, q_b1, q_ng1, q_ng2, q_ng3, q_ng4, q_ng5, q_ng6, Bool.toNat_true, Bool.toNat_false, if_pos, if_neg, q_ct, q_cf, q_let, q_bd, q_it, q_if, Nat.zero_add, Nat.add_zero, true_and, and_true, false_and, and_false, or_false, false_or, or_true, true_or, Bool.true_eq_false, Bool.false_eq_true, wi_s, wi_o, wi_r, cp_out]; exact h4 k hk, Or.inr ⟨a, row, rfl, by omega, hrow, by simp (disch := first | assumption | omega) only [q_lit, Int32.neg_neg, nI_add, pk_mul, q_sub, q_addn, q_nadd, q_lt, q_le, q_eq, q_eqn, q_neq, q_nen, q_ltn, q_nlt, q_len, q_nle, q_nltn, q_nlen, q_cl, q_ib, q_ibn, q_isz0, q_isz1, q_iszb, q_b0, q_b1, q_ng1, q_ng2, q_ng3, q_ng4, q_ng5, q_ng6, Bool.toNat_true, Bool.toNat_false, if_pos, if_neg, q_ct, q_cf, q_let, q_bd, q_it, q_if, Nat.zero_add, Nat.add_zero, true_and, and_true, false_and, and_false, or_false, false_or, or_true, true_or, Bool.true_eq_false, Bool.false_eq_true, wi_s, wi_o, wi_r, cp_out], fun k hk => ?_⟩⟩
      · simp (disch := first | assumption | omega) only [q_lit, Int32.neg_neg, nI_add, pk_mul, q_sub, q_addn, q_nadd, q_lt, q_le, q_eq, q_eqn, q_neq, q_nen, q_ltn, q_nlt, q_len, q_nle, q_nltn, q_nlen, q_cl, q_ib, q_ibn, q_isz0, q_isz1, q_iszb, q_b0, q_b1, q_ng1, q_ng2, q_ng3, q_ng4, q_ng5, q_ng6, Bool.toNat_true, Bool.toNat_false, if_pos, if_neg, q_ct, q_cf, q_let, q_bd, q_it, q_if, Nat.zero_add, Nat.add_zero, true_and, and_true, false_and, and_false, or_false, false_or, or_true, true_or, Bool.true_eq_false, Bool.false_eq_true, wi_s, wi_o, wi_r, h88.1, m6, k1]
      · rw [cp_in (by omega), wi_o (by omega), show 0 + (k - 0) = k by omega]
        exact h4 k hk
    · rw [nup hlt]
      refine ⟨M, ?_, h1, h2, h3, h4, h5'⟩
      simp (disch := first | assumption | omega) only [q_lit, Int32.neg_neg, nI_add, pk_mul, q_sub, q_addn, q_nadd, q_lt, q_le, q_eq, q_eqn, q_neq, q_nen, q_ltn, q_nlt, q_len, q_nle, q_nltn, q_nlen, q_cl, q_ib, q_ibn, q_isz0, q_isz1, q_iszb, q_b0, q_b1, q_ng1, q_ng2, q_ng3, q_ng4, q_ng5, q_ng6, Bool.toNat_true, Bool.toNat_false, if_pos, if_neg, q_ct, q_cf, q_let, q_bd, q_it, q_if, Nat.zero_add, Nat.add_zero, true_and, and_true, false_and, and_false, or_false, false_or, or_true, true_or, Bool.true_eq_false, Bool.false_eq_true, wi_s, wi_o, wi_r, h88.1]
  | succ r ih =>
    intro fuel dp used w u a row b M e1 hf hu hrow hw hu2 ha h1 h2 h3 h4 h5'
    obtain ⟨f, rfl⟩ : ∃ f, fuel = f + 1 := ⟨fuel - 1, by omega⟩
    have m6 : ∀ M : ph_Mem, ch_fr X M → M.1 76 6 = nI m := fun M q => (q.1 _ _ (by omega) (by omega) (by omega) (by omega) (by omega)).trans h6
    have m77 : ∀ (M : ph_Mem) i, ch_fr X M → i < m → M.1 77 i = nI (hr i) := fun M i q hi => (q.1 _ _ (by omega) (by omega) (by omega) (by omega) (by omega)).trans (h77 i hi)
    have m211 : ∀ M : ph_Mem, ch_fr X M → M.1 21 1 = nI inc := fun M q => (q.1 _ _ (by omega) (by omega) (by omega) (by omega) (by omega)).trans h211
    -- the loop over the hours
    have loop : ∀ (k i fu : Nat) (b : chB) (M : ph_Mem), i + k = m → k < fu → ch_fr X M → ch_co C m M → M.1 76 7 = nI used → (∀ k, k < dp → M.1 78 k = nI (hr (row.getD k 0))) → ch_en hr m b M → ∃ M', f7_search_l45 S (f7_search_n S f) fu (nI dp) (nI w) (nI u) (nI a) (nI i) M = some M' ∧ ch_fr X M' ∧ ch_co C m M' ∧ M'.1 76 7 = nI used ∧ (∀ k, k < dp → M'.1 78 k = nI (hr (row.getD k 0))) ∧ ch_en hr m ((List.range' i k).foldl (fun b i => if used.testBit i then b else ch_E C inc m r (used ||| 2 ^ i) (row ++ [i]) (ch_1 C inc i (some (w, u, a))) b) b) M' := by
      intro k
      induction k with
      | zero =>
        intro i fu b M e2 hfu g1 g2 g3 g4 g5
        obtain ⟨fu', rfl⟩ : ∃ f, fu = f + 1 := ⟨fu - 1, by omega⟩
        refine ⟨M, ?_, g1, g2, g3, g4, g5⟩
        unfold f7_search_l45
        simp (disch := first | assumption | omega) only [q_lit, Int32.neg_neg, nI_add, pk_mul, q_sub, q_addn, q_nadd, q_lt, q_le, q_eq, q_eqn, q_neq, q_nen, q_ltn, q_nlt, q_len, q_nle, q_nltn, q_nlen, q_cl, q_ib, q_ibn, q_isz0, q_isz1, q_iszb, q_b0, q_b1, q_ng1, q_ng2, q_ng3, q_ng4, q_ng5, q_ng6, Bool.toNat_true, Bool.toNat_false, if_pos, if_neg, q_ct, q_cf, q_let, q_bd, q_it, q_if, Nat.zero_add, Nat.add_zero, true_and, and_true, false_and, and_false, or_false, false_or, or_true, true_or, Bool.true_eq_false, Bool.false_eq_true, wi_s, wi_o, wi_r, m6 M g1]
      | succ k ihk =>
        intro i fu b M e2 hfu g1 g2 g3 g4 g5
        obtain ⟨fu', rfl⟩ : ∃ f, fu = f + 1 := ⟨fu - 1, by omega⟩
        rw [List.range'_succ, List.foldl_cons]
        have n6 := m6 M g1
        cases eb : used.testBit i
        · obtain ⟨M1, y1, y2, y3, y4, y5, y6, y7⟩ := x_ch_f (S := S) (w0 := w) (u := u) hm hinc hd h21 h211 h5 h77 hC hV (show i < m by omega) (by omega) (61 - w) w 10000 M (by omega) (Nat.le_refl _) (by omega) g1 g2
          have y1' : f7_firstDayFor S M (nI i) (nI w) (nI u) = _ := y1
          have e77 := m77 M1 i y2 (by omega)
          have u3 : M1.1 76 7 = nI used := (y6 7).trans g3
          have o64 : used ||| 2 ^ i < 64 := q_or64 hu (by omega)
          rcases ch_f_spec C inc i w u (61 - w) w with ⟨w', c1, c2, c3, c4⟩ | c1
          · have s1 : ch_1 C inc i (some (w, u, a)) = some (w', u + (w' - w) * inc - C i w', a + C i w') := by unfold ch_1; simp only [c3]
            have cc := y7 w' c3
            have hcw := hC i w' (by omega) (by omega)
            have bi : (w' - w) * inc ≤ 60 * 99 := Nat.mul_le_mul (by omega) hinc
            have fr2 : ch_fr X (ph_wi (ph_wi M1 78 dp (nI (hr i))) 76 7 (nI (used ||| 2 ^ i))) := ⟨fun d j z1 z2 z3 z4 z5 => by rw [wi_o (by omega), wi_o (by omega)]; exact y2.1 d j z1 z2 z3 z4 z5, y2.2⟩
            have n211 := m211 M1 y2
            obtain ⟨M2, a1, a2, a3, a4, a5, a6⟩ := ih f (dp + 1) (used ||| 2 ^ i) w' (u + (w' - w) * inc - C i w') (a + C i w') (row ++ [i]) b (ph_wi (ph_wi M1 78 dp (nI (hr i))) 76 7 (nI (used ||| 2 ^ i))) (by omega) (by omega) o64 (by rw [List.length_append, hrow]; rfl) (by omega) (by omega) (by omega) fr2 (fun i' w'' z1 z2 => by rw [wi_o (by omega), wi_o (by omega)]; exact y3 i' w'' z1 z2) (by simp (disch := first | assumption | omega) only [q_lit, Int32.neg_neg, nI_add, pk_mul, q_sub, q_addn, q_nadd, q_lt, q_le, q_eq, q_eqn, q_neq, q_nen, q_ltn, q_nlt, q_len, q_nle, q_nltn, q_nlen, q_cl, q_ib, q_ibn, q_isz0, q_isz1, q_iszb, q_b0, q_b1, q_ng1, q_ng2, q_ng3, q_ng4, q_ng5, q_ng6, Bool.toNat_true, Bool.toNat_false, if_pos, if_neg, q_ct, q_cf, q_let, q_bd, q_it, q_if, Nat.zero_add, Nat.add_zero, true_and, and_true, false_and, and_false, or_false, false_or, or_true, true_or, Bool.true_eq_false, Bool.false_eq_true, wi_s, wi_o, wi_r]) (fun k hk => by
              rw [wi_o (by omega), ch_getD_app, hrow]
              by_cases ek : k = dp
              · subst ek; rw [wi_s, if_neg (by omega), if_pos rfl]
              · rw [wi_o (by omega), if_pos (by omega), y4]; exact g4 k (by omega)) (by
              rcases g5 with ⟨z1, z2⟩ | ⟨l, rw0, z1, z2, z3, z4, z5⟩
              · exact Or.inl ⟨z1, by rw [wi_o (by omega), wi_o (by omega), y6]; exact z2⟩
              · exact Or.inr ⟨l, rw0, z1, z2, z3, by rw [wi_o (by omega), wi_o (by omega), y6]; exact z4, fun k hk => by rw [wi_o (by omega), wi_o (by omega), y5]; exact z5 k hk⟩)
            obtain ⟨M3, b1, b2⟩ := ihk (i + 1) fu' (ch_E C inc m r (used ||| 2 ^ i) (row ++ [i]) (some (w', u + (w' - w) * inc - C i w', a + C i w')) b) (ph_wi M2 76 7 (nI used)) (by omega) (by omega) ⟨fun d j z1 z2 z3 z4 z5 => by rw [wi_o (by omega)]; exact a2.1 d j z1 z2 z3 z4 z5, a2.2⟩ (fun i' w'' z1 z2 => by rw [wi_o (by omega)]; exact a3 i' w'' z1 z2) (by simp (disch := first | assumption | omega) only [q_lit, Int32.neg_neg, nI_add, pk_mul, q_sub, q_addn, q_nadd, q_lt, q_le, q_eq, q_eqn, q_neq, q_nen, q_ltn, q_nlt, q_len, q_nle, q_nltn, q_nlen, q_cl, q_ib, q_ibn, q_isz0, q_isz1, q_iszb, q_b0, q_b1, q_ng1, q_ng2, q_ng3, q_ng4, q_ng5, q_ng6, Bool.toNat_true, Bool.toNat_false, if_pos, if_neg, q_ct, q_cf, q_let, q_bd, q_it, q_if, Nat.zero_add, Nat.add_zero, true_and, and_true, false_and, and_false, or_false, false_or, or_true, true_or, Bool.true_eq_false, Bool.false_eq_true, wi_s, wi_o, wi_r]) (fun k hk => by
              rw [wi_o (by omega), a5 k (by omega), ch_getD_app, hrow, if_pos hk]) (by
              rcases a6 with ⟨z1, z2⟩ | ⟨l, rw0, z1, z2, z3, z4, z5⟩
              · exact Or.inl ⟨z1, by rw [wi_o (by omega)]; exact z2⟩
              · exact Or.inr ⟨l, rw0, z1, z2, z3, by rw [wi_o (by omega)]; exact z4, fun k hk => by rw [wi_o (by omega)]; exact z5 k hk⟩)
            refine ⟨M3, ?_, by rw [s1]; exact b2⟩
            rw [← b1]
            conv => lhs; unfold f7_search_l45
            rw [c3] at y1'
            unfold f7_search_j78 f7_search_j167 f7_purseOn
            simp (disch := first | assumption | omega) only [q_lit, Int32.neg_neg, nI_add, pk_mul, q_sub, q_addn, q_nadd, q_lt, q_le, q_eq, q_eqn, q_neq, q_nen, q_ltn, q_nlt, q_len, q_nle, q_nltn, q_nlen, q_cl, q_ib, q_ibn, q_isz0, q_isz1, q_iszb, q_b0, q_b1, q_ng1, q_ng2, q_ng3, q_ng4, q_ng5, q_ng6, Bool.toNat_true, Bool.toNat_false, if_pos, if_neg, q_ct, q_cf, q_let, q_bd, q_it, q_if, Nat.zero_add, Nat.add_zero, true_and, and_true, false_and, and_false, or_false, false_or, or_true, true_or, Bool.true_eq_false, Bool.false_eq_true, wi_s, wi_o, wi_r, n6, g3, x_bit, eb, y1', cc, e77, u3, q_1sl, q_or, n211, a1, a4, q_andn, q_clr eb]
          · have s1 : ch_1 C inc i (some (w, u, a)) = none := by unfold ch_1; simp only [c1]
            have en1 : ch_en hr m b M1 := by
              rcases g5 with ⟨z1, z2⟩ | ⟨l, rw0, z1, z2, z3, z4, z5⟩
              · exact Or.inl ⟨z1, by rw [y6]; exact z2⟩
              · exact Or.inr ⟨l, rw0, z1, z2, z3, by rw [y6]; exact z4, fun k hk => by rw [y5]; exact z5 k hk⟩
            obtain ⟨M3, b1, b2⟩ := ihk (i + 1) fu' b M1 (by omega) (by omega) y2 y3 u3 (fun k hk => by rw [y4]; exact g4 k hk) en1
            refine ⟨M3, ?_, by rw [s1, ch_E_no, ite_self]; exact b2⟩
            rw [← b1]
            conv => lhs; unfold f7_search_l45
            rw [c1] at y1'
            unfold f7_search_j78 f7_search_j167
            simp (disch := first | assumption | omega) only [q_lit, Int32.neg_neg, nI_add, pk_mul, q_sub, q_addn, q_nadd, q_lt, q_le, q_eq, q_eqn, q_neq, q_nen, q_ltn, q_nlt, q_len, q_nle, q_nltn, q_nlen, q_cl, q_ib, q_ibn, q_isz0, q_isz1, q_iszb, q_b0, q_b1, q_ng1, q_ng2, q_ng3, q_ng4, q_ng5, q_ng6, Bool.toNat_true, Bool.toNat_false, if_pos, if_neg, q_ct, q_cf, q_let, q_bd, q_it, q_if, Nat.zero_add, Nat.add_zero, true_and, and_true, false_and, and_false, or_false, false_or, or_true, true_or, Bool.true_eq_false, Bool.false_eq_true, wi_s, wi_o, wi_r, n6, g3, x_bit, eb, y1']
        · obtain ⟨M3, b1, b2⟩ := ihk (i + 1) fu' b M (by omega) (by omega) g1 g2 g3 g4 g5
          refine ⟨M3, ?_, by simp only [if_true]; exact b2⟩
          rw [← b1]
          conv => lhs; unfold f7_search_l45
          unfold f7_search_j78 f7_search_j167
          simp (disch := first | assumption | omega) only [q_lit, Int32.neg_neg, nI_add, pk_mul, q_sub, q_addn, q_nadd, q_lt, q_le, q_eq, q_eqn, q_neq, q_nen, q_ltn, q_nlt, q_len, q_nle, q_nltn, q_nlen, q_cl, q_ib, q_ibn, q_isz0, q_isz1, q_iszb, q_b0, q_b1, q_ng1, q_ng2, q_ng3, q_ng4, q_ng5, q_ng6, Bool.toNat_true, Bool.toNat_false, if_pos, if_neg, q_ct, q_cf, q_let, q_bd, q_it, q_if, Nat.zero_add, Nat.add_zero, true_and, and_true, false_and, and_false, or_false, false_or, or_true, true_or, Bool.true_eq_false, Bool.false_eq_true, wi_s, wi_o, wi_r, n6, g3, x_bit, eb]
    have n6 := m6 M h1
    rw [f7_search_n]
    unfold f7_search_b
    by_cases hp : b = none ∨ ∃ l rw0, b = some (l, rw0) ∧ a < l
    · have lt : a < 1000000 ∧ nI a < M.1 76 8 := by
        rcases h5' with ⟨z1, z2⟩ | ⟨l, rw0, z1, z2, z3, z4, z5⟩
        · exact ⟨by omega, by rw [z2, q_lt (by omega) (by omega)]; omega⟩
        · refine ⟨by omega, ?_⟩
          rw [z4, q_lt (by omega) (by omega)]
          rcases hp with q | ⟨l', r', q1, q2⟩
          · rw [z1] at q; exact absurd q (by simp)
          · rw [z1] at q1
            injection q1 with q1
            injection q1 with q3 q4
            omega
      obtain ⟨M', y1, y2⟩ := loop m 0 10000 b M (by omega) (by omega) h1 h2 h3 h4 h5'
      refine ⟨M', ?_, ?_⟩
      · rw [if_pos lt.2]
        simp (disch := first | assumption | omega) only [q_lit, Int32.neg_neg, nI_add, pk_mul, q_sub, q_addn, q_nadd, q_lt, q_le, q_eq, q_eqn, q_neq, q_nen, q_ltn, q_nlt, q_len, q_nle, q_nltn, q_nlen, q_cl, q_ib, q_ibn, q_isz0, q_isz1, q_iszb, q_b0, q_b1, q_ng1, q_ng2, q_ng3, q_ng4, q_ng5, q_ng6, Bool.toNat_true, Bool.toNat_false, if_pos, if_neg, q_ct, q_cf, q_let, q_bd, q_it, q_if, Nat.zero_add, Nat.add_zero, true_and, and_true, false_and, and_false, or_false, false_or, or_true, true_or, Bool.true_eq_false, Bool.false_eq_true, wi_s, wi_o, wi_r, n6]
        exact y1
      · rw [ch_E, List.range_eq_range']
        exact y2
    · rcases h5' with ⟨z1, z2⟩ | ⟨l, rw0, z1, z2, z3, z4, z5⟩
      · exact absurd (Or.inl z1) hp
      · have nl : ¬ a < l := fun q => hp (Or.inr ⟨l, rw0, z1, q⟩)
        refine ⟨M, ?_, h1, h2, h3, h4, ?_⟩
        · rw [if_neg (by rw [z4, q_lt (by omega) (by omega)]; exact nl)]
        · rw [z1, ch_E_ge C inc m (r + 1) used row (some (w, u, a)) (fun w' u' a' e => by injection e with e; injection e with e1 e2; injection e2 with e3 e4; omega)]
          exact Or.inr ⟨l, rw0, rfl, z2, z3, z4, z5⟩
