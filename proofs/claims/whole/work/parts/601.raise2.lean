/-! PURE HALF: raise, the class's search -/
def ra_en (o : raT) (M : ph_Mem) : Prop := (o = none ∧ M.1 73 7 = nI 1000000) ∨ ∃ s w l, o = some (s, w, l) ∧ w ≤ 1188 ∧ M.1 73 7 = nI w ∧ M.1 73 8 = nI s ∧ M.1 73 9 = nI l
theorem ra_s_1 {f : Nat → Nat} {s k : Nat} (hk : s.testBit k = false) : ∀ n, ra_s f (s ||| 2 ^ k) n = ra_s f s n + (if k < n then f k else 0)
  | 0 => by simp [ra_s]
  | n + 1 => by
    have ih := ra_s_1 (f := f) hk n
    rw [ra_s, ra_s, ih, Nat.testBit_or, Nat.testBit_two_pow]
    by_cases e : k = n
    · subst e
      rw [hk]
      simp
    · have : decide (k = n) = false := decide_eq_false e
      rw [this, Bool.or_false]
      by_cases h : k < n
      · have h' : k < n + 1 := by omega
        simp only [h, h', if_true]; omega
      · have h' : ¬ k < n + 1 := by omega
        simp only [h, h', if_false]; omega
theorem ra_or {s k : Nat} (h : ∃ q, s = q * 2 ^ (k + 1)) : s ||| 2 ^ k = s + 2 ^ k ∧ (∃ q, s + 2 ^ k = q * 2 ^ k) ∧ (∃ q, s = q * 2 ^ k) := by
  obtain ⟨q, rfl⟩ := h
  have h2 : 2 ^ k < 2 ^ (k + 1) := Nat.pow_lt_pow_right (by omega) (by omega)
  refine ⟨?_, ⟨2 * q + 1, ?_⟩, ⟨2 * q, ?_⟩⟩
  · have := Nat.two_pow_add_eq_or_of_lt h2 q
    rw [Nat.mul_comm] at this
    exact this.symm
  · rw [Nat.pow_succ, Nat.add_mul, Nat.one_mul, Nat.mul_comm 2 q, Nat.mul_assoc, Nat.mul_comm 2]
  · rw [Nat.pow_succ, Nat.mul_comm 2 q, Nat.mul_assoc, Nat.mul_comm 2]
theorem q_andeq {a b : Nat} (ha : a < 2 ^ 31) (hb : b < 2 ^ 31) : (nI a &&& nI b = nI b) = (∀ f, b.testBit f = true → a.testBit f = true) := by
  have hl : a &&& b ≤ b := Nat.and_le_right
  rw [q_and, q_eq (by omega) hb]
  apply propext
  constructor
  · intro h f hf
    rw [← h, Nat.testBit_and] at hf
    cases e : a.testBit f
    · rw [e] at hf; exact absurd hf (by simp)
    · rfl
  · intro h
    apply Nat.eq_of_testBit_eq
    intro i
    rw [Nat.testBit_and]
    cases e : b.testBit i
    · simp
    · rw [h i e]; rfl
theorem x_rs {RL : rLT} (hRL : rLoc RL) {S : ph_Sh} {X : ph_Mem} {g : Nat → Int32} {n t p may must sum : Nat} {ln wo : Nat → Nat} (hs : rSt RL S X 11 g n t) (hp : p < n) (hmay : may < 4096) (hmust : must < 256) (hsum : sum ≤ 9999) (hln : ∀ h, h < 12 → ln h ≤ 999 ∧ X.1 74 h = nI (ln h)) (hwo : ∀ h, h < 12 → wo h ≤ 99 ∧ X.1 15 (12 * p + h) = nI (wo h)) (h75 : ∀ o, o ≤ 12 → X.1 75 o = nI (ra_s ln 4095 o)) (h3 : X.1 73 3 = nI p) (h4 : X.1 73 4 = nI sum) (h5 : X.1 73 5 = nI must) (h6 : X.1 73 6 = nI may) : ∀ (o fuel : Nat) (M : ph_Mem) (s : Nat) (st : raT), o ≤ 12 → o < fuel → (∃ q, s = q * 2 ^ o) → s + 2 ^ o ≤ 4096 → (∀ i, s.testBit i = true → may.testBit i = true) → (∀ f, must.testBit f = true → (q_kn g p (q_hg g p s) 12).testBit f = true) → ra_en st M → (∀ d j, d ≠ 73 ∨ j < 7 → M.1 d j = X.1 d j) → M.2 = X.2 → ∃ M' st', f5_search_n S fuel M (nI o) (nI s) (nI (ra_s ln s 12)) (nI (ra_s wo s 12)) = some M' ∧ ra_F g p may must sum ln wo s (2 ^ o) st st' ∧ ra_en st' M' ∧ (∀ d j, d ≠ 73 ∨ j < 7 → M'.1 d j = X.1 d j) ∧ M'.2 = X.2 := by
  intro o
  induction o with
  | zero =>
    intro fuel M s st ho hf hq hs2 hsm hkn hen hM hM2
    obtain ⟨f, rfl⟩ : ∃ f, fuel = f + 1 := ⟨fuel - 1, by omega⟩
    have hn := hs.1.1
    have bW := ra_s_le (m := 99) (f := wo) s 12 (fun h hh => (hwo h hh).1)
    have bL := ra_s_le (m := 999) (f := ln) s 12 (fun h hh => (hln h hh).1)
    have m75 : M.1 75 0 = nI 0 := (hM 75 0 (by omega)).trans (h75 0 (by omega))
    have m4 : M.1 73 4 = nI sum := (hM 73 4 (by omega)).trans h4
    rw [f5_search_n]
    unfold f5_search_b
    by_cases hc1 : st = none ∨ ∃ b l t, st = some (b, l, t) ∧ ra_s wo s 12 < l
    · have le1 : ¬ M.1 73 7 ≤ nI (ra_s wo s 12) := by
        rcases hen with ⟨z1, z2⟩ | ⟨a, b, c, z1, z2, z3, _⟩
        · rw [z2, q_le (by omega) (by omega)]; omega
        · rw [z3, q_le (by omega) (by omega)]
          rcases hc1 with q | ⟨b', l', t', q1, q2⟩
          · rw [z1] at q; exact absurd q (by simp)
          · rw [z1] at q1
            injection q1 with q1
            injection q1 with q3 q4
            injection q4 with q5 q6
            omega
      by_cases hc2 : sum ≤ ra_s ln s 12
      · refine ⟨ph_wi (ph_wi (ph_wi M 73 7 (nI (ra_s wo s 12))) 73 8 (nI s)) 73 9 (nI (ra_s ln s 12)), some (s, ra_s wo s 12, ra_s ln s 12), ?_, ?_, Or.inr ⟨_, _, _, rfl, by omega, by simp (disch := first | assumption | omega) only [q_lit, Int32.neg_neg, nI_add, pk_mul, q_sub, q_addn, q_nadd, q_lt, q_le, q_eq, q_eqn, q_neq, q_nen, q_ltn, q_nlt, q_len, q_nle, q_nltn, q_nlen, q_cl, q_ib, q_ibn, q_isz0, q_isz1, q_iszb, q_b0, q_b1, q_ng1, q_ng2, q_ng3, q_ng4, q_ng5, q_ng6, Bool.toNat_true, Bool.toNat_false, if_pos, if_neg, q_ct, q_cf, q_let, q_bd, q_it, q_if, Nat.zero_add, Nat.add_zero, true_and, and_true, false_and, and_false, or_false, false_or, or_true, true_or, Bool.true_eq_false, Bool.false_eq_true, wi_s, wi_o, wi_r], by simp (disch := first | assumption | omega) only [q_lit, Int32.neg_neg, nI_add, pk_mul, q_sub, q_addn, q_nadd, q_lt, q_le, q_eq, q_eqn, q_neq, q_nen, q_ltn, q_nlt, q_len, q_nle, q_nltn, q_nlen, q_cl, q_ib, q_ibn, q_isz0, q_isz1, q_iszb, q_b0, q_b1, q_ng1, q_ng2, q_ng3, q_ng4, q_ng5, q_ng6, Bool.toNat_true, Bool.toNat_false, if_pos, if_neg, q_ct, q_cf, q_let, q_bd, q_it, q_if, Nat.zero_add, Nat.add_zero, true_and, and_true, false_and, and_false, or_false, false_or, or_true, true_or, Bool.true_eq_false, Bool.false_eq_true, wi_s, wi_o, wi_r], by simp (disch := first | assumption | omega) only [q_lit, Int32.neg_neg, nI_add, pk_mul, q_sub, q_addn, q_nadd, q_lt, q_le, q_eq, q_eqn, q_neq, q_nen, q_ltn, q_nlt, q_len, q_nle, q_nltn, q_nlen, q_cl, q_ib, q_ibn, q_isz0, q_isz1, q_iszb, q_b0, q_b1, q_ng1, q_ng2, q_ng3, q_ng4, q_ng5, q_ng6, Bool.toNat_true, Bool.toNat_false, if_pos, if_neg, q_ct, q_cf, q_let, q_bd, q_it, q_if, Nat.zero_add, Nat.add_zero, true_and, and_true, false_and, and_false, or_false, false_or, or_true, true_or, Bool.true_eq_false, Bool.false_eq_true, wi_s, wi_o, wi_r]⟩, fun d j hd => by simp (disch := first | assumption | omega) only [q_lit, Int32.neg_neg, nI_add, pk_mul, q_sub, q_addn, q_nadd, q_lt, q_le, q_eq, q_eqn, q_neq, q_nen, q_ltn, q_nlt, q_len, q_nle, q_nltn, q_nlen, q_cl, q_ib, q_ibn, q_isz0, q_isz1, q_iszb, q_b0, q_b1, q_ng1, q_ng2, q_ng3, q_ng4, q_ng5, q_ng6, Bool.toNat_true, Bool.toNat_false, if_pos, if_neg, q_ct, q_cf, q_let, q_bd, q_it, q_if, Nat.zero_add, Nat.add_zero, true_and, and_true, false_and, and_false, or_false, false_or, or_true, true_or, Bool.true_eq_false, Bool.false_eq_true, wi_s, wi_o, wi_r]; exact hM d j hd, hM2⟩
        · simp (disch := first | assumption | omega) only [q_lit, Int32.neg_neg, nI_add, pk_mul, q_sub, q_addn, q_nadd, q_lt, q_le, q_eq, q_eqn, q_neq, q_nen, q_ltn, q_nlt, q_len, q_nle, q_nltn, q_nlen, q_cl, q_ib, q_ibn, q_isz0, q_isz1, q_iszb, q_b0, q_b1, q_ng1, q_ng2, q_ng3, q_ng4, q_ng5, q_ng6, Bool.toNat_true, Bool.toNat_false, if_pos, if_neg, q_ct, q_cf, q_let, q_bd, q_it, q_if, Nat.zero_add, Nat.add_zero, true_and, and_true, false_and, and_false, or_false, false_or, or_true, true_or, Bool.true_eq_false, Bool.false_eq_true, wi_s, wi_o, wi_r, le1, m75, m4]
        · rw [Nat.pow_zero]
          exact ⟨_, ⟨fun _ => rfl, fun q => absurd ⟨⟨hsm, hc2, hkn⟩, hc1⟩ q⟩, rfl⟩
      · refine ⟨M, st, ?_, ?_, hen, hM, hM2⟩
        · simp (disch := first | assumption | omega) only [q_lit, Int32.neg_neg, nI_add, pk_mul, q_sub, q_addn, q_nadd, q_lt, q_le, q_eq, q_eqn, q_neq, q_nen, q_ltn, q_nlt, q_len, q_nle, q_nltn, q_nlen, q_cl, q_ib, q_ibn, q_isz0, q_isz1, q_iszb, q_b0, q_b1, q_ng1, q_ng2, q_ng3, q_ng4, q_ng5, q_ng6, Bool.toNat_true, Bool.toNat_false, if_pos, if_neg, q_ct, q_cf, q_let, q_bd, q_it, q_if, Nat.zero_add, Nat.add_zero, true_and, and_true, false_and, and_false, or_false, false_or, or_true, true_or, Bool.true_eq_false, Bool.false_eq_true, wi_s, wi_o, wi_r, le1, m75, m4]
        · rw [Nat.pow_zero]
          exact ⟨st, ⟨fun q => absurd q.1.2.1 hc2, fun _ => rfl⟩, rfl⟩
    · have le1 : M.1 73 7 ≤ nI (ra_s wo s 12) := by
        rcases hen with ⟨z1, z2⟩ | ⟨a, b, c, z1, z2, z3, _⟩
        · exact absurd (Or.inl z1) hc1
        · rw [z3, q_le (by omega) (by omega)]
          have : ¬ ra_s wo s 12 < b := fun q => hc1 (Or.inr ⟨a, b, c, z1, q⟩)
          omega
      refine ⟨M, st, ?_, ?_, hen, hM, hM2⟩
      · rw [if_pos le1]
      · rw [Nat.pow_zero]
        exact ⟨st, ⟨fun q => absurd q.2 hc1, fun _ => rfl⟩, rfl⟩
  | succ k ih =>
    intro fuel M s st ho hf hq hs2 hsm hkn hen hM hM2
    obtain ⟨f, rfl⟩ : ∃ f, fuel = f + 1 := ⟨fuel - 1, by omega⟩
    have hn := hs.1.1
    have bW := ra_s_le (m := 99) (f := wo) s 12 (fun h hh => (hwo h hh).1)
    have bL := ra_s_le (m := 999) (f := ln) s 12 (fun h hh => (hln h hh).1)
    have bB := ra_s_le (m := 999) (f := ln) 4095 (k + 1) (fun h hh => (hln h (by omega)).1)
    have m75 : M.1 75 (k + 1) = nI (ra_s ln 4095 (k + 1)) := (hM 75 _ (by omega)).trans (h75 _ (by omega))
    have m4 : M.1 73 4 = nI sum := (hM 73 4 (by omega)).trans h4
    have p2k : 0 < 2 ^ k := Nat.two_pow_pos k
    have e2k : 2 ^ (k + 1) = 2 ^ k + 2 ^ k := by rw [Nat.pow_succ]; omega
    have blk : ∀ x, s ≤ x → x < s + 2 ^ (k + 1) → ∀ i, k + 1 ≤ i → x.testBit i = s.testBit i := fun x h1 h2 => ra_blk hq h1 h2
    have s0 : ∀ i, i < k + 1 → s.testBit i = false := ra_blk0 hq
    have sub : ∀ x, s ≤ x → x < s + 2 ^ (k + 1) → ∀ i, s.testBit i = true → x.testBit i = true := fun x h1 h2 i hi => by
      by_cases hik : i < k + 1
      · rw [s0 i hik] at hi; exact absurd hi (by simp)
      · rw [blk x h1 h2 i (by omega)]; exact hi
    rw [f5_search_n]
    by_cases hc1 : st = none ∨ ∃ b l t, st = some (b, l, t) ∧ ra_s wo s 12 < l
    · have le1 : ¬ M.1 73 7 ≤ nI (ra_s wo s 12) := by
        rcases hen with ⟨z1, z2⟩ | ⟨a, b, c, z1, z2, z3, _⟩
        · rw [z2, q_le (by omega) (by omega)]; omega
        · rw [z3, q_le (by omega) (by omega)]
          rcases hc1 with q | ⟨b', l', t', q1, q2⟩
          · rw [z1] at q; exact absurd q (by simp)
          · rw [z1] at q1
            injection q1 with q1
            injection q1 with q3 q4
            injection q4 with q5 q6
            omega
      by_cases hc2 : sum ≤ ra_s ln s 12 + ra_s ln 4095 (k + 1)
      · obtain ⟨o1, o2, o3⟩ := ra_or hq
        have sk : s.testBit k = false := s0 k (by omega)
        obtain ⟨M1, st1, a1, a2, a3, a4, a5⟩ := ih f M s st (by omega) (by omega) o3 (by omega) hsm hkn hen hM hM2
        have n3 : M1.1 73 3 = nI p := (a4 73 3 (by omega)).trans h3
        have n6 : M1.1 73 6 = nI may := (a4 73 6 (by omega)).trans h6
        have n5 : M1.1 73 5 = nI must := (a4 73 5 (by omega)).trans h5
        have upper : ∀ x, s + 2 ^ k ≤ x → x < s + 2 ^ k + 2 ^ k → ∀ i, (s + 2 ^ k).testBit i = true → x.testBit i = true := fun x h1 h2 i hi => by
          by_cases hik : i < k
          · rw [ra_blk0 o2 i hik] at hi; exact absurd hi (by simp)
          · rw [ra_blk o2 h1 h2 i (by omega)]; exact hi
        have kbit : (s + 2 ^ k).testBit k = true := by rw [← o1, Nat.testBit_or, Nat.testBit_two_pow_self, Bool.or_true]
        have pre : ∀ R, (f5_search_b S (f5_search_n S f) M (nI (k + 1)) (nI s) (nI (ra_s ln s 12)) (nI (ra_s wo s 12)) = R) = ((if may.testBit k = false then (some M1) else (if (M1.1 13 (12 * p + k)) = -nI 1 then (f5_search_j115 S (f5_search_n S f) (nI (ra_s ln s 12)) (nI (ra_s wo s 12)) (nI k) (nI (s + 2 ^ k)) (nI (12 * p + k)) M1) else ((f5_leavesKnown S M1 (nI (s + 2 ^ k))).bind fun q5 => if q5 = nI 0 then (some M1) else (f5_search_j115 S (f5_search_n S f) (nI (ra_s ln s 12)) (nI (ra_s wo s 12)) (nI k) (nI (s + 2 ^ k)) (nI (12 * p + k)) M1)))) = R) := by
          intro R
          congr 1
          unfold f5_search_b
          cases eb : may.testBit k
          · simp (disch := first | assumption | omega) only [q_lit, Int32.neg_neg, nI_add, pk_mul, q_sub, q_addn, q_nadd, q_lt, q_le, q_eq, q_eqn, q_neq, q_nen, q_ltn, q_nlt, q_len, q_nle, q_nltn, q_nlen, q_cl, q_ib, q_ibn, q_isz0, q_isz1, q_iszb, q_b0, q_b1, q_ng1, q_ng2, q_ng3, q_ng4, q_ng5, q_ng6, Bool.toNat_true, Bool.toNat_false, if_pos, if_neg, q_ct, q_cf, q_let, q_bd, q_it, q_if, Nat.zero_add, Nat.add_zero, true_and, and_true, false_and, and_false, or_false, false_or, or_true, true_or, Bool.true_eq_false, Bool.false_eq_true, wi_s, wi_o, wi_r, le1, m75, m4, a1, Nat.add_sub_cancel, n3, n6, x_place, x_bit, eb]
          · simp (disch := first | assumption | omega) only [q_lit, Int32.neg_neg, nI_add, pk_mul, q_sub, q_addn, q_nadd, q_lt, q_le, q_eq, q_eqn, q_neq, q_nen, q_ltn, q_nlt, q_len, q_nle, q_nltn, q_nlen, q_cl, q_ib, q_ibn, q_isz0, q_isz1, q_iszb, q_b0, q_b1, q_ng1, q_ng2, q_ng3, q_ng4, q_ng5, q_ng6, Bool.toNat_true, Bool.toNat_false, if_pos, if_neg, q_ct, q_cf, q_let, q_bd, q_it, q_if, Nat.zero_add, Nat.add_zero, true_and, and_true, false_and, and_false, or_false, false_or, or_true, true_or, Bool.true_eq_false, Bool.false_eq_true, wi_s, wi_o, wi_r, le1, m75, m4, a1, Nat.add_sub_cancel, n3, n6, x_place, x_bit, eb, q_1sl, q_or, o1]
        rw [e2k]
        have stay : (∀ x, s + 2 ^ k ≤ x → x < s + 2 ^ k + 2 ^ k → ¬ ra_ok g p may must sum ln x) → f5_search_b S (f5_search_n S f) M (nI (k + 1)) (nI s) (nI (ra_s ln s 12)) (nI (ra_s wo s 12)) = some M1 → ∃ M' st', f5_search_b S (f5_search_n S f) M (nI (k + 1)) (nI s) (nI (ra_s ln s 12)) (nI (ra_s wo s 12)) = some M' ∧ ra_F g p may must sum ln wo s (2 ^ k + 2 ^ k) st st' ∧ ra_en st' M' ∧ (∀ d j, d ≠ 73 ∨ j < 7 → M'.1 d j = X.1 d j) ∧ M'.2 = X.2 := by
          intro q1 q2
          refine ⟨M1, st1, q2, ra_F_add (2 ^ k) s (2 ^ k) st st1 st1 a2 (ra_F_no st1 (2 ^ k) (s + 2 ^ k) (fun x h1 h2 z => q1 x h1 h2 z.1)), a3, a4, a5⟩
        cases eb : may.testBit k
        · refine stay (fun x h1 h2 z => ?_) (by rw [pre, if_pos eb])
          have := z.1 k (upper x h1 h2 k kbit)
          rw [eb] at this
          exact absurd this (by simp)
        · have go : (∀ f, must.testBit f = true → (q_kn g p (q_hg g p (s + 2 ^ k)) 12).testBit f = true) → f5_search_b S (f5_search_n S f) M (nI (k + 1)) (nI s) (nI (ra_s ln s 12)) (nI (ra_s wo s 12)) = f5_search_j115 S (f5_search_n S f) (nI (ra_s ln s 12)) (nI (ra_s wo s 12)) (nI k) (nI (s + 2 ^ k)) (nI (12 * p + k)) M1 → ∃ M' st', f5_search_b S (f5_search_n S f) M (nI (k + 1)) (nI s) (nI (ra_s ln s 12)) (nI (ra_s wo s 12)) = some M' ∧ ra_F g p may must sum ln wo s (2 ^ k + 2 ^ k) st st' ∧ ra_en st' M' ∧ (∀ d j, d ≠ 73 ∨ j < 7 → M'.1 d j = X.1 d j) ∧ M'.2 = X.2 := by
            intro q1 q2
            have eL : ra_s ln (s + 2 ^ k) 12 = ra_s ln s 12 + ln k := by rw [← o1, ra_s_1 sk, if_pos (by omega)]
            have eW : ra_s wo (s + 2 ^ k) 12 = ra_s wo s 12 + wo k := by rw [← o1, ra_s_1 sk, if_pos (by omega)]
            obtain ⟨M2, st2, b1, b2, b3, b4, b5⟩ := ih f M1 (s + 2 ^ k) st1 (by omega) (by omega) o2 (by omega) (fun i hi => by
              rw [← o1, Nat.testBit_or, Bool.or_eq_true, Nat.testBit_two_pow] at hi
              rcases hi with hi | hi
              · exact hsm i hi
              · have := of_decide_eq_true hi
                subst this
                exact eb) q1 a3 a4 a5
            refine ⟨M2, st2, ?_, ra_F_add (2 ^ k) s (2 ^ k) st st1 st2 a2 b2, b3, b4, b5⟩
            rw [q2]
            have c1 : M1.1 74 k = nI (ln k) := (a4 74 k (by omega)).trans (hln k (by omega)).2
            have c2 : M1.1 15 (12 * p + k) = nI (wo k) := (a4 15 _ (by omega)).trans (hwo k (by omega)).2
            rw [eL, eW] at b1
            unfold f5_search_j115
            simp (disch := first | assumption | omega) only [q_lit, Int32.neg_neg, nI_add, pk_mul, q_sub, q_addn, q_nadd, q_lt, q_le, q_eq, q_eqn, q_neq, q_nen, q_ltn, q_nlt, q_len, q_nle, q_nltn, q_nlen, q_cl, q_ib, q_ibn, q_isz0, q_isz1, q_iszb, q_b0, q_b1, q_ng1, q_ng2, q_ng3, q_ng4, q_ng5, q_ng6, Bool.toNat_true, Bool.toNat_false, if_pos, if_neg, q_ct, q_cf, q_let, q_bd, q_it, q_if, Nat.zero_add, Nat.add_zero, true_and, and_true, false_and, and_false, or_false, false_or, or_true, true_or, Bool.true_eq_false, Bool.false_eq_true, wi_s, wi_o, wi_r, c1, c2, b1]
          obtain ⟨fc1, fc2, _⟩ := hs.2.2.1.1 (12 * p + k) (by omega)
          have fM : M1.1 13 (12 * p + k) = g (223 + (12 * p + k)) := (a4 13 _ (by omega)).trans fc1
          by_cases ef : g (223 + (12 * p + k)) = -nI 1
          · refine go (fun f hf => ?_) (by rw [pre, if_neg (by rw [eb]; simp), fM, if_pos ef])
            have := hkn f hf
            rw [q_kn_none (H' := q_hg g p (s + 2 ^ k)) ef 12 (fun h h1 h2 => by
              unfold q_hg
              rw [← o1, Nat.testBit_or, Nat.testBit_two_pow, decide_eq_false (fun z => h2 z.symm), Bool.or_false])] at this
            exact this
          · have hsM : rSt RL S M1 11 g n t := rSt_fr hRL hs (a4 _ _ (by omega)) (a4 _ _ (by omega)) (a4 _ _ (by omega)) (fun p _ => a4 _ _ (by omega)) (fun d j _ _ _ => a4 _ _ (by omega)) (fun j _ => a4 _ _ (by omega)) (fun j _ => a4 _ _ (by omega)) (fun j _ => a4 _ _ (by omega)) (fun i _ => by rw [a5]) (fun d j _ => a4 _ _ (by omega)) (fun j _ => rfl)
            have xk := x_known (S := S) (gone := s + 2 ^ k) (rSt_rd hsM hp) (show p < 6 by omega) (by omega)
            have klt := q_kn_lt (H := q_hg g p (s + 2 ^ k)) (rSt_rd hsM hp).2.2 12 (by omega)
            by_cases lk : ∀ f, must.testBit f = true → (q_kn g p (q_hg g p (s + 2 ^ k)) 12).testBit f = true
            · have lv : f5_leavesKnown S M1 (nI (s + 2 ^ k)) = some (nI 1) := by
                unfold f5_leavesKnown
                by_cases m0 : must = 0
                · rw [n5, m0]; rfl
                · have c := q_andeq (a := q_kn g p (q_hg g p (s + 2 ^ k)) 12) (b := must) (by omega) (by omega)
                  have c' : nI (q_kn g p (q_hg g p (s + 2 ^ k)) 12) &&& nI must = nI must := by rw [c]; exact lk
                  simp (disch := first | assumption | omega) only [q_lit, Int32.neg_neg, nI_add, pk_mul, q_sub, q_addn, q_nadd, q_lt, q_le, q_eq, q_eqn, q_neq, q_nen, q_ltn, q_nlt, q_len, q_nle, q_nltn, q_nlen, q_cl, q_ib, q_ibn, q_isz0, q_isz1, q_iszb, q_b0, q_b1, q_ng1, q_ng2, q_ng3, q_ng4, q_ng5, q_ng6, Bool.toNat_true, Bool.toNat_false, if_pos, if_neg, q_ct, q_cf, q_let, q_bd, q_it, q_if, Nat.zero_add, Nat.add_zero, true_and, and_true, false_and, and_false, or_false, false_or, or_true, true_or, Bool.true_eq_false, Bool.false_eq_true, wi_s, wi_o, wi_r, n5, n3, xk, c']
              refine go lk ?_
              rw [pre, if_neg (by rw [eb]; simp), fM, if_neg ef, lv, q_bd, if_neg (by decide)]
            · have m0 : must ≠ 0 := fun z => lk (fun f hf => by rw [z, Nat.zero_testBit] at hf; exact absurd hf (by simp))
              have lv : f5_leavesKnown S M1 (nI (s + 2 ^ k)) = some (nI 0) := by
                unfold f5_leavesKnown
                have c := q_andeq (a := q_kn g p (q_hg g p (s + 2 ^ k)) 12) (b := must) (by omega) (by omega)
                have c' : ¬ nI (q_kn g p (q_hg g p (s + 2 ^ k)) 12) &&& nI must = nI must := by rw [c]; exact lk
                simp (disch := first | assumption | omega) only [q_lit, Int32.neg_neg, nI_add, pk_mul, q_sub, q_addn, q_nadd, q_lt, q_le, q_eq, q_eqn, q_neq, q_nen, q_ltn, q_nlt, q_len, q_nle, q_nltn, q_nlen, q_cl, q_ib, q_ibn, q_isz0, q_isz1, q_iszb, q_b0, q_b1, q_ng1, q_ng2, q_ng3, q_ng4, q_ng5, q_ng6, Bool.toNat_true, Bool.toNat_false, if_pos, if_neg, q_ct, q_cf, q_let, q_bd, q_it, q_if, Nat.zero_add, Nat.add_zero, true_and, and_true, false_and, and_false, or_false, false_or, or_true, true_or, Bool.true_eq_false, Bool.false_eq_true, wi_s, wi_o, wi_r, n5, n3, xk, c']
              refine stay (fun x h1 h2 z => lk (fun f hf => ?_)) (by rw [pre, if_neg (by rw [eb]; simp), fM, if_neg ef, lv, q_bd, if_pos rfl])
              refine q_kn_sub 12 (fun h hh hx => ?_) f (z.2.2 f hf)
              unfold q_hg at hx ⊢
              rw [Bool.and_eq_true] at hx ⊢
              refine ⟨hx.1, ?_⟩
              cases eh : (s + 2 ^ k).testBit h
              · rfl
              · have := upper x h1 h2 h eh
                rw [this] at hx
                exact absurd hx.2 (by simp)
      · refine ⟨M, st, ?_, ra_F_no st (2 ^ (k + 1)) s (fun x h1 h2 z => ?_), hen, hM, hM2⟩
        · unfold f5_search_b
          simp (disch := first | assumption | omega) only [q_lit, Int32.neg_neg, nI_add, pk_mul, q_sub, q_addn, q_nadd, q_lt, q_le, q_eq, q_eqn, q_neq, q_nen, q_ltn, q_nlt, q_len, q_nle, q_nltn, q_nlen, q_cl, q_ib, q_ibn, q_isz0, q_isz1, q_iszb, q_b0, q_b1, q_ng1, q_ng2, q_ng3, q_ng4, q_ng5, q_ng6, Bool.toNat_true, Bool.toNat_false, if_pos, if_neg, q_ct, q_cf, q_let, q_bd, q_it, q_if, Nat.zero_add, Nat.add_zero, true_and, and_true, false_and, and_false, or_false, false_or, or_true, true_or, Bool.true_eq_false, Bool.false_eq_true, wi_s, wi_o, wi_r, le1, m75, m4]
        · have := ra_s_up (f := ln) (full := 4095) (blk x h1 h2) (fun i hi _ => by
            have : (4095 : Nat) = 2 ^ 12 - 1 := by decide
            rw [this, Nat.testBit_two_pow_sub_one]
            exact decide_eq_true (by omega)) 12
          rw [show min (k + 1) 12 = k + 1 by omega] at this
          have := z.1.2.1
          omega
    · have le1 : M.1 73 7 ≤ nI (ra_s wo s 12) := by
        rcases hen with ⟨z1, z2⟩ | ⟨a, b, c, z1, z2, z3, _⟩
        · exact absurd (Or.inl z1) hc1
        · rw [z3, q_le (by omega) (by omega)]
          have : ¬ ra_s wo s 12 < b := fun q => hc1 (Or.inr ⟨a, b, c, z1, q⟩)
          omega
      refine ⟨M, st, ?_, ra_F_no st (2 ^ (k + 1)) s (fun x h1 h2 z => hc1 ?_), hen, hM, hM2⟩
      · unfold f5_search_b
        rw [if_pos le1]
      · rcases z.2 with q | ⟨b, l, t, q1, q2⟩
        · exact Or.inl q
        · refine Or.inr ⟨b, l, t, q1, ?_⟩
          have := ra_s_mono (f := wo) (sub x h1 h2) 12
          omega
