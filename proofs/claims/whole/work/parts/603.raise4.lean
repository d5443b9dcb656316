/-! PURE HALF: raise, the model's side -/
theorem q_an0 {a b : Nat} (ha : a < 2 ^ 31) : (nI a &&& (nI b ^^^ -nI 1) = nI 0) = (∀ i, a.testBit i = true → b.testBit i = true) := by
  have hl : a ^^^ (a &&& b) < 2 ^ 31 := q_andn_lt (n := 31) ha
  rw [q_andn, q_eq hl (by omega)]
  apply propext
  constructor
  · intro h i hi
    have := q_andn_b a b i
    rw [h, Nat.zero_testBit, hi, Bool.true_and] at this
    cases e : b.testBit i
    · rw [e] at this; exact absurd this (by simp)
    · rfl
  · intro h
    apply Nat.eq_of_testBit_eq
    intro i
    rw [q_andn_b, Nat.zero_testBit]
    cases e : a.testBit i
    · rfl
    · rw [h i e]; rfl
theorem m_rl {g : Nat → Int32} {p d n : Nat} (hp : p < n) (hn : n ≤ 6) {V : Nat → Nat → Nat → Nat} (K0 : ph_Mem) (hg : K0.1 2 = g) (hst : ∀ h, h < 12 → ∃ s, s ≤ 2 ∧ g (12 * p + h) = nI s) (hV : ∀ h, h < 12 → V h 0 d ≤ 999 ∧ V h 2 d ≤ 1 ∧ ∀ (K : ph_Mem), (∀ j, K.1 2 j = g j) → (∃ K', f12_lendsFor K (nI p) (nI h) = some (nI (V h 0 d), K') ∧ kSc K K') ∧ (∃ K', f12_isBarred K (nI p) (nI h) = some (nI (V h 2 d), K') ∧ kSc K K')) (x2 x4 x5 x6 : Int32) : ∀ (r h fuel : Nat) (K : ph_Mem), h + r = 12 → r < fuel → (∀ e j, e ≠ 12 → e ≠ 17 → (e ≠ 0 ∨ (j ≠ 8 ∧ j ≠ 22 ∧ j ≠ 23 ∧ j ≠ 24)) → K.1 e j = K0.1 e j) → (∀ i, i < h → K.1 17 i = nI (V i 0 d)) → ∃ K', f12_raise_l67 fuel (nI p) x2 x4 x5 x6 (nI (q_bs (ra_c g p d V) h)) (nI h) K = f12_raise_j117 (nI p) x2 x4 x5 x6 (nI (q_bs (ra_c g p d V) 12)) K' ∧ (∀ e j, e ≠ 12 → e ≠ 17 → (e ≠ 0 ∨ (j ≠ 8 ∧ j ≠ 22 ∧ j ≠ 23 ∧ j ≠ 24)) → K'.1 e j = K0.1 e j) ∧ (∀ i, i < 12 → K'.1 17 i = nI (V i 0 d))
  | 0, h, f + 1, K, e, _, m1, m2 => by
    have : h = 12 := by omega
    subst this
    refine ⟨K, ?_, m1, m2⟩
    unfold f12_raise_l67
    simp (disch := first | assumption | omega) only [q_lit, Int32.neg_neg, nI_add, pk_mul, q_sub, q_addn, q_nadd, q_lt, q_le, q_eq, q_eqn, q_neq, q_nen, q_ltn, q_nlt, q_len, q_nle, q_nltn, q_nlen, q_cl, q_ib, q_ibn, q_isz0, q_isz1, q_iszb, q_b0, q_b1, q_ng1, q_ng2, q_ng3, q_ng4, q_ng5, q_ng6, Bool.toNat_true, Bool.toNat_false, if_pos, if_neg, q_ct, q_cf, q_let, q_bd, q_it, q_if, Nat.zero_add, Nat.add_zero, true_and, and_true, false_and, and_false, or_false, false_or, or_true, true_or, Bool.true_eq_false, Bool.false_eq_true, wi_s, wi_o, wi_r]
  | r + 1, h, f + 1, K, e, hf, m1, m2 => by
    have hh : h < 12 := by omega
    obtain ⟨v0, v2, vk⟩ := hV h hh
    have c2 : ∀ j, K.1 2 j = g j := fun j => (m1 2 j (by omega) (by omega) (by omega)).trans (by rw [hg])
    obtain ⟨s, s1, s2⟩ := hst h hh
    obtain ⟨K1, k1, k2⟩ := m_canPawn (show p < 6 by omega) hh s1 ((c2 _).trans s2) v2 (vk K c2).2
    have c3 : ∀ j, K1.1 2 j = g j := fun j => (k2.1 2 j (by omega) (by omega)).trans (c2 j)
    obtain ⟨K2, l1, l2⟩ := (vk K1 c3).1
    obtain ⟨K', y1, y2, y3⟩ := m_rl hp hn K0 hg hst hV x2 x4 x5 x6 r (h + 1) f (ph_wi K2 17 h (nI (V h 0 d))) (by omega) (by omega) (fun e j q1 q2 q3 => by simp (disch := first | assumption | omega) only [q_lit, Int32.neg_neg, nI_add, pk_mul, q_sub, q_addn, q_nadd, q_lt, q_le, q_eq, q_eqn, q_neq, q_nen, q_ltn, q_nlt, q_len, q_nle, q_nltn, q_nlen, q_cl, q_ib, q_ibn, q_isz0, q_isz1, q_iszb, q_b0, q_b1, q_ng1, q_ng2, q_ng3, q_ng4, q_ng5, q_ng6, Bool.toNat_true, Bool.toNat_false, if_pos, if_neg, q_ct, q_cf, q_let, q_bd, q_it, q_if, Nat.zero_add, Nat.add_zero, true_and, and_true, false_and, and_false, or_false, false_or, or_true, true_or, Bool.true_eq_false, Bool.false_eq_true, wi_s, wi_o, wi_r]; rw [l2.1 e j q1 q3, k2.1 e j q1 q3]; exact m1 e j q1 q2 q3) (fun i hi => by
      by_cases ei : i = h
      · subst ei; simp (disch := first | assumption | omega) only [q_lit, Int32.neg_neg, nI_add, pk_mul, q_sub, q_addn, q_nadd, q_lt, q_le, q_eq, q_eqn, q_neq, q_nen, q_ltn, q_nlt, q_len, q_nle, q_nltn, q_nlen, q_cl, q_ib, q_ibn, q_isz0, q_isz1, q_iszb, q_b0, q_b1, q_ng1, q_ng2, q_ng3, q_ng4, q_ng5, q_ng6, Bool.toNat_true, Bool.toNat_false, if_pos, if_neg, q_ct, q_cf, q_let, q_bd, q_it, q_if, Nat.zero_add, Nat.add_zero, true_and, and_true, false_and, and_false, or_false, false_or, or_true, true_or, Bool.true_eq_false, Bool.false_eq_true, wi_s, wi_o, wi_r]
      · simp (disch := first | assumption | omega) only [q_lit, Int32.neg_neg, nI_add, pk_mul, q_sub, q_addn, q_nadd, q_lt, q_le, q_eq, q_eqn, q_neq, q_nen, q_ltn, q_nlt, q_len, q_nle, q_nltn, q_nlen, q_cl, q_ib, q_ibn, q_isz0, q_isz1, q_iszb, q_b0, q_b1, q_ng1, q_ng2, q_ng3, q_ng4, q_ng5, q_ng6, Bool.toNat_true, Bool.toNat_false, if_pos, if_neg, q_ct, q_cf, q_let, q_bd, q_it, q_if, Nat.zero_add, Nat.add_zero, true_and, and_true, false_and, and_false, or_false, false_or, or_true, true_or, Bool.true_eq_false, Bool.false_eq_true, wi_s, wi_o, wi_r]; rw [l2.1 _ _ (by omega) (by omega), k2.1 _ _ (by omega) (by omega)]; exact m2 i (by omega))
    refine ⟨K', ?_, y2, y3⟩
    rw [← y1]
    have ehp : hP g p 0 h = decide (s = 0) := by
      unfold hP
      apply decide_eq_decide.mpr
      rw [s2, q_eq (by omega) (by omega)]
    conv => lhs; unfold f12_raise_l67 f12_raise_j94
    cases ec : ra_c g p d V h
    · have nb : ¬ (s = 0 ∧ V h 2 d = 0) := fun q => by
        unfold ra_c at ec
        rw [ehp, decide_eq_true q.1, decide_eq_true q.2] at ec
        exact absurd ec (by simp)
      rw [decide_eq_false nb] at k1
      have := q_bs_step.2 ec
      simp (disch := first | assumption | omega) only [q_lit, Int32.neg_neg, nI_add, pk_mul, q_sub, q_addn, q_nadd, q_lt, q_le, q_eq, q_eqn, q_neq, q_nen, q_ltn, q_nlt, q_len, q_nle, q_nltn, q_nlen, q_cl, q_ib, q_ibn, q_isz0, q_isz1, q_iszb, q_b0, q_b1, q_ng1, q_ng2, q_ng3, q_ng4, q_ng5, q_ng6, Bool.toNat_true, Bool.toNat_false, if_pos, if_neg, q_ct, q_cf, q_let, q_bd, q_it, q_if, Nat.zero_add, Nat.add_zero, true_and, and_true, false_and, and_false, or_false, false_or, or_true, true_or, Bool.true_eq_false, Bool.false_eq_true, wi_s, wi_o, wi_r, k1, l1, q_or, Nat.or_zero, this]
    · have yb : s = 0 ∧ V h 2 d = 0 := by
        unfold ra_c at ec
        rw [ehp, Bool.and_eq_true] at ec
        exact ⟨of_decide_eq_true ec.1, of_decide_eq_true ec.2⟩
      rw [decide_eq_true yb] at k1
      have := q_bs_step.1 ec
      simp (disch := first | assumption | omega) only [q_lit, Int32.neg_neg, nI_add, pk_mul, q_sub, q_addn, q_nadd, q_lt, q_le, q_eq, q_eqn, q_neq, q_nen, q_ltn, q_nlt, q_len, q_nle, q_nltn, q_nlen, q_cl, q_ib, q_ibn, q_isz0, q_isz1, q_iszb, q_b0, q_b1, q_ng1, q_ng2, q_ng3, q_ng4, q_ng5, q_ng6, Bool.toNat_true, Bool.toNat_false, if_pos, if_neg, q_ct, q_cf, q_let, q_bd, q_it, q_if, Nat.zero_add, Nat.add_zero, true_and, and_true, false_and, and_false, or_false, false_or, or_true, true_or, Bool.true_eq_false, Bool.false_eq_true, wi_s, wi_o, wi_r, k1, l1, q_or, q_1sl, this]
theorem m_rs {K : ph_Mem} {p s : Nat} (hp : p < 6) (hs : s < 4096) {wo lm : Nat → Nat} (hwo : ∀ h, h < 12 → wo h ≤ 99 ∧ K.1 2 (367 + (12 * p + h)) = nI (wo h)) (hlm : ∀ h, h < 12 → lm h ≤ 999 ∧ K.1 17 h = nI (lm h)) (rc : Int32 → Int32 → Int32 → Int32 → Int32 → Int32 → Int32 → Int32 → Int32 → Int32 → ph_Mem → Option (Int32 × ph_Mem)) (x2 x4 x5 x6 x7 x8 x9 x10 : Int32) : ∀ (r h fuel : Nat), h + r = 12 → r < fuel → f12_raise_l159 rc fuel (nI p) x2 x4 x5 x6 x7 x8 x9 x10 (nI s) (nI (ra_s wo s h)) (nI (ra_s lm s h)) (nI h) K = f12_raise_j232 rc (nI p) x2 x4 x5 x6 x7 x8 x9 x10 (nI s) (nI (ra_s wo s 12)) (nI (ra_s lm s 12)) K
  | 0, h, f + 1, e, _ => by
    have : h = 12 := by omega
    subst this
    unfold f12_raise_l159
    simp (disch := first | assumption | omega) only [q_lit, Int32.neg_neg, nI_add, pk_mul, q_sub, q_addn, q_nadd, q_lt, q_le, q_eq, q_eqn, q_neq, q_nen, q_ltn, q_nlt, q_len, q_nle, q_nltn, q_nlen, q_cl, q_ib, q_ibn, q_isz0, q_isz1, q_iszb, q_b0, q_b1, q_ng1, q_ng2, q_ng3, q_ng4, q_ng5, q_ng6, Bool.toNat_true, Bool.toNat_false, if_pos, if_neg, q_ct, q_cf, q_let, q_bd, q_it, q_if, Nat.zero_add, Nat.add_zero, true_and, and_true, false_and, and_false, or_false, false_or, or_true, true_or, Bool.true_eq_false, Bool.false_eq_true, wi_s, wi_o, wi_r]
  | r + 1, h, f + 1, e, hf => by
    have ih := m_rs hp hs hwo hlm rc x2 x4 x5 x6 x7 x8 x9 x10 r (h + 1) f (by omega) (by omega)
    have a1 := hwo h (by omega)
    have a2 := hlm h (by omega)
    rw [← ih, ra_s, ra_s]
    conv => lhs; unfold f12_raise_l159 f12_raise_j197 f12_raise_j223
    cases eb : s.testBit h
    · simp (disch := first | assumption | omega) only [q_lit, Int32.neg_neg, nI_add, pk_mul, q_sub, q_addn, q_nadd, q_lt, q_le, q_eq, q_eqn, q_neq, q_nen, q_ltn, q_nlt, q_len, q_nle, q_nltn, q_nlen, q_cl, q_ib, q_ibn, q_isz0, q_isz1, q_iszb, q_b0, q_b1, q_ng1, q_ng2, q_ng3, q_ng4, q_ng5, q_ng6, Bool.toNat_true, Bool.toNat_false, if_pos, if_neg, q_ct, q_cf, q_let, q_bd, q_it, q_if, Nat.zero_add, Nat.add_zero, true_and, and_true, false_and, and_false, or_false, false_or, or_true, true_or, Bool.true_eq_false, Bool.false_eq_true, wi_s, wi_o, wi_r, m_bit, eb]
    · simp (disch := first | assumption | omega) only [q_lit, Int32.neg_neg, nI_add, pk_mul, q_sub, q_addn, q_nadd, q_lt, q_le, q_eq, q_eqn, q_neq, q_nen, q_ltn, q_nlt, q_len, q_nle, q_nltn, q_nlen, q_cl, q_ib, q_ibn, q_isz0, q_isz1, q_iszb, q_b0, q_b1, q_ng1, q_ng2, q_ng3, q_ng4, q_ng5, q_ng6, Bool.toNat_true, Bool.toNat_false, if_pos, if_neg, q_ct, q_cf, q_let, q_bd, q_it, q_if, Nat.zero_add, Nat.add_zero, true_and, and_true, false_and, and_false, or_false, false_or, or_true, true_or, Bool.true_eq_false, Bool.false_eq_true, wi_s, wi_o, wi_r, m_bit, eb, m_place, a1.2, a2.2]
def ra_em (o : raT) (x8 x9 x10 : Int32) : Prop := (o = none ∧ x8 = -nI 1) ∨ ∃ s w l, o = some (s, w, l) ∧ s < 4096 ∧ w ≤ 1188 ∧ x8 = nI s ∧ x9 = nI w ∧ x10 = nI l
theorem m_ra {g : Nat → Int32} {p sum must may held n : Nat} (hp : p < n) (hn : n ≤ 6) (hsum : sum ≤ 9999) (hmust : must < 256) (hmay : may < 4096) (hheld : held = q_bs (hP g p 0) 12) (hfo : q_fo g p) {wo lm ln : Nat → Nat} (hln : ∀ h, may.testBit h = true → ln h = lm h) (K0 : ph_Mem) (hg : K0.1 2 = g) (hwo : ∀ h, h < 12 → wo h ≤ 99 ∧ K0.1 2 (367 + (12 * p + h)) = nI (wo h)) (hlm : ∀ h, h < 12 → lm h ≤ 999 ∧ K0.1 17 h = nI (lm h)) (x4 : Int32) : ∀ (r s fuel : Nat) (K : ph_Mem) (st : raT) (x8 x9 x10 : Int32), s + r = 4096 → r < fuel → (∀ e j, e ≠ 15 → K.1 e j = K0.1 e j) → ra_em st x8 x9 x10 → ∃ (K' : ph_Mem) (st' : raT) (y8 y9 y10 : Int32), f12_raise_l129 fuel (nI p) (nI sum) x4 (nI held) (nI must) (nI may) x8 x9 x10 (nI s) K = f12_raise_j292 x4 y8 y9 y10 K' ∧ ra_F g p may must sum ln wo s r st st' ∧ ra_em st' y8 y9 y10 ∧ (∀ e j, e ≠ 15 → K'.1 e j = K0.1 e j)
  | 0, s, f + 1, K, st, x8, x9, x10, e, _, m1, m2 => by
    have : s = 4096 := by omega
    subst this
    refine ⟨K, st, x8, x9, x10, ?_, rfl, m2, m1⟩
    unfold f12_raise_l129
    simp (disch := first | assumption | omega) only [q_lit, Int32.neg_neg, nI_add, pk_mul, q_sub, q_addn, q_nadd, q_lt, q_le, q_eq, q_eqn, q_neq, q_nen, q_ltn, q_nlt, q_len, q_nle, q_nltn, q_nlen, q_cl, q_ib, q_ibn, q_isz0, q_isz1, q_iszb, q_b0, q_b1, q_ng1, q_ng2, q_ng3, q_ng4, q_ng5, q_ng6, Bool.toNat_true, Bool.toNat_false, if_pos, if_neg, q_ct, q_cf, q_let, q_bd, q_it, q_if, Nat.zero_add, Nat.add_zero, true_and, and_true, false_and, and_false, or_false, false_or, or_true, true_or, Bool.true_eq_false, Bool.false_eq_true, wi_s, wi_o, wi_r]
  | r + 1, s, f + 1, K, st, x8, x9, x10, e, hf, m1, m2 => by
    have hsv : s < 4096 := by omega
    have bW := ra_s_le (m := 99) (f := wo) s 12 (fun h hh => (hwo h hh).1)
    have bL := ra_s_le (m := 999) (f := lm) s 12 (fun h hh => (hlm h hh).1)
    have kw : ∀ h, h < 12 → wo h ≤ 99 ∧ K.1 2 (367 + (12 * p + h)) = nI (wo h) := fun h hh => ⟨(hwo h hh).1, (m1 2 _ (by omega)).trans (hwo h hh).2⟩
    have kl : ∀ h, h < 12 → lm h ≤ 999 ∧ K.1 17 h = nI (lm h) := fun h hh => ⟨(hlm h hh).1, (m1 17 _ (by omega)).trans (hlm h hh).2⟩
    have run := m_rs (K := K) (show p < 6 by omega) hsv kw kl (f12_raise_l129 f) (nI sum) x4 (nI held) (nI must) (nI may) x8 x9 x10 12 0 10000 (by omega) (by omega)
    -- not this one
    have stay : ∀ K1 : ph_Mem, (∀ e j, e ≠ 15 → K1.1 e j = K0.1 e j) → ¬ (ra_ok g p may must sum ln s ∧ (st = none ∨ ∃ b l t, st = some (b, l, t) ∧ ra_s wo s 12 < l)) → ∃ (K' : ph_Mem) (st' : raT) (y8 y9 y10 : Int32), f12_raise_l129 f (nI p) (nI sum) x4 (nI held) (nI must) (nI may) x8 x9 x10 (nI (s + 1)) K1 = f12_raise_j292 x4 y8 y9 y10 K' ∧ ra_F g p may must sum ln wo s (r + 1) st st' ∧ ra_em st' y8 y9 y10 ∧ (∀ e j, e ≠ 15 → K'.1 e j = K0.1 e j) := by
      intro K1 q1 q2
      obtain ⟨K', st', y8, y9, y10, a1, a2, a3, a4⟩ := m_ra hp hn hsum hmust hmay hheld hfo hln K0 hg hwo hlm x4 r (s + 1) f K1 st x8 x9 x10 (by omega) (by omega) q1 m2
      exact ⟨K', st', y8, y9, y10, a1, ⟨st, ⟨fun q => absurd q q2, fun _ => rfl⟩, a2⟩, a3, a4⟩
    have an := q_an0 (a := s) (b := may) (by omega)
    by_cases hm : ∀ i, s.testBit i = true → may.testBit i = true
    · have an' : nI s &&& (nI may ^^^ -nI 1) = nI 0 := by rw [an]; exact hm
      have eL : ra_s lm s 12 = ra_s ln s 12 := ra_s_ext 12 (fun h _ => ⟨rfl, fun hb => (hln h (hm h hb)).symm⟩)
      have un : f12_raise_l129 (f + 1) (nI p) (nI sum) x4 (nI held) (nI must) (nI may) x8 x9 x10 (nI s) K = f12_raise_j232 (f12_raise_l129 f) (nI p) (nI sum) x4 (nI held) (nI must) (nI may) x8 x9 x10 (nI s) (nI (ra_s wo s 12)) (nI (ra_s lm s 12)) K := by
        rw [← run]
        conv => lhs; unfold f12_raise_l129
        simp (disch := first | assumption | omega) only [q_lit, Int32.neg_neg, nI_add, pk_mul, q_sub, q_addn, q_nadd, q_lt, q_le, q_eq, q_eqn, q_neq, q_nen, q_ltn, q_nlt, q_len, q_nle, q_nltn, q_nlen, q_cl, q_ib, q_ibn, q_isz0, q_isz1, q_iszb, q_b0, q_b1, q_ng1, q_ng2, q_ng3, q_ng4, q_ng5, q_ng6, Bool.toNat_true, Bool.toNat_false, if_pos, if_neg, q_ct, q_cf, q_let, q_bd, q_it, q_if, Nat.zero_add, Nat.add_zero, true_and, and_true, false_and, and_false, or_false, false_or, or_true, true_or, Bool.true_eq_false, Bool.false_eq_true, wi_s, wi_o, wi_r, an', ra_s]
      rw [un]
      rw [eL] at bL ⊢
      by_cases hc2 : sum ≤ ra_s ln s 12
      · by_cases hc1 : st = none ∨ ∃ b l t, st = some (b, l, t) ∧ ra_s wo s 12 < l
        · have go : f12_raise_j232 (f12_raise_l129 f) (nI p) (nI sum) x4 (nI held) (nI must) (nI may) x8 x9 x10 (nI s) (nI (ra_s wo s 12)) (nI (ra_s ln s 12)) K = f12_raise_j251 (f12_raise_l129 f) (nI p) (nI sum) x4 (nI held) (nI must) (nI may) x8 x9 x10 (nI s) (nI (ra_s wo s 12)) (nI (ra_s ln s 12)) K := by
            unfold f12_raise_j232
            rcases m2 with ⟨z1, z2⟩ | ⟨a, b, c, z1, z2, z3, z4, z5, z6⟩
            · simp (disch := first | assumption | omega) only [q_lit, Int32.neg_neg, nI_add, pk_mul, q_sub, q_addn, q_nadd, q_lt, q_le, q_eq, q_eqn, q_neq, q_nen, q_ltn, q_nlt, q_len, q_nle, q_nltn, q_nlen, q_cl, q_ib, q_ibn, q_isz0, q_isz1, q_iszb, q_b0, q_b1, q_ng1, q_ng2, q_ng3, q_ng4, q_ng5, q_ng6, Bool.toNat_true, Bool.toNat_false, if_pos, if_neg, q_ct, q_cf, q_let, q_bd, q_it, q_if, Nat.zero_add, Nat.add_zero, true_and, and_true, false_and, and_false, or_false, false_or, or_true, true_or, Bool.true_eq_false, Bool.false_eq_true, wi_s, wi_o, wi_r, z2]
            · rcases hc1 with q | ⟨b', l', t', q1, q2⟩
              · rw [z1] at q; exact absurd q (by simp)
              · rw [z1] at q1
                injection q1 with q1
                injection q1 with q3 q4
                injection q4 with q5 q6
                have hlt : ra_s wo s 12 < b := by omega
                simp (disch := first | assumption | omega) only [q_lit, Int32.neg_neg, nI_add, pk_mul, q_sub, q_addn, q_nadd, q_lt, q_le, q_eq, q_eqn, q_neq, q_nen, q_ltn, q_nlt, q_len, q_nle, q_nltn, q_nlen, q_cl, q_ib, q_ibn, q_isz0, q_isz1, q_iszb, q_b0, q_b1, q_ng1, q_ng2, q_ng3, q_ng4, q_ng5, q_ng6, Bool.toNat_true, Bool.toNat_false, if_pos, if_neg, q_ct, q_cf, q_let, q_bd, q_it, q_if, Nat.zero_add, Nat.add_zero, true_and, and_true, false_and, and_false, or_false, false_or, or_true, true_or, Bool.true_eq_false, Bool.false_eq_true, wi_s, wi_o, wi_r, z4, z5]
          rw [go]
          have hsl : held ^^^ (held &&& s) < 4096 := q_andn_lt (n := 12) (by rw [hheld]; exact q_bs_lt _ 12)
          have eg : K.1 2 = g := by rw [← hg]; exact funext fun j => m1 2 j (by omega)
          obtain ⟨K1, r1, r2, r3, r4⟩ := m_known (p := p) (hrs := held ^^^ (held &&& s)) (show p < 6 by omega) hsl (K := K) (by rw [eg]; exact hfo)
          rw [eg] at r1
          have ekn : q_kn g p (fun h => (held ^^^ (held &&& s)).testBit h) 12 = q_kn g p (q_hg g p s) 12 := q_kn_ext 12 (fun h hh => by
            rw [q_andn_b, hheld, q_bs_bit, decide_eq_true hh, Bool.true_and]
            rfl)
          rw [ekn] at r1
          have klt := q_kn_lt (H := q_hg g p s) hfo 12 (by omega)
          have k1 : ∀ e j, e ≠ 15 → K1.1 e j = K0.1 e j := fun e j he => (r3 e j (Or.inl he)).trans (m1 e j he)
          have an2 := q_an0 (a := must) (b := q_kn g p (q_hg g p s) 12) (by omega)
          unfold f12_raise_j251 f12_raise_j286
          by_cases hk : ∀ f, must.testBit f = true → (q_kn g p (q_hg g p s) 12).testBit f = true
          · have an2' : nI must &&& (nI (q_kn g p (q_hg g p s) 12) ^^^ -nI 1) = nI 0 := by rw [an2]; exact hk
            obtain ⟨K', st', y8, y9, y10, a1, a2, a3, a4⟩ := m_ra hp hn hsum hmust hmay hheld hfo hln K0 hg hwo hlm x4 r (s + 1) f K1 (some (s, ra_s wo s 12, ra_s ln s 12)) (nI s) (nI (ra_s wo s 12)) (nI (ra_s ln s 12)) (by omega) (by omega) k1 (Or.inr ⟨_, _, _, rfl, hsv, by omega, rfl, rfl, rfl⟩)
            refine ⟨K', st', y8, y9, y10, ?_, ⟨_, ⟨fun _ => rfl, fun q => absurd ⟨⟨hm, hc2, hk⟩, hc1⟩ q⟩, a2⟩, a3, a4⟩
            rw [← a1, q_lit, q_lit, q_andn, r1, q_bd, if_pos an2', nI_add]
          · have an2' : ¬ nI must &&& (nI (q_kn g p (q_hg g p s) 12) ^^^ -nI 1) = nI 0 := by rw [an2]; exact hk
            obtain ⟨K', st', y8, y9, y10, a1, a2⟩ := stay K1 k1 (fun q => hk q.1.2.2)
            refine ⟨K', st', y8, y9, y10, ?_, a2⟩
            rw [← a1, q_lit, q_lit, q_andn, r1, q_bd, if_neg an2', nI_add]
        · obtain ⟨K', st', y8, y9, y10, a1, a2⟩ := stay K m1 (fun q => hc1 q.2)
          refine ⟨K', st', y8, y9, y10, ?_, a2⟩
          rw [← a1]
          unfold f12_raise_j232 f12_raise_j286
          rcases m2 with ⟨z1, z2⟩ | ⟨a, b, c, z1, z2, z3, z4, z5, z6⟩
          · exact absurd (Or.inl z1) hc1
          · have : ¬ ra_s wo s 12 < b := fun q => hc1 (Or.inr ⟨a, b, c, z1, q⟩)
            simp (disch := first | assumption | omega) only [q_lit, Int32.neg_neg, nI_add, pk_mul, q_sub, q_addn, q_nadd, q_lt, q_le, q_eq, q_eqn, q_neq, q_nen, q_ltn, q_nlt, q_len, q_nle, q_nltn, q_nlen, q_cl, q_ib, q_ibn, q_isz0, q_isz1, q_iszb, q_b0, q_b1, q_ng1, q_ng2, q_ng3, q_ng4, q_ng5, q_ng6, Bool.toNat_true, Bool.toNat_false, if_pos, if_neg, q_ct, q_cf, q_let, q_bd, q_it, q_if, Nat.zero_add, Nat.add_zero, true_and, and_true, false_and, and_false, or_false, false_or, or_true, true_or, Bool.true_eq_false, Bool.false_eq_true, wi_s, wi_o, wi_r, z4, z5]
      · obtain ⟨K', st', y8, y9, y10, a1, a2⟩ := stay K m1 (fun q => hc2 q.1.2.1)
        refine ⟨K', st', y8, y9, y10, ?_, a2⟩
        rw [← a1]
        unfold f12_raise_j232 f12_raise_j286
        simp (disch := first | assumption | omega) only [q_lit, Int32.neg_neg, nI_add, pk_mul, q_sub, q_addn, q_nadd, q_lt, q_le, q_eq, q_eqn, q_neq, q_nen, q_ltn, q_nlt, q_len, q_nle, q_nltn, q_nlen, q_cl, q_ib, q_ibn, q_isz0, q_isz1, q_iszb, q_b0, q_b1, q_ng1, q_ng2, q_ng3, q_ng4, q_ng5, q_ng6, Bool.toNat_true, Bool.toNat_false, if_pos, if_neg, q_ct, q_cf, q_let, q_bd, q_it, q_if, Nat.zero_add, Nat.add_zero, true_and, and_true, false_and, and_false, or_false, false_or, or_true, true_or, Bool.true_eq_false, Bool.false_eq_true, wi_s, wi_o, wi_r]
    · have an' : ¬ nI s &&& (nI may ^^^ -nI 1) = nI 0 := by rw [an]; exact hm
      obtain ⟨K', st', y8, y9, y10, a1, a2⟩ := stay K m1 (fun q => hm q.1.1)
      refine ⟨K', st', y8, y9, y10, ?_, a2⟩
      rw [← a1]
      conv => lhs; unfold f12_raise_l129 f12_raise_j286
      simp (disch := first | assumption | omega) only [q_lit, Int32.neg_neg, nI_add, pk_mul, q_sub, q_addn, q_nadd, q_lt, q_le, q_eq, q_eqn, q_neq, q_nen, q_ltn, q_nlt, q_len, q_nle, q_nltn, q_nlen, q_cl, q_ib, q_ibn, q_isz0, q_isz1, q_iszb, q_b0, q_b1, q_ng1, q_ng2, q_ng3, q_ng4, q_ng5, q_ng6, Bool.toNat_true, Bool.toNat_false, if_pos, if_neg, q_ct, q_cf, q_let, q_bd, q_it, q_if, Nat.zero_add, Nat.add_zero, true_and, and_true, false_and, and_false, or_false, false_or, or_true, true_or, Bool.true_eq_false, Bool.false_eq_true, wi_s, wi_o, wi_r, an']
