/-! PURE HALF: learned, met, stray -/
/-- what all know is laid -/
def q_laid (K : ph_Mem) (g : Nat → Int32) (p : Nat) : Prop := K.1 16 p = nI (q_kn g p (hP g p 0) 12) ∧ ∀ f, f < 8 → (q_kn g p (hP g p 0) 12).testBit f = true → ∃ j, q_lh g p f (hP g p 0) j ∧ K.1 15 (8 * p + f) = nI j
theorem m_lays_l {n : Nat} (hn : n ≤ 6) (K0 : ph_Mem) (hK : K0.1 2 475 = nI n) (hg : ∀ p, p < n → q_fo (K0.1 2) p) : ∀ (r i fuel : Nat) (K : ph_Mem), i + r = n → r < fuel → (∀ p, p < i → q_laid K (K0.1 2) p) → (∀ c j, c ≠ 15 → c ≠ 16 → K.1 c j = K0.1 c j) → K.2 = K0.2 → ∃ K', f12_laysKnown_l2 fuel (nI i) K = some K' ∧ (∀ p, p < n → q_laid K' (K0.1 2) p) ∧ (∀ c j, c ≠ 15 → c ≠ 16 → K'.1 c j = K0.1 c j) ∧ K'.2 = K0.2
  | 0, i, f + 1, K, e, _, h1, h2, h3 => by
    have : i = n := by omega
    subst this
    refine ⟨K, ?_, h1, h2, h3⟩
    unfold f12_laysKnown_l2 f12_people
    simp (disch := first | assumption | omega) only [q_lit, Int32.neg_neg, nI_add, pk_mul, q_sub, q_addn, q_nadd, q_lt, q_le, q_eq, q_eqn, q_neq, q_nen, q_ltn, q_nlt, q_len, q_nle, q_nltn, q_nlen, q_cl, q_ib, q_ibn, q_isz0, q_isz1, q_iszb, q_b0, q_b1, q_ng1, q_ng2, q_ng3, q_ng4, q_ng5, q_ng6, Bool.toNat_true, Bool.toNat_false, if_pos, if_neg, q_ct, q_cf, q_let, q_bd, q_it, q_if, Nat.zero_add, Nat.add_zero, true_and, and_true, false_and, and_false, or_false, false_or, or_true, true_or, Bool.true_eq_false, Bool.false_eq_true, wi_s, wi_o, wi_r, h2 2 475, hK]
  | r + 1, i, f + 1, K, e, hf, h1, h2, h3 => by
    have eg : K.1 2 = K0.1 2 := funext fun j => h2 2 j (by omega) (by omega)
    have hgi : q_fo (K.1 2) i := by rw [eg]; exact hg i (by omega)
    obtain ⟨K1, r1, r2, r3, r4⟩ := m_kn0 (p := i) (by omega) hgi
    rw [eg] at r1 r2
    have hm : f12_hoursIn K (nI i) (nI 0) = some (nI (q_bs (hP (K0.1 2) i 0) 12)) := by rw [← eg]; exact m_hrs (by omega)
    obtain ⟨K', y1, y2, y3, y4⟩ := m_lays_l hn K0 hK hg r (i + 1) f (ph_wi K1 16 i (nI (q_kn (K0.1 2) i (hP (K0.1 2) i 0) 12))) (by omega) (by omega) (fun p hp => by
      by_cases ep : p = i
      · subst ep
        refine ⟨by simp (disch := first | assumption | omega) only [q_lit, Int32.neg_neg, nI_add, pk_mul, q_sub, q_addn, q_nadd, q_lt, q_le, q_eq, q_eqn, q_neq, q_nen, q_ltn, q_nlt, q_len, q_nle, q_nltn, q_nlen, q_cl, q_ib, q_ibn, q_isz0, q_isz1, q_iszb, q_b0, q_b1, q_ng1, q_ng2, q_ng3, q_ng4, q_ng5, q_ng6, Bool.toNat_true, Bool.toNat_false, if_pos, if_neg, q_ct, q_cf, q_let, q_bd, q_it, q_if, Nat.zero_add, Nat.add_zero, true_and, and_true, false_and, and_false, or_false, false_or, or_true, true_or, Bool.true_eq_false, Bool.false_eq_true, wi_s, wi_o, wi_r], fun f hf hb => ?_⟩
        obtain ⟨j, j1, j2⟩ := r2 f hf hb
        exact ⟨j, j1, by simp (disch := first | assumption | omega) only [q_lit, Int32.neg_neg, nI_add, pk_mul, q_sub, q_addn, q_nadd, q_lt, q_le, q_eq, q_eqn, q_neq, q_nen, q_ltn, q_nlt, q_len, q_nle, q_nltn, q_nlen, q_cl, q_ib, q_ibn, q_isz0, q_isz1, q_iszb, q_b0, q_b1, q_ng1, q_ng2, q_ng3, q_ng4, q_ng5, q_ng6, Bool.toNat_true, Bool.toNat_false, if_pos, if_neg, q_ct, q_cf, q_let, q_bd, q_it, q_if, Nat.zero_add, Nat.add_zero, true_and, and_true, false_and, and_false, or_false, false_or, or_true, true_or, Bool.true_eq_false, Bool.false_eq_true, wi_s, wi_o, wi_r]; exact j2⟩
      · obtain ⟨q1, q2⟩ := h1 p (by omega)
        refine ⟨by simp (disch := first | assumption | omega) only [q_lit, Int32.neg_neg, nI_add, pk_mul, q_sub, q_addn, q_nadd, q_lt, q_le, q_eq, q_eqn, q_neq, q_nen, q_ltn, q_nlt, q_len, q_nle, q_nltn, q_nlen, q_cl, q_ib, q_ibn, q_isz0, q_isz1, q_iszb, q_b0, q_b1, q_ng1, q_ng2, q_ng3, q_ng4, q_ng5, q_ng6, Bool.toNat_true, Bool.toNat_false, if_pos, if_neg, q_ct, q_cf, q_let, q_bd, q_it, q_if, Nat.zero_add, Nat.add_zero, true_and, and_true, false_and, and_false, or_false, false_or, or_true, true_or, Bool.true_eq_false, Bool.false_eq_true, wi_s, wi_o, wi_r]; rw [r3 _ _ (by omega)]; exact q1, fun f hf hb => ?_⟩
        obtain ⟨j, j1, j2⟩ := q2 f hf hb
        exact ⟨j, j1, by simp (disch := first | assumption | omega) only [q_lit, Int32.neg_neg, nI_add, pk_mul, q_sub, q_addn, q_nadd, q_lt, q_le, q_eq, q_eqn, q_neq, q_nen, q_ltn, q_nlt, q_len, q_nle, q_nltn, q_nlen, q_cl, q_ib, q_ibn, q_isz0, q_isz1, q_iszb, q_b0, q_b1, q_ng1, q_ng2, q_ng3, q_ng4, q_ng5, q_ng6, Bool.toNat_true, Bool.toNat_false, if_pos, if_neg, q_ct, q_cf, q_let, q_bd, q_it, q_if, Nat.zero_add, Nat.add_zero, true_and, and_true, false_and, and_false, or_false, false_or, or_true, true_or, Bool.true_eq_false, Bool.false_eq_true, wi_s, wi_o, wi_r]; rw [r3 _ _ (by omega)]; exact j2⟩) (fun c j hc hd => by rw [wi_c hd, r3 c j (by omega)]; exact h2 c j hc hd) (r4.trans h3)
    refine ⟨K', ?_, y2, y3, y4⟩
    unfold f12_laysKnown_l2 f12_people
    simp (disch := first | assumption | omega) only [q_lit, Int32.neg_neg, nI_add, pk_mul, q_sub, q_addn, q_nadd, q_lt, q_le, q_eq, q_eqn, q_neq, q_nen, q_ltn, q_nlt, q_len, q_nle, q_nltn, q_nlen, q_cl, q_ib, q_ibn, q_isz0, q_isz1, q_iszb, q_b0, q_b1, q_ng1, q_ng2, q_ng3, q_ng4, q_ng5, q_ng6, Bool.toNat_true, Bool.toNat_false, if_pos, if_neg, q_ct, q_cf, q_let, q_bd, q_it, q_if, Nat.zero_add, Nat.add_zero, true_and, and_true, false_and, and_false, or_false, false_or, or_true, true_or, Bool.true_eq_false, Bool.false_eq_true, wi_s, wi_o, wi_r, h2 2 475, hK, hm, r1]
    exact y1
theorem m_lays {n : Nat} (hn : n ≤ 6) {K : ph_Mem} (hK : K.1 2 475 = nI n) (hg : ∀ p, p < n → q_fo (K.1 2) p) : ∃ K', f12_laysKnown K = some K' ∧ (∀ p, p < n → q_laid K' (K.1 2) p) ∧ (∀ c j, c ≠ 15 → c ≠ 16 → K'.1 c j = K.1 c j) ∧ K'.2 = K.2 := m_lays_l hn K hK hg n 0 10000 K (by omega) (by omega) (fun p hp => absurd hp (by omega)) (fun _ _ _ _ => rfl) rfl
theorem m_doKnow {K : ph_Mem} {g : Nat → Int32} {p f : Nat} (hp : p < 6) (hf : f < 8) (hg : q_fo g p) (h : q_laid K g p) : f12_doKnow K (nI p) (nI f) = some (nI ((q_kn g p (hP g p 0) 12).testBit f).toNat) := by
  unfold f12_doKnow
  have := q_kn_lt (H := hP g p 0) hg 12 (by omega)
  simp (disch := first | assumption | omega) only [q_lit, Int32.neg_neg, nI_add, pk_mul, q_sub, q_addn, q_nadd, q_lt, q_le, q_eq, q_eqn, q_neq, q_nen, q_ltn, q_nlt, q_len, q_nle, q_nltn, q_nlen, q_cl, q_ib, q_ibn, q_isz0, q_isz1, q_iszb, q_b0, q_b1, q_ng1, q_ng2, q_ng3, q_ng4, q_ng5, q_ng6, Bool.toNat_true, Bool.toNat_false, if_pos, if_neg, q_ct, q_cf, q_let, q_bd, q_it, q_if, Nat.zero_add, Nat.add_zero, true_and, and_true, false_and, and_false, or_false, false_or, or_true, true_or, Bool.true_eq_false, Bool.false_eq_true, wi_s, wi_o, wi_r, h.1, m_bit]
theorem s_learned {RL : rLT} (hRL : rLoc RL) : lws_learned (Rel RL) := by
  intro S X K h a1 a2
  obtain ⟨n, t, hs, hl⟩ := h.2.2.2.2.2
  have hn := hs.1.1
  unfold f11_learned f12_learned
  obtain ⟨b, e1, e2, e3, _⟩ := d_pers S hs.1.2.2.1 hs.1.2.2.2.1 hs.1.1 a1
  cases b
  · simp (disch := first | assumption | omega) only [q_lit, Int32.neg_neg, nI_add, pk_mul, q_sub, q_addn, q_nadd, q_lt, q_le, q_eq, q_eqn, q_neq, q_nen, q_ltn, q_nlt, q_len, q_nle, q_nltn, q_nlen, q_cl, q_ib, q_ibn, q_isz0, q_isz1, q_iszb, q_b0, q_b1, q_ng1, q_ng2, q_ng3, q_ng4, q_ng5, q_ng6, Bool.toNat_true, Bool.toNat_false, if_pos, if_neg, q_ct, q_cf, q_let, q_bd, q_it, q_if, Nat.zero_add, Nat.add_zero, true_and, and_true, false_and, and_false, or_false, false_or, or_true, true_or, Bool.true_eq_false, Bool.false_eq_true, wi_s, wi_o, wi_r, e1, e2]
    exact ⟨_, _, rfl, rfl, h⟩
  obtain ⟨p, hp, rfl⟩ := e3 rfl
  obtain ⟨b, f1, f2, f3⟩ := d_fact S X K a2
  cases b
  · simp (disch := first | assumption | omega) only [q_lit, Int32.neg_neg, nI_add, pk_mul, q_sub, q_addn, q_nadd, q_lt, q_le, q_eq, q_eqn, q_neq, q_nen, q_ltn, q_nlt, q_len, q_nle, q_nltn, q_nlen, q_cl, q_ib, q_ibn, q_isz0, q_isz1, q_iszb, q_b0, q_b1, q_ng1, q_ng2, q_ng3, q_ng4, q_ng5, q_ng6, Bool.toNat_true, Bool.toNat_false, if_pos, if_neg, q_ct, q_cf, q_let, q_bd, q_it, q_if, Nat.zero_add, Nat.add_zero, true_and, and_true, false_and, and_false, or_false, false_or, or_true, true_or, Bool.true_eq_false, Bool.false_eq_true, wi_s, wi_o, wi_r, e1, e2, f1, f2]
    exact ⟨_, _, rfl, rfl, h⟩
  obtain ⟨f, hf, rfl⟩ := f3 rfl
  obtain ⟨K', k1, k2, k3, k4⟩ := m_lays hn hs.1.2.2.2.1 (fun p hp => (rSt_rd hs hp).2.2)
  have hr := rSt_rd hs hp
  have rel : Rel RL S X K' := Rel_fr hRL h (fun _ _ _ => rfl) (fun _ _ _ => rfl) (fun c j hc => k3 c j (by unfold rKj at hc; omega) (by unfold rKj at hc; omega))
  have dk := m_doKnow (f := f) (show p < 6 by omega) hf hr.2.2 (k2 p hp)
  rcases x_lh (S := S) hr (show p < 6 by omega) hf with ⟨j, j1, j2⟩ | ⟨j1, j2⟩
  · have hb : (q_kn (K.1 2) p (hP (K.1 2) p 0) 12).testBit f = true := by
      have := q_kn_mono j1.2.2 (12 - (j + 1))
      rw [show j + 1 + (12 - (j + 1)) = 12 by have := j1.1; omega] at this
      exact this
    obtain ⟨j', q1, q2⟩ := (k2 p hp).2 f hf hb
    have ej := q_lh_un j1 q1
    subst ej
    simp (disch := first | assumption | omega) only [q_lit, Int32.neg_neg, nI_add, pk_mul, q_sub, q_addn, q_nadd, q_lt, q_le, q_eq, q_eqn, q_neq, q_nen, q_ltn, q_nlt, q_len, q_nle, q_nltn, q_nlen, q_cl, q_ib, q_ibn, q_isz0, q_isz1, q_iszb, q_b0, q_b1, q_ng1, q_ng2, q_ng3, q_ng4, q_ng5, q_ng6, Bool.toNat_true, Bool.toNat_false, if_pos, if_neg, q_ct, q_cf, q_let, q_bd, q_it, q_if, Nat.zero_add, Nat.add_zero, true_and, and_true, false_and, and_false, or_false, false_or, or_true, true_or, Bool.true_eq_false, Bool.false_eq_true, wi_s, wi_o, wi_r, e1, e2, f1, f2, k1, j2, dk, hb, q2]
    exact ⟨_, _, rfl, rfl, rel⟩
  · simp (disch := first | assumption | omega) only [q_lit, Int32.neg_neg, nI_add, pk_mul, q_sub, q_addn, q_nadd, q_lt, q_le, q_eq, q_eqn, q_neq, q_nen, q_ltn, q_nlt, q_len, q_nle, q_nltn, q_nlen, q_cl, q_ib, q_ibn, q_isz0, q_isz1, q_iszb, q_b0, q_b1, q_ng1, q_ng2, q_ng3, q_ng4, q_ng5, q_ng6, Bool.toNat_true, Bool.toNat_false, if_pos, if_neg, q_ct, q_cf, q_let, q_bd, q_it, q_if, Nat.zero_add, Nat.add_zero, true_and, and_true, false_and, and_false, or_false, false_or, or_true, true_or, Bool.true_eq_false, Bool.false_eq_true, wi_s, wi_o, wi_r, e1, e2, f1, f2, k1, j2, dk, j1]
    exact ⟨_, _, rfl, rfl, rel⟩
/-- two met -/
def q_wt (g : Nat → Int32) (p h q : Nat) : Bool := (g (295 + (12 * p + h))).toNatClampNeg.testBit q
def q_met (g : Nat → Int32) (a b h : Nat) : Bool := hP g a 0 h && hP g b 0 h && q_wt g a h b && q_wt g b h a
theorem q_met_c (g : Nat → Int32) (a b h : Nat) : q_met g a b h = q_met g b a h := by
  unfold q_met
  cases hP g a 0 h <;> cases hP g b 0 h <;> cases q_wt g a h b <;> cases q_wt g b h a <;> rfl
/-- with whom, as a number -/
theorem rSt_wt {RL : rLT} {S : ph_Sh} {X : ph_Mem} {c : Nat} {g : Nat → Int32} {n t p h : Nat} (hs : rSt RL S X c g n t) (hp : p < n) (hh : h < 12) : ∃ v, v < 64 ∧ v < 2 ^ n ∧ X.1 (c + 3) (12 * p + h) = nI v ∧ g (295 + (12 * p + h)) = nI v := by
  obtain ⟨p1, p2⟩ := q_p6 hs.1.1
  obtain ⟨c1, c2, c3, ⟨v, v1, v2⟩, _⟩ := hs.2.2.1.1 (12 * p + h) (by omega)
  exact ⟨v, by omega, by omega, c3.trans v2, v2⟩
theorem x_with {RL : rLT} {S : ph_Sh} {X : ph_Mem} {c : Nat} {g : Nat → Int32} {n t p h q : Nat} (hs : rSt RL S X c g n t) (hp : p < n) (hh : h < 12) (hq : q < 31) : f9_wasWith S X c (nI p) (nI h) (nI q) = some (nI (q_wt g p h q).toNat) := by
  have hn := hs.1.1
  obtain ⟨v, v1, _, v2, v3⟩ := rSt_wt hs hp hh
  unfold f9_wasWith q_wt
  simp (disch := first | assumption | omega) only [q_lit, Int32.neg_neg, nI_add, pk_mul, q_sub, q_addn, q_nadd, q_lt, q_le, q_eq, q_eqn, q_neq, q_nen, q_ltn, q_nlt, q_len, q_nle, q_nltn, q_nlen, q_cl, q_ib, q_ibn, q_isz0, q_isz1, q_iszb, q_b0, q_b1, q_ng1, q_ng2, q_ng3, q_ng4, q_ng5, q_ng6, Bool.toNat_true, Bool.toNat_false, if_pos, if_neg, q_ct, q_cf, q_let, q_bd, q_it, q_if, Nat.zero_add, Nat.add_zero, true_and, and_true, false_and, and_false, or_false, false_or, or_true, true_or, Bool.true_eq_false, Bool.false_eq_true, wi_s, wi_o, wi_r, x_place, v2, v3, x_bit]
theorem m_with {RL : rLT} {S : ph_Sh} {X K : ph_Mem} {c : Nat} {n t p h q : Nat} (hs : rSt RL S X c (K.1 2) n t) (hp : p < n) (hh : h < 12) (hq : q < 31) : f12_isIn K (K.1 2 (295 + (12 * p + h))) (nI q) = some (nI (q_wt (K.1 2) p h q).toNat) := by
  obtain ⟨v, v1, _, v2, v3⟩ := rSt_wt hs hp hh
  unfold q_wt
  simp (disch := first | assumption | omega) only [q_lit, Int32.neg_neg, nI_add, pk_mul, q_sub, q_addn, q_nadd, q_lt, q_le, q_eq, q_eqn, q_neq, q_nen, q_ltn, q_nlt, q_len, q_nle, q_nltn, q_nlen, q_cl, q_ib, q_ibn, q_isz0, q_isz1, q_iszb, q_b0, q_b1, q_ng1, q_ng2, q_ng3, q_ng4, q_ng5, q_ng6, Bool.toNat_true, Bool.toNat_false, if_pos, if_neg, q_ct, q_cf, q_let, q_bd, q_it, q_if, Nat.zero_add, Nat.add_zero, true_and, and_true, false_and, and_false, or_false, false_or, or_true, true_or, Bool.true_eq_false, Bool.false_eq_true, wi_s, wi_o, wi_r, v3, m_bit]
theorem x_met {RL : rLT} {S : ph_Sh} {X : ph_Mem} {c : Nat} {g : Nat → Int32} {n t a b h : Nat} (hs : rSt RL S X c g n t) (ha : a < n) (hb : b < n) (hh : h < 12) : f9_metIn S X c (nI h) (nI a) (nI b) = some (nI (q_met g a b h).toNat) := by
  have hn := hs.1.1
  have e1 := x_holds (S := S) (show a < 6 by omega) hh ((rSt_rd hs ha).1 h hh).1
  have e2 := x_holds (S := S) (show b < 6 by omega) hh ((rSt_rd hs hb).1 h hh).1
  have e3 := x_with hs ha hh (show b < 31 by omega)
  have e4 := x_with hs hb hh (show a < 31 by omega)
  unfold f9_metIn q_met
  cases b1 : hP g a 0 h
  · simp (disch := first | assumption | omega) only [q_lit, Int32.neg_neg, nI_add, pk_mul, q_sub, q_addn, q_nadd, q_lt, q_le, q_eq, q_eqn, q_neq, q_nen, q_ltn, q_nlt, q_len, q_nle, q_nltn, q_nlen, q_cl, q_ib, q_ibn, q_isz0, q_isz1, q_iszb, q_b0, q_b1, q_ng1, q_ng2, q_ng3, q_ng4, q_ng5, q_ng6, Bool.toNat_true, Bool.toNat_false, if_pos, if_neg, q_ct, q_cf, q_let, q_bd, q_it, q_if, Nat.zero_add, Nat.add_zero, true_and, and_true, false_and, and_false, or_false, false_or, or_true, true_or, Bool.true_eq_false, Bool.false_eq_true, wi_s, wi_o, wi_r, e1, b1, Bool.false_and]
  cases b2 : hP g b 0 h
  · simp (disch := first | assumption | omega) only [q_lit, Int32.neg_neg, nI_add, pk_mul, q_sub, q_addn, q_nadd, q_lt, q_le, q_eq, q_eqn, q_neq, q_nen, q_ltn, q_nlt, q_len, q_nle, q_nltn, q_nlen, q_cl, q_ib, q_ibn, q_isz0, q_isz1, q_iszb, q_b0, q_b1, q_ng1, q_ng2, q_ng3, q_ng4, q_ng5, q_ng6, Bool.toNat_true, Bool.toNat_false, if_pos, if_neg, q_ct, q_cf, q_let, q_bd, q_it, q_if, Nat.zero_add, Nat.add_zero, true_and, and_true, false_and, and_false, or_false, false_or, or_true, true_or, Bool.true_eq_false, Bool.false_eq_true, wi_s, wi_o, wi_r, e1, b1, e2, b2, Bool.false_and, Bool.and_false]
  cases b3 : q_wt g a h b
  · simp (disch := first | assumption | omega) only [q_lit, Int32.neg_neg, nI_add, pk_mul, q_sub, q_addn, q_nadd, q_lt, q_le, q_eq, q_eqn, q_neq, q_nen, q_ltn, q_nlt, q_len, q_nle, q_nltn, q_nlen, q_cl, q_ib, q_ibn, q_isz0, q_isz1, q_iszb, q_b0, q_b1, q_ng1, q_ng2, q_ng3, q_ng4, q_ng5, q_ng6, Bool.toNat_true, Bool.toNat_false, if_pos, if_neg, q_ct, q_cf, q_let, q_bd, q_it, q_if, Nat.zero_add, Nat.add_zero, true_and, and_true, false_and, and_false, or_false, false_or, or_true, true_or, Bool.true_eq_false, Bool.false_eq_true, wi_s, wi_o, wi_r, e1, b1, e2, b2, e3, b3, Bool.false_and, Bool.and_false]
  cases b4 : q_wt g b h a
  · simp (disch := first | assumption | omega) only [q_lit, Int32.neg_neg, nI_add, pk_mul, q_sub, q_addn, q_nadd, q_lt, q_le, q_eq, q_eqn, q_neq, q_nen, q_ltn, q_nlt, q_len, q_nle, q_nltn, q_nlen, q_cl, q_ib, q_ibn, q_isz0, q_isz1, q_iszb, q_b0, q_b1, q_ng1, q_ng2, q_ng3, q_ng4, q_ng5, q_ng6, Bool.toNat_true, Bool.toNat_false, if_pos, if_neg, q_ct, q_cf, q_let, q_bd, q_it, q_if, Nat.zero_add, Nat.add_zero, true_and, and_true, false_and, and_false, or_false, false_or, or_true, true_or, Bool.true_eq_false, Bool.false_eq_true, wi_s, wi_o, wi_r, e1, b1, e2, b2, e3, b3, e4, b4, Bool.false_and, Bool.and_false]
  · simp (disch := first | assumption | omega) only [q_lit, Int32.neg_neg, nI_add, pk_mul, q_sub, q_addn, q_nadd, q_lt, q_le, q_eq, q_eqn, q_neq, q_nen, q_ltn, q_nlt, q_len, q_nle, q_nltn, q_nlen, q_cl, q_ib, q_ibn, q_isz0, q_isz1, q_iszb, q_b0, q_b1, q_ng1, q_ng2, q_ng3, q_ng4, q_ng5, q_ng6, Bool.toNat_true, Bool.toNat_false, if_pos, if_neg, q_ct, q_cf, q_let, q_bd, q_it, q_if, Nat.zero_add, Nat.add_zero, true_and, and_true, false_and, and_false, or_false, false_or, or_true, true_or, Bool.true_eq_false, Bool.false_eq_true, wi_s, wi_o, wi_r, e1, b1, e2, b2, e3, b3, e4, b4, Bool.and_true]
theorem m_met {RL : rLT} {S : ph_Sh} {X K : ph_Mem} {c : Nat} {n t a b h : Nat} (hs : rSt RL S X c (K.1 2) n t) (ha : a < n) (hb : b < n) (hh : h < 12) : f12_metIn K (nI a) (nI b) (nI h) = some (nI (q_met (K.1 2) a b h).toNat) := by
  have hn := hs.1.1
  have e1 := m_holds (K := K) (show a < 6 by omega) hh
  have e2 := m_holds (K := K) (show b < 6 by omega) hh
  have e3 := m_with hs ha hh (show b < 31 by omega)
  have e4 := m_with hs hb hh (show a < 31 by omega)
  unfold f12_metIn q_met
  cases b1 : hP (K.1 2) a 0 h
  · simp (disch := first | assumption | omega) only [q_lit, Int32.neg_neg, nI_add, pk_mul, q_sub, q_addn, q_nadd, q_lt, q_le, q_eq, q_eqn, q_neq, q_nen, q_ltn, q_nlt, q_len, q_nle, q_nltn, q_nlen, q_cl, q_ib, q_ibn, q_isz0, q_isz1, q_iszb, q_b0, q_b1, q_ng1, q_ng2, q_ng3, q_ng4, q_ng5, q_ng6, Bool.toNat_true, Bool.toNat_false, if_pos, if_neg, q_ct, q_cf, q_let, q_bd, q_it, q_if, Nat.zero_add, Nat.add_zero, true_and, and_true, false_and, and_false, or_false, false_or, or_true, true_or, Bool.true_eq_false, Bool.false_eq_true, wi_s, wi_o, wi_r, e1, b1, Bool.false_and]
  cases b2 : hP (K.1 2) b 0 h
  · simp (disch := first | assumption | omega) only [q_lit, Int32.neg_neg, nI_add, pk_mul, q_sub, q_addn, q_nadd, q_lt, q_le, q_eq, q_eqn, q_neq, q_nen, q_ltn, q_nlt, q_len, q_nle, q_nltn, q_nlen, q_cl, q_ib, q_ibn, q_isz0, q_isz1, q_iszb, q_b0, q_b1, q_ng1, q_ng2, q_ng3, q_ng4, q_ng5, q_ng6, Bool.toNat_true, Bool.toNat_false, if_pos, if_neg, q_ct, q_cf, q_let, q_bd, q_it, q_if, Nat.zero_add, Nat.add_zero, true_and, and_true, false_and, and_false, or_false, false_or, or_true, true_or, Bool.true_eq_false, Bool.false_eq_true, wi_s, wi_o, wi_r, e1, b1, e2, b2, Bool.false_and, Bool.and_false]
  cases b3 : q_wt (K.1 2) a h b
  · simp (disch := first | assumption | omega) only [q_lit, Int32.neg_neg, nI_add, pk_mul, q_sub, q_addn, q_nadd, q_lt, q_le, q_eq, q_eqn, q_neq, q_nen, q_ltn, q_nlt, q_len, q_nle, q_nltn, q_nlen, q_cl, q_ib, q_ibn, q_isz0, q_isz1, q_iszb, q_b0, q_b1, q_ng1, q_ng2, q_ng3, q_ng4, q_ng5, q_ng6, Bool.toNat_true, Bool.toNat_false, if_pos, if_neg, q_ct, q_cf, q_let, q_bd, q_it, q_if, Nat.zero_add, Nat.add_zero, true_and, and_true, false_and, and_false, or_false, false_or, or_true, true_or, Bool.true_eq_false, Bool.false_eq_true, wi_s, wi_o, wi_r, e1, b1, e2, b2, m_place, e3, b3, Bool.false_and, Bool.and_false]
  cases b4 : q_wt (K.1 2) b h a
  · simp (disch := first | assumption | omega) only [q_lit, Int32.neg_neg, nI_add, pk_mul, q_sub, q_addn, q_nadd, q_lt, q_le, q_eq, q_eqn, q_neq, q_nen, q_ltn, q_nlt, q_len, q_nle, q_nltn, q_nlen, q_cl, q_ib, q_ibn, q_isz0, q_isz1, q_iszb, q_b0, q_b1, q_ng1, q_ng2, q_ng3, q_ng4, q_ng5, q_ng6, Bool.toNat_true, Bool.toNat_false, if_pos, if_neg, q_ct, q_cf, q_let, q_bd, q_it, q_if, Nat.zero_add, Nat.add_zero, true_and, and_true, false_and, and_false, or_false, false_or, or_true, true_or, Bool.true_eq_false, Bool.false_eq_true, wi_s, wi_o, wi_r, e1, b1, e2, b2, m_place, e3, b3, e4, b4, Bool.false_and, Bool.and_false]
  · simp (disch := first | assumption | omega) only [q_lit, Int32.neg_neg, nI_add, pk_mul, q_sub, q_addn, q_nadd, q_lt, q_le, q_eq, q_eqn, q_neq, q_nen, q_ltn, q_nlt, q_len, q_nle, q_nltn, q_nlen, q_cl, q_ib, q_ibn, q_isz0, q_isz1, q_iszb, q_b0, q_b1, q_ng1, q_ng2, q_ng3, q_ng4, q_ng5, q_ng6, Bool.toNat_true, Bool.toNat_false, if_pos, if_neg, q_ct, q_cf, q_let, q_bd, q_it, q_if, Nat.zero_add, Nat.add_zero, true_and, and_true, false_and, and_false, or_false, false_or, or_true, true_or, Bool.true_eq_false, Bool.false_eq_true, wi_s, wi_o, wi_r, e1, b1, e2, b2, m_place, e3, b3, e4, b4, Bool.and_true]
theorem x_tog_l {RL : rLT} {S : ph_Sh} {X : ph_Mem} {g : Nat → Int32} {n t a b : Nat} (hs : rSt RL S X 11 g n t) (ha : a < n) (hb : b < n) : ∀ (k h fuel : Nat), h + k = 12 → k < fuel → f0_hoursTogether_l5 S X fuel (nI a) (nI b) (nI (q_bs (q_met g a b) h)) (nI h) = some (nI (q_bs (q_met g a b) 12))
  | 0, h, f + 1, e, _ => by
    have : h = 12 := by omega
    subst this
    unfold f0_hoursTogether_l5
    simp (disch := first | assumption | omega) only [q_lit, Int32.neg_neg, nI_add, pk_mul, q_sub, q_addn, q_nadd, q_lt, q_le, q_eq, q_eqn, q_neq, q_nen, q_ltn, q_nlt, q_len, q_nle, q_nltn, q_nlen, q_cl, q_ib, q_ibn, q_isz0, q_isz1, q_iszb, q_b0, q_b1, q_ng1, q_ng2, q_ng3, q_ng4, q_ng5, q_ng6, Bool.toNat_true, Bool.toNat_false, if_pos, if_neg, q_ct, q_cf, q_let, q_bd, q_it, q_if, Nat.zero_add, Nat.add_zero, true_and, and_true, false_and, and_false, or_false, false_or, or_true, true_or, Bool.true_eq_false, Bool.false_eq_true, wi_s, wi_o, wi_r]
  | k + 1, h, f + 1, e, hf => by
    have ih := x_tog_l hs ha hb k (h + 1) f (by omega) (by omega)
    have em := x_met hs ha hb (show h < 12 by omega)
    unfold f0_hoursTogether_l5 f0_hoursTogether_j33
    cases e1 : q_met g a b h
    · simp (disch := first | assumption | omega) only [q_lit, Int32.neg_neg, nI_add, pk_mul, q_sub, q_addn, q_nadd, q_lt, q_le, q_eq, q_eqn, q_neq, q_nen, q_ltn, q_nlt, q_len, q_nle, q_nltn, q_nlen, q_cl, q_ib, q_ibn, q_isz0, q_isz1, q_iszb, q_b0, q_b1, q_ng1, q_ng2, q_ng3, q_ng4, q_ng5, q_ng6, Bool.toNat_true, Bool.toNat_false, if_pos, if_neg, q_ct, q_cf, q_let, q_bd, q_it, q_if, Nat.zero_add, Nat.add_zero, true_and, and_true, false_and, and_false, or_false, false_or, or_true, true_or, Bool.true_eq_false, Bool.false_eq_true, wi_s, wi_o, wi_r, em, e1]
      rw [q_bs_step.2 e1]
      exact ih
    · simp (disch := first | assumption | omega) only [q_lit, Int32.neg_neg, nI_add, pk_mul, q_sub, q_addn, q_nadd, q_lt, q_le, q_eq, q_eqn, q_neq, q_nen, q_ltn, q_nlt, q_len, q_nle, q_nltn, q_nlen, q_cl, q_ib, q_ibn, q_isz0, q_isz1, q_iszb, q_b0, q_b1, q_ng1, q_ng2, q_ng3, q_ng4, q_ng5, q_ng6, Bool.toNat_true, Bool.toNat_false, if_pos, if_neg, q_ct, q_cf, q_let, q_bd, q_it, q_if, Nat.zero_add, Nat.add_zero, true_and, and_true, false_and, and_false, or_false, false_or, or_true, true_or, Bool.true_eq_false, Bool.false_eq_true, wi_s, wi_o, wi_r, em, e1, q_1sl, q_or]
      rw [q_bs_step.1 e1]
      exact ih
theorem m_tog_l {RL : rLT} {S : ph_Sh} {X K : ph_Mem} {n t a b : Nat} (hs : rSt RL S X 11 (K.1 2) n t) (ha : a < n) (hb : b < n) : ∀ (k h fuel : Nat), h + k = 12 → k < fuel → f12_met_l69 fuel (nI a) (nI b) (nI (q_bs (q_met (K.1 2) a b) h)) (nI h) K = some (nI (q_bs (q_met (K.1 2) a b) 12), K)
  | 0, h, f + 1, e, _ => by
    have : h = 12 := by omega
    subst this
    unfold f12_met_l69
    simp (disch := first | assumption | omega) only [q_lit, Int32.neg_neg, nI_add, pk_mul, q_sub, q_addn, q_nadd, q_lt, q_le, q_eq, q_eqn, q_neq, q_nen, q_ltn, q_nlt, q_len, q_nle, q_nltn, q_nlen, q_cl, q_ib, q_ibn, q_isz0, q_isz1, q_iszb, q_b0, q_b1, q_ng1, q_ng2, q_ng3, q_ng4, q_ng5, q_ng6, Bool.toNat_true, Bool.toNat_false, if_pos, if_neg, q_ct, q_cf, q_let, q_bd, q_it, q_if, Nat.zero_add, Nat.add_zero, true_and, and_true, false_and, and_false, or_false, false_or, or_true, true_or, Bool.true_eq_false, Bool.false_eq_true, wi_s, wi_o, wi_r]
  | k + 1, h, f + 1, e, hf => by
    have ih := m_tog_l hs ha hb k (h + 1) f (by omega) (by omega)
    have em := m_met hs ha hb (show h < 12 by omega)
    unfold f12_met_l69 f12_met_j97
    cases e1 : q_met (K.1 2) a b h
    · simp (disch := first | assumption | omega) only [q_lit, Int32.neg_neg, nI_add, pk_mul, q_sub, q_addn, q_nadd, q_lt, q_le, q_eq, q_eqn, q_neq, q_nen, q_ltn, q_nlt, q_len, q_nle, q_nltn, q_nlen, q_cl, q_ib, q_ibn, q_isz0, q_isz1, q_iszb, q_b0, q_b1, q_ng1, q_ng2, q_ng3, q_ng4, q_ng5, q_ng6, Bool.toNat_true, Bool.toNat_false, if_pos, if_neg, q_ct, q_cf, q_let, q_bd, q_it, q_if, Nat.zero_add, Nat.add_zero, true_and, and_true, false_and, and_false, or_false, false_or, or_true, true_or, Bool.true_eq_false, Bool.false_eq_true, wi_s, wi_o, wi_r, em, e1, q_or, Nat.or_zero]
      rw [q_bs_step.2 e1]
      exact ih
    · simp (disch := first | assumption | omega) only [q_lit, Int32.neg_neg, nI_add, pk_mul, q_sub, q_addn, q_nadd, q_lt, q_le, q_eq, q_eqn, q_neq, q_nen, q_ltn, q_nlt, q_len, q_nle, q_nltn, q_nlen, q_cl, q_ib, q_ibn, q_isz0, q_isz1, q_iszb, q_b0, q_b1, q_ng1, q_ng2, q_ng3, q_ng4, q_ng5, q_ng6, Bool.toNat_true, Bool.toNat_false, if_pos, if_neg, q_ct, q_cf, q_let, q_bd, q_it, q_if, Nat.zero_add, Nat.add_zero, true_and, and_true, false_and, and_false, or_false, false_or, or_true, true_or, Bool.true_eq_false, Bool.false_eq_true, wi_s, wi_o, wi_r, em, e1, q_1sl, q_or]
      rw [q_bs_step.1 e1]
      exact ih
/-- when a fact was learned, if it is known -/
theorem q_lh_kn {g : Nat → Int32} {p f j : Nat} {H : Nat → Bool} (h : q_lh g p f H j) : (q_kn g p H 12).testBit f = true := by
  have := q_kn_mono h.2.2 (12 - (j + 1))
  rw [show j + 1 + (12 - (j + 1)) = 12 by have := h.1; omega] at this
  exact this
theorem m_tgt {RL : rLT} {S : ph_Sh} {X K : ph_Mem} {c : Nat} {n t a b h : Nat} (hs : rSt RL S X c (K.1 2) n t) (ha : a < n) (hb : b < n) (hh : h < 12) : f12_areTogether K (nI a) (nI b) (nI h) = some (nI (decide (a = b) || q_met (K.1 2) a b h).toNat) := by
  have hn := hs.1.1
  unfold f12_areTogether
  by_cases e : a = b
  · subst e
    simp (disch := first | assumption | omega) only [q_lit, Int32.neg_neg, nI_add, pk_mul, q_sub, q_addn, q_nadd, q_lt, q_le, q_eq, q_eqn, q_neq, q_nen, q_ltn, q_nlt, q_len, q_nle, q_nltn, q_nlen, q_cl, q_ib, q_ibn, q_isz0, q_isz1, q_iszb, q_b0, q_b1, q_ng1, q_ng2, q_ng3, q_ng4, q_ng5, q_ng6, Bool.toNat_true, Bool.toNat_false, if_pos, if_neg, q_ct, q_cf, q_let, q_bd, q_it, q_if, Nat.zero_add, Nat.add_zero, true_and, and_true, false_and, and_false, or_false, false_or, or_true, true_or, Bool.true_eq_false, Bool.false_eq_true, wi_s, wi_o, wi_r, decide_true, Bool.true_or]
  · rw [decide_eq_false e, Bool.false_or]
    have ne : ¬ nI a = nI b := by rw [q_eq (by omega) (by omega)]; exact e
    cases e1 : q_met (K.1 2) a b h
    · simp (disch := first | assumption | omega) only [q_lit, Int32.neg_neg, nI_add, pk_mul, q_sub, q_addn, q_nadd, q_lt, q_le, q_eq, q_eqn, q_neq, q_nen, q_ltn, q_nlt, q_len, q_nle, q_nltn, q_nlen, q_cl, q_ib, q_ibn, q_isz0, q_isz1, q_iszb, q_b0, q_b1, q_ng1, q_ng2, q_ng3, q_ng4, q_ng5, q_ng6, Bool.toNat_true, Bool.toNat_false, if_pos, if_neg, q_ct, q_cf, q_let, q_bd, q_it, q_if, Nat.zero_add, Nat.add_zero, true_and, and_true, false_and, and_false, or_false, false_or, or_true, true_or, Bool.true_eq_false, Bool.false_eq_true, wi_s, wi_o, wi_r, m_met hs ha hb hh, e1]
    · simp (disch := first | assumption | omega) only [q_lit, Int32.neg_neg, nI_add, pk_mul, q_sub, q_addn, q_nadd, q_lt, q_le, q_eq, q_eqn, q_neq, q_nen, q_ltn, q_nlt, q_len, q_nle, q_nltn, q_nlen, q_cl, q_ib, q_ibn, q_isz0, q_isz1, q_iszb, q_b0, q_b1, q_ng1, q_ng2, q_ng3, q_ng4, q_ng5, q_ng6, Bool.toNat_true, Bool.toNat_false, if_pos, if_neg, q_ct, q_cf, q_let, q_bd, q_it, q_if, Nat.zero_add, Nat.add_zero, true_and, and_true, false_and, and_false, or_false, false_or, or_true, true_or, Bool.true_eq_false, Bool.false_eq_true, wi_s, wi_o, wi_r, m_met hs ha hb hh, e1]
theorem s_met {RL : rLT} (hRL : rLoc RL) : lws_met (Rel RL) := by
  intro S X K h a1 a2 a3
  obtain ⟨n, t, hs, hl⟩ := h.2.2.2.2.2
  have hn := hs.1.1
  unfold f11_met f12_met
  obtain ⟨b, e1, e2, e3, _⟩ := d_pers S hs.1.2.2.1 hs.1.2.2.2.1 hs.1.1 a1
  cases b
  · simp (disch := first | assumption | omega) only [q_lit, Int32.neg_neg, nI_add, pk_mul, q_sub, q_addn, q_nadd, q_lt, q_le, q_eq, q_eqn, q_neq, q_nen, q_ltn, q_nlt, q_len, q_nle, q_nltn, q_nlen, q_cl, q_ib, q_ibn, q_isz0, q_isz1, q_iszb, q_b0, q_b1, q_ng1, q_ng2, q_ng3, q_ng4, q_ng5, q_ng6, Bool.toNat_true, Bool.toNat_false, if_pos, if_neg, q_ct, q_cf, q_let, q_bd, q_it, q_if, Nat.zero_add, Nat.add_zero, true_and, and_true, false_and, and_false, or_false, false_or, or_true, true_or, Bool.true_eq_false, Bool.false_eq_true, wi_s, wi_o, wi_r, e1, e2]
    exact ⟨_, _, rfl, rfl, h⟩
  obtain ⟨p, hp, rfl⟩ := e3 rfl
  obtain ⟨b, f1, f2, f3, _⟩ := d_pers S hs.1.2.2.1 hs.1.2.2.2.1 hs.1.1 a2
  cases b
  · simp (disch := first | assumption | omega) only [q_lit, Int32.neg_neg, nI_add, pk_mul, q_sub, q_addn, q_nadd, q_lt, q_le, q_eq, q_eqn, q_neq, q_nen, q_ltn, q_nlt, q_len, q_nle, q_nltn, q_nlen, q_cl, q_ib, q_ibn, q_isz0, q_isz1, q_iszb, q_b0, q_b1, q_ng1, q_ng2, q_ng3, q_ng4, q_ng5, q_ng6, Bool.toNat_true, Bool.toNat_false, if_pos, if_neg, q_ct, q_cf, q_let, q_bd, q_it, q_if, Nat.zero_add, Nat.add_zero, true_and, and_true, false_and, and_false, or_false, false_or, or_true, true_or, Bool.true_eq_false, Bool.false_eq_true, wi_s, wi_o, wi_r, e1, e2, f1, f2]
    exact ⟨_, _, rfl, rfl, h⟩
  obtain ⟨q, hq, rfl⟩ := f3 rfl
  obtain ⟨K', k1, k2, k3, k4⟩ := m_lays hn hs.1.2.2.2.1 (fun p hp => (rSt_rd hs hp).2.2)
  have rel : Rel RL S X K' := Rel_fr hRL h (fun _ _ _ => rfl) (fun _ _ _ => rfl) (fun c j hc => k3 c j (by unfold rKj at hc; omega) (by unfold rKj at hc; omega))
  have eg : K'.1 2 = K.1 2 := funext fun j => k3 2 j (by omega) (by omega)
  have hs' : rSt RL S X 11 (K'.1 2) n t := by rw [eg]; exact hs
  unfold f12_met_j37
  rcases q_rng a3 8 with ⟨w, hw, hw', rfl⟩ | hv | ⟨v, hv, hv', rfl⟩
  · by_cases w0 : w = 0
    · subst w0
      by_cases epq : p = q
      · subst epq
        simp (disch := first | assumption | omega) only [q_lit, Int32.neg_neg, nI_add, pk_mul, q_sub, q_addn, q_nadd, q_lt, q_le, q_eq, q_eqn, q_neq, q_nen, q_ltn, q_nlt, q_len, q_nle, q_nltn, q_nlen, q_cl, q_ib, q_ibn, q_isz0, q_isz1, q_iszb, q_b0, q_b1, q_ng1, q_ng2, q_ng3, q_ng4, q_ng5, q_ng6, Bool.toNat_true, Bool.toNat_false, if_pos, if_neg, q_ct, q_cf, q_let, q_bd, q_it, q_if, Nat.zero_add, Nat.add_zero, true_and, and_true, false_and, and_false, or_false, false_or, or_true, true_or, Bool.true_eq_false, Bool.false_eq_true, wi_s, wi_o, wi_r, e1, e2, f1, f2, m_wi]
        exact ⟨_, _, rfl, rfl, h⟩
      · have ne : ¬ nI p = nI q := by rw [q_eq (by omega) (by omega)]; exact epq
        have t1 : f0_hoursTogether S X (nI p) (nI q) = some (nI (q_bs (q_met (K.1 2) p q) 12)) := x_tog_l hs hp hq 12 0 10000 (by omega) (by omega)
        have t2 : f12_met_l69 10000 (nI p) (nI q) (nI 0) (nI 0) K' = some (nI (q_bs (q_met (K'.1 2) p q) 12), K') := m_tog_l hs' hp hq 12 0 10000 (by omega) (by omega)
        rw [eg] at t2
        simp (disch := first | assumption | omega) only [q_lit, Int32.neg_neg, nI_add, pk_mul, q_sub, q_addn, q_nadd, q_lt, q_le, q_eq, q_eqn, q_neq, q_nen, q_ltn, q_nlt, q_len, q_nle, q_nltn, q_nlen, q_cl, q_ib, q_ibn, q_isz0, q_isz1, q_iszb, q_b0, q_b1, q_ng1, q_ng2, q_ng3, q_ng4, q_ng5, q_ng6, Bool.toNat_true, Bool.toNat_false, if_pos, if_neg, q_ct, q_cf, q_let, q_bd, q_it, q_if, Nat.zero_add, Nat.add_zero, true_and, and_true, false_and, and_false, or_false, false_or, or_true, true_or, Bool.true_eq_false, Bool.false_eq_true, wi_s, wi_o, wi_r, e1, e2, f1, f2, m_wi, t1, k1, t2]
        exact ⟨_, _, rfl, rfl, rel⟩
    · have hr := rSt_rd hs hp
      have hrq := rSt_rd hs hq
      have dk := m_doKnow (f := w - 1) (show p < 6 by omega) (by omega) hr.2.2 (k2 p hp)
      have dq := m_doKnow (f := w - 1) (show q < 6 by omega) (by omega) hrq.2.2 (k2 q hq)
      unfold f0_knowsOf f12_knowsThat
      rcases x_lh (S := S) hrq (fa := w - 1) (show q < 6 by omega) (by omega) with ⟨j, j1, j2⟩ | ⟨j1, j2⟩
      · have hb := q_lh_kn j1
        obtain ⟨j', q1, q2⟩ := (k2 q hq).2 (w - 1) (by omega) hb
        have ej := q_lh_un j1 q1
        subst ej
        have j12 := j1.1
        rcases x_lh (S := S) hr (fa := w - 1) (show p < 6 by omega) (by omega) with ⟨i, i1, i2⟩ | ⟨i1, i2⟩
        · have hb' := q_lh_kn i1
          have i12 := i1.1
          have tg := m_tgt hs' hp hq j1.1
          rw [eg] at tg
          by_cases epq : p = q
          · subst epq
            simp (disch := first | assumption | omega) only [q_lit, Int32.neg_neg, nI_add, pk_mul, q_sub, q_addn, q_nadd, q_lt, q_le, q_eq, q_eqn, q_neq, q_nen, q_ltn, q_nlt, q_len, q_nle, q_nltn, q_nlen, q_cl, q_ib, q_ibn, q_isz0, q_isz1, q_iszb, q_b0, q_b1, q_ng1, q_ng2, q_ng3, q_ng4, q_ng5, q_ng6, Bool.toNat_true, Bool.toNat_false, if_pos, if_neg, q_ct, q_cf, q_let, q_bd, q_it, q_if, Nat.zero_add, Nat.add_zero, true_and, and_true, false_and, and_false, or_false, false_or, or_true, true_or, Bool.true_eq_false, Bool.false_eq_true, wi_s, wi_o, wi_r, e1, e2, f1, f2, m_wi, k1, j2, i2, dk, dq, hb, hb', q2, tg, decide_true, Bool.true_or]
            exact ⟨_, _, rfl, rfl, rel⟩
          · have ne : ¬ nI p = nI q := by rw [q_eq (by omega) (by omega)]; exact epq
            have xm := x_met hs hp hq j1.1
            cases em : q_met (K.1 2) p q j
            · simp (disch := first | assumption | omega) only [q_lit, Int32.neg_neg, nI_add, pk_mul, q_sub, q_addn, q_nadd, q_lt, q_le, q_eq, q_eqn, q_neq, q_nen, q_ltn, q_nlt, q_len, q_nle, q_nltn, q_nlen, q_cl, q_ib, q_ibn, q_isz0, q_isz1, q_iszb, q_b0, q_b1, q_ng1, q_ng2, q_ng3, q_ng4, q_ng5, q_ng6, Bool.toNat_true, Bool.toNat_false, if_pos, if_neg, q_ct, q_cf, q_let, q_bd, q_it, q_if, Nat.zero_add, Nat.add_zero, true_and, and_true, false_and, and_false, or_false, false_or, or_true, true_or, Bool.true_eq_false, Bool.false_eq_true, wi_s, wi_o, wi_r, e1, e2, f1, f2, m_wi, k1, j2, i2, dk, dq, hb, hb', q2, tg, decide_eq_false epq, Bool.false_or, em, xm]
              exact ⟨_, _, rfl, rfl, rel⟩
            · simp (disch := first | assumption | omega) only [q_lit, Int32.neg_neg, nI_add, pk_mul, q_sub, q_addn, q_nadd, q_lt, q_le, q_eq, q_eqn, q_neq, q_nen, q_ltn, q_nlt, q_len, q_nle, q_nltn, q_nlen, q_cl, q_ib, q_ibn, q_isz0, q_isz1, q_iszb, q_b0, q_b1, q_ng1, q_ng2, q_ng3, q_ng4, q_ng5, q_ng6, Bool.toNat_true, Bool.toNat_false, if_pos, if_neg, q_ct, q_cf, q_let, q_bd, q_it, q_if, Nat.zero_add, Nat.add_zero, true_and, and_true, false_and, and_false, or_false, false_or, or_true, true_or, Bool.true_eq_false, Bool.false_eq_true, wi_s, wi_o, wi_r, e1, e2, f1, f2, m_wi, k1, j2, i2, dk, dq, hb, hb', q2, tg, decide_eq_false epq, Bool.false_or, em, xm]
              exact ⟨_, _, rfl, rfl, rel⟩
        · simp (disch := first | assumption | omega) only [q_lit, Int32.neg_neg, nI_add, pk_mul, q_sub, q_addn, q_nadd, q_lt, q_le, q_eq, q_eqn, q_neq, q_nen, q_ltn, q_nlt, q_len, q_nle, q_nltn, q_nlen, q_cl, q_ib, q_ibn, q_isz0, q_isz1, q_iszb, q_b0, q_b1, q_ng1, q_ng2, q_ng3, q_ng4, q_ng5, q_ng6, Bool.toNat_true, Bool.toNat_false, if_pos, if_neg, q_ct, q_cf, q_let, q_bd, q_it, q_if, Nat.zero_add, Nat.add_zero, true_and, and_true, false_and, and_false, or_false, false_or, or_true, true_or, Bool.true_eq_false, Bool.false_eq_true, wi_s, wi_o, wi_r, e1, e2, f1, f2, m_wi, k1, j2, i2, dk, i1]
          exact ⟨_, _, rfl, rfl, rel⟩
      · cases hbp : (q_kn (K.1 2) p (hP (K.1 2) p 0) 12).testBit (w - 1)
        · simp (disch := first | assumption | omega) only [q_lit, Int32.neg_neg, nI_add, pk_mul, q_sub, q_addn, q_nadd, q_lt, q_le, q_eq, q_eqn, q_neq, q_nen, q_ltn, q_nlt, q_len, q_nle, q_nltn, q_nlen, q_cl, q_ib, q_ibn, q_isz0, q_isz1, q_iszb, q_b0, q_b1, q_ng1, q_ng2, q_ng3, q_ng4, q_ng5, q_ng6, Bool.toNat_true, Bool.toNat_false, if_pos, if_neg, q_ct, q_cf, q_let, q_bd, q_it, q_if, Nat.zero_add, Nat.add_zero, true_and, and_true, false_and, and_false, or_false, false_or, or_true, true_or, Bool.true_eq_false, Bool.false_eq_true, wi_s, wi_o, wi_r, e1, e2, f1, f2, m_wi, k1, j2, dk, hbp]
          exact ⟨_, _, rfl, rfl, rel⟩
        · simp (disch := first | assumption | omega) only [q_lit, Int32.neg_neg, nI_add, pk_mul, q_sub, q_addn, q_nadd, q_lt, q_le, q_eq, q_eqn, q_neq, q_nen, q_ltn, q_nlt, q_len, q_nle, q_nltn, q_nlen, q_cl, q_ib, q_ibn, q_isz0, q_isz1, q_iszb, q_b0, q_b1, q_ng1, q_ng2, q_ng3, q_ng4, q_ng5, q_ng6, Bool.toNat_true, Bool.toNat_false, if_pos, if_neg, q_ct, q_cf, q_let, q_bd, q_it, q_if, Nat.zero_add, Nat.add_zero, true_and, and_true, false_and, and_false, or_false, false_or, or_true, true_or, Bool.true_eq_false, Bool.false_eq_true, wi_s, wi_o, wi_r, e1, e2, f1, f2, m_wi, k1, j2, dk, hbp, dq, j1]
          exact ⟨_, _, rfl, rfl, rel⟩
  · simp (disch := first | assumption | omega) only [q_lit, Int32.neg_neg, nI_add, pk_mul, q_sub, q_addn, q_nadd, q_lt, q_le, q_eq, q_eqn, q_neq, q_nen, q_ltn, q_nlt, q_len, q_nle, q_nltn, q_nlen, q_cl, q_ib, q_ibn, q_isz0, q_isz1, q_iszb, q_b0, q_b1, q_ng1, q_ng2, q_ng3, q_ng4, q_ng5, q_ng6, Bool.toNat_true, Bool.toNat_false, if_pos, if_neg, q_ct, q_cf, q_let, q_bd, q_it, q_if, Nat.zero_add, Nat.add_zero, true_and, and_true, false_and, and_false, or_false, false_or, or_true, true_or, Bool.true_eq_false, Bool.false_eq_true, wi_s, wi_o, wi_r, e1, e2, f1, f2, m_wn]
    exact ⟨_, _, rfl, rfl, h⟩
  · simp (disch := first | assumption | omega) only [q_lit, Int32.neg_neg, nI_add, pk_mul, q_sub, q_addn, q_nadd, q_lt, q_le, q_eq, q_eqn, q_neq, q_nen, q_ltn, q_nlt, q_len, q_nle, q_nltn, q_nlen, q_cl, q_ib, q_ibn, q_isz0, q_isz1, q_iszb, q_b0, q_b1, q_ng1, q_ng2, q_ng3, q_ng4, q_ng5, q_ng6, Bool.toNat_true, Bool.toNat_false, if_pos, if_neg, q_ct, q_cf, q_let, q_bd, q_it, q_if, Nat.zero_add, Nat.add_zero, true_and, and_true, false_and, and_false, or_false, false_or, or_true, true_or, Bool.true_eq_false, Bool.false_eq_true, wi_s, wi_o, wi_r, e1, e2, f1, f2, m_wo]
    exact ⟨_, _, rfl, rfl, h⟩
