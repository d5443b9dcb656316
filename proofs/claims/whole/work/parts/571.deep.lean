/-! PURE HALF: deep -/
theorem q_xm1 (b : Nat) : (nI b ^^^ -nI 1).toBitVec = ~~~ (nI b).toBitVec := by
  rw [Int32.toBitVec_xor]
  have : (-nI 1).toBitVec = BitVec.allOnes 32 := by decide +kernel
  rw [this, BitVec.xor_allOnes]
theorem q_andn (a b : Nat) : nI a &&& (nI b ^^^ -nI 1) = nI (a ^^^ (a &&& b)) := by
  apply Int32.toBitVec_inj.mp
  rw [Int32.toBitVec_and, q_xm1, q_tb, q_tb, q_tb]
  apply BitVec.eq_of_getLsbD_eq
  intro i hi
  simp only [BitVec.getLsbD_and, BitVec.getLsbD_not, BitVec.getLsbD_ofNat, hi, decide_true, Bool.true_and, Nat.testBit_xor, Nat.testBit_and]
  cases a.testBit i <;> cases b.testBit i <;> rfl
theorem q_andn_b (a b i : Nat) : (a ^^^ (a &&& b)).testBit i = (a.testBit i && !b.testBit i) := by
  rw [Nat.testBit_xor, Nat.testBit_and]
  cases a.testBit i <;> cases b.testBit i <;> rfl
theorem q_lt_tb {a b n : Nat} (hb : b < 2 ^ n) (h : ∀ i, a.testBit i = true → b.testBit i = true) : a < 2 ^ n := by
  apply Nat.lt_pow_two_of_testBit
  intro i hi
  cases e : a.testBit i
  · rfl
  · have := h i e
    rw [Nat.testBit_lt_two_pow (Nat.lt_of_lt_of_le hb (Nat.pow_le_pow_right (by omega) hi))] at this
    exact absurd this (by simp)
theorem q_andn_lt {a b n : Nat} (ha : a < 2 ^ n) : a ^^^ (a &&& b) < 2 ^ n := q_lt_tb ha (fun i h => by
  rw [q_andn_b] at h
  cases e : a.testBit i
  · rw [e] at h; exact absurd h (by simp)
  · rfl)
/-- one knows a fact -/
def q_kw (g : Nat → Int32) (f p : Nat) : Bool := (q_kn g p (hP g p 0) 12).testBit f
/-- all know that the learner does; all know that of all -/
def q_ik (g : Nat → Int32) (lj : Nat → Nat → Nat) (n d l f : Nat) : Bool := q_al (fun a => q_al (fun b => !(decide (2 < d) || decide (a = l) || decide (b = l)) || q_met g a b (lj l f)) a) n
theorem x_ik_i {RL : rLT} {S : ph_Sh} {X : ph_Mem} {g : Nat → Int32} {n t d l j a : Nat} (hs : rSt RL S X 11 g n t) (hd : d < 4) (hl : l < n) (hj : j < 12) (ha : a < n) (rc : Int32 → Int32 → Int32 → Int32 → Option Int32) : ∀ (r b fuel : Nat), b + r = a → r < fuel → f0_isKnownOf_l37 S X rc fuel (nI l) (nI d) (nI j) (nI a) (nI b) = if q_af (fun b => !(decide (2 < d) || decide (a = l) || decide (b = l)) || q_met g a b j) a b r = true then rc (nI l) (nI d) (nI j) (nI (a + 1)) else some (nI 0)
  | 0, b, f + 1, e, _ => by
    have hn := hs.1.1
    have : b = a := by omega
    subst this
    unfold f0_isKnownOf_l37 f0_isKnownOf_j97
    simp (disch := first | assumption | omega) only [q_lit, Int32.neg_neg, nI_add, pk_mul, q_sub, q_addn, q_nadd, q_lt, q_le, q_eq, q_eqn, q_neq, q_nen, q_ltn, q_nlt, q_len, q_nle, q_nltn, q_nlen, q_cl, q_ib, q_ibn, q_isz0, q_isz1, q_iszb, q_b0, q_b1, q_ng1, q_ng2, q_ng3, q_ng4, q_ng5, q_ng6, Bool.toNat_true, Bool.toNat_false, if_pos, if_neg, q_ct, q_cf, q_let, q_bd, q_it, q_if, Nat.zero_add, Nat.add_zero, true_and, and_true, false_and, and_false, or_false, false_or, or_true, true_or, Bool.true_eq_false, Bool.false_eq_true, wi_s, wi_o, wi_r, q_af]
  | r + 1, b, f + 1, e, hf => by
    have hn := hs.1.1
    have ih := x_ik_i hs hd hl hj ha rc r (b + 1) f (by omega) (by omega)
    have em := x_met hs ha (show b < n by omega) hj
    rw [q_af]
    conv => lhs; unfold f0_isKnownOf_l37 f0_isKnownOf_j61 f0_isKnownOf_j66 f0_isKnownOf_j91
    have yes : (decide (2 < d) || decide (a = l) || decide (b = l)) = true → (Option.bind (f9_metIn S X 11 (nI j) (nI a) (nI b)) fun q2 => if q2 = nI 0 then (some (nI 0)) else (f0_isKnownOf_l37 S X rc f (nI l) (nI d) (nI j) (nI a) (nI (b + 1)))) = if ((!(decide (2 < d) || decide (a = l) || decide (b = l)) || q_met g a b j) && q_af (fun b => !(decide (2 < d) || decide (a = l) || decide (b = l)) || q_met g a b j) a (b + 1) r) = true then rc (nI l) (nI d) (nI j) (nI (a + 1)) else some (nI 0) := by
      intro hy
      rw [hy]
      cases e1 : q_met g a b j
      · simp (disch := first | assumption | omega) only [q_lit, Int32.neg_neg, nI_add, pk_mul, q_sub, q_addn, q_nadd, q_lt, q_le, q_eq, q_eqn, q_neq, q_nen, q_ltn, q_nlt, q_len, q_nle, q_nltn, q_nlen, q_cl, q_ib, q_ibn, q_isz0, q_isz1, q_iszb, q_b0, q_b1, q_ng1, q_ng2, q_ng3, q_ng4, q_ng5, q_ng6, Bool.toNat_true, Bool.toNat_false, if_pos, if_neg, q_ct, q_cf, q_let, q_bd, q_it, q_if, Nat.zero_add, Nat.add_zero, true_and, and_true, false_and, and_false, or_false, false_or, or_true, true_or, Bool.true_eq_false, Bool.false_eq_true, wi_s, wi_o, wi_r, em, e1, Bool.not_true, Bool.false_or, Bool.false_and]
      · simp (disch := first | assumption | omega) only [q_lit, Int32.neg_neg, nI_add, pk_mul, q_sub, q_addn, q_nadd, q_lt, q_le, q_eq, q_eqn, q_neq, q_nen, q_ltn, q_nlt, q_len, q_nle, q_nltn, q_nlen, q_cl, q_ib, q_ibn, q_isz0, q_isz1, q_iszb, q_b0, q_b1, q_ng1, q_ng2, q_ng3, q_ng4, q_ng5, q_ng6, Bool.toNat_true, Bool.toNat_false, if_pos, if_neg, q_ct, q_cf, q_let, q_bd, q_it, q_if, Nat.zero_add, Nat.add_zero, true_and, and_true, false_and, and_false, or_false, false_or, or_true, true_or, Bool.true_eq_false, Bool.false_eq_true, wi_s, wi_o, wi_r, em, e1, Bool.or_true, Bool.true_and]
        exact ih
    by_cases h1 : 2 < d
    · have y := yes (by rw [decide_eq_true h1]; rfl)
      simp (disch := first | assumption | omega) only [q_lit, Int32.neg_neg, nI_add, pk_mul, q_sub, q_addn, q_nadd, q_lt, q_le, q_eq, q_eqn, q_neq, q_nen, q_ltn, q_nlt, q_len, q_nle, q_nltn, q_nlen, q_cl, q_ib, q_ibn, q_isz0, q_isz1, q_iszb, q_b0, q_b1, q_ng1, q_ng2, q_ng3, q_ng4, q_ng5, q_ng6, Bool.toNat_true, Bool.toNat_false, if_pos, if_neg, q_ct, q_cf, q_let, q_bd, q_it, q_if, Nat.zero_add, Nat.add_zero, true_and, and_true, false_and, and_false, or_false, false_or, or_true, true_or, Bool.true_eq_false, Bool.false_eq_true, wi_s, wi_o, wi_r]
      exact y
    · by_cases h2 : a = l
      · have y := yes (by rw [decide_eq_true h2]; simp)
        have h2' : nI a = nI l := by rw [h2]
        simp (disch := first | assumption | omega) only [q_lit, Int32.neg_neg, nI_add, pk_mul, q_sub, q_addn, q_nadd, q_lt, q_le, q_eq, q_eqn, q_neq, q_nen, q_ltn, q_nlt, q_len, q_nle, q_nltn, q_nlen, q_cl, q_ib, q_ibn, q_isz0, q_isz1, q_iszb, q_b0, q_b1, q_ng1, q_ng2, q_ng3, q_ng4, q_ng5, q_ng6, Bool.toNat_true, Bool.toNat_false, if_pos, if_neg, q_ct, q_cf, q_let, q_bd, q_it, q_if, Nat.zero_add, Nat.add_zero, true_and, and_true, false_and, and_false, or_false, false_or, or_true, true_or, Bool.true_eq_false, Bool.false_eq_true, wi_s, wi_o, wi_r, h2']
        simp (disch := first | assumption | omega) only [q_lit, Int32.neg_neg, nI_add, pk_mul, q_sub, q_addn, q_nadd, q_lt, q_le, q_eq, q_eqn, q_neq, q_nen, q_ltn, q_nlt, q_len, q_nle, q_nltn, q_nlen, q_cl, q_ib, q_ibn, q_isz0, q_isz1, q_iszb, q_b0, q_b1, q_ng1, q_ng2, q_ng3, q_ng4, q_ng5, q_ng6, Bool.toNat_true, Bool.toNat_false, if_pos, if_neg, q_ct, q_cf, q_let, q_bd, q_it, q_if, Nat.zero_add, Nat.add_zero, true_and, and_true, false_and, and_false, or_false, false_or, or_true, true_or, Bool.true_eq_false, Bool.false_eq_true, wi_s, wi_o, wi_r, h2'] at y
        exact y
      · have ne2 : ¬ nI a = nI l := by rw [q_eq (by omega) (by omega)]; exact h2
        by_cases h3 : b = l
        · have y := yes (by rw [decide_eq_true h3]; simp)
          simp (disch := first | assumption | omega) only [q_lit, Int32.neg_neg, nI_add, pk_mul, q_sub, q_addn, q_nadd, q_lt, q_le, q_eq, q_eqn, q_neq, q_nen, q_ltn, q_nlt, q_len, q_nle, q_nltn, q_nlen, q_cl, q_ib, q_ibn, q_isz0, q_isz1, q_iszb, q_b0, q_b1, q_ng1, q_ng2, q_ng3, q_ng4, q_ng5, q_ng6, Bool.toNat_true, Bool.toNat_false, if_pos, if_neg, q_ct, q_cf, q_let, q_bd, q_it, q_if, Nat.zero_add, Nat.add_zero, true_and, and_true, false_and, and_false, or_false, false_or, or_true, true_or, Bool.true_eq_false, Bool.false_eq_true, wi_s, wi_o, wi_r, ne2, h3]
          simp (disch := first | assumption | omega) only [q_lit, Int32.neg_neg, nI_add, pk_mul, q_sub, q_addn, q_nadd, q_lt, q_le, q_eq, q_eqn, q_neq, q_nen, q_ltn, q_nlt, q_len, q_nle, q_nltn, q_nlen, q_cl, q_ib, q_ibn, q_isz0, q_isz1, q_iszb, q_b0, q_b1, q_ng1, q_ng2, q_ng3, q_ng4, q_ng5, q_ng6, Bool.toNat_true, Bool.toNat_false, if_pos, if_neg, q_ct, q_cf, q_let, q_bd, q_it, q_if, Nat.zero_add, Nat.add_zero, true_and, and_true, false_and, and_false, or_false, false_or, or_true, true_or, Bool.true_eq_false, Bool.false_eq_true, wi_s, wi_o, wi_r, h3] at y
          exact y
        · have ne3 : ¬ nI b = nI l := by rw [q_eq (by omega) (by omega)]; exact h3
          have z : (decide (2 < d) || decide (a = l) || decide (b = l)) = false := by rw [decide_eq_false h1, decide_eq_false h2, decide_eq_false h3]; rfl
          rw [z]
          simp (disch := first | assumption | omega) only [q_lit, Int32.neg_neg, nI_add, pk_mul, q_sub, q_addn, q_nadd, q_lt, q_le, q_eq, q_eqn, q_neq, q_nen, q_ltn, q_nlt, q_len, q_nle, q_nltn, q_nlen, q_cl, q_ib, q_ibn, q_isz0, q_isz1, q_iszb, q_b0, q_b1, q_ng1, q_ng2, q_ng3, q_ng4, q_ng5, q_ng6, Bool.toNat_true, Bool.toNat_false, if_pos, if_neg, q_ct, q_cf, q_let, q_bd, q_it, q_if, Nat.zero_add, Nat.add_zero, true_and, and_true, false_and, and_false, or_false, false_or, or_true, true_or, Bool.true_eq_false, Bool.false_eq_true, wi_s, wi_o, wi_r, ne2, ne3, Bool.not_false, Bool.true_or, Bool.true_and]
          exact ih
theorem x_ik_o {RL : rLT} {S : ph_Sh} {X : ph_Mem} {g : Nat → Int32} {n t d l j : Nat} (hs : rSt RL S X 11 g n t) (hd : d < 4) (hl : l < n) (hj : j < 12) : ∀ (r a fuel : Nat), a + r = n → r < fuel → f0_isKnownOf_l22 S X fuel (nI l) (nI d) (nI j) (nI a) = some (nI (q_af (fun a => q_al (fun b => !(decide (2 < d) || decide (a = l) || decide (b = l)) || q_met g a b j) a) n a r).toNat)
  | 0, a, f + 1, e, _ => by
    have hn := hs.1.1
    have c := hs.1.2.2.1
    unfold f0_isKnownOf_l22
    simp (disch := first | assumption | omega) only [q_lit, Int32.neg_neg, nI_add, pk_mul, q_sub, q_addn, q_nadd, q_lt, q_le, q_eq, q_eqn, q_neq, q_nen, q_ltn, q_nlt, q_len, q_nle, q_nltn, q_nlen, q_cl, q_ib, q_ibn, q_isz0, q_isz1, q_iszb, q_b0, q_b1, q_ng1, q_ng2, q_ng3, q_ng4, q_ng5, q_ng6, Bool.toNat_true, Bool.toNat_false, if_pos, if_neg, q_ct, q_cf, q_let, q_bd, q_it, q_if, Nat.zero_add, Nat.add_zero, true_and, and_true, false_and, and_false, or_false, false_or, or_true, true_or, Bool.true_eq_false, Bool.false_eq_true, wi_s, wi_o, wi_r, c, q_af]
  | r + 1, a, f + 1, e, hf => by
    have hn := hs.1.1
    have c := hs.1.2.2.1
    have ih := x_ik_o hs hd hl hj r (a + 1) f (by omega) (by omega)
    have ii := x_ik_i hs hd hl hj (show a < n by omega) (f0_isKnownOf_l22 S X f) a 0 10000 (by omega) (by omega)
    rw [q_af_al] at ii
    rw [q_af]
    unfold f0_isKnownOf_l22
    simp (disch := first | assumption | omega) only [q_lit, Int32.neg_neg, nI_add, pk_mul, q_sub, q_addn, q_nadd, q_lt, q_le, q_eq, q_eqn, q_neq, q_nen, q_ltn, q_nlt, q_len, q_nle, q_nltn, q_nlen, q_cl, q_ib, q_ibn, q_isz0, q_isz1, q_iszb, q_b0, q_b1, q_ng1, q_ng2, q_ng3, q_ng4, q_ng5, q_ng6, Bool.toNat_true, Bool.toNat_false, if_pos, if_neg, q_ct, q_cf, q_let, q_bd, q_it, q_if, Nat.zero_add, Nat.add_zero, true_and, and_true, false_and, and_false, or_false, false_or, or_true, true_or, Bool.true_eq_false, Bool.false_eq_true, wi_s, wi_o, wi_r, c]
    rw [ii]
    cases e1 : q_al (fun b => !(decide (2 < d) || decide (a = l) || decide (b = l)) || q_met g a b j) a
    · simp (disch := first | assumption | omega) only [q_lit, Int32.neg_neg, nI_add, pk_mul, q_sub, q_addn, q_nadd, q_lt, q_le, q_eq, q_eqn, q_neq, q_nen, q_ltn, q_nlt, q_len, q_nle, q_nltn, q_nlen, q_cl, q_ib, q_ibn, q_isz0, q_isz1, q_iszb, q_b0, q_b1, q_ng1, q_ng2, q_ng3, q_ng4, q_ng5, q_ng6, Bool.toNat_true, Bool.toNat_false, if_pos, if_neg, q_ct, q_cf, q_let, q_bd, q_it, q_if, Nat.zero_add, Nat.add_zero, true_and, and_true, false_and, and_false, or_false, false_or, or_true, true_or, Bool.true_eq_false, Bool.false_eq_true, wi_s, wi_o, wi_r, Bool.false_and]
    · simp (disch := first | assumption | omega) only [q_lit, Int32.neg_neg, nI_add, pk_mul, q_sub, q_addn, q_nadd, q_lt, q_le, q_eq, q_eqn, q_neq, q_nen, q_ltn, q_nlt, q_len, q_nle, q_nltn, q_nlen, q_cl, q_ib, q_ibn, q_isz0, q_isz1, q_iszb, q_b0, q_b1, q_ng1, q_ng2, q_ng3, q_ng4, q_ng5, q_ng6, Bool.toNat_true, Bool.toNat_false, if_pos, if_neg, q_ct, q_cf, q_let, q_bd, q_it, q_if, Nat.zero_add, Nat.add_zero, true_and, and_true, false_and, and_false, or_false, false_or, or_true, true_or, Bool.true_eq_false, Bool.false_eq_true, wi_s, wi_o, wi_r, Bool.true_and]
      exact ih
theorem x_ik {RL : rLT} {S : ph_Sh} {X : ph_Mem} {g : Nat → Int32} {n t d l f : Nat} {lj : Nat → Nat → Nat} (hs : rSt RL S X 11 g n t) (hd : d < 4) (hl : l < n) (hf : f < 8) (hlj : q_lh g l f (hP g l 0) (lj l f)) : f0_isKnownOf S X (nI l) (nI f) (nI d) = some (nI (q_ik g lj n d l f).toNat) := by
  have hn := hs.1.1
  unfold f0_isKnownOf q_ik
  rcases x_lh (S := S) (rSt_rd hs hl) (show l < 6 by omega) hf with ⟨j, j1, j2⟩ | ⟨j1, j2⟩
  · have ej := q_lh_un j1 hlj
    have j12 := hlj.1
    rw [← q_af_al]
    rw [ej] at j2
    simp (disch := first | assumption | omega) only [q_lit, Int32.neg_neg, nI_add, pk_mul, q_sub, q_addn, q_nadd, q_lt, q_le, q_eq, q_eqn, q_neq, q_nen, q_ltn, q_nlt, q_len, q_nle, q_nltn, q_nlen, q_cl, q_ib, q_ibn, q_isz0, q_isz1, q_iszb, q_b0, q_b1, q_ng1, q_ng2, q_ng3, q_ng4, q_ng5, q_ng6, Bool.toNat_true, Bool.toNat_false, if_pos, if_neg, q_ct, q_cf, q_let, q_bd, q_it, q_if, Nat.zero_add, Nat.add_zero, true_and, and_true, false_and, and_false, or_false, false_or, or_true, true_or, Bool.true_eq_false, Bool.false_eq_true, wi_s, wi_o, wi_r, j2]
    exact x_ik_o hs hd hl hlj.1 n 0 10000 (by omega) (by omega)
  · rw [q_lh_kn hlj] at j1
    exact absurd j1 (by simp)
/-- the facts of one learner -/
theorem x_dp_i {RL : rLT} {S : ph_Sh} {X : ph_Mem} {g : Nat → Int32} {n t d l : Nat} {lj : Nat → Nat → Nat} (hs : rSt RL S X 11 g n t) (hd : d < 4) (hl : l < n) (hlj : ∀ p f, p < n → f < 8 → q_kw g f p = true → q_lh g p f (hP g p 0) (lj p f)) (rc : Int32 → Int32 → Int32 → Option Int32) : ∀ (r i fuel kn : Nat), i + r = 8 → r < fuel → kn < 256 → (∀ f, f < 8 → kn.testBit f = true → q_kw g f l = true) → ∃ kn', kn' < 256 ∧ f0_factsKnownDeep_l56 S X rc fuel (nI d) (nI kn) (nI l) (nI i) = rc (nI d) (nI kn') (nI (l + 1)) ∧ ∀ f, f < 8 → kn'.testBit f = (kn.testBit f && (decide (f < i) || q_ik g lj n d l f))
  | 0, i, f + 1, kn, e, _, hk, _ => by
    have : i = 8 := by omega
    subst this
    refine ⟨kn, hk, ?_, fun f hf => ?_⟩
    · unfold f0_factsKnownDeep_l56 f0_factsKnownDeep_j98
      have hn := hs.1.1
      simp (disch := first | assumption | omega) only [q_lit, Int32.neg_neg, nI_add, pk_mul, q_sub, q_addn, q_nadd, q_lt, q_le, q_eq, q_eqn, q_neq, q_nen, q_ltn, q_nlt, q_len, q_nle, q_nltn, q_nlen, q_cl, q_ib, q_ibn, q_isz0, q_isz1, q_iszb, q_b0, q_b1, q_ng1, q_ng2, q_ng3, q_ng4, q_ng5, q_ng6, Bool.toNat_true, Bool.toNat_false, if_pos, if_neg, q_ct, q_cf, q_let, q_bd, q_it, q_if, Nat.zero_add, Nat.add_zero, true_and, and_true, false_and, and_false, or_false, false_or, or_true, true_or, Bool.true_eq_false, Bool.false_eq_true, wi_s, wi_o, wi_r]
    · rw [decide_eq_true hf, Bool.true_or, Bool.and_true]
  | r + 1, i, f + 1, kn, e, hf, hk, hkw => by
    have hn := hs.1.1
    have ih := x_dp_i hs hd hl hlj rc r (i + 1) f
    have same : kn.testBit i = false ∨ q_ik g lj n d l i = true → ∃ kn', kn' < 256 ∧ f0_factsKnownDeep_l56 S X rc f (nI d) (nI kn) (nI l) (nI (i + 1)) = rc (nI d) (nI kn') (nI (l + 1)) ∧ ∀ f, f < 8 → kn'.testBit f = (kn.testBit f && (decide (f < i) || q_ik g lj n d l f)) := by
      intro hc
      obtain ⟨kn', k1, k2, k3⟩ := ih kn (by omega) (by omega) hk hkw
      refine ⟨kn', k1, k2, fun f' hf' => ?_⟩
      rw [k3 f' hf']
      by_cases ef : f' = i
      · subst ef
        rcases hc with q | q
        · rw [q]; simp
        · rw [q]; simp
      · have : decide (f' < i + 1) = decide (f' < i) := by apply decide_eq_decide.mpr; omega
        rw [this]
    unfold f0_factsKnownDeep_l56 f0_factsKnownDeep_j92
    cases e1 : kn.testBit i
    · obtain ⟨kn', k1, k2, k3⟩ := same (Or.inl e1)
      refine ⟨kn', k1, ?_, k3⟩
      simp (disch := first | assumption | omega) only [q_lit, Int32.neg_neg, nI_add, pk_mul, q_sub, q_addn, q_nadd, q_lt, q_le, q_eq, q_eqn, q_neq, q_nen, q_ltn, q_nlt, q_len, q_nle, q_nltn, q_nlen, q_cl, q_ib, q_ibn, q_isz0, q_isz1, q_iszb, q_b0, q_b1, q_ng1, q_ng2, q_ng3, q_ng4, q_ng5, q_ng6, Bool.toNat_true, Bool.toNat_false, if_pos, if_neg, q_ct, q_cf, q_let, q_bd, q_it, q_if, Nat.zero_add, Nat.add_zero, true_and, and_true, false_and, and_false, or_false, false_or, or_true, true_or, Bool.true_eq_false, Bool.false_eq_true, wi_s, wi_o, wi_r, x_bit, e1]
      exact k2
    · have ei := x_ik hs hd hl (show i < 8 by omega) (hlj l i hl (by omega) (hkw i (by omega) e1))
      cases e2 : q_ik g lj n d l i
      · obtain ⟨kn', k1, k2, k3⟩ := ih (kn ^^^ (kn &&& 2 ^ i)) (by omega) (by omega) (q_andn_lt (n := 8) hk) (fun f' hf' hb => hkw f' hf' (by
          rw [q_andn_b] at hb
          cases e3 : kn.testBit f'
          · rw [e3] at hb; exact absurd hb (by simp)
          · rfl))
        refine ⟨kn', k1, ?_, fun f' hf' => ?_⟩
        · simp (disch := first | assumption | omega) only [q_lit, Int32.neg_neg, nI_add, pk_mul, q_sub, q_addn, q_nadd, q_lt, q_le, q_eq, q_eqn, q_neq, q_nen, q_ltn, q_nlt, q_len, q_nle, q_nltn, q_nlen, q_cl, q_ib, q_ibn, q_isz0, q_isz1, q_iszb, q_b0, q_b1, q_ng1, q_ng2, q_ng3, q_ng4, q_ng5, q_ng6, Bool.toNat_true, Bool.toNat_false, if_pos, if_neg, q_ct, q_cf, q_let, q_bd, q_it, q_if, Nat.zero_add, Nat.add_zero, true_and, and_true, false_and, and_false, or_false, false_or, or_true, true_or, Bool.true_eq_false, Bool.false_eq_true, wi_s, wi_o, wi_r, x_bit, e1, ei, e2, q_1sl, q_andn]
          exact k2
        · rw [k3 f' hf', q_andn_b, Nat.testBit_two_pow]
          by_cases ef : f' = i
          · subst ef
            rw [e2]
            simp
          · have : decide (f' < i + 1) = decide (f' < i) := by apply decide_eq_decide.mpr; omega
            rw [this]
            have : ¬ i = f' := fun q => ef q.symm
            simp [this]
      · obtain ⟨kn', k1, k2, k3⟩ := same (Or.inr e2)
        refine ⟨kn', k1, ?_, k3⟩
        simp (disch := first | assumption | omega) only [q_lit, Int32.neg_neg, nI_add, pk_mul, q_sub, q_addn, q_nadd, q_lt, q_le, q_eq, q_eqn, q_neq, q_nen, q_ltn, q_nlt, q_len, q_nle, q_nltn, q_nlen, q_cl, q_ib, q_ibn, q_isz0, q_isz1, q_iszb, q_b0, q_b1, q_ng1, q_ng2, q_ng3, q_ng4, q_ng5, q_ng6, Bool.toNat_true, Bool.toNat_false, if_pos, if_neg, q_ct, q_cf, q_let, q_bd, q_it, q_if, Nat.zero_add, Nat.add_zero, true_and, and_true, false_and, and_false, or_false, false_or, or_true, true_or, Bool.true_eq_false, Bool.false_eq_true, wi_s, wi_o, wi_r, x_bit, e1, ei, e2]
        exact k2
theorem x_dp_o {RL : rLT} {S : ph_Sh} {X : ph_Mem} {g : Nat → Int32} {n t d : Nat} {lj : Nat → Nat → Nat} (hs : rSt RL S X 11 g n t) (hd : d < 4) (hd1 : 1 < d) (hlj : ∀ p f, p < n → f < 8 → q_kw g f p = true → q_lh g p f (hP g p 0) (lj p f)) : ∀ (r l fuel kn : Nat), l + r = n → r < fuel → kn < 256 → (∀ f, f < 8 → kn.testBit f = true → ∀ p, p < n → q_kw g f p = true) → ∃ kn', kn' < 256 ∧ f0_factsKnownDeep_l37 S X fuel (nI d) (nI kn) (nI l) = some (nI kn') ∧ ∀ f, f < 8 → kn'.testBit f = (kn.testBit f && q_af (fun l => q_ik g lj n d l f) n l r)
  | 0, l, f + 1, kn, e, _, hk, _ => by
    have hn := hs.1.1
    have c := hs.1.2.2.1
    refine ⟨kn, hk, ?_, fun f hf => ?_⟩
    · unfold f0_factsKnownDeep_l37
      simp (disch := first | assumption | omega) only [q_lit, Int32.neg_neg, nI_add, pk_mul, q_sub, q_addn, q_nadd, q_lt, q_le, q_eq, q_eqn, q_neq, q_nen, q_ltn, q_nlt, q_len, q_nle, q_nltn, q_nlen, q_cl, q_ib, q_ibn, q_isz0, q_isz1, q_iszb, q_b0, q_b1, q_ng1, q_ng2, q_ng3, q_ng4, q_ng5, q_ng6, Bool.toNat_true, Bool.toNat_false, if_pos, if_neg, q_ct, q_cf, q_let, q_bd, q_it, q_if, Nat.zero_add, Nat.add_zero, true_and, and_true, false_and, and_false, or_false, false_or, or_true, true_or, Bool.true_eq_false, Bool.false_eq_true, wi_s, wi_o, wi_r, c]
    · rw [q_af, Bool.and_true]
  | r + 1, l, f + 1, kn, e, hf, hk, hkw => by
    have hn := hs.1.1
    have c := hs.1.2.2.1
    obtain ⟨k1, a1, a2, a3⟩ := x_dp_i hs hd (show l < n by omega) hlj (f0_factsKnownDeep_l37 S X f) 8 0 10000 kn (by omega) (by omega) hk (fun f hf hb => hkw f hf hb l (by omega))
    obtain ⟨k2, b1, b2, b3⟩ := x_dp_o hs hd hd1 hlj r (l + 1) f k1 (by omega) (by omega) a1 (fun f' hf' hb => hkw f' hf' (by
      rw [a3 f' hf'] at hb
      cases e3 : kn.testBit f'
      · rw [e3] at hb; exact absurd hb (by simp)
      · rfl))
    refine ⟨k2, b1, ?_, fun f' hf' => ?_⟩
    · unfold f0_factsKnownDeep_l37
      simp (disch := first | assumption | omega) only [q_lit, Int32.neg_neg, nI_add, pk_mul, q_sub, q_addn, q_nadd, q_lt, q_le, q_eq, q_eqn, q_neq, q_nen, q_ltn, q_nlt, q_len, q_nle, q_nltn, q_nlen, q_cl, q_ib, q_ibn, q_isz0, q_isz1, q_iszb, q_b0, q_b1, q_ng1, q_ng2, q_ng3, q_ng4, q_ng5, q_ng6, Bool.toNat_true, Bool.toNat_false, if_pos, if_neg, q_ct, q_cf, q_let, q_bd, q_it, q_if, Nat.zero_add, Nat.add_zero, true_and, and_true, false_and, and_false, or_false, false_or, or_true, true_or, Bool.true_eq_false, Bool.false_eq_true, wi_s, wi_o, wi_r, c]
      rw [a2]
      exact b2
    · rw [b3 f' hf', a3 f' hf', q_af]
      simp [Bool.and_assoc]
theorem x_dp_1 {RL : rLT} {S : ph_Sh} {X : ph_Mem} {g : Nat → Int32} {n t d : Nat} {lj : Nat → Nat → Nat} (hs : rSt RL S X 11 g n t) (hd : d < 4) (hd0 : 0 < d) (hlj : ∀ p f, p < n → f < 8 → q_kw g f p = true → q_lh g p f (hP g p 0) (lj p f)) : ∀ (r p fuel kn : Nat), p + r = n → r < fuel → kn < 256 → (∀ f, f < 8 → kn.testBit f = q_al (q_kw g f) p) → ∃ kn', kn' < 256 ∧ f0_factsKnownDeep_l6 S X fuel (nI d) (nI kn) (nI p) = some (nI kn') ∧ ∀ f, f < 8 → kn'.testBit f = (q_al (q_kw g f) n && (decide (d ≤ 1) || q_al (fun l => q_ik g lj n d l f) n))
  | 0, p, f + 1, kn, e, _, hk, hkw => by
    have hn := hs.1.1
    have c := hs.1.2.2.1
    have : p = n := by omega
    subst this
    by_cases hd1 : 1 < d
    · obtain ⟨k2, b1, b2, b3⟩ := x_dp_o hs hd hd1 hlj p 0 10000 kn (by omega) (by omega) hk (fun f' hf' hb => by
        rw [hkw f' hf'] at hb
        exact (q_al_iff _ _).mp hb)
      refine ⟨k2, b1, ?_, fun f' hf' => ?_⟩
      · unfold f0_factsKnownDeep_l6 f0_factsKnownDeep_j35
        simp (disch := first | assumption | omega) only [q_lit, Int32.neg_neg, nI_add, pk_mul, q_sub, q_addn, q_nadd, q_lt, q_le, q_eq, q_eqn, q_neq, q_nen, q_ltn, q_nlt, q_len, q_nle, q_nltn, q_nlen, q_cl, q_ib, q_ibn, q_isz0, q_isz1, q_iszb, q_b0, q_b1, q_ng1, q_ng2, q_ng3, q_ng4, q_ng5, q_ng6, Bool.toNat_true, Bool.toNat_false, if_pos, if_neg, q_ct, q_cf, q_let, q_bd, q_it, q_if, Nat.zero_add, Nat.add_zero, true_and, and_true, false_and, and_false, or_false, false_or, or_true, true_or, Bool.true_eq_false, Bool.false_eq_true, wi_s, wi_o, wi_r, c]
        exact b2
      · rw [b3 f' hf', hkw f' hf', q_af_al, decide_eq_false (by omega), Bool.false_or]
    · refine ⟨kn, hk, ?_, fun f' hf' => ?_⟩
      · unfold f0_factsKnownDeep_l6 f0_factsKnownDeep_j35 f0_factsKnownDeep_l37
        by_cases p0 : p = 0
        · simp (disch := first | assumption | omega) only [q_lit, Int32.neg_neg, nI_add, pk_mul, q_sub, q_addn, q_nadd, q_lt, q_le, q_eq, q_eqn, q_neq, q_nen, q_ltn, q_nlt, q_len, q_nle, q_nltn, q_nlen, q_cl, q_ib, q_ibn, q_isz0, q_isz1, q_iszb, q_b0, q_b1, q_ng1, q_ng2, q_ng3, q_ng4, q_ng5, q_ng6, Bool.toNat_true, Bool.toNat_false, if_pos, if_neg, q_ct, q_cf, q_let, q_bd, q_it, q_if, Nat.zero_add, Nat.add_zero, true_and, and_true, false_and, and_false, or_false, false_or, or_true, true_or, Bool.true_eq_false, Bool.false_eq_true, wi_s, wi_o, wi_r, c]
        · simp (disch := first | assumption | omega) only [q_lit, Int32.neg_neg, nI_add, pk_mul, q_sub, q_addn, q_nadd, q_lt, q_le, q_eq, q_eqn, q_neq, q_nen, q_ltn, q_nlt, q_len, q_nle, q_nltn, q_nlen, q_cl, q_ib, q_ibn, q_isz0, q_isz1, q_iszb, q_b0, q_b1, q_ng1, q_ng2, q_ng3, q_ng4, q_ng5, q_ng6, Bool.toNat_true, Bool.toNat_false, if_pos, if_neg, q_ct, q_cf, q_let, q_bd, q_it, q_if, Nat.zero_add, Nat.add_zero, true_and, and_true, false_and, and_false, or_false, false_or, or_true, true_or, Bool.true_eq_false, Bool.false_eq_true, wi_s, wi_o, wi_r, c]
      · rw [hkw f' hf', decide_eq_true (by omega), Bool.true_or, Bool.and_true]
  | r + 1, p, f + 1, kn, e, hf, hk, hkw => by
    have hn := hs.1.1
    have c := hs.1.2.2.1
    have ek := x_kn0 (S := S) (rSt_rd hs (show p < n by omega)) (show p < 6 by omega)
    obtain ⟨k2, b1, b2, b3⟩ := x_dp_1 hs hd hd0 hlj r (p + 1) f (kn &&& q_kn g p (hP g p 0) 12) (by omega) (by omega) (Nat.and_lt_two_pow (n := 8) _ (q_kn_lt (rSt_rd hs (show p < n by omega)).2.2 12 (by omega))) (fun f' hf' => by
      rw [Nat.testBit_and, hkw f' hf', q_al]
      rfl)
    refine ⟨k2, b1, ?_, b3⟩
    unfold f0_factsKnownDeep_l6
    simp (disch := first | assumption | omega) only [q_lit, Int32.neg_neg, nI_add, pk_mul, q_sub, q_addn, q_nadd, q_lt, q_le, q_eq, q_eqn, q_neq, q_nen, q_ltn, q_nlt, q_len, q_nle, q_nltn, q_nlen, q_cl, q_ib, q_ibn, q_isz0, q_isz1, q_iszb, q_b0, q_b1, q_ng1, q_ng2, q_ng3, q_ng4, q_ng5, q_ng6, Bool.toNat_true, Bool.toNat_false, if_pos, if_neg, q_ct, q_cf, q_let, q_bd, q_it, q_if, Nat.zero_add, Nat.add_zero, true_and, and_true, false_and, and_false, or_false, false_or, or_true, true_or, Bool.true_eq_false, Bool.false_eq_true, wi_s, wi_o, wi_r, c, ek, q_and]
    exact b2
