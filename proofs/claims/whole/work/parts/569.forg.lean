/-! PURE HALF: forged -/
theorem x_fill_l {S : ph_Sh} {c L : Nat} (hL : ph_len S c = L) (hL2 : L < 10000) {v : Int32} (M0 : ph_Mem) : ∀ (r i fuel : Nat) (M : ph_Mem), i + r = L → r < fuel → (∀ d j, M.1 d j = if d = c ∧ j < i then v else M0.1 d j) → M.2 = M0.2 → ∃ M', f7_fill_53178_l5 S c fuel v (nI i) (nI L) M = some M' ∧ (∀ d j, M'.1 d j = if d = c ∧ j < L then v else M0.1 d j) ∧ M'.2 = M0.2
  | 0, i, f + 1, M, e, _, h1, h2 => by
    have : i = L := by omega
    subst this
    refine ⟨M, ?_, h1, h2⟩
    unfold f7_fill_53178_l5
    simp (disch := first | assumption | omega) only [q_lit, Int32.neg_neg, nI_add, pk_mul, q_sub, q_addn, q_nadd, q_lt, q_le, q_eq, q_eqn, q_neq, q_nen, q_ltn, q_nlt, q_len, q_nle, q_nltn, q_nlen, q_cl, q_ib, q_ibn, q_isz0, q_isz1, q_iszb, q_b0, q_b1, q_ng1, q_ng2, q_ng3, q_ng4, q_ng5, q_ng6, Bool.toNat_true, Bool.toNat_false, if_pos, if_neg, q_ct, q_cf, q_let, q_bd, q_it, q_if, Nat.zero_add, Nat.add_zero, true_and, and_true, false_and, and_false, or_false, false_or, or_true, true_or, Bool.true_eq_false, Bool.false_eq_true, wi_s, wi_o, wi_r]
  | r + 1, i, f + 1, M, e, hf, h1, h2 => by
    obtain ⟨M', y1, y2, y3⟩ := x_fill_l hL hL2 M0 r (i + 1) f (ph_wi M c i v) (by omega) (by omega) (fun d j => by
      rw [wi_if, h1 d j]
      by_cases q : d = c ∧ j = i
      · rw [if_pos q, if_pos (by omega)]
      · rw [if_neg q]
        by_cases q2 : d = c ∧ j < i
        · rw [if_pos q2, if_pos (by omega)]
        · rw [if_neg q2, if_neg (by omega)]) h2
    refine ⟨M', ?_, y2, y3⟩
    unfold f7_fill_53178_l5
    simp (disch := first | assumption | omega) only [q_lit, Int32.neg_neg, nI_add, pk_mul, q_sub, q_addn, q_nadd, q_lt, q_le, q_eq, q_eqn, q_neq, q_nen, q_ltn, q_nlt, q_len, q_nle, q_nltn, q_nlen, q_cl, q_ib, q_ibn, q_isz0, q_isz1, q_iszb, q_b0, q_b1, q_ng1, q_ng2, q_ng3, q_ng4, q_ng5, q_ng6, Bool.toNat_true, Bool.toNat_false, if_pos, if_neg, q_ct, q_cf, q_let, q_bd, q_it, q_if, Nat.zero_add, Nat.add_zero, true_and, and_true, false_and, and_false, or_false, false_or, or_true, true_or, Bool.true_eq_false, Bool.false_eq_true, wi_s, wi_o, wi_r, hL]
    exact y1
theorem x_fill {S : ph_Sh} {c L : Nat} (hL : ph_len S c = L) (hL2 : L < 10000) {v : Int32} (M : ph_Mem) : ∃ M', f7_fill_53178 S M c v = some M' ∧ (∀ d j, M'.1 d j = if d = c ∧ j < L then v else M.1 d j) ∧ M'.2 = M.2 := by
  obtain ⟨M', y1, y2, y3⟩ := x_fill_l hL hL2 (v := v) M L 0 10000 M (by omega) (by omega) (fun d j => by rw [if_neg (by omega)]) rfl
  refine ⟨M', ?_, y2, y3⟩
  unfold f7_fill_53178
  rw [q_let, hL]
  exact y1
theorem x_len {S : ph_Sh} (hS : ph_SX S) {c : Nat} (hc : c < 88) : ph_len S c = ph_len (ph_kdX, 88) c := by
  unfold ph_len
  rw [hS.2 c hc]
/-- lies that were met ahead of (a, b) -/
def q_dn (g : Nat → Int32) (h n a b x y : Nat) : Bool := decide (x < n) && decide (y < n) && decide (x < a ∨ (x = a ∧ y < b)) && q_lie g h x y
def q_ag (g : Nat → Int32) (h n a b : Nat) (M : ph_Mem) : Prop := ∀ p, p < 6 → ∃ v, v < 64 ∧ M.1 72 p = nI v ∧ ∀ i, i < 6 → v.testBit i = (q_dn g h n a b p i || q_dn g h n a b i p)
theorem q_or64 {v i : Nat} (hv : v < 64) (hi : i < 6) : v ||| 2 ^ i < 64 := Nat.or_lt_two_pow (n := 6) hv (Nat.pow_lt_pow_right (by omega) hi)
theorem q_dn_s {g : Nat → Int32} {h n a b x y : Nat} (ha : a < n) (hb : b < n) : q_dn g h n a (b + 1) x y = (q_dn g h n a b x y || (decide (x = a ∧ y = b) && q_lie g h a b)) := by
  unfold q_dn
  by_cases e : x = a ∧ y = b
  · obtain ⟨rfl, rfl⟩ := e
    simp [ha, hb]
  · rw [decide_eq_false e, Bool.false_and, Bool.or_false]
    congr 2
    apply decide_eq_decide.mpr
    omega
theorem q_dn_n {g : Nat → Int32} {h n a x y : Nat} : q_dn g h n a n x y = q_dn g h n (a + 1) 0 x y := by
  unfold q_dn
  by_cases e : y < n
  · congr 2
    apply decide_eq_decide.mpr
    omega
  · rw [decide_eq_false e]
    simp
theorem x_fl_i {RL : rLT} (hRL : rLoc RL) {S : ph_Sh} {X : ph_Mem} {g : Nat → Int32} {n t h a : Nat} (hs : rSt RL S X 11 g n t) (hh : h < 12) (ha : a < n) (rc : Int32 → Int32 → ph_Mem → Option ph_Mem) : ∀ (r b fuel : Nat) (M : ph_Mem), b + r = n → r < fuel → (∀ d j, d ≠ 72 → M.1 d j = X.1 d j) → M.2 = X.2 → q_ag g h n a b M → ∃ M', f0_findLies_l23 S rc fuel (nI h) (nI a) (nI b) M = rc (nI h) (nI (a + 1)) M' ∧ (∀ d j, d ≠ 72 → M'.1 d j = X.1 d j) ∧ M'.2 = X.2 ∧ q_ag g h n (a + 1) 0 M'
  | 0, b, f + 1, M, e, _, h1, h2, h3 => by
    have hn := hs.1.1
    have : b = n := by omega
    subst this
    refine ⟨M, ?_, h1, h2, fun p hp => ?_⟩
    · unfold f0_findLies_l23 f0_findLies_j74
      simp (disch := first | assumption | omega) only [q_lit, Int32.neg_neg, nI_add, pk_mul, q_sub, q_addn, q_nadd, q_lt, q_le, q_eq, q_eqn, q_neq, q_nen, q_ltn, q_nlt, q_len, q_nle, q_nltn, q_nlen, q_cl, q_ib, q_ibn, q_isz0, q_isz1, q_iszb, q_b0, q_b1, q_ng1, q_ng2, q_ng3, q_ng4, q_ng5, q_ng6, Bool.toNat_true, Bool.toNat_false, if_pos, if_neg, q_ct, q_cf, q_let, q_bd, q_it, q_if, Nat.zero_add, Nat.add_zero, true_and, and_true, false_and, and_false, or_false, false_or, or_true, true_or, Bool.true_eq_false, Bool.false_eq_true, wi_s, wi_o, wi_r, h1 11 1, hs.1.2.2.1]
    · obtain ⟨v, v1, v2, v3⟩ := h3 p hp
      refine ⟨v, v1, v2, fun i hi => ?_⟩
      rw [v3 i hi, q_dn_n, q_dn_n]
  | r + 1, b, f + 1, M, e, hf, h1, h2, h3 => by
    have hn := hs.1.1
    have hsM : rSt RL S M 11 g n t := rSt_fr hRL hs (h1 _ _ (by omega)) (h1 _ _ (by omega)) (h1 _ _ (by omega)) (fun p _ => h1 _ _ (by omega)) (fun d j _ _ _ => h1 _ _ (by omega)) (fun j _ => h1 _ _ (by omega)) (fun j _ => h1 _ _ (by omega)) (fun j _ => h1 _ _ (by omega)) (fun i _ => by rw [h2]) (fun d j _ => h1 _ _ (by omega)) (fun j _ => rfl)
    have el := x_lie hsM ha (show b < n by omega) hh
    cases eb : q_lie g h a b
    · obtain ⟨M', y1, y2, y3, y4⟩ := x_fl_i hRL hs hh ha rc r (b + 1) f M (by omega) (by omega) h1 h2 (fun p hp => by
        obtain ⟨v, v1, v2, v3⟩ := h3 p hp
        refine ⟨v, v1, v2, fun i hi => ?_⟩
        rw [v3 i hi, q_dn_s ha (by omega), q_dn_s ha (by omega), eb]
        simp)
      refine ⟨M', ?_, y2, y3, y4⟩
      unfold f0_findLies_l23 f0_findLies_j68
      simp (disch := first | assumption | omega) only [q_lit, Int32.neg_neg, nI_add, pk_mul, q_sub, q_addn, q_nadd, q_lt, q_le, q_eq, q_eqn, q_neq, q_nen, q_ltn, q_nlt, q_len, q_nle, q_nltn, q_nlen, q_cl, q_ib, q_ibn, q_isz0, q_isz1, q_iszb, q_b0, q_b1, q_ng1, q_ng2, q_ng3, q_ng4, q_ng5, q_ng6, Bool.toNat_true, Bool.toNat_false, if_pos, if_neg, q_ct, q_cf, q_let, q_bd, q_it, q_if, Nat.zero_add, Nat.add_zero, true_and, and_true, false_and, and_false, or_false, false_or, or_true, true_or, Bool.true_eq_false, Bool.false_eq_true, wi_s, wi_o, wi_r, h1 11 1, hs.1.2.2.1, el, eb]
      exact y1
    · have nab : a ≠ b := by
        intro q
        subst q
        unfold q_lie at eb
        simp at eb
      obtain ⟨va, va1, va2, va3⟩ := h3 a (by omega)
      obtain ⟨vb, vb1, vb2, vb3⟩ := h3 b (by omega)
      obtain ⟨M', y1, y2, y3, y4⟩ := x_fl_i hRL hs hh ha rc r (b + 1) f (ph_wi (ph_wi M 72 a (nI (va ||| 2 ^ b))) 72 b (nI (vb ||| 2 ^ a))) (by omega) (by omega) (fun d j hd => by simp (disch := first | assumption | omega) only [q_lit, Int32.neg_neg, nI_add, pk_mul, q_sub, q_addn, q_nadd, q_lt, q_le, q_eq, q_eqn, q_neq, q_nen, q_ltn, q_nlt, q_len, q_nle, q_nltn, q_nlen, q_cl, q_ib, q_ibn, q_isz0, q_isz1, q_iszb, q_b0, q_b1, q_ng1, q_ng2, q_ng3, q_ng4, q_ng5, q_ng6, Bool.toNat_true, Bool.toNat_false, if_pos, if_neg, q_ct, q_cf, q_let, q_bd, q_it, q_if, Nat.zero_add, Nat.add_zero, true_and, and_true, false_and, and_false, or_false, false_or, or_true, true_or, Bool.true_eq_false, Bool.false_eq_true, wi_s, wi_o, wi_r]; exact h1 d j hd) h2 (fun p hp => by
        by_cases pa : p = a
        · subst pa
          refine ⟨va ||| 2 ^ b, q_or64 va1 (by omega), by simp (disch := first | assumption | omega) only [q_lit, Int32.neg_neg, nI_add, pk_mul, q_sub, q_addn, q_nadd, q_lt, q_le, q_eq, q_eqn, q_neq, q_nen, q_ltn, q_nlt, q_len, q_nle, q_nltn, q_nlen, q_cl, q_ib, q_ibn, q_isz0, q_isz1, q_iszb, q_b0, q_b1, q_ng1, q_ng2, q_ng3, q_ng4, q_ng5, q_ng6, Bool.toNat_true, Bool.toNat_false, if_pos, if_neg, q_ct, q_cf, q_let, q_bd, q_it, q_if, Nat.zero_add, Nat.add_zero, true_and, and_true, false_and, and_false, or_false, false_or, or_true, true_or, Bool.true_eq_false, Bool.false_eq_true, wi_s, wi_o, wi_r], fun i hi => ?_⟩
          rw [Nat.testBit_or, va3 i hi, Nat.testBit_two_pow, q_dn_s ha (by omega), q_dn_s ha (by omega), eb]
          by_cases ib : b = i
          · subst ib; simp
          · have : ¬ i = b := fun q => ib q.symm
            simp [ib, this, nab]
        · by_cases pb : p = b
          · subst pb
            refine ⟨vb ||| 2 ^ a, q_or64 vb1 (by omega), by simp (disch := first | assumption | omega) only [q_lit, Int32.neg_neg, nI_add, pk_mul, q_sub, q_addn, q_nadd, q_lt, q_le, q_eq, q_eqn, q_neq, q_nen, q_ltn, q_nlt, q_len, q_nle, q_nltn, q_nlen, q_cl, q_ib, q_ibn, q_isz0, q_isz1, q_iszb, q_b0, q_b1, q_ng1, q_ng2, q_ng3, q_ng4, q_ng5, q_ng6, Bool.toNat_true, Bool.toNat_false, if_pos, if_neg, q_ct, q_cf, q_let, q_bd, q_it, q_if, Nat.zero_add, Nat.add_zero, true_and, and_true, false_and, and_false, or_false, false_or, or_true, true_or, Bool.true_eq_false, Bool.false_eq_true, wi_s, wi_o, wi_r], fun i hi => ?_⟩
            rw [Nat.testBit_or, vb3 i hi, Nat.testBit_two_pow, q_dn_s ha (by omega), q_dn_s ha (by omega), eb]
            by_cases ia : a = i
            · subst ia; simp
            · have : ¬ i = a := fun q => ia q.symm
              simp [ia, this, pa]
          · obtain ⟨v, v1, v2, v3⟩ := h3 p hp
            refine ⟨v, v1, by simp (disch := first | assumption | omega) only [q_lit, Int32.neg_neg, nI_add, pk_mul, q_sub, q_addn, q_nadd, q_lt, q_le, q_eq, q_eqn, q_neq, q_nen, q_ltn, q_nlt, q_len, q_nle, q_nltn, q_nlen, q_cl, q_ib, q_ibn, q_isz0, q_isz1, q_iszb, q_b0, q_b1, q_ng1, q_ng2, q_ng3, q_ng4, q_ng5, q_ng6, Bool.toNat_true, Bool.toNat_false, if_pos, if_neg, q_ct, q_cf, q_let, q_bd, q_it, q_if, Nat.zero_add, Nat.add_zero, true_and, and_true, false_and, and_false, or_false, false_or, or_true, true_or, Bool.true_eq_false, Bool.false_eq_true, wi_s, wi_o, wi_r]; exact v2, fun i hi => ?_⟩
            rw [v3 i hi, q_dn_s ha (by omega), q_dn_s ha (by omega), eb]
            simp [pa, pb])
      refine ⟨M', ?_, y2, y3, y4⟩
      unfold f0_findLies_l23 f0_findLies_j68
      simp (disch := first | assumption | omega) only [q_lit, Int32.neg_neg, nI_add, pk_mul, q_sub, q_addn, q_nadd, q_lt, q_le, q_eq, q_eqn, q_neq, q_nen, q_ltn, q_nlt, q_len, q_nle, q_nltn, q_nlen, q_cl, q_ib, q_ibn, q_isz0, q_isz1, q_iszb, q_b0, q_b1, q_ng1, q_ng2, q_ng3, q_ng4, q_ng5, q_ng6, Bool.toNat_true, Bool.toNat_false, if_pos, if_neg, q_ct, q_cf, q_let, q_bd, q_it, q_if, Nat.zero_add, Nat.add_zero, true_and, and_true, false_and, and_false, or_false, false_or, or_true, true_or, Bool.true_eq_false, Bool.false_eq_true, wi_s, wi_o, wi_r, h1 11 1, hs.1.2.2.1, el, eb, va2, vb2, q_1sl, q_or]
      exact y1
theorem x_fl_o {RL : rLT} (hRL : rLoc RL) {S : ph_Sh} {X : ph_Mem} {g : Nat → Int32} {n t h : Nat} (hs : rSt RL S X 11 g n t) (hh : h < 12) : ∀ (r a fuel : Nat) (M : ph_Mem), a + r = n → r < fuel → (∀ d j, d ≠ 72 → M.1 d j = X.1 d j) → M.2 = X.2 → q_ag g h n a 0 M → ∃ M', f0_findLies_l10 S fuel (nI h) (nI a) M = some M' ∧ (∀ d j, d ≠ 72 → M'.1 d j = X.1 d j) ∧ M'.2 = X.2 ∧ q_ag g h n n 0 M'
  | 0, a, f + 1, M, e, _, h1, h2, h3 => by
    have hn := hs.1.1
    have : a = n := by omega
    subst this
    refine ⟨M, ?_, h1, h2, h3⟩
    unfold f0_findLies_l10
    simp (disch := first | assumption | omega) only [q_lit, Int32.neg_neg, nI_add, pk_mul, q_sub, q_addn, q_nadd, q_lt, q_le, q_eq, q_eqn, q_neq, q_nen, q_ltn, q_nlt, q_len, q_nle, q_nltn, q_nlen, q_cl, q_ib, q_ibn, q_isz0, q_isz1, q_iszb, q_b0, q_b1, q_ng1, q_ng2, q_ng3, q_ng4, q_ng5, q_ng6, Bool.toNat_true, Bool.toNat_false, if_pos, if_neg, q_ct, q_cf, q_let, q_bd, q_it, q_if, Nat.zero_add, Nat.add_zero, true_and, and_true, false_and, and_false, or_false, false_or, or_true, true_or, Bool.true_eq_false, Bool.false_eq_true, wi_s, wi_o, wi_r, h1 11 1, hs.1.2.2.1]
  | r + 1, a, f + 1, M, e, hf, h1, h2, h3 => by
    have hn := hs.1.1
    obtain ⟨M1, z1, z2, z3, z4⟩ := x_fl_i hRL hs hh (show a < n by omega) (f0_findLies_l10 S f) n 0 10000 M (by omega) (by omega) h1 h2 h3
    obtain ⟨M', y1, y2, y3, y4⟩ := x_fl_o hRL hs hh r (a + 1) f M1 (by omega) (by omega) z2 z3 z4
    refine ⟨M', ?_, y2, y3, y4⟩
    unfold f0_findLies_l10
    simp (disch := first | assumption | omega) only [q_lit, Int32.neg_neg, nI_add, pk_mul, q_sub, q_addn, q_nadd, q_lt, q_le, q_eq, q_eqn, q_neq, q_nen, q_ltn, q_nlt, q_len, q_nle, q_nltn, q_nlen, q_cl, q_ib, q_ibn, q_isz0, q_isz1, q_iszb, q_b0, q_b1, q_ng1, q_ng2, q_ng3, q_ng4, q_ng5, q_ng6, Bool.toNat_true, Bool.toNat_false, if_pos, if_neg, q_ct, q_cf, q_let, q_bd, q_it, q_if, Nat.zero_add, Nat.add_zero, true_and, and_true, false_and, and_false, or_false, false_or, or_true, true_or, Bool.true_eq_false, Bool.false_eq_true, wi_s, wi_o, wi_r, h1 11 1, hs.1.2.2.1]
    rw [z1]
    exact y1
/-- no lie is left -/
def q_ok1 (g : Nat → Int32) (h s a b : Nat) : Bool := s.testBit a || s.testBit b || !q_lie g h a b
def q_ok (g : Nat → Int32) (h n s : Nat) : Bool := q_al (fun a => q_al (q_ok1 g h s a) n) n
theorem q_anx : ∀ a, a < 64 → ∀ s, s < 64 → decide (nI a &&& (nI s ^^^ -nI 1) = nI 0) = decide (a ||| s = s) := by decide +kernel
theorem q_sub6 {a s : Nat} : (a ||| s = s) ↔ ∀ i, a.testBit i = true → s.testBit i = true := by
  constructor
  · intro h i hi
    rw [← h, Nat.testBit_or, hi, Bool.true_or]
  · intro h
    apply Nat.eq_of_testBit_eq
    intro i
    rw [Nat.testBit_or]
    cases e : a.testBit i
    · rw [Bool.false_or]
    · rw [h i e, Bool.true_or]
theorem x_nol_l {S : ph_Sh} {M : ph_Mem} {g : Nat → Int32} {n h s : Nat} (hn : n ≤ 6) (hM : M.1 11 1 = nI n) (hs : s < 64) (hag : q_ag g h n n 0 M) : ∀ (r p fuel : Nat), p + r = n → r < fuel → ∃ b : Bool, f0_leavesNoLie_l2 S M fuel (nI s) (nI p) = some (nI b.toNat) ∧ (b = true ↔ ∀ a, p ≤ a → a < n → ∀ c, c < n → s.testBit a = true ∨ s.testBit c = true ∨ (q_lie g h a c = false ∧ q_lie g h c a = false))
  | 0, p, f + 1, e, _ => by
    refine ⟨true, ?_, ⟨fun _ a h1 h2 => absurd h1 (by omega), fun _ => rfl⟩⟩
    unfold f0_leavesNoLie_l2
    simp (disch := first | assumption | omega) only [q_lit, Int32.neg_neg, nI_add, pk_mul, q_sub, q_addn, q_nadd, q_lt, q_le, q_eq, q_eqn, q_neq, q_nen, q_ltn, q_nlt, q_len, q_nle, q_nltn, q_nlen, q_cl, q_ib, q_ibn, q_isz0, q_isz1, q_iszb, q_b0, q_b1, q_ng1, q_ng2, q_ng3, q_ng4, q_ng5, q_ng6, Bool.toNat_true, Bool.toNat_false, if_pos, if_neg, q_ct, q_cf, q_let, q_bd, q_it, q_if, Nat.zero_add, Nat.add_zero, true_and, and_true, false_and, and_false, or_false, false_or, or_true, true_or, Bool.true_eq_false, Bool.false_eq_true, wi_s, wi_o, wi_r, hM]
  | r + 1, p, f + 1, e, hf => by
    obtain ⟨b, b1, b2⟩ := x_nol_l (S := S) hn hM hs hag r (p + 1) f (by omega) (by omega)
    obtain ⟨v, v1, v2, v3⟩ := hag p (by omega)
    unfold f0_leavesNoLie_l2 f0_leavesNoLie_j36
    cases e1 : s.testBit p
    · have hx := q_anx v v1 s hs
      by_cases e2 : v ||| s = s
      · rw [decide_eq_true e2] at hx
        have hx' := of_decide_eq_true hx
        refine ⟨b, ?_, ?_⟩
        · simp (disch := first | assumption | omega) only [q_lit, Int32.neg_neg, nI_add, pk_mul, q_sub, q_addn, q_nadd, q_lt, q_le, q_eq, q_eqn, q_neq, q_nen, q_ltn, q_nlt, q_len, q_nle, q_nltn, q_nlen, q_cl, q_ib, q_ibn, q_isz0, q_isz1, q_iszb, q_b0, q_b1, q_ng1, q_ng2, q_ng3, q_ng4, q_ng5, q_ng6, Bool.toNat_true, Bool.toNat_false, if_pos, if_neg, q_ct, q_cf, q_let, q_bd, q_it, q_if, Nat.zero_add, Nat.add_zero, true_and, and_true, false_and, and_false, or_false, false_or, or_true, true_or, Bool.true_eq_false, Bool.false_eq_true, wi_s, wi_o, wi_r, hM, x_bit, e1, v2, hx']
          exact b1
        · rw [b2]
          constructor
          · intro q a h1 h2 c hc
            by_cases ea : a = p
            · subst ea
              cases e3 : s.testBit c
              · right; right
                have q1 : v.testBit c = false := by
                  cases e4 : v.testBit c
                  · rfl
                  · have := q_sub6.mp e2 c e4
                    rw [e3] at this
                    exact absurd this (by simp)
                rw [v3 c (by omega), Bool.or_eq_false_iff] at q1
                unfold q_dn at q1
                simp [hc, h2] at q1
                exact q1
              · exact Or.inr (Or.inl rfl)
            · exact q a (by omega) h2 c hc
          · intro q a h1 h2
            exact q a (by omega) h2
      · rw [decide_eq_false e2] at hx
        have hx' := of_decide_eq_false hx
        refine ⟨false, ?_, ⟨fun e => (nomatch e), fun q => ?_⟩⟩
        · simp (disch := first | assumption | omega) only [q_lit, Int32.neg_neg, nI_add, pk_mul, q_sub, q_addn, q_nadd, q_lt, q_le, q_eq, q_eqn, q_neq, q_nen, q_ltn, q_nlt, q_len, q_nle, q_nltn, q_nlen, q_cl, q_ib, q_ibn, q_isz0, q_isz1, q_iszb, q_b0, q_b1, q_ng1, q_ng2, q_ng3, q_ng4, q_ng5, q_ng6, Bool.toNat_true, Bool.toNat_false, if_pos, if_neg, q_ct, q_cf, q_let, q_bd, q_it, q_if, Nat.zero_add, Nat.add_zero, true_and, and_true, false_and, and_false, or_false, false_or, or_true, true_or, Bool.true_eq_false, Bool.false_eq_true, wi_s, wi_o, wi_r, hM, x_bit, e1, v2, hx']
        · exfalso
          apply e2
          apply q_sub6.mpr
          intro i hi
          by_cases i6 : i < 6
          · have hi' := hi
            rw [v3 i i6] at hi'
            have hin : i < n := by
              unfold q_dn at hi'
              simp at hi'
              omega
            rcases q p (Nat.le_refl _) (by omega) i hin with q1 | q1 | q1
            · rw [e1] at q1; exact absurd q1 (by simp)
            · exact q1
            · unfold q_dn at hi'
              rw [q1.1, q1.2] at hi'
              simp at hi'
          · rw [q_hib v1 (by omega)] at hi
            exact absurd hi (by simp)
    · refine ⟨b, ?_, ?_⟩
      · simp (disch := first | assumption | omega) only [q_lit, Int32.neg_neg, nI_add, pk_mul, q_sub, q_addn, q_nadd, q_lt, q_le, q_eq, q_eqn, q_neq, q_nen, q_ltn, q_nlt, q_len, q_nle, q_nltn, q_nlen, q_cl, q_ib, q_ibn, q_isz0, q_isz1, q_iszb, q_b0, q_b1, q_ng1, q_ng2, q_ng3, q_ng4, q_ng5, q_ng6, Bool.toNat_true, Bool.toNat_false, if_pos, if_neg, q_ct, q_cf, q_let, q_bd, q_it, q_if, Nat.zero_add, Nat.add_zero, true_and, and_true, false_and, and_false, or_false, false_or, or_true, true_or, Bool.true_eq_false, Bool.false_eq_true, wi_s, wi_o, wi_r, hM, x_bit, e1]
        exact b1
      · rw [b2]
        constructor
        · intro q a h1 h2 c hc
          by_cases ea : a = p
          · subst ea; exact Or.inl e1
          · exact q a (by omega) h2 c hc
        · intro q a h1 h2
          exact q a (by omega) h2
theorem q_ok_iff {g : Nat → Int32} {h n s : Nat} : q_ok g h n s = true ↔ ∀ a, 0 ≤ a → a < n → ∀ c, c < n → s.testBit a = true ∨ s.testBit c = true ∨ (q_lie g h a c = false ∧ q_lie g h c a = false) := by
  unfold q_ok
  rw [q_al_iff]
  constructor
  · intro q a _ ha c hc
    have q1 := (q_al_iff _ n).mp (q a ha) c hc
    have q2 := (q_al_iff _ n).mp (q c hc) a ha
    unfold q_ok1 at q1 q2
    cases e1 : s.testBit a
    · cases e2 : s.testBit c
      · rw [e1, e2] at q1 q2
        right; right
        simpa using And.intro q1 q2
      · exact Or.inr (Or.inl rfl)
    · exact Or.inl rfl
  · intro q a ha
    rw [q_al_iff]
    intro c hc
    unfold q_ok1
    rcases q a (by omega) ha c hc with q1 | q1 | q1
    · rw [q1]; rfl
    · rw [q1]; simp
    · rw [q1.1]; simp
theorem x_nol {S : ph_Sh} {M : ph_Mem} {g : Nat → Int32} {n h s : Nat} (hn : n ≤ 6) (hM : M.1 11 1 = nI n) (hs : s < 64) (hag : q_ag g h n n 0 M) : f0_leavesNoLie S M (nI s) = some (nI (q_ok g h n s).toNat) := by
  obtain ⟨b, b1, b2⟩ := x_nol_l (S := S) hn hM hs hag n 0 10000 (by omega) (by omega)
  have : b = q_ok g h n s := by
    rw [Bool.eq_iff_iff, b2, q_ok_iff]
  rw [← this]
  exact b1
/-- the model's test of a set -/
theorem m_ok_b {RL : rLT} {S : ph_Sh} {X K : ph_Mem} {n t h s a : Nat} (hs : rSt RL S X 11 (K.1 2) n t) (hh : h < 12) (hsv : s < 64) (ha : a < n) (r4 : Int32 → Int32 → Int32 → Option Int32) (r39 : Int32 → Int32 → Int32 → Int32 → Int32 → Option Int32) (z : Int32) : ∀ (r b fuel : Nat) (fl : Bool), b + r = n → r < fuel → f12_forgedIn_l51 K r4 r39 fuel (nI h) z (nI s) (nI fl.toNat) (nI a) (nI b) = r39 (nI h) z (nI s) (nI (fl && q_af (q_ok1 (K.1 2) h s a) n b r).toNat) (nI (a + 1))
  | 0, b, f + 1, fl, e, _ => by
    have hn := hs.1.1
    unfold f12_forgedIn_l51 f12_people f12_forgedIn_j108
    simp (disch := first | assumption | omega) only [q_lit, Int32.neg_neg, nI_add, pk_mul, q_sub, q_addn, q_nadd, q_lt, q_le, q_eq, q_eqn, q_neq, q_nen, q_ltn, q_nlt, q_len, q_nle, q_nltn, q_nlen, q_cl, q_ib, q_ibn, q_isz0, q_isz1, q_iszb, q_b0, q_b1, q_ng1, q_ng2, q_ng3, q_ng4, q_ng5, q_ng6, Bool.toNat_true, Bool.toNat_false, if_pos, if_neg, q_ct, q_cf, q_let, q_bd, q_it, q_if, Nat.zero_add, Nat.add_zero, true_and, and_true, false_and, and_false, or_false, false_or, or_true, true_or, Bool.true_eq_false, Bool.false_eq_true, wi_s, wi_o, wi_r, hs.1.2.2.2.1, q_af, Bool.and_true]
  | r + 1, b, f + 1, fl, e, hf => by
    have hn := hs.1.1
    have c := hs.1.2.2.2.1
    have ih := m_ok_b hs hh hsv ha r4 r39 z r (b + 1) f
    have i0 := ih false (by omega) (by omega)
    have i1 := ih true (by omega) (by omega)
    simp (disch := first | assumption | omega) only [q_lit, Int32.neg_neg, nI_add, pk_mul, q_sub, q_addn, q_nadd, q_lt, q_le, q_eq, q_eqn, q_neq, q_nen, q_ltn, q_nlt, q_len, q_nle, q_nltn, q_nlen, q_cl, q_ib, q_ibn, q_isz0, q_isz1, q_iszb, q_b0, q_b1, q_ng1, q_ng2, q_ng3, q_ng4, q_ng5, q_ng6, Bool.toNat_true, Bool.toNat_false, if_pos, if_neg, q_ct, q_cf, q_let, q_bd, q_it, q_if, Nat.zero_add, Nat.add_zero, true_and, and_true, false_and, and_false, or_false, false_or, or_true, true_or, Bool.true_eq_false, Bool.false_eq_true, wi_s, wi_o, wi_r, Bool.false_and] at i0
    simp (disch := first | assumption | omega) only [q_lit, Int32.neg_neg, nI_add, pk_mul, q_sub, q_addn, q_nadd, q_lt, q_le, q_eq, q_eqn, q_neq, q_nen, q_ltn, q_nlt, q_len, q_nle, q_nltn, q_nlen, q_cl, q_ib, q_ibn, q_isz0, q_isz1, q_iszb, q_b0, q_b1, q_ng1, q_ng2, q_ng3, q_ng4, q_ng5, q_ng6, Bool.toNat_true, Bool.toNat_false, if_pos, if_neg, q_ct, q_cf, q_let, q_bd, q_it, q_if, Nat.zero_add, Nat.add_zero, true_and, and_true, false_and, and_false, or_false, false_or, or_true, true_or, Bool.true_eq_false, Bool.false_eq_true, wi_s, wi_o, wi_r, Bool.true_and] at i1
    have el := m_lie hs ha (show b < n by omega) hh
    rw [q_af]
    conv => lhs; unfold f12_forgedIn_l51 f12_people f12_forgedIn_j95 f12_forgedIn_j99 f12_forgedIn_j100
    cases fl
    · simp (disch := first | assumption | omega) only [q_lit, Int32.neg_neg, nI_add, pk_mul, q_sub, q_addn, q_nadd, q_lt, q_le, q_eq, q_eqn, q_neq, q_nen, q_ltn, q_nlt, q_len, q_nle, q_nltn, q_nlen, q_cl, q_ib, q_ibn, q_isz0, q_isz1, q_iszb, q_b0, q_b1, q_ng1, q_ng2, q_ng3, q_ng4, q_ng5, q_ng6, Bool.toNat_true, Bool.toNat_false, if_pos, if_neg, q_ct, q_cf, q_let, q_bd, q_it, q_if, Nat.zero_add, Nat.add_zero, true_and, and_true, false_and, and_false, or_false, false_or, or_true, true_or, Bool.true_eq_false, Bool.false_eq_true, wi_s, wi_o, wi_r, c, Bool.false_and]
      exact i0
    · rw [Bool.true_and]
      have un : q_ok1 (K.1 2) h s a b = (s.testBit a || s.testBit b || !q_lie (K.1 2) h a b) := rfl
      cases e1 : s.testBit a
      · cases e2 : s.testBit b
        · cases e3 : q_lie (K.1 2) h a b
          · rw [un, e1, e2, e3]
            simp (disch := first | assumption | omega) only [q_lit, Int32.neg_neg, nI_add, pk_mul, q_sub, q_addn, q_nadd, q_lt, q_le, q_eq, q_eqn, q_neq, q_nen, q_ltn, q_nlt, q_len, q_nle, q_nltn, q_nlen, q_cl, q_ib, q_ibn, q_isz0, q_isz1, q_iszb, q_b0, q_b1, q_ng1, q_ng2, q_ng3, q_ng4, q_ng5, q_ng6, Bool.toNat_true, Bool.toNat_false, if_pos, if_neg, q_ct, q_cf, q_let, q_bd, q_it, q_if, Nat.zero_add, Nat.add_zero, true_and, and_true, false_and, and_false, or_false, false_or, or_true, true_or, Bool.true_eq_false, Bool.false_eq_true, wi_s, wi_o, wi_r, c, m_bit, e1, e2, el, e3, Bool.not_false, Bool.or_true, Bool.true_and]
            exact i1
          · rw [un, e1, e2, e3]
            simp (disch := first | assumption | omega) only [q_lit, Int32.neg_neg, nI_add, pk_mul, q_sub, q_addn, q_nadd, q_lt, q_le, q_eq, q_eqn, q_neq, q_nen, q_ltn, q_nlt, q_len, q_nle, q_nltn, q_nlen, q_cl, q_ib, q_ibn, q_isz0, q_isz1, q_iszb, q_b0, q_b1, q_ng1, q_ng2, q_ng3, q_ng4, q_ng5, q_ng6, Bool.toNat_true, Bool.toNat_false, if_pos, if_neg, q_ct, q_cf, q_let, q_bd, q_it, q_if, Nat.zero_add, Nat.add_zero, true_and, and_true, false_and, and_false, or_false, false_or, or_true, true_or, Bool.true_eq_false, Bool.false_eq_true, wi_s, wi_o, wi_r, c, m_bit, e1, e2, el, e3, Bool.not_true, Bool.or_false, Bool.false_and]
            exact i0
        · rw [un, e1, e2]
          simp (disch := first | assumption | omega) only [q_lit, Int32.neg_neg, nI_add, pk_mul, q_sub, q_addn, q_nadd, q_lt, q_le, q_eq, q_eqn, q_neq, q_nen, q_ltn, q_nlt, q_len, q_nle, q_nltn, q_nlen, q_cl, q_ib, q_ibn, q_isz0, q_isz1, q_iszb, q_b0, q_b1, q_ng1, q_ng2, q_ng3, q_ng4, q_ng5, q_ng6, Bool.toNat_true, Bool.toNat_false, if_pos, if_neg, q_ct, q_cf, q_let, q_bd, q_it, q_if, Nat.zero_add, Nat.add_zero, true_and, and_true, false_and, and_false, or_false, false_or, or_true, true_or, Bool.true_eq_false, Bool.false_eq_true, wi_s, wi_o, wi_r, c, m_bit, e1, e2, Bool.or_true, Bool.true_or, Bool.true_and]
          exact i1
      · rw [un, e1]
        simp (disch := first | assumption | omega) only [q_lit, Int32.neg_neg, nI_add, pk_mul, q_sub, q_addn, q_nadd, q_lt, q_le, q_eq, q_eqn, q_neq, q_nen, q_ltn, q_nlt, q_len, q_nle, q_nltn, q_nlen, q_cl, q_ib, q_ibn, q_isz0, q_isz1, q_iszb, q_b0, q_b1, q_ng1, q_ng2, q_ng3, q_ng4, q_ng5, q_ng6, Bool.toNat_true, Bool.toNat_false, if_pos, if_neg, q_ct, q_cf, q_let, q_bd, q_it, q_if, Nat.zero_add, Nat.add_zero, true_and, and_true, false_and, and_false, or_false, false_or, or_true, true_or, Bool.true_eq_false, Bool.false_eq_true, wi_s, wi_o, wi_r, c, m_bit, e1, Bool.true_or, Bool.true_and]
        exact i1
theorem m_ok_a {RL : rLT} {S : ph_Sh} {X K : ph_Mem} {n t h s : Nat} (hs : rSt RL S X 11 (K.1 2) n t) (hh : h < 12) (hsv : s < 64) (r4 : Int32 → Int32 → Int32 → Option Int32) (z : Int32) : ∀ (r a fuel : Nat) (fl : Bool), a + r = n → r < fuel → f12_forgedIn_l39 K r4 fuel (nI h) z (nI s) (nI fl.toNat) (nI a) = f12_forgedIn_j114 K r4 (nI h) z (nI s) (nI (fl && q_af (fun a => q_al (q_ok1 (K.1 2) h s a) n) n a r).toNat)
  | 0, a, f + 1, fl, e, _ => by
    have hn := hs.1.1
    unfold f12_forgedIn_l39 f12_people
    simp (disch := first | assumption | omega) only [q_lit, Int32.neg_neg, nI_add, pk_mul, q_sub, q_addn, q_nadd, q_lt, q_le, q_eq, q_eqn, q_neq, q_nen, q_ltn, q_nlt, q_len, q_nle, q_nltn, q_nlen, q_cl, q_ib, q_ibn, q_isz0, q_isz1, q_iszb, q_b0, q_b1, q_ng1, q_ng2, q_ng3, q_ng4, q_ng5, q_ng6, Bool.toNat_true, Bool.toNat_false, if_pos, if_neg, q_ct, q_cf, q_let, q_bd, q_it, q_if, Nat.zero_add, Nat.add_zero, true_and, and_true, false_and, and_false, or_false, false_or, or_true, true_or, Bool.true_eq_false, Bool.false_eq_true, wi_s, wi_o, wi_r, hs.1.2.2.2.1, q_af, Bool.and_true]
  | r + 1, a, f + 1, fl, e, hf => by
    have hn := hs.1.1
    have c := hs.1.2.2.2.1
    have ih := m_ok_a hs hh hsv r4 z r (a + 1) f (fl && q_al (q_ok1 (K.1 2) h s a) n) (by omega) (by omega)
    have ib := m_ok_b hs hh hsv (show a < n by omega) r4 (f12_forgedIn_l39 K r4 f) z n 0 10000 fl (by omega) (by omega)
    rw [q_af_al] at ib
    rw [q_af]
    conv => lhs; unfold f12_forgedIn_l39 f12_people
    simp (disch := first | assumption | omega) only [q_lit, Int32.neg_neg, nI_add, pk_mul, q_sub, q_addn, q_nadd, q_lt, q_le, q_eq, q_eqn, q_neq, q_nen, q_ltn, q_nlt, q_len, q_nle, q_nltn, q_nlen, q_cl, q_ib, q_ibn, q_isz0, q_isz1, q_iszb, q_b0, q_b1, q_ng1, q_ng2, q_ng3, q_ng4, q_ng5, q_ng6, Bool.toNat_true, Bool.toNat_false, if_pos, if_neg, q_ct, q_cf, q_let, q_bd, q_it, q_if, Nat.zero_add, Nat.add_zero, true_and, and_true, false_and, and_false, or_false, false_or, or_true, true_or, Bool.true_eq_false, Bool.false_eq_true, wi_s, wi_o, wi_r, c]
    rw [ib, ih, Bool.and_assoc]
theorem m_okj {RL : rLT} {S : ph_Sh} {X K : ph_Mem} {n t h s : Nat} (hs : rSt RL S X 11 (K.1 2) n t) (hh : h < 12) (hsv : s < 64) (r4 : Int32 → Int32 → Int32 → Option Int32) (z : Int32) : f12_forgedIn_j33 K r4 (nI h) z (nI s) = r4 (nI h) (if q_ok (K.1 2) h n s = true then nI s else z) (nI (s + 1)) := by
  have ia := m_ok_a hs hh hsv r4 z n 0 10000 true (by omega) (by have := hs.1.1; omega)
  rw [q_af_al, Bool.true_and] at ia
  unfold f12_forgedIn_j33
  have ia' : f12_forgedIn_l39 K r4 10000 (nI h) z (nI s) (nI 1) (nI 0) = f12_forgedIn_j114 K r4 (nI h) z (nI s) (nI (q_ok (K.1 2) h n s).toNat) := ia
  simp (disch := first | assumption | omega) only [q_lit, Int32.neg_neg, nI_add, pk_mul, q_sub, q_addn, q_nadd, q_lt, q_le, q_eq, q_eqn, q_neq, q_nen, q_ltn, q_nlt, q_len, q_nle, q_nltn, q_nlen, q_cl, q_ib, q_ibn, q_isz0, q_isz1, q_iszb, q_b0, q_b1, q_ng1, q_ng2, q_ng3, q_ng4, q_ng5, q_ng6, Bool.toNat_true, Bool.toNat_false, if_pos, if_neg, q_ct, q_cf, q_let, q_bd, q_it, q_if, Nat.zero_add, Nat.add_zero, true_and, and_true, false_and, and_false, or_false, false_or, or_true, true_or, Bool.true_eq_false, Bool.false_eq_true, wi_s, wi_o, wi_r, ia']
  unfold f12_forgedIn_j114 f12_forgedIn_j124 f12_forgedIn_j125
  cases e : q_ok (K.1 2) h n s
  · simp (disch := first | assumption | omega) only [q_lit, Int32.neg_neg, nI_add, pk_mul, q_sub, q_addn, q_nadd, q_lt, q_le, q_eq, q_eqn, q_neq, q_nen, q_ltn, q_nlt, q_len, q_nle, q_nltn, q_nlen, q_cl, q_ib, q_ibn, q_isz0, q_isz1, q_iszb, q_b0, q_b1, q_ng1, q_ng2, q_ng3, q_ng4, q_ng5, q_ng6, Bool.toNat_true, Bool.toNat_false, if_pos, if_neg, q_ct, q_cf, q_let, q_bd, q_it, q_if, Nat.zero_add, Nat.add_zero, true_and, and_true, false_and, and_false, or_false, false_or, or_true, true_or, Bool.true_eq_false, Bool.false_eq_true, wi_s, wi_o, wi_r]
  · simp (disch := first | assumption | omega) only [q_lit, Int32.neg_neg, nI_add, pk_mul, q_sub, q_addn, q_nadd, q_lt, q_le, q_eq, q_eqn, q_neq, q_nen, q_ltn, q_nlt, q_len, q_nle, q_nltn, q_nlen, q_cl, q_ib, q_ibn, q_isz0, q_isz1, q_iszb, q_b0, q_b1, q_ng1, q_ng2, q_ng3, q_ng4, q_ng5, q_ng6, Bool.toNat_true, Bool.toNat_false, if_pos, if_neg, q_ct, q_cf, q_let, q_bd, q_it, q_if, Nat.zero_add, Nat.add_zero, true_and, and_true, false_and, and_false, or_false, false_or, or_true, true_or, Bool.true_eq_false, Bool.false_eq_true, wi_s, wi_o, wi_r]
theorem q_pcf : ∀ n, n ≤ 6 → ∀ s, s < 2 ^ n - 1 → q_pc s 12 < q_pc (2 ^ n - 1) 12 := by decide +kernel
theorem q_okf (g : Nat → Int32) (h n : Nat) : q_ok g h n (2 ^ n - 1) = true := by
  rw [q_ok_iff]
  intro a _ ha c hc
  left
  rw [Nat.testBit_two_pow_sub_one]
  exact decide_eq_true ha
/-- the loops over the sets, side by side -/
theorem fg_l {RL : rLT} {S : ph_Sh} {X K M : ph_Mem} {n t h : Nat} (hs : rSt RL S X 11 (K.1 2) n t) (hh : h < 12) (hM : M.1 11 1 = nI n) (hag : q_ag (K.1 2) h n n 0 M) : ∀ (r s fx fk : Nat) (b : Nat), s + r = 2 ^ n → r < fx → r < fk → b < 64 → (∃ o, o < 64 ∧ f0_forgersOf_l19 S fx (nI b) (nI s) M = some (nI o, M) ∧ f12_forgedIn_l4 K fk (nI h) (nI b) (nI s) = some (nI o)) ∧ (b = 2 ^ n - 1 → s < 2 ^ n → ∃ o, o < 64 ∧ f0_forgersOf_l19 S fx (nI b) (nI s) M = some (nI o, M) ∧ f12_forgedIn_l4 K fk (nI h) (-nI 1) (nI s) = some (nI o))
  | 0, s, fx + 1, fk + 1, b, e, _, _, hb => by
    have hn := hs.1.1
    obtain ⟨p1, p2⟩ := q_p6 hn
    have c := hs.1.2.2.2.1
    refine ⟨⟨b, hb, ?_, ?_⟩, fun _ q => absurd q (by omega)⟩
    · unfold f0_forgersOf_l19
      simp (disch := first | assumption | omega) only [q_lit, Int32.neg_neg, nI_add, pk_mul, q_sub, q_addn, q_nadd, q_lt, q_le, q_eq, q_eqn, q_neq, q_nen, q_ltn, q_nlt, q_len, q_nle, q_nltn, q_nlen, q_cl, q_ib, q_ibn, q_isz0, q_isz1, q_iszb, q_b0, q_b1, q_ng1, q_ng2, q_ng3, q_ng4, q_ng5, q_ng6, Bool.toNat_true, Bool.toNat_false, if_pos, if_neg, q_ct, q_cf, q_let, q_bd, q_it, q_if, Nat.zero_add, Nat.add_zero, true_and, and_true, false_and, and_false, or_false, false_or, or_true, true_or, Bool.true_eq_false, Bool.false_eq_true, wi_s, wi_o, wi_r, hM, q_1sl]
    · unfold f12_forgedIn_l4 f12_people
      simp (disch := first | assumption | omega) only [q_lit, Int32.neg_neg, nI_add, pk_mul, q_sub, q_addn, q_nadd, q_lt, q_le, q_eq, q_eqn, q_neq, q_nen, q_ltn, q_nlt, q_len, q_nle, q_nltn, q_nlen, q_cl, q_ib, q_ibn, q_isz0, q_isz1, q_iszb, q_b0, q_b1, q_ng1, q_ng2, q_ng3, q_ng4, q_ng5, q_ng6, Bool.toNat_true, Bool.toNat_false, if_pos, if_neg, q_ct, q_cf, q_let, q_bd, q_it, q_if, Nat.zero_add, Nat.add_zero, true_and, and_true, false_and, and_false, or_false, false_or, or_true, true_or, Bool.true_eq_false, Bool.false_eq_true, wi_s, wi_o, wi_r, c, q_1sl]
  | r + 1, s, fx + 1, fk + 1, b, e, hfx, hfk, hb => by
    have hn := hs.1.1
    obtain ⟨p1, p2⟩ := q_p6 hn
    have c := hs.1.2.2.2.1
    have hsv : s < 64 := by omega
    have ihs := fg_l hs hh hM hag r (s + 1) fx fk s (by omega) (by omega) (by omega) hsv
    have ihb := fg_l hs hh hM hag r (s + 1) fx fk b (by omega) (by omega) (by omega) hb
    have nol := x_nol (S := S) hn hM hsv hag
    have okj := fun z => m_okj hs hh hsv (f12_forgedIn_l4 K fk) z
    have pcs := q_pc_le s 12
    have pcb := q_pc_le b 12
    refine ⟨?_, fun eb hs2 => ?_⟩
    · by_cases hlt : q_pc s 12 < q_pc b 12
      · cases ek : q_ok (K.1 2) h n s
        · obtain ⟨o, o1, o2, o3⟩ := ihb.1
          refine ⟨o, o1, ?_, ?_⟩
          · unfold f0_forgersOf_l19 f0_forgersOf_j53
            simp (disch := first | assumption | omega) only [q_lit, Int32.neg_neg, nI_add, pk_mul, q_sub, q_addn, q_nadd, q_lt, q_le, q_eq, q_eqn, q_neq, q_nen, q_ltn, q_nlt, q_len, q_nle, q_nltn, q_nlen, q_cl, q_ib, q_ibn, q_isz0, q_isz1, q_iszb, q_b0, q_b1, q_ng1, q_ng2, q_ng3, q_ng4, q_ng5, q_ng6, Bool.toNat_true, Bool.toNat_false, if_pos, if_neg, q_ct, q_cf, q_let, q_bd, q_it, q_if, Nat.zero_add, Nat.add_zero, true_and, and_true, false_and, and_false, or_false, false_or, or_true, true_or, Bool.true_eq_false, Bool.false_eq_true, wi_s, wi_o, wi_r, hM, q_1sl, x_bc, nol, ek]
            exact o2
          · unfold f12_forgedIn_l4 f12_people
            simp (disch := first | assumption | omega) only [q_lit, Int32.neg_neg, nI_add, pk_mul, q_sub, q_addn, q_nadd, q_lt, q_le, q_eq, q_eqn, q_neq, q_nen, q_ltn, q_nlt, q_len, q_nle, q_nltn, q_nlen, q_cl, q_ib, q_ibn, q_isz0, q_isz1, q_iszb, q_b0, q_b1, q_ng1, q_ng2, q_ng3, q_ng4, q_ng5, q_ng6, Bool.toNat_true, Bool.toNat_false, if_pos, if_neg, q_ct, q_cf, q_let, q_bd, q_it, q_if, Nat.zero_add, Nat.add_zero, true_and, and_true, false_and, and_false, or_false, false_or, or_true, true_or, Bool.true_eq_false, Bool.false_eq_true, wi_s, wi_o, wi_r, c, q_1sl, m_ones, okj, ek]
            exact o3
        · obtain ⟨o, o1, o2, o3⟩ := ihs.1
          refine ⟨o, o1, ?_, ?_⟩
          · unfold f0_forgersOf_l19 f0_forgersOf_j53
            simp (disch := first | assumption | omega) only [q_lit, Int32.neg_neg, nI_add, pk_mul, q_sub, q_addn, q_nadd, q_lt, q_le, q_eq, q_eqn, q_neq, q_nen, q_ltn, q_nlt, q_len, q_nle, q_nltn, q_nlen, q_cl, q_ib, q_ibn, q_isz0, q_isz1, q_iszb, q_b0, q_b1, q_ng1, q_ng2, q_ng3, q_ng4, q_ng5, q_ng6, Bool.toNat_true, Bool.toNat_false, if_pos, if_neg, q_ct, q_cf, q_let, q_bd, q_it, q_if, Nat.zero_add, Nat.add_zero, true_and, and_true, false_and, and_false, or_false, false_or, or_true, true_or, Bool.true_eq_false, Bool.false_eq_true, wi_s, wi_o, wi_r, hM, q_1sl, x_bc, nol, ek]
            exact o2
          · unfold f12_forgedIn_l4 f12_people
            simp (disch := first | assumption | omega) only [q_lit, Int32.neg_neg, nI_add, pk_mul, q_sub, q_addn, q_nadd, q_lt, q_le, q_eq, q_eqn, q_neq, q_nen, q_ltn, q_nlt, q_len, q_nle, q_nltn, q_nlen, q_cl, q_ib, q_ibn, q_isz0, q_isz1, q_iszb, q_b0, q_b1, q_ng1, q_ng2, q_ng3, q_ng4, q_ng5, q_ng6, Bool.toNat_true, Bool.toNat_false, if_pos, if_neg, q_ct, q_cf, q_let, q_bd, q_it, q_if, Nat.zero_add, Nat.add_zero, true_and, and_true, false_and, and_false, or_false, false_or, or_true, true_or, Bool.true_eq_false, Bool.false_eq_true, wi_s, wi_o, wi_r, c, q_1sl, m_ones, okj, ek]
            exact o3
      · obtain ⟨o, o1, o2, o3⟩ := ihb.1
        refine ⟨o, o1, ?_, ?_⟩
        · unfold f0_forgersOf_l19 f0_forgersOf_j53
          simp (disch := first | assumption | omega) only [q_lit, Int32.neg_neg, nI_add, pk_mul, q_sub, q_addn, q_nadd, q_lt, q_le, q_eq, q_eqn, q_neq, q_nen, q_ltn, q_nlt, q_len, q_nle, q_nltn, q_nlen, q_cl, q_ib, q_ibn, q_isz0, q_isz1, q_iszb, q_b0, q_b1, q_ng1, q_ng2, q_ng3, q_ng4, q_ng5, q_ng6, Bool.toNat_true, Bool.toNat_false, if_pos, if_neg, q_ct, q_cf, q_let, q_bd, q_it, q_if, Nat.zero_add, Nat.add_zero, true_and, and_true, false_and, and_false, or_false, false_or, or_true, true_or, Bool.true_eq_false, Bool.false_eq_true, wi_s, wi_o, wi_r, hM, q_1sl, x_bc]
          exact o2
        · unfold f12_forgedIn_l4 f12_people f12_forgedIn_j125
          simp (disch := first | assumption | omega) only [q_lit, Int32.neg_neg, nI_add, pk_mul, q_sub, q_addn, q_nadd, q_lt, q_le, q_eq, q_eqn, q_neq, q_nen, q_ltn, q_nlt, q_len, q_nle, q_nltn, q_nlen, q_cl, q_ib, q_ibn, q_isz0, q_isz1, q_iszb, q_b0, q_b1, q_ng1, q_ng2, q_ng3, q_ng4, q_ng5, q_ng6, Bool.toNat_true, Bool.toNat_false, if_pos, if_neg, q_ct, q_cf, q_let, q_bd, q_it, q_if, Nat.zero_add, Nat.add_zero, true_and, and_true, false_and, and_false, or_false, false_or, or_true, true_or, Bool.true_eq_false, Bool.false_eq_true, wi_s, wi_o, wi_r, c, q_1sl, m_ones]
          exact o3
    · by_cases hf : s = 2 ^ n - 1
      · have ek : q_ok (K.1 2) h n s = true := by rw [hf]; exact q_okf _ _ _
        obtain ⟨o, o1, o2, o3⟩ := ihb.1
        have ebs : b = s := by omega
        refine ⟨o, o1, ?_, ?_⟩
        · unfold f0_forgersOf_l19 f0_forgersOf_j53
          simp (disch := first | assumption | omega) only [q_lit, Int32.neg_neg, nI_add, pk_mul, q_sub, q_addn, q_nadd, q_lt, q_le, q_eq, q_eqn, q_neq, q_nen, q_ltn, q_nlt, q_len, q_nle, q_nltn, q_nlen, q_cl, q_ib, q_ibn, q_isz0, q_isz1, q_iszb, q_b0, q_b1, q_ng1, q_ng2, q_ng3, q_ng4, q_ng5, q_ng6, Bool.toNat_true, Bool.toNat_false, if_pos, if_neg, q_ct, q_cf, q_let, q_bd, q_it, q_if, Nat.zero_add, Nat.add_zero, true_and, and_true, false_and, and_false, or_false, false_or, or_true, true_or, Bool.true_eq_false, Bool.false_eq_true, wi_s, wi_o, wi_r, hM, q_1sl, x_bc, ebs]
          rw [ebs] at o2
          exact o2
        · unfold f12_forgedIn_l4 f12_people
          simp (disch := first | assumption | omega) only [q_lit, Int32.neg_neg, nI_add, pk_mul, q_sub, q_addn, q_nadd, q_lt, q_le, q_eq, q_eqn, q_neq, q_nen, q_ltn, q_nlt, q_len, q_nle, q_nltn, q_nlen, q_cl, q_ib, q_ibn, q_isz0, q_isz1, q_iszb, q_b0, q_b1, q_ng1, q_ng2, q_ng3, q_ng4, q_ng5, q_ng6, Bool.toNat_true, Bool.toNat_false, if_pos, if_neg, q_ct, q_cf, q_let, q_bd, q_it, q_if, Nat.zero_add, Nat.add_zero, true_and, and_true, false_and, and_false, or_false, false_or, or_true, true_or, Bool.true_eq_false, Bool.false_eq_true, wi_s, wi_o, wi_r, c, q_1sl, okj, ek]
          rw [ebs] at o3
          exact o3
      · have hlt : q_pc s 12 < q_pc b 12 := by rw [eb]; exact q_pcf n hn s (by omega)
        cases ek : q_ok (K.1 2) h n s
        · obtain ⟨o, o1, o2, o3⟩ := ihb.2 eb (by omega)
          refine ⟨o, o1, ?_, ?_⟩
          · unfold f0_forgersOf_l19 f0_forgersOf_j53
            simp (disch := first | assumption | omega) only [q_lit, Int32.neg_neg, nI_add, pk_mul, q_sub, q_addn, q_nadd, q_lt, q_le, q_eq, q_eqn, q_neq, q_nen, q_ltn, q_nlt, q_len, q_nle, q_nltn, q_nlen, q_cl, q_ib, q_ibn, q_isz0, q_isz1, q_iszb, q_b0, q_b1, q_ng1, q_ng2, q_ng3, q_ng4, q_ng5, q_ng6, Bool.toNat_true, Bool.toNat_false, if_pos, if_neg, q_ct, q_cf, q_let, q_bd, q_it, q_if, Nat.zero_add, Nat.add_zero, true_and, and_true, false_and, and_false, or_false, false_or, or_true, true_or, Bool.true_eq_false, Bool.false_eq_true, wi_s, wi_o, wi_r, hM, q_1sl, x_bc, nol, ek]
            exact o2
          · unfold f12_forgedIn_l4 f12_people
            simp (disch := first | assumption | omega) only [q_lit, Int32.neg_neg, nI_add, pk_mul, q_sub, q_addn, q_nadd, q_lt, q_le, q_eq, q_eqn, q_neq, q_nen, q_ltn, q_nlt, q_len, q_nle, q_nltn, q_nlen, q_cl, q_ib, q_ibn, q_isz0, q_isz1, q_iszb, q_b0, q_b1, q_ng1, q_ng2, q_ng3, q_ng4, q_ng5, q_ng6, Bool.toNat_true, Bool.toNat_false, if_pos, if_neg, q_ct, q_cf, q_let, q_bd, q_it, q_if, Nat.zero_add, Nat.add_zero, true_and, and_true, false_and, and_false, or_false, false_or, or_true, true_or, Bool.true_eq_false, Bool.false_eq_true, wi_s, wi_o, wi_r, c, q_1sl, okj, ek]
            exact o3
        · obtain ⟨o, o1, o2, o3⟩ := ihs.1
          refine ⟨o, o1, ?_, ?_⟩
          · unfold f0_forgersOf_l19 f0_forgersOf_j53
            simp (disch := first | assumption | omega) only [q_lit, Int32.neg_neg, nI_add, pk_mul, q_sub, q_addn, q_nadd, q_lt, q_le, q_eq, q_eqn, q_neq, q_nen, q_ltn, q_nlt, q_len, q_nle, q_nltn, q_nlen, q_cl, q_ib, q_ibn, q_isz0, q_isz1, q_iszb, q_b0, q_b1, q_ng1, q_ng2, q_ng3, q_ng4, q_ng5, q_ng6, Bool.toNat_true, Bool.toNat_false, if_pos, if_neg, q_ct, q_cf, q_let, q_bd, q_it, q_if, Nat.zero_add, Nat.add_zero, true_and, and_true, false_and, and_false, or_false, false_or, or_true, true_or, Bool.true_eq_false, Bool.false_eq_true, wi_s, wi_o, wi_r, hM, q_1sl, x_bc, nol, ek]
            exact o2
          · unfold f12_forgedIn_l4 f12_people
            simp (disch := first | assumption | omega) only [q_lit, Int32.neg_neg, nI_add, pk_mul, q_sub, q_addn, q_nadd, q_lt, q_le, q_eq, q_eqn, q_neq, q_nen, q_ltn, q_nlt, q_len, q_nle, q_nltn, q_nlen, q_cl, q_ib, q_ibn, q_isz0, q_isz1, q_iszb, q_b0, q_b1, q_ng1, q_ng2, q_ng3, q_ng4, q_ng5, q_ng6, Bool.toNat_true, Bool.toNat_false, if_pos, if_neg, q_ct, q_cf, q_let, q_bd, q_it, q_if, Nat.zero_add, Nat.add_zero, true_and, and_true, false_and, and_false, or_false, false_or, or_true, true_or, Bool.true_eq_false, Bool.false_eq_true, wi_s, wi_o, wi_r, c, q_1sl, okj, ek]
            exact o3
theorem fg_1 {RL : rLT} (hRL : rLoc RL) {S : ph_Sh} (hS : ph_SX S) {X K : ph_Mem} {n t h : Nat} (hs : rSt RL S X 11 (K.1 2) n t) (hh : h < 12) : ∃ o M, o < 64 ∧ f0_forgersOf S X (nI h) = some (nI o, M) ∧ f12_forgedIn K (nI h) = some (nI o) ∧ (∀ d j, d ≠ 72 → M.1 d j = X.1 d j) ∧ M.2 = X.2 := by
  have hn := hs.1.1
  obtain ⟨p1, p2⟩ := q_p6 hn
  have hL : ph_len S 72 = 6 := by rw [x_len hS (by omega)]; rfl
  obtain ⟨M0, f1, f2, f3⟩ := x_fill hL (by omega) (v := nI 0) X
  obtain ⟨M, m1, m2, m3, m4⟩ := x_fl_o hRL hs hh n 0 10000 M0 (by omega) (by omega) (fun d j hd => by rw [f2, if_neg (by omega)]) f3 (fun p hp => ⟨0, by omega, by rw [f2, if_pos (by omega)], fun i hi => by
    unfold q_dn
    simp⟩)
  obtain ⟨o, o1, o2, o3⟩ := (fg_l (S := S) hs hh ((m2 11 1 (by omega)).trans hs.1.2.2.1) m4 (2 ^ n) 0 10000 10000 (2 ^ n - 1) (by omega) (by omega) (by omega) (by omega)).2 rfl (by omega)
  refine ⟨o, M, o1, ?_, o3, m2, m3⟩
  unfold f0_forgersOf f0_findLies
  simp (disch := first | assumption | omega) only [q_lit, Int32.neg_neg, nI_add, pk_mul, q_sub, q_addn, q_nadd, q_lt, q_le, q_eq, q_eqn, q_neq, q_nen, q_ltn, q_nlt, q_len, q_nle, q_nltn, q_nlen, q_cl, q_ib, q_ibn, q_isz0, q_isz1, q_iszb, q_b0, q_b1, q_ng1, q_ng2, q_ng3, q_ng4, q_ng5, q_ng6, Bool.toNat_true, Bool.toNat_false, if_pos, if_neg, q_ct, q_cf, q_let, q_bd, q_it, q_if, Nat.zero_add, Nat.add_zero, true_and, and_true, false_and, and_false, or_false, false_or, or_true, true_or, Bool.true_eq_false, Bool.false_eq_true, wi_s, wi_o, wi_r, hs.1.2.2.1, q_1sl, f1, m1]
  exact o2
theorem fg_c {RL : rLT} (hRL : rLoc RL) {S : ph_Sh} (hS : ph_SX S) {X K : ph_Mem} {n t : Nat} (hs : rSt RL S X 11 (K.1 2) n t) : ∀ (r h fx fk : Nat) (a : Int32) (M : ph_Mem), h + r = 12 → r < fx → r < fk → (∀ d j, d ≠ 72 → M.1 d j = X.1 d j) → M.2 = X.2 → ∃ o M', f0_countForged_l4 S fx a (nI h) M = some (o, M') ∧ f12_forged_l29 K fk a (nI h) = some o ∧ (∀ d j, d ≠ 72 → M'.1 d j = X.1 d j) ∧ M'.2 = X.2
  | 0, h, fx + 1, fk + 1, a, M, e, _, _, h1, h2 => by
    have : h = 12 := by omega
    subst this
    refine ⟨a, M, ?_, ?_, h1, h2⟩
    · unfold f0_countForged_l4
      simp (disch := first | assumption | omega) only [q_lit, Int32.neg_neg, nI_add, pk_mul, q_sub, q_addn, q_nadd, q_lt, q_le, q_eq, q_eqn, q_neq, q_nen, q_ltn, q_nlt, q_len, q_nle, q_nltn, q_nlen, q_cl, q_ib, q_ibn, q_isz0, q_isz1, q_iszb, q_b0, q_b1, q_ng1, q_ng2, q_ng3, q_ng4, q_ng5, q_ng6, Bool.toNat_true, Bool.toNat_false, if_pos, if_neg, q_ct, q_cf, q_let, q_bd, q_it, q_if, Nat.zero_add, Nat.add_zero, true_and, and_true, false_and, and_false, or_false, false_or, or_true, true_or, Bool.true_eq_false, Bool.false_eq_true, wi_s, wi_o, wi_r]
    · unfold f12_forged_l29
      simp (disch := first | assumption | omega) only [q_lit, Int32.neg_neg, nI_add, pk_mul, q_sub, q_addn, q_nadd, q_lt, q_le, q_eq, q_eqn, q_neq, q_nen, q_ltn, q_nlt, q_len, q_nle, q_nltn, q_nlen, q_cl, q_ib, q_ibn, q_isz0, q_isz1, q_iszb, q_b0, q_b1, q_ng1, q_ng2, q_ng3, q_ng4, q_ng5, q_ng6, Bool.toNat_true, Bool.toNat_false, if_pos, if_neg, q_ct, q_cf, q_let, q_bd, q_it, q_if, Nat.zero_add, Nat.add_zero, true_and, and_true, false_and, and_false, or_false, false_or, or_true, true_or, Bool.true_eq_false, Bool.false_eq_true, wi_s, wi_o, wi_r]
  | r + 1, h, fx + 1, fk + 1, a, M, e, hfx, hfk, h1, h2 => by
    have hsM : rSt RL S M 11 (K.1 2) n t := rSt_fr hRL hs (h1 _ _ (by omega)) (h1 _ _ (by omega)) (h1 _ _ (by omega)) (fun p _ => h1 _ _ (by omega)) (fun d j _ _ _ => h1 _ _ (by omega)) (fun j _ => h1 _ _ (by omega)) (fun j _ => h1 _ _ (by omega)) (fun j _ => h1 _ _ (by omega)) (fun i _ => by rw [h2]) (fun d j _ => h1 _ _ (by omega)) (fun j _ => rfl)
    obtain ⟨o, M1, o1, o2, o3, o4, o5⟩ := fg_1 hRL hS hsM (show h < 12 by omega)
    obtain ⟨o', M', y1, y2, y3, y4⟩ := fg_c hRL hS hs r (h + 1) fx fk (a + nI (q_pc o 12)) M1 (by omega) (by omega) (by omega) (fun d j hd => (o4 d j hd).trans (h1 d j hd)) (o5.trans h2)
    refine ⟨o', M', ?_, ?_, y3, y4⟩
    · unfold f0_countForged_l4
      simp (disch := first | assumption | omega) only [q_lit, Int32.neg_neg, nI_add, pk_mul, q_sub, q_addn, q_nadd, q_lt, q_le, q_eq, q_eqn, q_neq, q_nen, q_ltn, q_nlt, q_len, q_nle, q_nltn, q_nlen, q_cl, q_ib, q_ibn, q_isz0, q_isz1, q_iszb, q_b0, q_b1, q_ng1, q_ng2, q_ng3, q_ng4, q_ng5, q_ng6, Bool.toNat_true, Bool.toNat_false, if_pos, if_neg, q_ct, q_cf, q_let, q_bd, q_it, q_if, Nat.zero_add, Nat.add_zero, true_and, and_true, false_and, and_false, or_false, false_or, or_true, true_or, Bool.true_eq_false, Bool.false_eq_true, wi_s, wi_o, wi_r, o2, x_bc]
      exact y1
    · unfold f12_forged_l29
      simp (disch := first | assumption | omega) only [q_lit, Int32.neg_neg, nI_add, pk_mul, q_sub, q_addn, q_nadd, q_lt, q_le, q_eq, q_eqn, q_neq, q_nen, q_ltn, q_nlt, q_len, q_nle, q_nltn, q_nlen, q_cl, q_ib, q_ibn, q_isz0, q_isz1, q_iszb, q_b0, q_b1, q_ng1, q_ng2, q_ng3, q_ng4, q_ng5, q_ng6, Bool.toNat_true, Bool.toNat_false, if_pos, if_neg, q_ct, q_cf, q_let, q_bd, q_it, q_if, Nat.zero_add, Nat.add_zero, true_and, and_true, false_and, and_false, or_false, false_or, or_true, true_or, Bool.true_eq_false, Bool.false_eq_true, wi_s, wi_o, wi_r, o3, m_ones]
      exact y2
theorem s_forged {RL : rLT} (hRL : rLoc RL) : lws_forged (Rel RL) := by
  intro S X K h a1
  obtain ⟨n, t, hs, hl⟩ := h.2.2.2.2.2
  unfold f11_forged f12_forged f12_forged_j14
  have fin : ∀ M : ph_Mem, (∀ d j, d ≠ 72 → M.1 d j = X.1 d j) → M.2 = X.2 → Rel RL S M K := fun M q1 q2 => Rel_fr hRL h (fun c j hc => q1 c j (by unfold rXj at hc; omega)) (fun c j _ => by rw [q2]) (fun _ _ _ => rfl)
  by_cases e : a1 = -nI 1
  · subst e
    obtain ⟨o, M, o1, o2, o3, o4⟩ := fg_c hRL h.1.1 hs 12 0 10000 10000 (nI 0) X (by omega) (by omega) (by omega) (fun _ _ _ => rfl) rfl
    have o1' : f0_countForged S X = some (o, M) := o1
    simp (disch := first | assumption | omega) only [q_lit, Int32.neg_neg, nI_add, pk_mul, q_sub, q_addn, q_nadd, q_lt, q_le, q_eq, q_eqn, q_neq, q_nen, q_ltn, q_nlt, q_len, q_nle, q_nltn, q_nlen, q_cl, q_ib, q_ibn, q_isz0, q_isz1, q_iszb, q_b0, q_b1, q_ng1, q_ng2, q_ng3, q_ng4, q_ng5, q_ng6, Bool.toNat_true, Bool.toNat_false, if_pos, if_neg, q_ct, q_cf, q_let, q_bd, q_it, q_if, Nat.zero_add, Nat.add_zero, true_and, and_true, false_and, and_false, or_false, false_or, or_true, true_or, Bool.true_eq_false, Bool.false_eq_true, wi_s, wi_o, wi_r, o1', o2]
    exact ⟨_, _, rfl, rfl, fin M o3 o4⟩
  · obtain ⟨b, e1, e2, e3⟩ := d_hour S X K a1
    cases b
    · simp (disch := first | assumption | omega) only [q_lit, Int32.neg_neg, nI_add, pk_mul, q_sub, q_addn, q_nadd, q_lt, q_le, q_eq, q_eqn, q_neq, q_nen, q_ltn, q_nlt, q_len, q_nle, q_nltn, q_nlen, q_cl, q_ib, q_ibn, q_isz0, q_isz1, q_iszb, q_b0, q_b1, q_ng1, q_ng2, q_ng3, q_ng4, q_ng5, q_ng6, Bool.toNat_true, Bool.toNat_false, if_pos, if_neg, q_ct, q_cf, q_let, q_bd, q_it, q_if, Nat.zero_add, Nat.add_zero, true_and, and_true, false_and, and_false, or_false, false_or, or_true, true_or, Bool.true_eq_false, Bool.false_eq_true, wi_s, wi_o, wi_r, e, e1, e2]
      exact ⟨_, _, rfl, rfl, h⟩
    · obtain ⟨hh, hh1, rfl⟩ := e3 rfl
      obtain ⟨o, M, o1, o2, o3, o4, o5⟩ := fg_1 hRL h.1.1 hs hh1
      simp (disch := first | assumption | omega) only [q_lit, Int32.neg_neg, nI_add, pk_mul, q_sub, q_addn, q_nadd, q_lt, q_le, q_eq, q_eqn, q_neq, q_nen, q_ltn, q_nlt, q_len, q_nle, q_nltn, q_nlen, q_cl, q_ib, q_ibn, q_isz0, q_isz1, q_iszb, q_b0, q_b1, q_ng1, q_ng2, q_ng3, q_ng4, q_ng5, q_ng6, Bool.toNat_true, Bool.toNat_false, if_pos, if_neg, q_ct, q_cf, q_let, q_bd, q_it, q_if, Nat.zero_add, Nat.add_zero, true_and, and_true, false_and, and_false, or_false, false_or, or_true, true_or, Bool.true_eq_false, Bool.false_eq_true, wi_s, wi_o, wi_r, e1, e2, o2, o3]
      exact ⟨_, _, rfl, rfl, fin M o4 o5⟩
