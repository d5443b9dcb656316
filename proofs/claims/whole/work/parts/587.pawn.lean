/-! PURE HALF: pawn and redeem on a street -/
def gPawn (g : Nat → Int32) (p pl v d u : Nat) : Nat → Int32 := fun j => if j = 216 + p then nI u else if j = 144 + pl then nI d else if j = 72 + pl then nI v else if j = pl then nI 1 else g j
def gRed (g : Nat → Int32) (p pl u : Nat) : Nat → Int32 := fun j => if j = pl then nI 0 else if j = 216 + p then nI u else g j
theorem xSc_st {RL : rLT} (hRL : rLoc RL) {S : ph_Sh} {X X' : ph_Mem} {c : Nat} {g : Nat → Int32} {n t : Nat} (hc : 11 ≤ c) (hs : rSt RL S X c g n t) (hx : xSc X X') : rSt RL S X' c g n t := rSt_mv hRL hs (fun j => hx.1 _ _ (by omega)) (fun d j _ => hx.1 _ _ (by omega)) (fun j _ => hx.1 _ _ (by omega)) hx.2.1 (fun d j _ => hx.1 _ _ (by omega)) (fun _ _ => rfl) (by
  have e : rVw X' c = rVw X c := by
    unfold rVw
    rw [hx.1 (c + 10) 0 (by omega)]
    congr 1
    · funext j; exact hx.1 _ _ (by omega)
    congr 1
    · funext j; exact hx.1 _ _ (by omega)
    congr 1
    · funext j; exact hx.1 _ _ (by omega)
    congr 1
    funext j; exact hx.1 _ _ (by omega)
  rw [e]
  exact hs.2.1)
theorem x_pawn {RL : rLT} (hRL : rLoc RL) (hRul : rRul RL) {S : ph_Sh} (hS : ph_SX S) {X : ph_Mem} {c l : Nat} {g : Nat → Int32} {n t p h d nx sz : Nat} (hc : ph_isS c) (hcl : c + 12 ≤ l) (hl : l < 80) (hs : rSt RL S X c g n t) (hp : p < n) (hh : h < 12) (hd : d ≤ 999) (hd2 : g 222 = nI d) (hlg : xLg X l nx sz) (V : Nat → Nat → Nat)
    (hV0 : V 0 d ≤ 999 ∧ V 2 d ≤ 1) (hVx : ∀ (X1 : ph_Mem) (kd : Nat), (∀ e j, (c ≤ e ∧ e < c + 12) ∨ 88 ≤ e → X1.1 e j = X.1 e j) → (∀ i, X1.2.2 (c + 11) i = X.2.2 (c + 11) i) → kd < 3 → (kd = 1 → g (12 * p + h) = nI 1) → ∃ X', f9_ruled S X1 c (nI kd) (nI p) (nI h) (nI d) = some (nI (V kd d), X') ∧ xSc X1 X') :
    (¬ (g (12 * p + h) = nI 0 ∧ V 2 d = 0) → ∃ X', f9_tryPawn S X c (nI p) (nI h) l = some (-nI 3, X') ∧ xSc X X') ∧
    (g (12 * p + h) = nI 0 ∧ V 2 d = 0 → ∀ u, g (216 + p) = nI u → u ≤ 99999 → ∃ X', f9_tryPawn S X c (nI p) (nI h) l = some (nI (V 0 d), X') ∧ xTr X X' c l ∧ xEn X X' l c nx sz 0 (12 * p + h) ∧ ∀ g', (∀ j, g' j = gPawn g p (12 * p + h) (V 0 d) d (min 99999 (u + V 0 d)) j) → rSt RL S X' c g' n t) := by
  have hn := hs.1.1
  have c11 : 11 ≤ c := by unfold ph_isS at hc; omega
  have c47 : c ≤ 47 := by unfold ph_isS at hc; omega
  obtain ⟨s, s1, s2, s3⟩ := rSt_hr hs hp hh
  obtain ⟨d', d1', d2', d3'⟩ := rSt_day hs
  have hdd : d' = d := (nI_eq (by omega) (by omega)).mp (d3'.symm.trans hd2)
  subst hdd
  obtain ⟨X1, v1, v2⟩ := hVx X 2 (fun _ _ _ => rfl) (fun _ => rfl) (by omega) (fun e => nomatch e)
  have hpl : 12 * p + h < 72 := by omega
  refine ⟨fun hno => ?_, fun ⟨h1, h2⟩ u hu hu2 => ?_⟩
  · unfold f9_tryPawn
    by_cases e0 : s = 0
    · subst e0
      have : V 2 d' = 1 := by
        have : V 2 d' ≠ 0 := fun q => hno ⟨s3, q⟩
        omega
      rw [this] at v1
      refine ⟨X1, ?_, v2⟩
      simp (disch := first | assumption | omega) only [q_lit, Int32.neg_neg, nI_add, pk_mul, q_sub, q_addn, q_nadd, q_lt, q_le, q_eq, q_eqn, q_neq, q_nen, q_ltn, q_nlt, q_len, q_nle, q_nltn, q_nlen, q_cl, q_ib, q_ibn, q_isz0, q_isz1, q_iszb, q_b0, q_b1, q_ng1, q_ng2, q_ng3, q_ng4, q_ng5, q_ng6, Bool.toNat_true, Bool.toNat_false, if_pos, if_neg, q_ct, q_cf, q_let, q_bd, q_it, q_if, Nat.zero_add, Nat.add_zero, true_and, and_true, false_and, and_false, or_false, false_or, or_true, true_or, Bool.true_eq_false, Bool.false_eq_true, wi_s, wi_o, wi_r, x_place, s2, d2', v1]
    · refine ⟨X, ?_, ⟨fun _ _ _ => rfl, rfl, fun _ _ _ => rfl⟩⟩
      simp (disch := first | assumption | omega) only [q_lit, Int32.neg_neg, nI_add, pk_mul, q_sub, q_addn, q_nadd, q_lt, q_le, q_eq, q_eqn, q_neq, q_nen, q_ltn, q_nlt, q_len, q_nle, q_nltn, q_nlen, q_cl, q_ib, q_ibn, q_isz0, q_isz1, q_iszb, q_b0, q_b1, q_ng1, q_ng2, q_ng3, q_ng4, q_ng5, q_ng6, Bool.toNat_true, Bool.toNat_false, if_pos, if_neg, q_ct, q_cf, q_let, q_bd, q_it, q_if, Nat.zero_add, Nat.add_zero, true_and, and_true, false_and, and_false, or_false, false_or, or_true, true_or, Bool.true_eq_false, Bool.false_eq_true, wi_s, wi_o, wi_r, x_place, s2]
  · have e0 : s = 0 := (nI_eq (by omega) (by omega)).mp (s3.symm.trans h1)
    subst e0
    rw [h2] at v1
    obtain ⟨X2, w1, w2⟩ := hVx X1 0 (fun e j he => v2.1 e j (by omega)) (fun i => by rw [v2.2.1]) (by omega) (fun e => nomatch e)
    have x2 : ∀ e j, e ≠ 6 → X2.1 e j = X.1 e j := fun e j he => (w2.1 e j he).trans (v2.1 e j he)
    obtain ⟨q1, q2, q3, q4⟩ := hlg
    obtain ⟨M1, m1, m2⟩ := x_add (S := S) (M := X2) (k := 0) hcl q1 q2 hpl ((x2 l 1 (by omega)).trans q3) ((x2 l 2 (by omega)).trans q4)
    obtain ⟨a1, a2, a3, a4, a5, a6, a7, a8, a9, b1, b2, b3⟩ := id m2
    have mo : ∀ e j, e ≠ 6 → e ≠ l → e ≠ l + 1 → M1.1 e j = X.1 e j := fun e j h1 h2 h3 => (b2 e j h3 (Or.inl h2)).trans (x2 e j h1)
    obtain ⟨u', u1', u2', u3'⟩ := rSt_pu hs (show p < 6 by omega)
    have huu : u' = u := (nI_eq (by omega) (by omega)).mp (u3'.symm.trans hu)
    subst huu
    have eX1d : X1.1 (c + 10) 0 = nI d' := (v2.1 _ _ (by omega)).trans d2'
    have eM1p : M1.1 (c + 1) p = nI u' := (mo _ _ (by omega) (by omega) (by omega)).trans u2'
    have eM1d : M1.1 (c + 10) 0 = nI d' := (mo _ _ (by omega) (by omega) (by omega)).trans d2'
    refine ⟨ph_wi (ph_wi (ph_wi (ph_wi M1 (c + 1) p (nI (min 99999 (u' + V 0 d')))) (c + 5) (12 * p + h) (nI 1)) (c + 6) (12 * p + h) (nI (V 0 d'))) (c + 7) (12 * p + h) (nI d'), ?_, ?_, ?_, fun g' hg' => ?_⟩
    · unfold f9_tryPawn
      simp (disch := first | assumption | omega) only [q_lit, Int32.neg_neg, nI_add, pk_mul, q_sub, q_addn, q_nadd, q_lt, q_le, q_eq, q_eqn, q_neq, q_nen, q_ltn, q_nlt, q_len, q_nle, q_nltn, q_nlen, q_cl, q_ib, q_ibn, q_isz0, q_isz1, q_iszb, q_b0, q_b1, q_ng1, q_ng2, q_ng3, q_ng4, q_ng5, q_ng6, Bool.toNat_true, Bool.toNat_false, if_pos, if_neg, q_ct, q_cf, q_let, q_bd, q_it, q_if, Nat.zero_add, Nat.add_zero, true_and, and_true, false_and, and_false, or_false, false_or, or_true, true_or, Bool.true_eq_false, Bool.false_eq_true, wi_s, wi_o, wi_r, x_place, s2, d2', v1, eX1d, w1, m1, eM1p, q_min, eM1d, x_setst]
    · refine ⟨fun e j h1 h2 h3 h4 => ?_, ?_, fun j h1 h2 => ?_, fun e j h1 => ?_⟩
      · simp (disch := first | assumption | omega) only [q_lit, Int32.neg_neg, nI_add, pk_mul, q_sub, q_addn, q_nadd, q_lt, q_le, q_eq, q_eqn, q_neq, q_nen, q_ltn, q_nlt, q_len, q_nle, q_nltn, q_nlen, q_cl, q_ib, q_ibn, q_isz0, q_isz1, q_iszb, q_b0, q_b1, q_ng1, q_ng2, q_ng3, q_ng4, q_ng5, q_ng6, Bool.toNat_true, Bool.toNat_false, if_pos, if_neg, q_ct, q_cf, q_let, q_bd, q_it, q_if, Nat.zero_add, Nat.add_zero, true_and, and_true, false_and, and_false, or_false, false_or, or_true, true_or, Bool.true_eq_false, Bool.false_eq_true, wi_s, wi_o, wi_r]; exact mo e j h2 h3 h4
      · simp (disch := first | assumption | omega) only [q_lit, Int32.neg_neg, nI_add, pk_mul, q_sub, q_addn, q_nadd, q_lt, q_le, q_eq, q_eqn, q_neq, q_nen, q_ltn, q_nlt, q_len, q_nle, q_nltn, q_nlen, q_cl, q_ib, q_ibn, q_isz0, q_isz1, q_iszb, q_b0, q_b1, q_ng1, q_ng2, q_ng3, q_ng4, q_ng5, q_ng6, Bool.toNat_true, Bool.toNat_false, if_pos, if_neg, q_ct, q_cf, q_let, q_bd, q_it, q_if, Nat.zero_add, Nat.add_zero, true_and, and_true, false_and, and_false, or_false, false_or, or_true, true_or, Bool.true_eq_false, Bool.false_eq_true, wi_s, wi_o, wi_r]; rw [b3, w2.2.1, v2.2.1]
      · simp (disch := first | assumption | omega) only [q_lit, Int32.neg_neg, nI_add, pk_mul, q_sub, q_addn, q_nadd, q_lt, q_le, q_eq, q_eqn, q_neq, q_nen, q_ltn, q_nlt, q_len, q_nle, q_nltn, q_nlen, q_cl, q_ib, q_ibn, q_isz0, q_isz1, q_iszb, q_b0, q_b1, q_ng1, q_ng2, q_ng3, q_ng4, q_ng5, q_ng6, Bool.toNat_true, Bool.toNat_false, if_pos, if_neg, q_ct, q_cf, q_let, q_bd, q_it, q_if, Nat.zero_add, Nat.add_zero, true_and, and_true, false_and, and_false, or_false, false_or, or_true, true_or, Bool.true_eq_false, Bool.false_eq_true, wi_s, wi_o, wi_r]; rw [b2 l j (by omega) (by omega)]; exact x2 l j (by omega)
      · simp (disch := first | assumption | omega) only [q_lit, Int32.neg_neg, nI_add, pk_mul, q_sub, q_addn, q_nadd, q_lt, q_le, q_eq, q_eqn, q_neq, q_nen, q_ltn, q_nlt, q_len, q_nle, q_nltn, q_nlen, q_cl, q_ib, q_ibn, q_isz0, q_isz1, q_iszb, q_b0, q_b1, q_ng1, q_ng2, q_ng3, q_ng4, q_ng5, q_ng6, Bool.toNat_true, Bool.toNat_false, if_pos, if_neg, q_ct, q_cf, q_let, q_bd, q_it, q_if, Nat.zero_add, Nat.add_zero, true_and, and_true, false_and, and_false, or_false, false_or, or_true, true_or, Bool.true_eq_false, Bool.false_eq_true, wi_s, wi_o, wi_r]; rw [b3, w2.2.2 e j h1, v2.2.2 e j h1]
    · refine ⟨X2, fun e j he => x2 e j (by omega), M1, m2, by simp (disch := first | assumption | omega) only [q_lit, Int32.neg_neg, nI_add, pk_mul, q_sub, q_addn, q_nadd, q_lt, q_le, q_eq, q_eqn, q_neq, q_nen, q_ltn, q_nlt, q_len, q_nle, q_nltn, q_nlen, q_cl, q_ib, q_ibn, q_isz0, q_isz1, q_iszb, q_b0, q_b1, q_ng1, q_ng2, q_ng3, q_ng4, q_ng5, q_ng6, Bool.toNat_true, Bool.toNat_false, if_pos, if_neg, q_ct, q_cf, q_let, q_bd, q_it, q_if, Nat.zero_add, Nat.add_zero, true_and, and_true, false_and, and_false, or_false, false_or, or_true, true_or, Bool.true_eq_false, Bool.false_eq_true, wi_s, wi_o, wi_r], by simp (disch := first | assumption | omega) only [q_lit, Int32.neg_neg, nI_add, pk_mul, q_sub, q_addn, q_nadd, q_lt, q_le, q_eq, q_eqn, q_neq, q_nen, q_ltn, q_nlt, q_len, q_nle, q_nltn, q_nlen, q_cl, q_ib, q_ibn, q_isz0, q_isz1, q_iszb, q_b0, q_b1, q_ng1, q_ng2, q_ng3, q_ng4, q_ng5, q_ng6, Bool.toNat_true, Bool.toNat_false, if_pos, if_neg, q_ct, q_cf, q_let, q_bd, q_it, q_if, Nat.zero_add, Nat.add_zero, true_and, and_true, false_and, and_false, or_false, false_or, or_true, true_or, Bool.true_eq_false, Bool.false_eq_true, wi_s, wi_o, wi_r], fun j => by simp (disch := first | assumption | omega) only [q_lit, Int32.neg_neg, nI_add, pk_mul, q_sub, q_addn, q_nadd, q_lt, q_le, q_eq, q_eqn, q_neq, q_nen, q_ltn, q_nlt, q_len, q_nle, q_nltn, q_nlen, q_cl, q_ib, q_ibn, q_isz0, q_isz1, q_iszb, q_b0, q_b1, q_ng1, q_ng2, q_ng3, q_ng4, q_ng5, q_ng6, Bool.toNat_true, Bool.toNat_false, if_pos, if_neg, q_ct, q_cf, q_let, q_bd, q_it, q_if, Nat.zero_add, Nat.add_zero, true_and, and_true, false_and, and_false, or_false, false_or, or_true, true_or, Bool.true_eq_false, Bool.false_eq_true, wi_s, wi_o, wi_r], fun j hj he => ?_⟩
      simp (disch := first | assumption | omega) only [q_lit, Int32.neg_neg, nI_add, pk_mul, q_sub, q_addn, q_nadd, q_lt, q_le, q_eq, q_eqn, q_neq, q_nen, q_ltn, q_nlt, q_len, q_nle, q_nltn, q_nlen, q_cl, q_ib, q_ibn, q_isz0, q_isz1, q_iszb, q_b0, q_b1, q_ng1, q_ng2, q_ng3, q_ng4, q_ng5, q_ng6, Bool.toNat_true, Bool.toNat_false, if_pos, if_neg, q_ct, q_cf, q_let, q_bd, q_it, q_if, Nat.zero_add, Nat.add_zero, true_and, and_true, false_and, and_false, or_false, false_or, or_true, true_or, Bool.true_eq_false, Bool.false_eq_true, wi_s, wi_o, wi_r]
      rw [mo _ _ (by omega) (by omega) (by omega), mo _ _ (by omega) (by omega) (by omega), mo _ _ (by omega) (by omega) (by omega)]
      exact ⟨rfl, rfl, rfl⟩
    · have hg0 : ∀ j, j < 72 → j ≠ 12 * p + h → g' j = g j ∧ g' (72 + j) = g (72 + j) ∧ g' (144 + j) = g (144 + j) := fun j h1 h2 => by
        rw [hg', hg', hg']
        unfold gPawn
        rw [if_neg (by omega), if_neg (by omega), if_neg (by omega), if_neg (by omega), if_neg (by omega), if_neg (by omega), if_neg (by omega), if_neg (by omega), if_neg (by omega), if_neg (by omega), if_neg (by omega), if_neg (by omega)]
        exact ⟨rfl, rfl, rfl⟩
      refine rSt_mv hRL hs (fun j => ?_) (fun e j _ => ?_) (fun j _ => ?_) ?_ (fun e j _ => ?_) (fun j hj => ?_) ?_
      · simp (disch := first | assumption | omega) only [q_lit, Int32.neg_neg, nI_add, pk_mul, q_sub, q_addn, q_nadd, q_lt, q_le, q_eq, q_eqn, q_neq, q_nen, q_ltn, q_nlt, q_len, q_nle, q_nltn, q_nlen, q_cl, q_ib, q_ibn, q_isz0, q_isz1, q_iszb, q_b0, q_b1, q_ng1, q_ng2, q_ng3, q_ng4, q_ng5, q_ng6, Bool.toNat_true, Bool.toNat_false, if_pos, if_neg, q_ct, q_cf, q_let, q_bd, q_it, q_if, Nat.zero_add, Nat.add_zero, true_and, and_true, false_and, and_false, or_false, false_or, or_true, true_or, Bool.true_eq_false, Bool.false_eq_true, wi_s, wi_o, wi_r]; exact mo _ _ (by omega) (by omega) (by omega)
      · simp (disch := first | assumption | omega) only [q_lit, Int32.neg_neg, nI_add, pk_mul, q_sub, q_addn, q_nadd, q_lt, q_le, q_eq, q_eqn, q_neq, q_nen, q_ltn, q_nlt, q_len, q_nle, q_nltn, q_nlen, q_cl, q_ib, q_ibn, q_isz0, q_isz1, q_iszb, q_b0, q_b1, q_ng1, q_ng2, q_ng3, q_ng4, q_ng5, q_ng6, Bool.toNat_true, Bool.toNat_false, if_pos, if_neg, q_ct, q_cf, q_let, q_bd, q_it, q_if, Nat.zero_add, Nat.add_zero, true_and, and_true, false_and, and_false, or_false, false_or, or_true, true_or, Bool.true_eq_false, Bool.false_eq_true, wi_s, wi_o, wi_r]; exact mo _ _ (by omega) (by omega) (by omega)
      · simp (disch := first | assumption | omega) only [q_lit, Int32.neg_neg, nI_add, pk_mul, q_sub, q_addn, q_nadd, q_lt, q_le, q_eq, q_eqn, q_neq, q_nen, q_ltn, q_nlt, q_len, q_nle, q_nltn, q_nlen, q_cl, q_ib, q_ibn, q_isz0, q_isz1, q_iszb, q_b0, q_b1, q_ng1, q_ng2, q_ng3, q_ng4, q_ng5, q_ng6, Bool.toNat_true, Bool.toNat_false, if_pos, if_neg, q_ct, q_cf, q_let, q_bd, q_it, q_if, Nat.zero_add, Nat.add_zero, true_and, and_true, false_and, and_false, or_false, false_or, or_true, true_or, Bool.true_eq_false, Bool.false_eq_true, wi_s, wi_o, wi_r]; exact mo _ _ (by omega) (by omega) (by omega)
      · simp (disch := first | assumption | omega) only [q_lit, Int32.neg_neg, nI_add, pk_mul, q_sub, q_addn, q_nadd, q_lt, q_le, q_eq, q_eqn, q_neq, q_nen, q_ltn, q_nlt, q_len, q_nle, q_nltn, q_nlen, q_cl, q_ib, q_ibn, q_isz0, q_isz1, q_iszb, q_b0, q_b1, q_ng1, q_ng2, q_ng3, q_ng4, q_ng5, q_ng6, Bool.toNat_true, Bool.toNat_false, if_pos, if_neg, q_ct, q_cf, q_let, q_bd, q_it, q_if, Nat.zero_add, Nat.add_zero, true_and, and_true, false_and, and_false, or_false, false_or, or_true, true_or, Bool.true_eq_false, Bool.false_eq_true, wi_s, wi_o, wi_r]; rw [b3, w2.2.1, v2.2.1]
      · simp (disch := first | assumption | omega) only [q_lit, Int32.neg_neg, nI_add, pk_mul, q_sub, q_addn, q_nadd, q_lt, q_le, q_eq, q_eqn, q_neq, q_nen, q_ltn, q_nlt, q_len, q_nle, q_nltn, q_nlen, q_cl, q_ib, q_ibn, q_isz0, q_isz1, q_iszb, q_b0, q_b1, q_ng1, q_ng2, q_ng3, q_ng4, q_ng5, q_ng6, Bool.toNat_true, Bool.toNat_false, if_pos, if_neg, q_ct, q_cf, q_let, q_bd, q_it, q_if, Nat.zero_add, Nat.add_zero, true_and, and_true, false_and, and_false, or_false, false_or, or_true, true_or, Bool.true_eq_false, Bool.false_eq_true, wi_s, wi_o, wi_r]; exact mo _ _ (by omega) (by omega) (by omega)
      · rw [hg']; unfold gPawn
        rw [if_neg (by omega), if_neg (by omega), if_neg (by omega), if_neg (by omega)]
      · refine rMv_pl hs.2.1 hn (show 12 * p + h < 12 * n by omega) ?_ ?_ (fun j h1 h2 => ?_) hg0 (fun q hq => ?_) (fun e he1 he2 => ?_)
        · unfold rVw; simp (disch := first | assumption | omega) only [q_lit, Int32.neg_neg, nI_add, pk_mul, q_sub, q_addn, q_nadd, q_lt, q_le, q_eq, q_eqn, q_neq, q_nen, q_ltn, q_nlt, q_len, q_nle, q_nltn, q_nlen, q_cl, q_ib, q_ibn, q_isz0, q_isz1, q_iszb, q_b0, q_b1, q_ng1, q_ng2, q_ng3, q_ng4, q_ng5, q_ng6, Bool.toNat_true, Bool.toNat_false, if_pos, if_neg, q_ct, q_cf, q_let, q_bd, q_it, q_if, Nat.zero_add, Nat.add_zero, true_and, and_true, false_and, and_false, or_false, false_or, or_true, true_or, Bool.true_eq_false, Bool.false_eq_true, wi_s, wi_o, wi_r]; exact mo _ _ (by omega) (by omega) (by omega)
        · rw [hg']; unfold gPawn
          rw [if_neg (by omega), if_neg (by omega), if_neg (by omega), if_neg (by omega)]
        · unfold rVw; simp (disch := first | assumption | omega) only [q_lit, Int32.neg_neg, nI_add, pk_mul, q_sub, q_addn, q_nadd, q_lt, q_le, q_eq, q_eqn, q_neq, q_nen, q_ltn, q_nlt, q_len, q_nle, q_nltn, q_nlen, q_cl, q_ib, q_ibn, q_isz0, q_isz1, q_iszb, q_b0, q_b1, q_ng1, q_ng2, q_ng3, q_ng4, q_ng5, q_ng6, Bool.toNat_true, Bool.toNat_false, if_pos, if_neg, q_ct, q_cf, q_let, q_bd, q_it, q_if, Nat.zero_add, Nat.add_zero, true_and, and_true, false_and, and_false, or_false, false_or, or_true, true_or, Bool.true_eq_false, Bool.false_eq_true, wi_s, wi_o, wi_r]
          exact ⟨mo _ _ (by omega) (by omega) (by omega), mo _ _ (by omega) (by omega) (by omega), mo _ _ (by omega) (by omega) (by omega)⟩
        · unfold rVw
          by_cases eq : q = p
          · subst eq
            rw [hg']
            unfold gPawn
            simp (disch := first | assumption | omega) only [q_lit, Int32.neg_neg, nI_add, pk_mul, q_sub, q_addn, q_nadd, q_lt, q_le, q_eq, q_eqn, q_neq, q_nen, q_ltn, q_nlt, q_len, q_nle, q_nltn, q_nlen, q_cl, q_ib, q_ibn, q_isz0, q_isz1, q_iszb, q_b0, q_b1, q_ng1, q_ng2, q_ng3, q_ng4, q_ng5, q_ng6, Bool.toNat_true, Bool.toNat_false, if_pos, if_neg, q_ct, q_cf, q_let, q_bd, q_it, q_if, Nat.zero_add, Nat.add_zero, true_and, and_true, false_and, and_false, or_false, false_or, or_true, true_or, Bool.true_eq_false, Bool.false_eq_true, wi_s, wi_o, wi_r]
            exact ⟨⟨_, by omega, rfl⟩, fun z => absurd z (by omega)⟩
          · rw [hg']
            unfold gPawn
            simp (disch := first | assumption | omega) only [q_lit, Int32.neg_neg, nI_add, pk_mul, q_sub, q_addn, q_nadd, q_lt, q_le, q_eq, q_eqn, q_neq, q_nen, q_ltn, q_nlt, q_len, q_nle, q_nltn, q_nlen, q_cl, q_ib, q_ibn, q_isz0, q_isz1, q_iszb, q_b0, q_b1, q_ng1, q_ng2, q_ng3, q_ng4, q_ng5, q_ng6, Bool.toNat_true, Bool.toNat_false, if_pos, if_neg, q_ct, q_cf, q_let, q_bd, q_it, q_if, Nat.zero_add, Nat.add_zero, true_and, and_true, false_and, and_false, or_false, false_or, or_true, true_or, Bool.true_eq_false, Bool.false_eq_true, wi_s, wi_o, wi_r]
            rw [mo _ _ (by omega) (by omega) (by omega)]
            exact hs.2.1.2.2 q hq
        · have ee : e = d' := (nI_eq (by omega) (by omega)).mp (he2.symm.trans hd2)
          subst ee
          rw [hg', hg', hg']
          unfold gPawn rVw
          simp (disch := first | assumption | omega) only [q_lit, Int32.neg_neg, nI_add, pk_mul, q_sub, q_addn, q_nadd, q_lt, q_le, q_eq, q_eqn, q_neq, q_nen, q_ltn, q_nlt, q_len, q_nle, q_nltn, q_nlen, q_cl, q_ib, q_ibn, q_isz0, q_isz1, q_iszb, q_b0, q_b1, q_ng1, q_ng2, q_ng3, q_ng4, q_ng5, q_ng6, Bool.toNat_true, Bool.toNat_false, if_pos, if_neg, q_ct, q_cf, q_let, q_bd, q_it, q_if, Nat.zero_add, Nat.add_zero, true_and, and_true, false_and, and_false, or_false, false_or, or_true, true_or, Bool.true_eq_false, Bool.false_eq_true, wi_s, wi_o, wi_r]
          exact ⟨⟨1, by omega, rfl⟩, fun _ => ⟨⟨_, hV0.1, rfl⟩, ⟨_, Nat.le_refl _, rfl⟩⟩, fun z => absurd rfl z⟩
