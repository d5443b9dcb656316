/-! PURE HALF: the law's module: both read a part -/
section RD
variable {o : Bool} {S : ph_Sh} {bs cd vl pl : Nat → Nat} {T m : Nat} {M0 K0 M K : ph_Mem} {k lv dp cl : Nat}
theorem rd_lt (hE : tkE o bs cd vl pl T m M0 K0) (h : rOK T M0 K0 M K k lv dp cl) (hc : cd k ≠ 0) : k < T := by
  have h1 := h.2.1.1
  by_cases q : k = T
  · rw [q, hE.2.2.2.2.2.2.1] at hc
    exact absurd rfl hc
  · omega
theorem rd_isn (hE : tkE o bs cd vl pl T m M0 K0) (h : rOK T M0 K0 M K k lv dp cl) : f6_isNumber S M = some (nI (decide (cd k = 50)).toNat) := by
  obtain ⟨⟨e1, e2⟩, _, _, e4, e5, e6, _, e8⟩ := hE
  obtain ⟨⟨f0, f1⟩, ⟨g1, g2, g3⟩, ⟨g4, g5⟩, ⟨g6, g7⟩, _⟩ := h
  obtain ⟨a, e, a1, a2, a3, a4, a5, a6, a7, a8, a9, b1, b2⟩ := e4 k g1
  have c67 : M.1 67 k = M0.1 67 k := f0.1 67 k (by omega) (by omega) (by omega)
  unfold f6_isNumber
  by_cases q : cd k = 50
  · have n1 : M.1 67 k = nI 1 := c67.trans (b1 q).1
    rw [decide_eq_true q]
    simp (disch := first | assumption | omega) only [q_lit, Int32.neg_neg, nI_add, pk_mul, q_sub, q_addn, q_nadd, q_lt, q_le, q_eq, q_eqn, q_neq, q_nen, q_ltn, q_nlt, q_len, q_nle, q_nltn, q_nlen, q_cl, q_ib, q_ibn, q_isz0, q_isz1, q_iszb, q_b0, q_b1, q_ng1, q_ng2, q_ng3, q_ng4, q_ng5, q_ng6, Bool.toNat_true, Bool.toNat_false, if_pos, if_neg, q_ct, q_cf, q_let, q_bd, q_it, q_if, Nat.zero_add, Nat.add_zero, true_and, and_true, false_and, and_false, or_false, false_or, or_true, true_or, Bool.true_eq_false, Bool.false_eq_true, wi_s, wi_o, wi_r, g4, g6, n1]
  · have n1 : ¬ M.1 67 k = nI 1 := by rw [c67]; exact b2 q
    rw [decide_eq_false q]
    simp only [q_lit]
    rw [g4, if_pos (by first | rfl | trivial | decide), g6, q_ib (by omega) (by omega), q_ct, q_cl (by omega), if_neg n1]
    rfl
theorem rd_num (hE : tkE o bs cd vl pl T m M0 K0) (h : rOK T M0 K0 M K k lv dp cl) {a b : Nat} (hab : a ≤ b) (hb : b ≤ 1000) : f6_readNumber S M (nI a) (nI b) = (if cd k = 50 ∧ a ≤ vl k ∧ vl k ≤ b then some (nI (vl k), ph_wi M 63 8 (nI (k + 1))) else some (nI 0, ph_wi M 63 2 (nI (pl k)))) ∧ f12_mustNumber K (nI a) (nI b) = (if cd k = 50 ∧ a ≤ vl k ∧ vl k ≤ b then some (ph_wi K 0 19 (nI (k + 1))) else some (ph_wi K 0 21 (nI (pl k)))) := by
  have isn := rd_isn (S := S) hE h
  obtain ⟨fl1, fl2, fl3⟩ := rd_fail (S := S) hE h
  have adv := rd_adv (S := S) hE h
  have klt := rd_lt hE h
  have fin := rd_fine h
  obtain ⟨⟨e1, e2⟩, _, _, e4, e5, e6, _, e8⟩ := hE
  obtain ⟨⟨f0, f1⟩, ⟨g1, g2, g3⟩, ⟨g4, g5⟩, ⟨g6, g7⟩, _⟩ := h
  obtain ⟨x, e, a1, a2, a3, a4, a5, a6, a7, a8, a9, b1, b2⟩ := e4 k g1
  have c65 : M.1 65 k = nI x := (f0.1 65 k (by omega) (by omega) (by omega)).trans a4
  have c66 : M.1 66 k = nI e := (f0.1 66 k (by omega) (by omega) (by omega)).trans a5
  have c9 : K.1 9 k = nI (cd k) := (f1.1 9 k (by omega)).trans a7
  have c10 : K.1 10 k = nI (vl k) := (f1.1 10 k (by omega)).trans a8
  have vb := (e8 k).2
  have cb := (e8 k).1
  have kff : f12_mustNumber_j42 (ph_wi K 0 21 (nI (pl k))) = some (ph_wi K 0 21 (nI (pl k))) := by
    unfold f12_mustNumber_j42
    rw [kf_fine (p := pl k) (by omega) wi_s, q_bd, if_pos (by first | rfl | trivial | decide)]
  have kfs : f12_mustNumber_j38 K = some (ph_wi K 0 21 (nI (pl k))) := by
    unfold f12_mustNumber_j38
    rw [fl2, q_bd, kff]
  have kgo : f12_mustNumber_j42 K = some (ph_wi K 0 19 (nI (k + 1))) := by
    unfold f12_mustNumber_j42
    rw [fin, q_bd, if_neg (by first | decide | exact fun q => absurd (show nI 1 = nI 0 from q) (by decide)), q_let, g7]
    simp only [q_lit, nI_add]
  by_cases q : cd k = 50
  · obtain ⟨_, d1, d2⟩ := b1 q
    have kt := klt (by omega)
    have nl := x_num_l (S := S) (M := M) (bs := bs) (k := k) (e := e) (x1 := nI a) (x2 := nI b) (by omega) (by omega) g6 c66 (fun j hj => (f0.1 64 j (by omega) (by omega) (by omega)).trans (e5 j (by omega))) (e - x) x 0 10000 (by omega) (by omega) d1
    rw [← d2] at nl
    have rd : f6_readNumber S M (nI a) (nI b) = f6_readNumber_j71 S (nI a) (nI b) (nI (min 1001 (vl k))) M := by
      rw [← nl]
      unfold f6_readNumber f6_readNumber_j12
      simp only [q_lit]
      rw [isn, q_bd, decide_eq_true q, if_neg (by first | decide | exact fun q => absurd (show nI 1 = nI 0 from q) (by decide)), g6, q_ib (by omega) (show k < 401 by omega), q_ct, q_let, q_cl (by omega), c65]
      rfl
    have xr : f6_readNumber S M (nI a) (nI b) = if nI (min 1001 (vl k)) < nI a then some (nI 0, ph_wi M 63 2 (nI (pl k))) else (if nI (min 1001 (vl k)) ≤ nI b then some (nI (min 1001 (vl k)), ph_wi M 63 8 (nI (k + 1))) else some (nI 0, ph_wi M 63 2 (nI (pl k)))) := by
      rw [rd]
      unfold f6_readNumber_j71 f6_readNumber_j81
      rw [fl1, adv kt, q_bd, q_bd]
      rfl
    have mr : f12_mustNumber K (nI a) (nI b) = (f12_within K (nI (vl k)) (nI a) (nI b)).bind fun q2 => if q2 = nI 0 then some (ph_wi K 0 21 (nI (pl k))) else some (ph_wi K 0 19 (nI (k + 1))) := by
      unfold f12_mustNumber
      rw [fin, kfs, kgo]
      simp only [q_lit]
      rw [q_bd, if_neg (by first | decide | exact fun q => absurd (show nI 1 = nI 0 from q) (by decide)), g7, q_ib (by omega) (show k < 401 by omega), q_ct, q_cl (by omega), c9, c10, q, if_pos (by first | rfl | trivial | decide), q_ct]
    rw [xr, mr]
    unfold f12_within
    by_cases r1 : a ≤ vl k
    · by_cases r2 : vl k ≤ b
      · have cnd : cd k = 50 ∧ a ≤ vl k ∧ vl k ≤ b := ⟨q, r1, r2⟩
        have e0 : min 1001 (vl k) = vl k := by omega
        constructor
        · rw [e0, if_pos cnd]
          simp (disch := first | assumption | omega) only [q_lit, Int32.neg_neg, nI_add, pk_mul, q_sub, q_addn, q_nadd, q_lt, q_le, q_eq, q_eqn, q_neq, q_nen, q_ltn, q_nlt, q_len, q_nle, q_nltn, q_nlen, q_cl, q_ib, q_ibn, q_isz0, q_isz1, q_iszb, q_b0, q_b1, q_ng1, q_ng2, q_ng3, q_ng4, q_ng5, q_ng6, Bool.toNat_true, Bool.toNat_false, if_pos, if_neg, q_ct, q_cf, q_let, q_bd, q_it, q_if, Nat.zero_add, Nat.add_zero, true_and, and_true, false_and, and_false, or_false, false_or, or_true, true_or, Bool.true_eq_false, Bool.false_eq_true, wi_s, wi_o, wi_r]
        · rw [if_pos cnd]
          simp (disch := first | assumption | omega) only [q_lit, Int32.neg_neg, nI_add, pk_mul, q_sub, q_addn, q_nadd, q_lt, q_le, q_eq, q_eqn, q_neq, q_nen, q_ltn, q_nlt, q_len, q_nle, q_nltn, q_nlen, q_cl, q_ib, q_ibn, q_isz0, q_isz1, q_iszb, q_b0, q_b1, q_ng1, q_ng2, q_ng3, q_ng4, q_ng5, q_ng6, Bool.toNat_true, Bool.toNat_false, if_pos, if_neg, q_ct, q_cf, q_let, q_bd, q_it, q_if, Nat.zero_add, Nat.add_zero, true_and, and_true, false_and, and_false, or_false, false_or, or_true, true_or, Bool.true_eq_false, Bool.false_eq_true, wi_s, wi_o, wi_r]
      · have cnd : ¬ (cd k = 50 ∧ a ≤ vl k ∧ vl k ≤ b) := fun z => r2 z.2.2
        constructor
        · have z1 : a ≤ min 1001 (vl k) := by omega
          have z2 : ¬ min 1001 (vl k) ≤ b := by omega
          have z3 : min 1001 (vl k) < 2000 := by omega
          rw [if_neg cnd]
          generalize min 1001 (vl k) = y at *
          simp (disch := first | assumption | omega) only [q_lit, Int32.neg_neg, nI_add, pk_mul, q_sub, q_addn, q_nadd, q_lt, q_le, q_eq, q_eqn, q_neq, q_nen, q_ltn, q_nlt, q_len, q_nle, q_nltn, q_nlen, q_cl, q_ib, q_ibn, q_isz0, q_isz1, q_iszb, q_b0, q_b1, q_ng1, q_ng2, q_ng3, q_ng4, q_ng5, q_ng6, Bool.toNat_true, Bool.toNat_false, if_pos, if_neg, q_ct, q_cf, q_let, q_bd, q_it, q_if, Nat.zero_add, Nat.add_zero, true_and, and_true, false_and, and_false, or_false, false_or, or_true, true_or, Bool.true_eq_false, Bool.false_eq_true, wi_s, wi_o, wi_r]
        · rw [if_neg cnd]
          simp (disch := first | assumption | omega) only [q_lit, Int32.neg_neg, nI_add, pk_mul, q_sub, q_addn, q_nadd, q_lt, q_le, q_eq, q_eqn, q_neq, q_nen, q_ltn, q_nlt, q_len, q_nle, q_nltn, q_nlen, q_cl, q_ib, q_ibn, q_isz0, q_isz1, q_iszb, q_b0, q_b1, q_ng1, q_ng2, q_ng3, q_ng4, q_ng5, q_ng6, Bool.toNat_true, Bool.toNat_false, if_pos, if_neg, q_ct, q_cf, q_let, q_bd, q_it, q_if, Nat.zero_add, Nat.add_zero, true_and, and_true, false_and, and_false, or_false, false_or, or_true, true_or, Bool.true_eq_false, Bool.false_eq_true, wi_s, wi_o, wi_r]
    · have cnd : ¬ (cd k = 50 ∧ a ≤ vl k ∧ vl k ≤ b) := fun z => r1 z.2.1
      constructor
      · have z1 : min 1001 (vl k) < a := by omega
        rw [if_neg cnd]
        generalize min 1001 (vl k) = y at *
        simp (disch := first | assumption | omega) only [q_lit, Int32.neg_neg, nI_add, pk_mul, q_sub, q_addn, q_nadd, q_lt, q_le, q_eq, q_eqn, q_neq, q_nen, q_ltn, q_nlt, q_len, q_nle, q_nltn, q_nlen, q_cl, q_ib, q_ibn, q_isz0, q_isz1, q_iszb, q_b0, q_b1, q_ng1, q_ng2, q_ng3, q_ng4, q_ng5, q_ng6, Bool.toNat_true, Bool.toNat_false, if_pos, if_neg, q_ct, q_cf, q_let, q_bd, q_it, q_if, Nat.zero_add, Nat.add_zero, true_and, and_true, false_and, and_false, or_false, false_or, or_true, true_or, Bool.true_eq_false, Bool.false_eq_true, wi_s, wi_o, wi_r]
      · rw [if_neg cnd]
        simp (disch := first | assumption | omega) only [q_lit, Int32.neg_neg, nI_add, pk_mul, q_sub, q_addn, q_nadd, q_lt, q_le, q_eq, q_eqn, q_neq, q_nen, q_ltn, q_nlt, q_len, q_nle, q_nltn, q_nlen, q_cl, q_ib, q_ibn, q_isz0, q_isz1, q_iszb, q_b0, q_b1, q_ng1, q_ng2, q_ng3, q_ng4, q_ng5, q_ng6, Bool.toNat_true, Bool.toNat_false, if_pos, if_neg, q_ct, q_cf, q_let, q_bd, q_it, q_if, Nat.zero_add, Nat.add_zero, true_and, and_true, false_and, and_false, or_false, false_or, or_true, true_or, Bool.true_eq_false, Bool.false_eq_true, wi_s, wi_o, wi_r]
  · rw [if_neg (fun z => q z.1), if_neg (fun z => q z.1)]
    constructor
    · have j71 : f6_readNumber_j71 S (nI a) (nI b) (-nI 1) M = some (nI 0, ph_wi M 63 2 (nI (pl k))) := by
        unfold f6_readNumber_j71 f6_readNumber_j81
        rw [if_pos (show -nI 1 < nI a by rw [q_nlt (by omega) (by omega)]; omega), fl1, q_bd]
        rfl
      unfold f6_readNumber f6_readNumber_j12 f6_readNumber_l24
      simp only [q_lit]
      rw [isn, q_bd, decide_eq_false q, if_pos (by first | rfl | trivial | decide), g6, q_ib (by omega) (show k < 401 by omega), q_ct, q_let, j71]
      by_cases z : M.1 66 (nI k).toNatClampNeg ≤ M.1 65 (nI k).toNatClampNeg
      · rw [q_ct, if_pos z]
      · rw [q_ct, if_neg z, if_pos (by first | rfl | trivial | decide)]
    · unfold f12_mustNumber
      rw [fin, kfs]
      simp only [q_lit]
      rw [q_bd, if_neg (by first | decide | exact fun q => absurd (show nI 1 = nI 0 from q) (by decide)), g7, q_ib (by omega) (show k < 401 by omega), q_ct, q_cl (by omega), c9, if_neg (by rw [q_eq (by omega) (by omega)]; exact q)]
theorem rd_add (h : rOK T M0 K0 M K k lv dp cl) (hT : T ≤ 400) {x y : Nat} (hx : x < 32) (hy : y ≤ 1000) (hcl : cl < k) : f6_add S M (nI x) (nI y) = some (ph_wi (ph_wi M 69 cl (nI (32 * y + x))) 63 14 (nI (cl + 1))) ∧ rOK T M0 K0 (ph_wi (ph_wi M 69 cl (nI (32 * y + x))) 63 14 (nI (cl + 1))) K k lv dp (cl + 1) := by
  obtain ⟨⟨f0, f1⟩, ⟨g1, g2, g3⟩, ⟨g4, g5⟩, ⟨g6, g7⟩, ⟨g8, g9⟩, g10, g11⟩ := h
  refine ⟨?_, ⟨xF_G f0 (xG_w (xG_w (xG_r M) (by omega)) (by omega)), f1⟩, ⟨g1, hcl, g3⟩, ⟨by rw [wi_o (by omega), wi_o (by omega)]; exact g4, g5⟩, ⟨by rw [wi_o (by omega), wi_o (by omega)]; exact g6, g7⟩, ⟨by rw [wi_o (by omega), wi_o (by omega)]; exact g8, g9⟩, by rw [wi_o (by omega), wi_o (by omega)]; exact g10, wi_s⟩
  unfold f6_add
  have e : y * 32 + x = 32 * y + x := by omega
  simp (disch := first | assumption | omega) only [q_lit, Int32.neg_neg, nI_add, pk_mul, q_sub, q_addn, q_nadd, q_lt, q_le, q_eq, q_eqn, q_neq, q_nen, q_ltn, q_nlt, q_len, q_nle, q_nltn, q_nlen, q_cl, q_ib, q_ibn, q_isz0, q_isz1, q_iszb, q_b0, q_b1, q_ng1, q_ng2, q_ng3, q_ng4, q_ng5, q_ng6, Bool.toNat_true, Bool.toNat_false, if_pos, if_neg, q_ct, q_cf, q_let, q_bd, q_it, q_if, Nat.zero_add, Nat.add_zero, true_and, and_true, false_and, and_false, or_false, false_or, or_true, true_or, Bool.true_eq_false, Bool.false_eq_true, wi_s, wi_o, wi_r, g4, g11, e]
theorem rd_law (hE : tkE o bs cd vl pl T m M0 K0) (h : rOK T M0 K0 M K k lv dp cl) : f6_wordOfLaw S M = some (if 8 ≤ cd k ∧ cd k ≤ 16 then nI (cd k - 8) else -nI 1) := by
  have sy := fun s (hs : s < 40) => rd_says (S := S) hE h hs
  have s14 : f6_says S M 14 = some (nI (decide (cd k = 8)).toNat) := sy 14 (by omega)
  have s15 : f6_says S M 15 = some (nI (decide (cd k = 9)).toNat) := sy 15 (by omega)
  have s16 : f6_says S M 16 = some (nI (decide (cd k = 10)).toNat) := sy 16 (by omega)
  have s17 : f6_says S M 17 = some (nI (decide (cd k = 11)).toNat) := sy 17 (by omega)
  have s18 : f6_says S M 18 = some (nI (decide (cd k = 12)).toNat) := sy 18 (by omega)
  have s19 : f6_says S M 19 = some (nI (decide (cd k = 13)).toNat) := sy 19 (by omega)
  have s20 : f6_says S M 20 = some (nI (decide (cd k = 14)).toNat) := sy 20 (by omega)
  have s21 : f6_says S M 21 = some (nI (decide (cd k = 15)).toNat) := sy 21 (by omega)
  have s22 : f6_says S M 22 = some (nI (decide (cd k = 16)).toNat) := sy 22 (by omega)
  unfold f6_wordOfLaw
  rw [s14, s15, s16, s17, s18, s19, s20, s21, s22]
  generalize cd k = x
  by_cases h : 8 ≤ x ∧ x ≤ 16
  · have : x = 8 ∨ x = 9 ∨ x = 10 ∨ x = 11 ∨ x = 12 ∨ x = 13 ∨ x = 14 ∨ x = 15 ∨ x = 16 := by omega
    rcases this with rfl | rfl | rfl | rfl | rfl | rfl | rfl | rfl | rfl <;> decide
  · rw [if_neg h, decide_eq_false (show ¬ x = 8 by omega), decide_eq_false (show ¬ x = 9 by omega), decide_eq_false (show ¬ x = 10 by omega), decide_eq_false (show ¬ x = 11 by omega), decide_eq_false (show ¬ x = 12 by omega), decide_eq_false (show ¬ x = 13 by omega), decide_eq_false (show ¬ x = 14 by omega), decide_eq_false (show ¬ x = 15 by omega), decide_eq_false (show ¬ x = 16 by omega)]
    decide
def owd (x : Nat) : Nat := if x ≤ 20 then x - 17 else if x = 21 then 9 else 15
theorem rd_ord (hE : tkE o bs cd vl pl T m M0 K0) (h : rOK T M0 K0 M K k lv dp cl) : f6_wordOfOrders S M = some (if 17 ≤ cd k ∧ cd k ≤ 22 then nI (owd (cd k)) else -nI 1) := by
  have sy := fun s (hs : s < 40) => rd_says (S := S) hE h hs
  have s14 : f6_says S M 8 = some (nI (decide (cd k = 17)).toNat) := sy 8 (by omega)
  have s15 : f6_says S M 9 = some (nI (decide (cd k = 18)).toNat) := sy 9 (by omega)
  have s16 : f6_says S M 10 = some (nI (decide (cd k = 19)).toNat) := sy 10 (by omega)
  have s17 : f6_says S M 11 = some (nI (decide (cd k = 20)).toNat) := sy 11 (by omega)
  have s18 : f6_says S M 12 = some (nI (decide (cd k = 21)).toNat) := sy 12 (by omega)
  have s19 : f6_says S M 13 = some (nI (decide (cd k = 22)).toNat) := sy 13 (by omega)
  unfold f6_wordOfOrders
  rw [s14, s15, s16, s17, s18, s19]
  generalize cd k = x
  by_cases h : 17 ≤ x ∧ x ≤ 22
  · have : x = 17 ∨ x = 18 ∨ x = 19 ∨ x = 20 ∨ x = 21 ∨ x = 22 := by omega
    rcases this with rfl | rfl | rfl | rfl | rfl | rfl <;> decide
  · rw [if_neg h, decide_eq_false (show ¬ x = 17 by omega), decide_eq_false (show ¬ x = 18 by omega), decide_eq_false (show ¬ x = 19 by omega), decide_eq_false (show ¬ x = 20 by omega), decide_eq_false (show ¬ x = 21 by omega), decide_eq_false (show ¬ x = 22 by omega)]
    decide
/-- what reading comes to: a fault in both, or a sum of the same meaning -/
def rdS (o : Bool) (cd vl : Nat → Nat) (T : Nat) (M0 K0 : ph_Mem) (dp nd d : Nat) (mk : Nat → ph_Mem → Int32 → Option (Int64 × ph_Mem)) (M : ph_Mem) (k cl : Nat) (x y : Option ph_Mem) : Prop := ∃ M' K', x = some M' ∧ y = some K' ∧ xG M M' ∧ (rFa T M0 K0 M' K' ∨ ∃ k' lv' cl' F, rOK T M0 K0 M' K' k' lv' dp cl' ∧ lv' ≤ 50 ∧ k < k' ∧ cl < cl' ∧ cl' + k ≤ cl + k' ∧ (∀ j, j < cl → M'.1 69 j = M.1 69 j) ∧ lwK o (M'.1 69) cl cl' nd F ∧ ∀ fu, d ≤ fu → mS o cd vl T (mk fu) k k' F)
end RD
