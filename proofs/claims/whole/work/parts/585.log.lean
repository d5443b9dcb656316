/-! PURE HALF: what can be undone -/
theorem rUn_f2 {n : Nat} (hn : n ≤ 6) {E E' L L' : Nat → Int32} {x : Nat} (hE : ∀ e k, e < 16 → k < 12 → e ≠ x → E' (12 * e + k) = E (12 * e + k)) : ∀ (r nx d : Nat) (v v' : rV), r + d ≤ 15 → nx < 16 → x = (nx + d) % 16 → (∀ j, j < 224 * r → L' j = L j) → (∀ j, j < 72 → v'.1 j = v.1 j ∧ v'.2.1 j = v.2.1 j ∧ v'.2.2.1 j = v.2.2.1 j) → rUn n E L r nx v → rUn n E' L' r nx v'
  | 0, _, _, _, _, _, _, _, _, _, _ => trivial
  | r + 1, nx, d, v, v', hr, hnx, hx, hL, hv, h => by
    have hm : (nx + 15) % 16 < 16 := Nat.mod_lt _ (by omega)
    have hne : (nx + 15) % 16 ≠ x := by omega
    obtain ⟨pl, kd, h1, h2, h3, h4, h5, h6, h7⟩ := h
    have e0 := hE ((nx + 15) % 16) 0 hm (by omega) hne
    have e1 := hE ((nx + 15) % 16) 1 hm (by omega) hne
    have e2 := hE ((nx + 15) % 16) 2 hm (by omega) hne
    have e3 := hE ((nx + 15) % 16) 3 hm (by omega) hne
    have e4 := hE ((nx + 15) % 16) 4 hm (by omega) hne
    have e5 := hE ((nx + 15) % 16) 5 hm (by omega) hne
    have e6 : ∀ j, j < 6 → E' (12 * ((nx + 15) % 16) + 6 + j) = E (12 * ((nx + 15) % 16) + 6 + j) := fun j hj => by
      have := hE ((nx + 15) % 16) (6 + j) hm (by omega) hne
      rw [← Nat.add_assoc] at this
      exact this
    rw [Nat.add_zero] at e0
    have hv' : ∀ j, j < 72 → (upd v'.1 pl (E' (12 * ((nx + 15) % 16) + 2))) j = (upd v.1 pl (E (12 * ((nx + 15) % 16) + 2))) j ∧ (upd v'.2.1 pl (E' (12 * ((nx + 15) % 16) + 3))) j = (upd v.2.1 pl (E (12 * ((nx + 15) % 16) + 3))) j ∧ (upd v'.2.2.1 pl (E' (12 * ((nx + 15) % 16) + 4))) j = (upd v.2.2.1 pl (E (12 * ((nx + 15) % 16) + 4))) j := by
      intro j hj
      unfold upd
      rw [e2, e3, e4, (hv j hj).1, (hv j hj).2.1, (hv j hj).2.2]
      exact ⟨rfl, rfl, rfl⟩
    exact ⟨pl, kd, h1, h2, e0.trans h3, (hL _ (by omega)).trans h4, e1.trans h5, rMv_fr h6 hn hv' e6 e5 (fun j hj => hL _ (by omega)), rUn_f2 hn hE r _ (d + 1) _ _ (by omega) hm (by omega) (fun j hj => hL j (by omega)) hv' h7⟩
theorem rUn_drop {n : Nat} {E L : Nat → Int32} : ∀ (r nx : Nat) (v : rV), rUn n E L (r + 1) nx v → rUn n E (fun j => L (j + 224)) r nx v
  | 0, _, _, _ => trivial
  | r + 1, nx, v, h => by
    obtain ⟨pl, kd, h1, h2, h3, h4, h5, h6, h7⟩ := h
    refine ⟨pl, kd, h1, h2, h3, ?_, h5, ?_, rUn_drop r _ _ h7⟩
    · show L (224 * r + 223 + 224) = nI kd
      rw [show 224 * r + 223 + 224 = 224 * (r + 1) + 223 by omega]
      exact h4
    · have e : (fun k => (fun j => L (j + 224)) (224 * r + k)) = fun k => L (224 * (r + 1) + k) := by
        funext k
        show L (224 * r + k + 224) = L (224 * (r + 1) + k)
        rw [show 224 * r + k + 224 = 224 * (r + 1) + k by omega]
      rw [e]
      exact h6
/-- what add writes -/
def rAdd (M M' : ph_Mem) (l c nx sz k pl : Nat) : Prop :=
  M'.1 l 1 = nI ((nx + 1) % 16) ∧ M'.1 l 2 = nI (min 16 (sz + 1)) ∧ M'.1 (l + 1) (12 * nx) = nI k ∧ M'.1 (l + 1) (12 * nx + 1) = nI pl ∧ M'.1 (l + 1) (12 * nx + 2) = M.1 (c + 5) pl ∧ M'.1 (l + 1) (12 * nx + 3) = M.1 (c + 6) pl ∧ M'.1 (l + 1) (12 * nx + 4) = M.1 (c + 7) pl ∧ M'.1 (l + 1) (12 * nx + 5) = M.1 (c + 10) 0 ∧ (∀ j, j < 6 → M'.1 (l + 1) (12 * nx + 6 + j) = M.1 (c + 1) j) ∧
  (∀ j, j < 12 * nx ∨ 12 * nx + 12 ≤ j → M'.1 (l + 1) j = M.1 (l + 1) j) ∧ (∀ d j, d ≠ l + 1 → (d ≠ l ∨ (j ≠ 1 ∧ j ≠ 2)) → M'.1 d j = M.1 d j) ∧ M'.2 = M.2
theorem q_cpk6 {a : Nat} (h : a + 6 ≤ 192) : ph_cpk (nI 0) (nI a) (nI 6) 6 192 = true := by
  unfold ph_cpk
  have h1 : ¬ nI 0 < 0 := nI_pos (by omega)
  have h2 : ¬ nI a < 0 := nI_pos (by omega)
  have h3 : ¬ nI 6 < 0 := nI_pos (by omega)
  rw [q_cl (by omega), q_cl (by omega), q_cl (by omega)]
  simp [h1, h2, h3]
  omega
theorem q_cpk6' {a : Nat} (h : a + 6 ≤ 192) : ph_cpk (nI a) (nI 0) (nI 6) 192 6 = true := by
  unfold ph_cpk
  have h1 : ¬ nI 0 < 0 := nI_pos (by omega)
  have h2 : ¬ nI a < 0 := nI_pos (by omega)
  have h3 : ¬ nI 6 < 0 := nI_pos (by omega)
  rw [q_cl (by omega), q_cl (by omega), q_cl (by omega)]
  simp [h1, h2, h3]
  omega
theorem q_min {S : ph_Sh} {X : ph_Mem} {a b : Nat} (ha : a < 2 ^ 31) (hb : b < 2 ^ 31) : f9_min_7cf53 S X (nI a) (nI b) = some (nI (min a b)) := by
  unfold f9_min_7cf53
  by_cases h : b < a
  · rw [if_pos (by rw [q_lt hb ha]; exact h), Nat.min_eq_right (by omega)]
  · rw [if_neg (by rw [q_lt hb ha]; exact h), Nat.min_eq_left (by omega)]
theorem x_add {S : ph_Sh} {M : ph_Mem} {l c nx sz k pl : Nat} (hcl : c + 12 ≤ l) (hnx : nx < 16) (hsz : sz ≤ 16) (hpl : pl < 72) (h1 : M.1 l 1 = nI nx) (h2 : M.1 l 2 = nI sz) : ∃ M', f1_add S M l (nI k) (nI pl) c = some M' ∧ rAdd M M' l c nx sz k pl := by
  have e12 : nx * 12 = 12 * nx := Nat.mul_comm _ _
  have em : nx + 1 - (nx + 1) / 16 * 16 = (nx + 1) % 16 := by omega
  refine ⟨ph_wi (ph_wi (ph_cp (ph_wi (ph_wi (ph_wi (ph_wi (ph_wi (ph_wi M (l + 1) (12 * nx) (nI k)) (l + 1) (12 * nx + 1) (nI pl)) (l + 1) (12 * nx + 2) (M.1 (c + 5) pl)) (l + 1) (12 * nx + 3) (M.1 (c + 6) pl)) (l + 1) (12 * nx + 4) (M.1 (c + 7) pl)) (l + 1) (12 * nx + 5) (M.1 (c + 10) 0)) (c + 1) 0 (l + 1) (12 * nx + 6) 6) l 1 (nI ((nx + 1) % 16))) l 2 (nI (min 16 (sz + 1))), ?_, ?_⟩
  · unfold f1_add
    simp (disch := first | assumption | omega) only [q_lit, Int32.neg_neg, nI_add, pk_mul, q_sub, q_addn, q_nadd, q_lt, q_le, q_eq, q_eqn, q_neq, q_nen, q_ltn, q_nlt, q_len, q_nle, q_nltn, q_nlen, q_cl, q_ib, q_ibn, q_isz0, q_isz1, q_iszb, q_b0, q_b1, q_ng1, q_ng2, q_ng3, q_ng4, q_ng5, q_ng6, Bool.toNat_true, Bool.toNat_false, if_pos, if_neg, q_ct, q_cf, q_let, q_bd, q_it, q_if, Nat.zero_add, Nat.add_zero, true_and, and_true, false_and, and_false, or_false, false_or, or_true, true_or, Bool.true_eq_false, Bool.false_eq_true, wi_s, wi_o, wi_r, h1, h2, e12, q_cpk6, cp_out, q_div, q_rem, em, q_min]
  · refine ⟨by simp (disch := first | assumption | omega) only [q_lit, Int32.neg_neg, nI_add, pk_mul, q_sub, q_addn, q_nadd, q_lt, q_le, q_eq, q_eqn, q_neq, q_nen, q_ltn, q_nlt, q_len, q_nle, q_nltn, q_nlen, q_cl, q_ib, q_ibn, q_isz0, q_isz1, q_iszb, q_b0, q_b1, q_ng1, q_ng2, q_ng3, q_ng4, q_ng5, q_ng6, Bool.toNat_true, Bool.toNat_false, if_pos, if_neg, q_ct, q_cf, q_let, q_bd, q_it, q_if, Nat.zero_add, Nat.add_zero, true_and, and_true, false_and, and_false, or_false, false_or, or_true, true_or, Bool.true_eq_false, Bool.false_eq_true, wi_s, wi_o, wi_r], by simp (disch := first | assumption | omega) only [q_lit, Int32.neg_neg, nI_add, pk_mul, q_sub, q_addn, q_nadd, q_lt, q_le, q_eq, q_eqn, q_neq, q_nen, q_ltn, q_nlt, q_len, q_nle, q_nltn, q_nlen, q_cl, q_ib, q_ibn, q_isz0, q_isz1, q_iszb, q_b0, q_b1, q_ng1, q_ng2, q_ng3, q_ng4, q_ng5, q_ng6, Bool.toNat_true, Bool.toNat_false, if_pos, if_neg, q_ct, q_cf, q_let, q_bd, q_it, q_if, Nat.zero_add, Nat.add_zero, true_and, and_true, false_and, and_false, or_false, false_or, or_true, true_or, Bool.true_eq_false, Bool.false_eq_true, wi_s, wi_o, wi_r], by simp (disch := first | assumption | omega) only [q_lit, Int32.neg_neg, nI_add, pk_mul, q_sub, q_addn, q_nadd, q_lt, q_le, q_eq, q_eqn, q_neq, q_nen, q_ltn, q_nlt, q_len, q_nle, q_nltn, q_nlen, q_cl, q_ib, q_ibn, q_isz0, q_isz1, q_iszb, q_b0, q_b1, q_ng1, q_ng2, q_ng3, q_ng4, q_ng5, q_ng6, Bool.toNat_true, Bool.toNat_false, if_pos, if_neg, q_ct, q_cf, q_let, q_bd, q_it, q_if, Nat.zero_add, Nat.add_zero, true_and, and_true, false_and, and_false, or_false, false_or, or_true, true_or, Bool.true_eq_false, Bool.false_eq_true, wi_s, wi_o, wi_r, cp_out], by simp (disch := first | assumption | omega) only [q_lit, Int32.neg_neg, nI_add, pk_mul, q_sub, q_addn, q_nadd, q_lt, q_le, q_eq, q_eqn, q_neq, q_nen, q_ltn, q_nlt, q_len, q_nle, q_nltn, q_nlen, q_cl, q_ib, q_ibn, q_isz0, q_isz1, q_iszb, q_b0, q_b1, q_ng1, q_ng2, q_ng3, q_ng4, q_ng5, q_ng6, Bool.toNat_true, Bool.toNat_false, if_pos, if_neg, q_ct, q_cf, q_let, q_bd, q_it, q_if, Nat.zero_add, Nat.add_zero, true_and, and_true, false_and, and_false, or_false, false_or, or_true, true_or, Bool.true_eq_false, Bool.false_eq_true, wi_s, wi_o, wi_r, cp_out], by simp (disch := first | assumption | omega) only [q_lit, Int32.neg_neg, nI_add, pk_mul, q_sub, q_addn, q_nadd, q_lt, q_le, q_eq, q_eqn, q_neq, q_nen, q_ltn, q_nlt, q_len, q_nle, q_nltn, q_nlen, q_cl, q_ib, q_ibn, q_isz0, q_isz1, q_iszb, q_b0, q_b1, q_ng1, q_ng2, q_ng3, q_ng4, q_ng5, q_ng6, Bool.toNat_true, Bool.toNat_false, if_pos, if_neg, q_ct, q_cf, q_let, q_bd, q_it, q_if, Nat.zero_add, Nat.add_zero, true_and, and_true, false_and, and_false, or_false, false_or, or_true, true_or, Bool.true_eq_false, Bool.false_eq_true, wi_s, wi_o, wi_r, cp_out], by simp (disch := first | assumption | omega) only [q_lit, Int32.neg_neg, nI_add, pk_mul, q_sub, q_addn, q_nadd, q_lt, q_le, q_eq, q_eqn, q_neq, q_nen, q_ltn, q_nlt, q_len, q_nle, q_nltn, q_nlen, q_cl, q_ib, q_ibn, q_isz0, q_isz1, q_iszb, q_b0, q_b1, q_ng1, q_ng2, q_ng3, q_ng4, q_ng5, q_ng6, Bool.toNat_true, Bool.toNat_false, if_pos, if_neg, q_ct, q_cf, q_let, q_bd, q_it, q_if, Nat.zero_add, Nat.add_zero, true_and, and_true, false_and, and_false, or_false, false_or, or_true, true_or, Bool.true_eq_false, Bool.false_eq_true, wi_s, wi_o, wi_r, cp_out], by simp (disch := first | assumption | omega) only [q_lit, Int32.neg_neg, nI_add, pk_mul, q_sub, q_addn, q_nadd, q_lt, q_le, q_eq, q_eqn, q_neq, q_nen, q_ltn, q_nlt, q_len, q_nle, q_nltn, q_nlen, q_cl, q_ib, q_ibn, q_isz0, q_isz1, q_iszb, q_b0, q_b1, q_ng1, q_ng2, q_ng3, q_ng4, q_ng5, q_ng6, Bool.toNat_true, Bool.toNat_false, if_pos, if_neg, q_ct, q_cf, q_let, q_bd, q_it, q_if, Nat.zero_add, Nat.add_zero, true_and, and_true, false_and, and_false, or_false, false_or, or_true, true_or, Bool.true_eq_false, Bool.false_eq_true, wi_s, wi_o, wi_r, cp_out], by simp (disch := first | assumption | omega) only [q_lit, Int32.neg_neg, nI_add, pk_mul, q_sub, q_addn, q_nadd, q_lt, q_le, q_eq, q_eqn, q_neq, q_nen, q_ltn, q_nlt, q_len, q_nle, q_nltn, q_nlen, q_cl, q_ib, q_ibn, q_isz0, q_isz1, q_iszb, q_b0, q_b1, q_ng1, q_ng2, q_ng3, q_ng4, q_ng5, q_ng6, Bool.toNat_true, Bool.toNat_false, if_pos, if_neg, q_ct, q_cf, q_let, q_bd, q_it, q_if, Nat.zero_add, Nat.add_zero, true_and, and_true, false_and, and_false, or_false, false_or, or_true, true_or, Bool.true_eq_false, Bool.false_eq_true, wi_s, wi_o, wi_r, cp_out], fun j hj => ?_, fun j hj => by simp (disch := first | assumption | omega) only [q_lit, Int32.neg_neg, nI_add, pk_mul, q_sub, q_addn, q_nadd, q_lt, q_le, q_eq, q_eqn, q_neq, q_nen, q_ltn, q_nlt, q_len, q_nle, q_nltn, q_nlen, q_cl, q_ib, q_ibn, q_isz0, q_isz1, q_iszb, q_b0, q_b1, q_ng1, q_ng2, q_ng3, q_ng4, q_ng5, q_ng6, Bool.toNat_true, Bool.toNat_false, if_pos, if_neg, q_ct, q_cf, q_let, q_bd, q_it, q_if, Nat.zero_add, Nat.add_zero, true_and, and_true, false_and, and_false, or_false, false_or, or_true, true_or, Bool.true_eq_false, Bool.false_eq_true, wi_s, wi_o, wi_r, cp_out], fun d j hd he => by simp (disch := first | assumption | omega) only [q_lit, Int32.neg_neg, nI_add, pk_mul, q_sub, q_addn, q_nadd, q_lt, q_le, q_eq, q_eqn, q_neq, q_nen, q_ltn, q_nlt, q_len, q_nle, q_nltn, q_nlen, q_cl, q_ib, q_ibn, q_isz0, q_isz1, q_iszb, q_b0, q_b1, q_ng1, q_ng2, q_ng3, q_ng4, q_ng5, q_ng6, Bool.toNat_true, Bool.toNat_false, if_pos, if_neg, q_ct, q_cf, q_let, q_bd, q_it, q_if, Nat.zero_add, Nat.add_zero, true_and, and_true, false_and, and_false, or_false, false_or, or_true, true_or, Bool.true_eq_false, Bool.false_eq_true, wi_s, wi_o, wi_r, cp_out], rfl⟩
    simp (disch := first | assumption | omega) only [q_lit, Int32.neg_neg, nI_add, pk_mul, q_sub, q_addn, q_nadd, q_lt, q_le, q_eq, q_eqn, q_neq, q_nen, q_ltn, q_nlt, q_len, q_nle, q_nltn, q_nlen, q_cl, q_ib, q_ibn, q_isz0, q_isz1, q_iszb, q_b0, q_b1, q_ng1, q_ng2, q_ng3, q_ng4, q_ng5, q_ng6, Bool.toNat_true, Bool.toNat_false, if_pos, if_neg, q_ct, q_cf, q_let, q_bd, q_it, q_if, Nat.zero_add, Nat.add_zero, true_and, and_true, false_and, and_false, or_false, false_or, or_true, true_or, Bool.true_eq_false, Bool.false_eq_true, wi_s, wi_o, wi_r]
    rw [cp_in (by omega)]
    simp (disch := first | assumption | omega) only [q_lit, Int32.neg_neg, nI_add, pk_mul, q_sub, q_addn, q_nadd, q_lt, q_le, q_eq, q_eqn, q_neq, q_nen, q_ltn, q_nlt, q_len, q_nle, q_nltn, q_nlen, q_cl, q_ib, q_ibn, q_isz0, q_isz1, q_iszb, q_b0, q_b1, q_ng1, q_ng2, q_ng3, q_ng4, q_ng5, q_ng6, Bool.toNat_true, Bool.toNat_false, if_pos, if_neg, q_ct, q_cf, q_let, q_bd, q_it, q_if, Nat.zero_add, Nat.add_zero, true_and, and_true, false_and, and_false, or_false, false_or, or_true, true_or, Bool.true_eq_false, Bool.false_eq_true, wi_s, wi_o, wi_r]
    rw [show 12 * nx + 6 + j - (12 * nx + 6) = j by omega]
/-- the class's and the model's new entry -/
theorem rUn_add {n : Nat} (hn : n ≤ 6) {M M' : ph_Mem} {l c nx sz k pl : Nat} (hnx : nx < 16) (hsz : sz ≤ 16) (hpl : pl < 72) (hk : k < 4) (ha : rAdd M M' l c nx sz k pl) {g L L' : Nat → Int32} (hv : rMv n (rVw M c) g) (hu : rUn n (M.1 (l + 1)) L sz nx (rVw M c)) (hL1 : ∀ j, j < 223 → L' (224 * (min 15 sz) + j) = g j) (hL2 : L' (224 * (min 15 sz) + 223) = nI k) (hL3 : ∀ j, j < 224 * (min 15 sz) → L' j = L (if sz = 16 then j + 224 else j)) {v' : rV} (hv' : ∀ j, j < 72 → j ≠ pl → v'.1 j = M.1 (c + 5) j ∧ v'.2.1 j = M.1 (c + 6) j ∧ v'.2.2.1 j = M.1 (c + 7) j) : rUn n (M'.1 (l + 1)) L' (min 16 (sz + 1)) ((nx + 1) % 16) v' := by
  obtain ⟨a1, a2, a3, a4, a5, a6, a7, a8, a9, b1, b2, b3⟩ := ha
  rw [show min 16 (sz + 1) = min 15 sz + 1 by omega, rUn]
  have e : ((nx + 1) % 16 + 15) % 16 = nx := by omega
  rw [e]
  have hb : ∀ j, j < 72 → (upd v'.1 pl (M'.1 (l + 1) (12 * nx + 2))) j = (rVw M c).1 j ∧ (upd v'.2.1 pl (M'.1 (l + 1) (12 * nx + 3))) j = (rVw M c).2.1 j ∧ (upd v'.2.2.1 pl (M'.1 (l + 1) (12 * nx + 4))) j = (rVw M c).2.2.1 j := by
    intro j hj
    unfold upd rVw
    by_cases ej : j = pl
    · rw [if_pos ej, if_pos ej, if_pos ej, a5, a6, a7, ej]
      exact ⟨rfl, rfl, rfl⟩
    · rw [if_neg ej, if_neg ej, if_neg ej]
      exact hv' j hj ej
  refine ⟨pl, k, hpl, hk, a3, hL2, a4, rMv_fr hv hn hb (fun p hp => a9 p hp) a8 (fun j hj => hL1 j hj), ?_⟩
  have hE : ∀ e k, e < 16 → k < 12 → e ≠ nx → M'.1 (l + 1) (12 * e + k) = M.1 (l + 1) (12 * e + k) := fun e k h1 h2 h3 => b1 _ (by omega)
  by_cases s16 : sz = 16
  · subst s16
    have hd := rUn_drop 15 nx _ hu
    exact rUn_f2 hn hE 15 nx 0 _ _ (by omega) hnx (by omega) (fun j hj => by rw [hL3 j hj, if_pos rfl]) hb hd
  · rw [show min 15 sz = sz by omega] at hL3 ⊢
    exact rUn_f2 hn hE sz nx 0 _ _ (by omega) hnx (by omega) (fun j hj => by rw [hL3 j hj, if_neg s16]) hb hu
/-- what keeps writes -/
def rKps (K K' : ph_Mem) (sz k : Nat) : Prop := K'.1 0 28 = nI (min 16 (sz + 1)) ∧ (∀ j, j < 223 → K'.1 13 (224 * (min 15 sz) + j) = K.1 2 j) ∧ K'.1 13 (224 * (min 15 sz) + 223) = nI k ∧ (∀ j, j < 224 * (min 15 sz) → K'.1 13 j = K.1 13 (if sz = 16 then j + 224 else j)) ∧ (∀ c j, c ≠ 13 → (c ≠ 0 ∨ j ≠ 28) → K'.1 c j = K.1 c j) ∧ K'.2 = K.2
theorem m_kp_l {s k : Nat} (hs : s ≤ 15) (hk : k < 4) (K0 : ph_Mem) (h28 : K0.1 0 28 = nI s) : ∀ (r i fuel : Nat), i + r = 223 → r < fuel → f12_keeps_l55 fuel (nI k) (nI 224) (nI i) (ph_cp K0 2 0 13 (224 * s) i) = some (ph_wi (ph_wi (ph_cp K0 2 0 13 (224 * s) 223) 13 (224 * s + 223) (nI k)) 0 28 (nI (s + 1)))
  | 0, i, f + 1, e, _ => by
    have : i = 223 := by omega
    subst this
    unfold f12_keeps_l55 f12_keeps_j87
    simp (disch := first | assumption | omega) only [q_lit, Int32.neg_neg, nI_add, pk_mul, q_sub, q_addn, q_nadd, q_lt, q_le, q_eq, q_eqn, q_neq, q_nen, q_ltn, q_nlt, q_len, q_nle, q_nltn, q_nlen, q_cl, q_ib, q_ibn, q_isz0, q_isz1, q_iszb, q_b0, q_b1, q_ng1, q_ng2, q_ng3, q_ng4, q_ng5, q_ng6, Bool.toNat_true, Bool.toNat_false, if_pos, if_neg, q_ct, q_cf, q_let, q_bd, q_it, q_if, Nat.zero_add, Nat.add_zero, true_and, and_true, false_and, and_false, or_false, false_or, or_true, true_or, Bool.true_eq_false, Bool.false_eq_true, wi_s, wi_o, wi_r, cp_out, h28]
  | r + 1, i, f + 1, e, hf => by
    have ih := m_kp_l hs hk K0 h28 r (i + 1) f (by omega) (by omega)
    unfold f12_keeps_l55
    simp (disch := first | assumption | omega) only [q_lit, Int32.neg_neg, nI_add, pk_mul, q_sub, q_addn, q_nadd, q_lt, q_le, q_eq, q_eqn, q_neq, q_nen, q_ltn, q_nlt, q_len, q_nle, q_nltn, q_nlen, q_cl, q_ib, q_ibn, q_isz0, q_isz1, q_iszb, q_b0, q_b1, q_ng1, q_ng2, q_ng3, q_ng4, q_ng5, q_ng6, Bool.toNat_true, Bool.toNat_false, if_pos, if_neg, q_ct, q_cf, q_let, q_bd, q_it, q_if, Nat.zero_add, Nat.add_zero, true_and, and_true, false_and, and_false, or_false, false_or, or_true, true_or, Bool.true_eq_false, Bool.false_eq_true, wi_s, wi_o, wi_r, cp_out, h28]
    rw [cp_st (by rw [Nat.zero_add])]
    exact ih
theorem m_ks_l {k : Nat} (K0 : ph_Mem) (h28 : K0.1 0 28 = nI 16) : ∀ (r i fuel : Nat), i + r = 3360 → r < fuel → f12_keeps_l15 fuel (nI k) (nI 224) (nI i) (ph_cp K0 13 224 13 0 i) = f12_keeps_j43 (nI k) (nI 224) (ph_cp K0 13 224 13 0 3360)
  | 0, i, f + 1, e, _ => by
    have : i = 3360 := by omega
    subst this
    unfold f12_keeps_l15
    simp (disch := first | assumption | omega) only [q_lit, Int32.neg_neg, nI_add, pk_mul, q_sub, q_addn, q_nadd, q_lt, q_le, q_eq, q_eqn, q_neq, q_nen, q_ltn, q_nlt, q_len, q_nle, q_nltn, q_nlen, q_cl, q_ib, q_ibn, q_isz0, q_isz1, q_iszb, q_b0, q_b1, q_ng1, q_ng2, q_ng3, q_ng4, q_ng5, q_ng6, Bool.toNat_true, Bool.toNat_false, if_pos, if_neg, q_ct, q_cf, q_let, q_bd, q_it, q_if, Nat.zero_add, Nat.add_zero, true_and, and_true, false_and, and_false, or_false, false_or, or_true, true_or, Bool.true_eq_false, Bool.false_eq_true, wi_s, wi_o, wi_r]
  | r + 1, i, f + 1, e, hf => by
    have ih := m_ks_l (k := k) K0 h28 r (i + 1) f (by omega) (by omega)
    unfold f12_keeps_l15
    simp (disch := first | assumption | omega) only [q_lit, Int32.neg_neg, nI_add, pk_mul, q_sub, q_addn, q_nadd, q_lt, q_le, q_eq, q_eqn, q_neq, q_nen, q_ltn, q_nlt, q_len, q_nle, q_nltn, q_nlen, q_cl, q_ib, q_ibn, q_isz0, q_isz1, q_iszb, q_b0, q_b1, q_ng1, q_ng2, q_ng3, q_ng4, q_ng5, q_ng6, Bool.toNat_true, Bool.toNat_false, if_pos, if_neg, q_ct, q_cf, q_let, q_bd, q_it, q_if, Nat.zero_add, Nat.add_zero, true_and, and_true, false_and, and_false, or_false, false_or, or_true, true_or, Bool.true_eq_false, Bool.false_eq_true, wi_s, wi_o, wi_r, cp_out]
    have := cp_st (M := K0) (s := 13) (sp := 224) (d := 13) (dp := 0) (n := i) (v := K0.1 13 (i + 224)) (by rw [Nat.add_comm])
    rw [Nat.zero_add] at this
    rw [this]
    exact ih
theorem m_keeps {K : ph_Mem} {sz k : Nat} (hsz : sz ≤ 16) (hk : k < 4) (h28 : K.1 0 28 = nI sz) : ∃ K', f12_keeps K (nI k) = some K' ∧ rKps K K' sz k := by
  by_cases s16 : sz = 16
  · subst s16
    have l1 := m_ks_l (k := k) K h28 3360 0 10000 (by omega) (by omega)
    rw [cp_0] at l1
    generalize eQ : ph_wi (ph_cp K 13 224 13 0 3360) 0 28 (nI 15) = Q at *
    have q28 : Q.1 0 28 = nI 15 := by rw [← eQ]; simp (disch := first | assumption | omega) only [q_lit, Int32.neg_neg, nI_add, pk_mul, q_sub, q_addn, q_nadd, q_lt, q_le, q_eq, q_eqn, q_neq, q_nen, q_ltn, q_nlt, q_len, q_nle, q_nltn, q_nlen, q_cl, q_ib, q_ibn, q_isz0, q_isz1, q_iszb, q_b0, q_b1, q_ng1, q_ng2, q_ng3, q_ng4, q_ng5, q_ng6, Bool.toNat_true, Bool.toNat_false, if_pos, if_neg, q_ct, q_cf, q_let, q_bd, q_it, q_if, Nat.zero_add, Nat.add_zero, true_and, and_true, false_and, and_false, or_false, false_or, or_true, true_or, Bool.true_eq_false, Bool.false_eq_true, wi_s, wi_o, wi_r]
    have l2 := m_kp_l (s := 15) (by omega) hk Q q28 223 0 10000 (by omega) (by omega)
    rw [cp_0] at l2
    refine ⟨ph_wi (ph_wi (ph_cp Q 2 0 13 (224 * 15) 223) 13 (224 * 15 + 223) (nI k)) 0 28 (nI (15 + 1)), ?_, ?_⟩
    · unfold f12_keeps
      unfold f12_keeps_j43 f12_keeps_j53 at l1
      simp (disch := first | assumption | omega) only [q_lit, Int32.neg_neg, nI_add, pk_mul, q_sub, q_addn, q_nadd, q_lt, q_le, q_eq, q_eqn, q_neq, q_nen, q_ltn, q_nlt, q_len, q_nle, q_nltn, q_nlen, q_cl, q_ib, q_ibn, q_isz0, q_isz1, q_iszb, q_b0, q_b1, q_ng1, q_ng2, q_ng3, q_ng4, q_ng5, q_ng6, Bool.toNat_true, Bool.toNat_false, if_pos, if_neg, q_ct, q_cf, q_let, q_bd, q_it, q_if, Nat.zero_add, Nat.add_zero, true_and, and_true, false_and, and_false, or_false, false_or, or_true, true_or, Bool.true_eq_false, Bool.false_eq_true, wi_s, wi_o, wi_r, cp_out, h28, eQ, Nat.reduceSub] at l1
      simp (disch := first | assumption | omega) only [q_lit, Int32.neg_neg, nI_add, pk_mul, q_sub, q_addn, q_nadd, q_lt, q_le, q_eq, q_eqn, q_neq, q_nen, q_ltn, q_nlt, q_len, q_nle, q_nltn, q_nlen, q_cl, q_ib, q_ibn, q_isz0, q_isz1, q_iszb, q_b0, q_b1, q_ng1, q_ng2, q_ng3, q_ng4, q_ng5, q_ng6, Bool.toNat_true, Bool.toNat_false, if_pos, if_neg, q_ct, q_cf, q_let, q_bd, q_it, q_if, Nat.zero_add, Nat.add_zero, true_and, and_true, false_and, and_false, or_false, false_or, or_true, true_or, Bool.true_eq_false, Bool.false_eq_true, wi_s, wi_o, wi_r, h28, l1]
      exact l2
    · refine ⟨by simp (disch := first | assumption | omega) only [q_lit, Int32.neg_neg, nI_add, pk_mul, q_sub, q_addn, q_nadd, q_lt, q_le, q_eq, q_eqn, q_neq, q_nen, q_ltn, q_nlt, q_len, q_nle, q_nltn, q_nlen, q_cl, q_ib, q_ibn, q_isz0, q_isz1, q_iszb, q_b0, q_b1, q_ng1, q_ng2, q_ng3, q_ng4, q_ng5, q_ng6, Bool.toNat_true, Bool.toNat_false, if_pos, if_neg, q_ct, q_cf, q_let, q_bd, q_it, q_if, Nat.zero_add, Nat.add_zero, true_and, and_true, false_and, and_false, or_false, false_or, or_true, true_or, Bool.true_eq_false, Bool.false_eq_true, wi_s, wi_o, wi_r]; rfl, fun j hj => ?_, by simp (disch := first | assumption | omega) only [q_lit, Int32.neg_neg, nI_add, pk_mul, q_sub, q_addn, q_nadd, q_lt, q_le, q_eq, q_eqn, q_neq, q_nen, q_ltn, q_nlt, q_len, q_nle, q_nltn, q_nlen, q_cl, q_ib, q_ibn, q_isz0, q_isz1, q_iszb, q_b0, q_b1, q_ng1, q_ng2, q_ng3, q_ng4, q_ng5, q_ng6, Bool.toNat_true, Bool.toNat_false, if_pos, if_neg, q_ct, q_cf, q_let, q_bd, q_it, q_if, Nat.zero_add, Nat.add_zero, true_and, and_true, false_and, and_false, or_false, false_or, or_true, true_or, Bool.true_eq_false, Bool.false_eq_true, wi_s, wi_o, wi_r]; rfl, fun j hj => ?_, fun c j hc hd => ?_, ?_⟩
      · simp (disch := first | assumption | omega) only [q_lit, Int32.neg_neg, nI_add, pk_mul, q_sub, q_addn, q_nadd, q_lt, q_le, q_eq, q_eqn, q_neq, q_nen, q_ltn, q_nlt, q_len, q_nle, q_nltn, q_nlen, q_cl, q_ib, q_ibn, q_isz0, q_isz1, q_iszb, q_b0, q_b1, q_ng1, q_ng2, q_ng3, q_ng4, q_ng5, q_ng6, Bool.toNat_true, Bool.toNat_false, if_pos, if_neg, q_ct, q_cf, q_let, q_bd, q_it, q_if, Nat.zero_add, Nat.add_zero, true_and, and_true, false_and, and_false, or_false, false_or, or_true, true_or, Bool.true_eq_false, Bool.false_eq_true, wi_s, wi_o, wi_r]
        rw [show min 15 16 = 15 from rfl, cp_in (by omega), ← eQ]
        simp (disch := first | assumption | omega) only [q_lit, Int32.neg_neg, nI_add, pk_mul, q_sub, q_addn, q_nadd, q_lt, q_le, q_eq, q_eqn, q_neq, q_nen, q_ltn, q_nlt, q_len, q_nle, q_nltn, q_nlen, q_cl, q_ib, q_ibn, q_isz0, q_isz1, q_iszb, q_b0, q_b1, q_ng1, q_ng2, q_ng3, q_ng4, q_ng5, q_ng6, Bool.toNat_true, Bool.toNat_false, if_pos, if_neg, q_ct, q_cf, q_let, q_bd, q_it, q_if, Nat.zero_add, Nat.add_zero, true_and, and_true, false_and, and_false, or_false, false_or, or_true, true_or, Bool.true_eq_false, Bool.false_eq_true, wi_s, wi_o, wi_r, cp_out]
        rw [Nat.add_sub_cancel_left]
      · rw [show min 15 16 = 15 from rfl] at hj
        simp (disch := first | assumption | omega) only [q_lit, Int32.neg_neg, nI_add, pk_mul, q_sub, q_addn, q_nadd, q_lt, q_le, q_eq, q_eqn, q_neq, q_nen, q_ltn, q_nlt, q_len, q_nle, q_nltn, q_nlen, q_cl, q_ib, q_ibn, q_isz0, q_isz1, q_iszb, q_b0, q_b1, q_ng1, q_ng2, q_ng3, q_ng4, q_ng5, q_ng6, Bool.toNat_true, Bool.toNat_false, if_pos, if_neg, q_ct, q_cf, q_let, q_bd, q_it, q_if, Nat.zero_add, Nat.add_zero, true_and, and_true, false_and, and_false, or_false, false_or, or_true, true_or, Bool.true_eq_false, Bool.false_eq_true, wi_s, wi_o, wi_r, cp_out]
        rw [← eQ]
        simp (disch := first | assumption | omega) only [q_lit, Int32.neg_neg, nI_add, pk_mul, q_sub, q_addn, q_nadd, q_lt, q_le, q_eq, q_eqn, q_neq, q_nen, q_ltn, q_nlt, q_len, q_nle, q_nltn, q_nlen, q_cl, q_ib, q_ibn, q_isz0, q_isz1, q_iszb, q_b0, q_b1, q_ng1, q_ng2, q_ng3, q_ng4, q_ng5, q_ng6, Bool.toNat_true, Bool.toNat_false, if_pos, if_neg, q_ct, q_cf, q_let, q_bd, q_it, q_if, Nat.zero_add, Nat.add_zero, true_and, and_true, false_and, and_false, or_false, false_or, or_true, true_or, Bool.true_eq_false, Bool.false_eq_true, wi_s, wi_o, wi_r]
        rw [cp_in (by omega), Nat.sub_zero, Nat.add_comm]
      · simp (disch := first | assumption | omega) only [q_lit, Int32.neg_neg, nI_add, pk_mul, q_sub, q_addn, q_nadd, q_lt, q_le, q_eq, q_eqn, q_neq, q_nen, q_ltn, q_nlt, q_len, q_nle, q_nltn, q_nlen, q_cl, q_ib, q_ibn, q_isz0, q_isz1, q_iszb, q_b0, q_b1, q_ng1, q_ng2, q_ng3, q_ng4, q_ng5, q_ng6, Bool.toNat_true, Bool.toNat_false, if_pos, if_neg, q_ct, q_cf, q_let, q_bd, q_it, q_if, Nat.zero_add, Nat.add_zero, true_and, and_true, false_and, and_false, or_false, false_or, or_true, true_or, Bool.true_eq_false, Bool.false_eq_true, wi_s, wi_o, wi_r, cp_out]
        rw [← eQ]
        simp (disch := first | assumption | omega) only [q_lit, Int32.neg_neg, nI_add, pk_mul, q_sub, q_addn, q_nadd, q_lt, q_le, q_eq, q_eqn, q_neq, q_nen, q_ltn, q_nlt, q_len, q_nle, q_nltn, q_nlen, q_cl, q_ib, q_ibn, q_isz0, q_isz1, q_iszb, q_b0, q_b1, q_ng1, q_ng2, q_ng3, q_ng4, q_ng5, q_ng6, Bool.toNat_true, Bool.toNat_false, if_pos, if_neg, q_ct, q_cf, q_let, q_bd, q_it, q_if, Nat.zero_add, Nat.add_zero, true_and, and_true, false_and, and_false, or_false, false_or, or_true, true_or, Bool.true_eq_false, Bool.false_eq_true, wi_s, wi_o, wi_r, cp_out]
      · rw [← eQ]; rfl
  · have l2 := m_kp_l (s := sz) (by omega) hk K h28 223 0 10000 (by omega) (by omega)
    rw [cp_0] at l2
    refine ⟨ph_wi (ph_wi (ph_cp K 2 0 13 (224 * sz) 223) 13 (224 * sz + 223) (nI k)) 0 28 (nI (sz + 1)), ?_, ?_⟩
    · unfold f12_keeps f12_keeps_j53
      simp (disch := first | assumption | omega) only [q_lit, Int32.neg_neg, nI_add, pk_mul, q_sub, q_addn, q_nadd, q_lt, q_le, q_eq, q_eqn, q_neq, q_nen, q_ltn, q_nlt, q_len, q_nle, q_nltn, q_nlen, q_cl, q_ib, q_ibn, q_isz0, q_isz1, q_iszb, q_b0, q_b1, q_ng1, q_ng2, q_ng3, q_ng4, q_ng5, q_ng6, Bool.toNat_true, Bool.toNat_false, if_pos, if_neg, q_ct, q_cf, q_let, q_bd, q_it, q_if, Nat.zero_add, Nat.add_zero, true_and, and_true, false_and, and_false, or_false, false_or, or_true, true_or, Bool.true_eq_false, Bool.false_eq_true, wi_s, wi_o, wi_r, h28]
      exact l2
    · have em : min 15 sz = sz := by omega
      unfold rKps
      rw [em]
      refine ⟨by simp (disch := first | assumption | omega) only [q_lit, Int32.neg_neg, nI_add, pk_mul, q_sub, q_addn, q_nadd, q_lt, q_le, q_eq, q_eqn, q_neq, q_nen, q_ltn, q_nlt, q_len, q_nle, q_nltn, q_nlen, q_cl, q_ib, q_ibn, q_isz0, q_isz1, q_iszb, q_b0, q_b1, q_ng1, q_ng2, q_ng3, q_ng4, q_ng5, q_ng6, Bool.toNat_true, Bool.toNat_false, if_pos, if_neg, q_ct, q_cf, q_let, q_bd, q_it, q_if, Nat.zero_add, Nat.add_zero, true_and, and_true, false_and, and_false, or_false, false_or, or_true, true_or, Bool.true_eq_false, Bool.false_eq_true, wi_s, wi_o, wi_r]; rw [show min 16 (sz + 1) = sz + 1 by omega], fun j hj => ?_, by simp (disch := first | assumption | omega) only [q_lit, Int32.neg_neg, nI_add, pk_mul, q_sub, q_addn, q_nadd, q_lt, q_le, q_eq, q_eqn, q_neq, q_nen, q_ltn, q_nlt, q_len, q_nle, q_nltn, q_nlen, q_cl, q_ib, q_ibn, q_isz0, q_isz1, q_iszb, q_b0, q_b1, q_ng1, q_ng2, q_ng3, q_ng4, q_ng5, q_ng6, Bool.toNat_true, Bool.toNat_false, if_pos, if_neg, q_ct, q_cf, q_let, q_bd, q_it, q_if, Nat.zero_add, Nat.add_zero, true_and, and_true, false_and, and_false, or_false, false_or, or_true, true_or, Bool.true_eq_false, Bool.false_eq_true, wi_s, wi_o, wi_r], fun j hj => by simp (disch := first | assumption | omega) only [q_lit, Int32.neg_neg, nI_add, pk_mul, q_sub, q_addn, q_nadd, q_lt, q_le, q_eq, q_eqn, q_neq, q_nen, q_ltn, q_nlt, q_len, q_nle, q_nltn, q_nlen, q_cl, q_ib, q_ibn, q_isz0, q_isz1, q_iszb, q_b0, q_b1, q_ng1, q_ng2, q_ng3, q_ng4, q_ng5, q_ng6, Bool.toNat_true, Bool.toNat_false, if_pos, if_neg, q_ct, q_cf, q_let, q_bd, q_it, q_if, Nat.zero_add, Nat.add_zero, true_and, and_true, false_and, and_false, or_false, false_or, or_true, true_or, Bool.true_eq_false, Bool.false_eq_true, wi_s, wi_o, wi_r, cp_out, s16], fun c j hc hd => by simp (disch := first | assumption | omega) only [q_lit, Int32.neg_neg, nI_add, pk_mul, q_sub, q_addn, q_nadd, q_lt, q_le, q_eq, q_eqn, q_neq, q_nen, q_ltn, q_nlt, q_len, q_nle, q_nltn, q_nlen, q_cl, q_ib, q_ibn, q_isz0, q_isz1, q_iszb, q_b0, q_b1, q_ng1, q_ng2, q_ng3, q_ng4, q_ng5, q_ng6, Bool.toNat_true, Bool.toNat_false, if_pos, if_neg, q_ct, q_cf, q_let, q_bd, q_it, q_if, Nat.zero_add, Nat.add_zero, true_and, and_true, false_and, and_false, or_false, false_or, or_true, true_or, Bool.true_eq_false, Bool.false_eq_true, wi_s, wi_o, wi_r, cp_out], rfl⟩
      simp (disch := first | assumption | omega) only [q_lit, Int32.neg_neg, nI_add, pk_mul, q_sub, q_addn, q_nadd, q_lt, q_le, q_eq, q_eqn, q_neq, q_nen, q_ltn, q_nlt, q_len, q_nle, q_nltn, q_nlen, q_cl, q_ib, q_ibn, q_isz0, q_isz1, q_iszb, q_b0, q_b1, q_ng1, q_ng2, q_ng3, q_ng4, q_ng5, q_ng6, Bool.toNat_true, Bool.toNat_false, if_pos, if_neg, q_ct, q_cf, q_let, q_bd, q_it, q_if, Nat.zero_add, Nat.add_zero, true_and, and_true, false_and, and_false, or_false, false_or, or_true, true_or, Bool.true_eq_false, Bool.false_eq_true, wi_s, wi_o, wi_r]
      rw [cp_in (by omega), Nat.zero_add, Nat.add_sub_cancel_left]
