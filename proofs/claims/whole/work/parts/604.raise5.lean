/-! PURE HALF: raise -/
theorem s_raise {RL : rLT} (hRL : rLoc RL) (hRul : rRul RL) : lws_raise (Rel RL) := by
  intro S X K h a1 a2 a3 a4
  obtain ⟨n, t, hs, hlg⟩ := h.2.2.2.2.2
  have hn := hs.1.1
  have out : f11_raise S X a1 a2 a3 a4 = some (-nI 1, X) → f12_raise K a1 a2 a3 a4 = some (-nI 1, K) → ∃ r X' K', f11_raise S X a1 a2 a3 a4 = some (r, X') ∧ f12_raise K a1 a2 a3 a4 = some (r, K') ∧ Rel RL S X' K' := fun q1 q2 => ⟨_, _, _, q1, q2, h⟩
  obtain ⟨b, f1, f2, f3, _⟩ := d_pers S hs.1.2.2.1 hs.1.2.2.2.1 hs.1.1 a1
  cases b
  · refine out ?_ ?_
    · unfold f11_raise; rw [f1, q_bd, if_pos (by decide)]; rfl
    · unfold f12_raise; rw [f2, q_bd, if_pos (by decide)]; rfl
  obtain ⟨p, hp, rfl⟩ := f3 rfl
  have xr : ∀ z, f11_raise S X (nI p) a2 a3 a4 = z ↔ (if a2 < 0 then (some ((-1 : Int32), X)) else (if (9999 : Int32) < a2 then (some ((-1 : Int32), X)) else (if a3 < 0 then (some ((-1 : Int32), X)) else (if a3 < (256 : Int32) then (if a4 < 0 then (some ((-1 : Int32), X)) else (if (2 : Int32) < a4 then (some ((-1 : Int32), X)) else ((f5_plan S X (nI p) a2 a3).bind fun q2 => if q2.1 = 0 then (some ((-1 : Int32), q2.2)) else (if a4 = 0 then (some ((q2.2.1 73 7), q2.2)) else (if a4 = (1 : Int32) then (some ((q2.2.1 73 8), q2.2)) else (some ((q2.2.1 73 9), q2.2))))))) else (some ((-1 : Int32), X)))))) = z := by
    intro z
    unfold f11_raise
    rw [f1, q_bd, if_neg (by decide)]
  have mr : ∀ z, f12_raise K (nI p) a2 a3 a4 = z ↔ ((f12_within K a2 (0 : Int32) (9999 : Int32)).bind fun q2 => if q2 = 0 then (some ((-1 : Int32), K)) else ((f12_within K a3 (0 : Int32) (255 : Int32)).bind fun q3 => if q3 = 0 then (some ((-1 : Int32), K)) else ((f12_within K a4 (0 : Int32) (2 : Int32)).bind fun q4 => if q4 = 0 then (some ((-1 : Int32), K)) else ((f12_hoursIn K (nI p) (0 : Int32)).bind fun q5 => (f12_knownBy K (nI p) q5).bind fun q6 => f12_raise_l67 10000 (nI p) a2 a4 q5 (q6.1 &&& a3) (0 : Int32) (0 : Int32) q6.2)))) = z := by
    intro z
    unfold f12_raise
    rw [f2, q_bd, if_neg (by decide)]
  rcases q_rng a2 9999 with ⟨sum, hv, hv', rfl⟩ | hv | ⟨v, hv, hv', rfl⟩
  · rcases q_rng a3 255 with ⟨fa, hf, hf', rfl⟩ | hf | ⟨v, hf, hf', rfl⟩
    · rcases q_rng a4 2 with ⟨w, hw, hw', rfl⟩ | hw | ⟨w, hw, hw', rfl⟩
      · have hr := rSt_rd hs hp
        have p6 : p < 6 := by omega
        obtain ⟨d, d1, d2, d3⟩ := rSt_day hs
        obtain ⟨V, hV⟩ := rRul_all hRul h.1.1 hs hp d1 d3
        have hst : ∀ h, h < 12 → ∃ s, s ≤ 2 ∧ (K.1 2) (12 * p + h) = nI s := fun h hh => by
          obtain ⟨s, s1, s2, s3⟩ := rSt_hr hs hp hh
          exact ⟨s, s1, s3⟩
        have wor : ∀ h, h < 12 → ∃ v, v ≤ 99 ∧ X.1 15 (12 * p + h) = nI v ∧ K.1 2 (367 + (12 * p + h)) = nI v := fun h hh => by
          obtain ⟨_, _, _, _, c5, ⟨v, v1, v2⟩⟩ := hs.2.2.1.1 (12 * p + h) (by omega)
          exact ⟨v, v1, Eq.trans c5 v2, v2⟩
        generalize ewo : (fun h => (K.1 2 (367 + (12 * p + h))).toNatClampNeg) = wo
        have hwo : ∀ h, h < 12 → wo h ≤ 99 ∧ X.1 15 (12 * p + h) = nI (wo h) ∧ K.1 2 (367 + (12 * p + h)) = nI (wo h) := fun h hh => by
          obtain ⟨v, v1, v2, v3⟩ := wor h hh
          have : wo h = v := by rw [← ewo]; show (K.1 2 (367 + (12 * p + h))).toNatClampNeg = v; rw [v3, q_cl (by omega)]
          rw [this]; exact ⟨v1, v2, v3⟩
        have klt := q_kn_lt (H := hP (K.1 2) p 0) hr.2.2 12 (by omega)
        generalize ekn : q_kn (K.1 2) p (hP (K.1 2) p 0) 12 = kn at *
        have mlt : kn &&& fa < 256 := Nat.and_lt_two_pow (n := 8) kn (by omega)
        -- the class
        have x1 : f9_knownWithout S (ph_wi (ph_wi X 73 3 (nI p)) 73 4 (nI sum)) 11 (nI p) (nI 0) = some (nI kn) := by
          rw [← ekn]
          exact x_kn0 (rSt_rd (rSt_fr hRL hs (by simp (disch := first | assumption | omega) only [q_lit, Int32.neg_neg, nI_add, pk_mul, q_sub, q_addn, q_nadd, q_lt, q_le, q_eq, q_eqn, q_neq, q_nen, q_ltn, q_nlt, q_len, q_nle, q_nltn, q_nlen, q_cl, q_ib, q_ibn, q_isz0, q_isz1, q_iszb, q_b0, q_b1, q_ng1, q_ng2, q_ng3, q_ng4, q_ng5, q_ng6, Bool.toNat_true, Bool.toNat_false, if_pos, if_neg, q_ct, q_cf, q_let, q_bd, q_it, q_if, Nat.zero_add, Nat.add_zero, true_and, and_true, false_and, and_false, or_false, false_or, or_true, true_or, Bool.true_eq_false, Bool.false_eq_true, wi_s, wi_o, wi_r]) (by simp (disch := first | assumption | omega) only [q_lit, Int32.neg_neg, nI_add, pk_mul, q_sub, q_addn, q_nadd, q_lt, q_le, q_eq, q_eqn, q_neq, q_nen, q_ltn, q_nlt, q_len, q_nle, q_nltn, q_nlen, q_cl, q_ib, q_ibn, q_isz0, q_isz1, q_iszb, q_b0, q_b1, q_ng1, q_ng2, q_ng3, q_ng4, q_ng5, q_ng6, Bool.toNat_true, Bool.toNat_false, if_pos, if_neg, q_ct, q_cf, q_let, q_bd, q_it, q_if, Nat.zero_add, Nat.add_zero, true_and, and_true, false_and, and_false, or_false, false_or, or_true, true_or, Bool.true_eq_false, Bool.false_eq_true, wi_s, wi_o, wi_r]) (by simp (disch := first | assumption | omega) only [q_lit, Int32.neg_neg, nI_add, pk_mul, q_sub, q_addn, q_nadd, q_lt, q_le, q_eq, q_eqn, q_neq, q_nen, q_ltn, q_nlt, q_len, q_nle, q_nltn, q_nlen, q_cl, q_ib, q_ibn, q_isz0, q_isz1, q_iszb, q_b0, q_b1, q_ng1, q_ng2, q_ng3, q_ng4, q_ng5, q_ng6, Bool.toNat_true, Bool.toNat_false, if_pos, if_neg, q_ct, q_cf, q_let, q_bd, q_it, q_if, Nat.zero_add, Nat.add_zero, true_and, and_true, false_and, and_false, or_false, false_or, or_true, true_or, Bool.true_eq_false, Bool.false_eq_true, wi_s, wi_o, wi_r]) (fun p _ => by simp (disch := first | assumption | omega) only [q_lit, Int32.neg_neg, nI_add, pk_mul, q_sub, q_addn, q_nadd, q_lt, q_le, q_eq, q_eqn, q_neq, q_nen, q_ltn, q_nlt, q_len, q_nle, q_nltn, q_nlen, q_cl, q_ib, q_ibn, q_isz0, q_isz1, q_iszb, q_b0, q_b1, q_ng1, q_ng2, q_ng3, q_ng4, q_ng5, q_ng6, Bool.toNat_true, Bool.toNat_false, if_pos, if_neg, q_ct, q_cf, q_let, q_bd, q_it, q_if, Nat.zero_add, Nat.add_zero, true_and, and_true, false_and, and_false, or_false, false_or, or_true, true_or, Bool.true_eq_false, Bool.false_eq_true, wi_s, wi_o, wi_r]) (fun d j _ _ _ => by simp (disch := first | assumption | omega) only [q_lit, Int32.neg_neg, nI_add, pk_mul, q_sub, q_addn, q_nadd, q_lt, q_le, q_eq, q_eqn, q_neq, q_nen, q_ltn, q_nlt, q_len, q_nle, q_nltn, q_nlen, q_cl, q_ib, q_ibn, q_isz0, q_isz1, q_iszb, q_b0, q_b1, q_ng1, q_ng2, q_ng3, q_ng4, q_ng5, q_ng6, Bool.toNat_true, Bool.toNat_false, if_pos, if_neg, q_ct, q_cf, q_let, q_bd, q_it, q_if, Nat.zero_add, Nat.add_zero, true_and, and_true, false_and, and_false, or_false, false_or, or_true, true_or, Bool.true_eq_false, Bool.false_eq_true, wi_s, wi_o, wi_r]) (fun j _ => by simp (disch := first | assumption | omega) only [q_lit, Int32.neg_neg, nI_add, pk_mul, q_sub, q_addn, q_nadd, q_lt, q_le, q_eq, q_eqn, q_neq, q_nen, q_ltn, q_nlt, q_len, q_nle, q_nltn, q_nlen, q_cl, q_ib, q_ibn, q_isz0, q_isz1, q_iszb, q_b0, q_b1, q_ng1, q_ng2, q_ng3, q_ng4, q_ng5, q_ng6, Bool.toNat_true, Bool.toNat_false, if_pos, if_neg, q_ct, q_cf, q_let, q_bd, q_it, q_if, Nat.zero_add, Nat.add_zero, true_and, and_true, false_and, and_false, or_false, false_or, or_true, true_or, Bool.true_eq_false, Bool.false_eq_true, wi_s, wi_o, wi_r]) (fun j _ => by simp (disch := first | assumption | omega) only [q_lit, Int32.neg_neg, nI_add, pk_mul, q_sub, q_addn, q_nadd, q_lt, q_le, q_eq, q_eqn, q_neq, q_nen, q_ltn, q_nlt, q_len, q_nle, q_nltn, q_nlen, q_cl, q_ib, q_ibn, q_isz0, q_isz1, q_iszb, q_b0, q_b1, q_ng1, q_ng2, q_ng3, q_ng4, q_ng5, q_ng6, Bool.toNat_true, Bool.toNat_false, if_pos, if_neg, q_ct, q_cf, q_let, q_bd, q_it, q_if, Nat.zero_add, Nat.add_zero, true_and, and_true, false_and, and_false, or_false, false_or, or_true, true_or, Bool.true_eq_false, Bool.false_eq_true, wi_s, wi_o, wi_r]) (fun j _ => by simp (disch := first | assumption | omega) only [q_lit, Int32.neg_neg, nI_add, pk_mul, q_sub, q_addn, q_nadd, q_lt, q_le, q_eq, q_eqn, q_neq, q_nen, q_ltn, q_nlt, q_len, q_nle, q_nltn, q_nlen, q_cl, q_ib, q_ibn, q_isz0, q_isz1, q_iszb, q_b0, q_b1, q_ng1, q_ng2, q_ng3, q_ng4, q_ng5, q_ng6, Bool.toNat_true, Bool.toNat_false, if_pos, if_neg, q_ct, q_cf, q_let, q_bd, q_it, q_if, Nat.zero_add, Nat.add_zero, true_and, and_true, false_and, and_false, or_false, false_or, or_true, true_or, Bool.true_eq_false, Bool.false_eq_true, wi_s, wi_o, wi_r]) (fun i _ => rfl) (fun d j _ => by simp (disch := first | assumption | omega) only [q_lit, Int32.neg_neg, nI_add, pk_mul, q_sub, q_addn, q_nadd, q_lt, q_le, q_eq, q_eqn, q_neq, q_nen, q_ltn, q_nlt, q_len, q_nle, q_nltn, q_nlen, q_cl, q_ib, q_ibn, q_isz0, q_isz1, q_iszb, q_b0, q_b1, q_ng1, q_ng2, q_ng3, q_ng4, q_ng5, q_ng6, Bool.toNat_true, Bool.toNat_false, if_pos, if_neg, q_ct, q_cf, q_let, q_bd, q_it, q_if, Nat.zero_add, Nat.add_zero, true_and, and_true, false_and, and_false, or_false, false_or, or_true, true_or, Bool.true_eq_false, Bool.false_eq_true, wi_s, wi_o, wi_r]) (fun j _ => rfl)) hp) p6
        generalize eY : ph_wi (ph_wi (ph_wi (ph_wi X 73 3 (nI p)) 73 4 (nI sum)) 73 5 (nI (kn &&& fa))) 73 6 (nI 0) = Y
        have yo : ∀ e j, (e ≠ 73 ∨ (j ≠ 3 ∧ j ≠ 4 ∧ j ≠ 5 ∧ j ≠ 6)) → Y.1 e j = X.1 e j := fun e j q => by rw [← eY]; rw [wi_o (by omega), wi_o (by omega), wi_o (by omega), wi_o (by omega)]
        have y2 : Y.2.2 = X.2.2 := by rw [← eY]; rfl
        have y3 : Y.1 73 3 = nI p := by rw [← eY]; simp (disch := first | assumption | omega) only [q_lit, Int32.neg_neg, nI_add, pk_mul, q_sub, q_addn, q_nadd, q_lt, q_le, q_eq, q_eqn, q_neq, q_nen, q_ltn, q_nlt, q_len, q_nle, q_nltn, q_nlen, q_cl, q_ib, q_ibn, q_isz0, q_isz1, q_iszb, q_b0, q_b1, q_ng1, q_ng2, q_ng3, q_ng4, q_ng5, q_ng6, Bool.toNat_true, Bool.toNat_false, if_pos, if_neg, q_ct, q_cf, q_let, q_bd, q_it, q_if, Nat.zero_add, Nat.add_zero, true_and, and_true, false_and, and_false, or_false, false_or, or_true, true_or, Bool.true_eq_false, Bool.false_eq_true, wi_s, wi_o, wi_r]
        have y4 : Y.1 73 4 = nI sum := by rw [← eY]; simp (disch := first | assumption | omega) only [q_lit, Int32.neg_neg, nI_add, pk_mul, q_sub, q_addn, q_nadd, q_lt, q_le, q_eq, q_eqn, q_neq, q_nen, q_ltn, q_nlt, q_len, q_nle, q_nltn, q_nlen, q_cl, q_ib, q_ibn, q_isz0, q_isz1, q_iszb, q_b0, q_b1, q_ng1, q_ng2, q_ng3, q_ng4, q_ng5, q_ng6, Bool.toNat_true, Bool.toNat_false, if_pos, if_neg, q_ct, q_cf, q_let, q_bd, q_it, q_if, Nat.zero_add, Nat.add_zero, true_and, and_true, false_and, and_false, or_false, false_or, or_true, true_or, Bool.true_eq_false, Bool.false_eq_true, wi_s, wi_o, wi_r]
        have y5 : Y.1 73 5 = nI (kn &&& fa) := by rw [← eY]; simp (disch := first | assumption | omega) only [q_lit, Int32.neg_neg, nI_add, pk_mul, q_sub, q_addn, q_nadd, q_lt, q_le, q_eq, q_eqn, q_neq, q_nen, q_ltn, q_nlt, q_len, q_nle, q_nltn, q_nlen, q_cl, q_ib, q_ibn, q_isz0, q_isz1, q_iszb, q_b0, q_b1, q_ng1, q_ng2, q_ng3, q_ng4, q_ng5, q_ng6, Bool.toNat_true, Bool.toNat_false, if_pos, if_neg, q_ct, q_cf, q_let, q_bd, q_it, q_if, Nat.zero_add, Nat.add_zero, true_and, and_true, false_and, and_false, or_false, false_or, or_true, true_or, Bool.true_eq_false, Bool.false_eq_true, wi_s, wi_o, wi_r]
        have y6 : Y.1 73 6 = nI 0 := by rw [← eY]; simp (disch := first | assumption | omega) only [q_lit, Int32.neg_neg, nI_add, pk_mul, q_sub, q_addn, q_nadd, q_lt, q_le, q_eq, q_eqn, q_neq, q_nen, q_ltn, q_nlt, q_len, q_nle, q_nltn, q_nlen, q_cl, q_ib, q_ibn, q_isz0, q_isz1, q_iszb, q_b0, q_b1, q_ng1, q_ng2, q_ng3, q_ng4, q_ng5, q_ng6, Bool.toNat_true, Bool.toNat_false, if_pos, if_neg, q_ct, q_cf, q_let, q_bd, q_it, q_if, Nat.zero_add, Nat.add_zero, true_and, and_true, false_and, and_false, or_false, false_or, or_true, true_or, Bool.true_eq_false, Bool.false_eq_true, wi_s, wi_o, wi_r]
        have ys : ∀ Z : ph_Mem, (∀ e j, (11 ≤ e ∧ e < 23) ∨ 88 ≤ e → Z.1 e j = X.1 e j) → Z.2.2 = X.2.2 → rSt RL S Z 11 (K.1 2) n t := fun Z q1 q2 => rSt_fr hRL hs (q1 _ _ (by omega)) (q1 _ _ (by omega)) (q1 _ _ (by omega)) (fun p _ => q1 _ _ (by omega)) (fun d j _ _ _ => q1 _ _ (by omega)) (fun j _ => q1 _ _ (by omega)) (fun j _ => q1 _ _ (by omega)) (fun j _ => q1 _ _ (by omega)) (fun i _ => by rw [q2]) (fun d j _ => q1 _ _ (by omega)) (fun j _ => rfl)
        have yst := ys Y (fun e j q => yo e j (by omega)) y2
        obtain ⟨M, m1, m2, m3, m4, m5, m6⟩ := x_plan_l hRL (V := V) yst hp d1 ((yo 21 0 (by omega)).trans d2) (fun h hh => by
          obtain ⟨v0, vx, vk⟩ := hV h hh
          have v0' := v0 d (Nat.le_refl _) (by omega)
          exact ⟨v0'.1, v0'.2.1, fun X1 kd q1 q2 q3 q4 => vx X1 kd d (fun e j he => (q1 e j he).trans (yo e j (by omega))) (fun i => by rw [q2, y2]) q3 (fun z => absurd z q4) (Nat.le_refl _) (by omega)⟩) y3 12 0 10000 Y (by omega) (by omega) (fun _ _ _ _ _ _ => rfl) rfl y6 (fun i hi => absurd hi (by omega)) (fun i hi => by
          have : i = 0 := by omega
          subst this
          rw [yo 75 0 (by omega)]
          exact h.2.1.2.2.2.2.2.2.2.1)
        generalize eZ : ph_wi M 73 7 (nI 1000000) = Z
        have zo : ∀ e j, (e ≠ 73 ∨ j ≠ 7) → Z.1 e j = M.1 e j := fun e j q => by rw [← eZ, wi_o q]
        have z2 : Z.2.2 = X.2.2 := by rw [← eZ]; exact m3.trans y2
        have zst := ys Z (fun e j q => by rw [zo e j (by omega), m2 e j (by omega) (by omega) (by omega) (by omega), yo e j (by omega)]) z2
        have maylt : q_bs (ra_c (K.1 2) p d V) 12 < 4096 := q_bs_lt _ 12
        obtain ⟨M', st1, s1, s2, s3, s4, s5⟩ := x_rs hRL (ln := ra_l (K.1 2) p d V) (wo := wo) (must := kn &&& fa) zst hp maylt mlt hv (fun h hh => ⟨by
            unfold ra_l
            split
            · exact ((hV h hh).1 d (Nat.le_refl _) (by omega)).1
            · omega, (zo 74 h (by omega)).trans (m5 h hh)⟩) (fun h hh => ⟨(hwo h hh).1, by rw [zo _ _ (by omega), m2 _ _ (by omega) (by omega) (by omega) (by omega), yo _ _ (by omega)]; exact (hwo h hh).2.1⟩) (fun o ho => (zo 75 o (by omega)).trans (m6 o ho)) (by rw [zo _ _ (by omega), m2 _ _ (by omega) (by omega) (by omega) (by omega)]; exact y3) (by rw [zo _ _ (by omega), m2 _ _ (by omega) (by omega) (by omega) (by omega)]; exact y4) (by rw [zo _ _ (by omega), m2 _ _ (by omega) (by omega) (by omega) (by omega)]; exact y5) (by rw [zo _ _ (by omega)]; exact m4) 12 20 Z 0 none (by omega) (by omega) ⟨0, by omega⟩ (by decide) (fun i hi => by rw [Nat.zero_testBit] at hi; exact absurd hi (by simp)) (fun f hf => by
            rw [q_kn_0 12 (by omega), ekn]
            rw [Nat.testBit_and, Bool.and_eq_true] at hf
            exact hf.1) (Or.inl ⟨rfl, by rw [← eZ]; simp (disch := first | assumption | omega) only [q_lit, Int32.neg_neg, nI_add, pk_mul, q_sub, q_addn, q_nadd, q_lt, q_le, q_eq, q_eqn, q_neq, q_nen, q_ltn, q_nlt, q_len, q_nle, q_nltn, q_nlen, q_cl, q_ib, q_ibn, q_isz0, q_isz1, q_iszb, q_b0, q_b1, q_ng1, q_ng2, q_ng3, q_ng4, q_ng5, q_ng6, Bool.toNat_true, Bool.toNat_false, if_pos, if_neg, q_ct, q_cf, q_let, q_bd, q_it, q_if, Nat.zero_add, Nat.add_zero, true_and, and_true, false_and, and_false, or_false, false_or, or_true, true_or, Bool.true_eq_false, Bool.false_eq_true, wi_s, wi_o, wi_r]⟩) (fun _ _ _ => rfl) rfl
        have zr : ∀ f : Nat → Nat, ra_s f 0 12 = 0 := fun f => by
          have : ∀ k, ra_s f 0 k = 0 := by
            intro k
            induction k with
            | zero => rfl
            | succ k ih => rw [ra_s, ih, Nat.zero_testBit]; rfl
          exact this 12
        rw [zr, zr] at s1
        have s1' : f5_search S Z (nI 12) (nI 0) (nI 0) (nI 0) = some M' := s1
        -- the model
        obtain ⟨K1, r1, r2, r3, r4⟩ := m_kn0 p6 hr.2.2
        rw [ekn] at r1
        have c1 : ∀ j, K1.1 2 j = K.1 2 j := fun j => r3 2 j (by omega)
        have eg1 : K1.1 2 = K.1 2 := funext c1
        obtain ⟨K2, k1, k2, k3⟩ := m_rl (g := K.1 2) (p := p) (d := d) (V := V) hp hn K1 eg1 hst (fun h hh => by
          obtain ⟨v0, vx, vk⟩ := hV h hh
          have v0' := v0 d (Nat.le_refl _) (by omega)
          refine ⟨v0'.1, v0'.2.1, fun K' q => ?_⟩
          have := vk K' d (fun j _ => q j) ((q 222).trans d3) (Nat.le_refl _) (by omega)
          exact ⟨this.1, this.2.1⟩) (nI sum) (nI w) (nI (q_bs (hP (K.1 2) p 0) 12)) (nI (kn &&& fa)) 12 0 10000 K1 (by omega) (by omega) (fun _ _ _ _ _ => rfl) (fun i hi => absurd hi (by omega))
        have eg2 : K2.1 2 = K.1 2 := funext fun j => (k2 2 j (by omega) (by omega) (by omega)).trans (c1 j)
        obtain ⟨K3, st2, b8, b9, b10, e1, e2, e3, e4⟩ := m_ra (ln := ra_l (K.1 2) p d V) (wo := wo) (lm := fun h => V h 0 d) (must := kn &&& fa) hp hn hv mlt maylt rfl hr.2.2 (fun h hb => by
          rw [q_bs_bit, Bool.and_eq_true] at hb
          unfold ra_l
          rw [hb.2]; rfl) K2 eg2 (fun h hh => ⟨(hwo h hh).1, by rw [eg2]; exact (hwo h hh).2.2⟩) (fun h hh => ⟨((hV h hh).1 d (Nat.le_refl _) (by omega)).1, k3 h hh⟩) (nI w) 4096 0 10000 K2 none (-nI 1) (nI 0) (nI 0) (by omega) (by omega) (fun _ _ _ => rfl) (Or.inl ⟨rfl, rfl⟩)
        have est : st1 = st2 := ra_F_un 4096 0 none st1 st2 s2 e2
        subst est
        have rel : Rel RL S M' K3 := Rel_fr hRL h (fun c j hc => by
          unfold rXj at hc
          rw [s4 c j (by omega), zo c j (by omega)]
          by_cases e75 : c = 75
          · have : j = 0 := by omega
            subst this e75
            rw [m6 0 (by omega)]
            exact h.2.1.2.2.2.2.2.2.2.1.symm
          · rw [m2 c j (by omega) (by omega) (by omega) (by omega), yo c j (by omega)]) (fun c j _ => by rw [s5, z2]) (fun c j hc => by
          unfold rKj at hc
          rw [e4 c j (by omega), k2 c j (by omega) (by omega) (by omega), r3 c j (by omega)])
        have xf : f5_plan S X (nI p) (nI sum) (nI fa) = if (M'.1 73 7) = nI 1000000 then some (nI 0, M') else some (nI 1, M') := by
          unfold f5_plan_j183 at m1
          simp (disch := first | assumption | omega) only [q_lit, Int32.neg_neg, nI_add, pk_mul, q_sub, q_addn, q_nadd, q_lt, q_le, q_eq, q_eqn, q_neq, q_nen, q_ltn, q_nlt, q_len, q_nle, q_nltn, q_nlen, q_cl, q_ib, q_ibn, q_isz0, q_isz1, q_iszb, q_b0, q_b1, q_ng1, q_ng2, q_ng3, q_ng4, q_ng5, q_ng6, Bool.toNat_true, Bool.toNat_false, if_pos, if_neg, q_ct, q_cf, q_let, q_bd, q_it, q_if, Nat.zero_add, Nat.add_zero, true_and, and_true, false_and, and_false, or_false, false_or, or_true, true_or, Bool.true_eq_false, Bool.false_eq_true, wi_s, wi_o, wi_r, eZ, s1'] at m1
          unfold f5_plan
          simp (disch := first | assumption | omega) only [q_lit, Int32.neg_neg, nI_add, pk_mul, q_sub, q_addn, q_nadd, q_lt, q_le, q_eq, q_eqn, q_neq, q_nen, q_ltn, q_nlt, q_len, q_nle, q_nltn, q_nlen, q_cl, q_ib, q_ibn, q_isz0, q_isz1, q_iszb, q_b0, q_b1, q_ng1, q_ng2, q_ng3, q_ng4, q_ng5, q_ng6, Bool.toNat_true, Bool.toNat_false, if_pos, if_neg, q_ct, q_cf, q_let, q_bd, q_it, q_if, Nat.zero_add, Nat.add_zero, true_and, and_true, false_and, and_false, or_false, false_or, or_true, true_or, Bool.true_eq_false, Bool.false_eq_true, wi_s, wi_o, wi_r, x1, q_and]
          rw [Nat.and_comm fa kn, eY]
          exact m1
        have mf : f12_raise_l67 10000 (nI p) (nI sum) (nI w) (nI (q_bs (hP (K.1 2) p 0) 12)) (nI (kn &&& fa)) (nI 0) (nI 0) K1 = f12_raise_j292 (nI w) b8 b9 b10 K3 := by
          unfold f12_raise_j117 at k1
          exact k1.trans e1
        have X1 : ∀ z, f11_raise S X (nI p) (nI sum) (nI fa) (nI w) = z ↔ ((if (M'.1 73 7) = nI 1000000 then some (nI 0, M') else some (nI 1, M')).bind fun q2 => if q2.1 = 0 then (some ((-1 : Int32), q2.2)) else (if nI w = 0 then (some ((q2.2.1 73 7), q2.2)) else (if nI w = (1 : Int32) then (some ((q2.2.1 73 8), q2.2)) else (some ((q2.2.1 73 9), q2.2))))) = z := by
          intro z
          rw [xr, xf, if_neg (nI_pos (by omega)), if_neg (show ¬ (9999 : Int32) < nI sum from fun q => by
            have := (nI_ltI (a := 9999) (b := sum) (by omega) (by omega)).mp q
            omega), if_neg (nI_pos (by omega)), if_pos (show nI fa < (256 : Int32) from (nI_ltI (a := fa) (b := 256) (by omega) (by omega)).mpr (by omega)), if_neg (nI_pos (by omega)), if_neg (show ¬ (2 : Int32) < nI w from fun q => by
            have := (nI_ltI (a := 2) (b := w) (by omega) (by omega)).mp q
            omega)]
        have Y1 : ∀ z, f12_raise K (nI p) (nI sum) (nI fa) (nI w) = z ↔ f12_raise_j292 (nI w) b8 b9 b10 K3 = z := by
          intro z
          rw [mr, q_lit 0, q_lit 9999, q_lit 255, q_lit 2, m_wi (by omega) (by omega), q_bd, if_neg (by decide), m_wi (by omega) (by omega), q_bd, if_neg (by decide), m_wi (by omega) (by omega), q_bd, if_neg (by decide), m_hrs p6, q_bd, r1, q_bd, q_and, mf]
        rcases s3 with ⟨o1, o2⟩ | ⟨bs, bw, bl, o1, o2, o3, o4, o5⟩
        · rcases e3 with ⟨_, u2⟩ | ⟨_, _, _, u1, _⟩
          · refine ⟨-nI 1, M', K3, (X1 _).mpr ?_, (Y1 _).mpr ?_, rel⟩
            · rw [o2, if_pos rfl, q_bd, if_pos (show nI 0 = (0 : Int32) from rfl)]; rfl
            · unfold f12_raise_j292; rw [u2, if_pos (by decide)]; rfl
          · rw [o1] at u1; exact absurd u1 (by simp)
        · rcases e3 with ⟨u1, _⟩ | ⟨cs, cw, cl, u1, u2, u3, u4, u5, u6⟩
          · rw [o1] at u1; exact absurd u1 (by simp)
          · rw [o1] at u1
            injection u1 with u1
            injection u1 with j1 j2
            injection j2 with j3 j4
            subst j1 j3 j4
            have ne : ¬ M'.1 73 7 = nI 1000000 := by rw [o3, q_eq (by omega) (by omega)]; omega
            have fin : ∀ r, (if nI w = 0 then (some ((M'.1 73 7), M')) else (if nI w = (1 : Int32) then (some ((M'.1 73 8), M')) else (some ((M'.1 73 9), M')))) = some (r, M') → (if nI w = 0 then (some (b9, K3)) else (if nI w = (1 : Int32) then (some (b8, K3)) else (some (b10, K3)))) = some (r, K3) → ∃ r X' K', f11_raise S X (nI p) (nI sum) (nI fa) (nI w) = some (r, X') ∧ f12_raise K (nI p) (nI sum) (nI fa) (nI w) = some (r, K') ∧ Rel RL S X' K' := fun r q1 q2 => ⟨r, M', K3, (X1 _).mpr (by rw [if_neg ne, q_bd, if_neg (show ¬ nI 1 = (0 : Int32) by decide)]; exact q1), (Y1 _).mpr (by
              unfold f12_raise_j292
              rw [u4, if_neg (show ¬ nI bs = (-1 : Int32) from fun q => by
                have := (q_eqn (a := bs) (b := 1) (by omega) (by omega)).mp q
                omega), ← u4]
              exact q2), rel⟩
            have hc : w = 0 ∨ w = 1 ∨ w = 2 := by omega
            rcases hc with rfl | rfl | rfl
            · exact fin (nI bw) (by rw [if_pos (by decide), o3]) (by rw [if_pos (by decide), u5])
            · exact fin (nI bs) (by rw [if_neg (by decide), if_pos (by decide), o4]) (by rw [if_neg (by decide), if_pos (by decide), u4])
            · exact fin (nI bl) (by rw [if_neg (by decide), if_neg (by decide), o5]) (by rw [if_neg (by decide), if_neg (by decide), u6])
      · refine out ?_ ?_
        · rw [xr]; simp (disch := first | assumption | omega) only [q_lit, Int32.neg_neg, nI_add, pk_mul, q_sub, q_addn, q_nadd, q_lt, q_le, q_eq, q_eqn, q_neq, q_nen, q_ltn, q_nlt, q_len, q_nle, q_nltn, q_nlen, q_cl, q_ib, q_ibn, q_isz0, q_isz1, q_iszb, q_b0, q_b1, q_ng1, q_ng2, q_ng3, q_ng4, q_ng5, q_ng6, Bool.toNat_true, Bool.toNat_false, if_pos, if_neg, q_ct, q_cf, q_let, q_bd, q_it, q_if, Nat.zero_add, Nat.add_zero, true_and, and_true, false_and, and_false, or_false, false_or, or_true, true_or, Bool.true_eq_false, Bool.false_eq_true, wi_s, wi_o, wi_r]
        · rw [mr]; simp (disch := first | assumption | omega) only [q_lit, Int32.neg_neg, nI_add, pk_mul, q_sub, q_addn, q_nadd, q_lt, q_le, q_eq, q_eqn, q_neq, q_nen, q_ltn, q_nlt, q_len, q_nle, q_nltn, q_nlen, q_cl, q_ib, q_ibn, q_isz0, q_isz1, q_iszb, q_b0, q_b1, q_ng1, q_ng2, q_ng3, q_ng4, q_ng5, q_ng6, Bool.toNat_true, Bool.toNat_false, if_pos, if_neg, q_ct, q_cf, q_let, q_bd, q_it, q_if, Nat.zero_add, Nat.add_zero, true_and, and_true, false_and, and_false, or_false, false_or, or_true, true_or, Bool.true_eq_false, Bool.false_eq_true, wi_s, wi_o, wi_r, m_wi, m_wn]
      · refine out ?_ ?_
        · rw [xr]; simp (disch := first | assumption | omega) only [q_lit, Int32.neg_neg, nI_add, pk_mul, q_sub, q_addn, q_nadd, q_lt, q_le, q_eq, q_eqn, q_neq, q_nen, q_ltn, q_nlt, q_len, q_nle, q_nltn, q_nlen, q_cl, q_ib, q_ibn, q_isz0, q_isz1, q_iszb, q_b0, q_b1, q_ng1, q_ng2, q_ng3, q_ng4, q_ng5, q_ng6, Bool.toNat_true, Bool.toNat_false, if_pos, if_neg, q_ct, q_cf, q_let, q_bd, q_it, q_if, Nat.zero_add, Nat.add_zero, true_and, and_true, false_and, and_false, or_false, false_or, or_true, true_or, Bool.true_eq_false, Bool.false_eq_true, wi_s, wi_o, wi_r]
        · rw [mr]; simp (disch := first | assumption | omega) only [q_lit, Int32.neg_neg, nI_add, pk_mul, q_sub, q_addn, q_nadd, q_lt, q_le, q_eq, q_eqn, q_neq, q_nen, q_ltn, q_nlt, q_len, q_nle, q_nltn, q_nlen, q_cl, q_ib, q_ibn, q_isz0, q_isz1, q_iszb, q_b0, q_b1, q_ng1, q_ng2, q_ng3, q_ng4, q_ng5, q_ng6, Bool.toNat_true, Bool.toNat_false, if_pos, if_neg, q_ct, q_cf, q_let, q_bd, q_it, q_if, Nat.zero_add, Nat.add_zero, true_and, and_true, false_and, and_false, or_false, false_or, or_true, true_or, Bool.true_eq_false, Bool.false_eq_true, wi_s, wi_o, wi_r, m_wi, m_wo]
    · refine out ?_ ?_
      · rw [xr]; simp (disch := first | assumption | omega) only [q_lit, Int32.neg_neg, nI_add, pk_mul, q_sub, q_addn, q_nadd, q_lt, q_le, q_eq, q_eqn, q_neq, q_nen, q_ltn, q_nlt, q_len, q_nle, q_nltn, q_nlen, q_cl, q_ib, q_ibn, q_isz0, q_isz1, q_iszb, q_b0, q_b1, q_ng1, q_ng2, q_ng3, q_ng4, q_ng5, q_ng6, Bool.toNat_true, Bool.toNat_false, if_pos, if_neg, q_ct, q_cf, q_let, q_bd, q_it, q_if, Nat.zero_add, Nat.add_zero, true_and, and_true, false_and, and_false, or_false, false_or, or_true, true_or, Bool.true_eq_false, Bool.false_eq_true, wi_s, wi_o, wi_r]
      · rw [mr]; simp (disch := first | assumption | omega) only [q_lit, Int32.neg_neg, nI_add, pk_mul, q_sub, q_addn, q_nadd, q_lt, q_le, q_eq, q_eqn, q_neq, q_nen, q_ltn, q_nlt, q_len, q_nle, q_nltn, q_nlen, q_cl, q_ib, q_ibn, q_isz0, q_isz1, q_iszb, q_b0, q_b1, q_ng1, q_ng2, q_ng3, q_ng4, q_ng5, q_ng6, Bool.toNat_true, Bool.toNat_false, if_pos, if_neg, q_ct, q_cf, q_let, q_bd, q_it, q_if, Nat.zero_add, Nat.add_zero, true_and, and_true, false_and, and_false, or_false, false_or, or_true, true_or, Bool.true_eq_false, Bool.false_eq_true, wi_s, wi_o, wi_r, m_wi, m_wn]
    · refine out ?_ ?_
      · rw [xr]; simp (disch := first | assumption | omega) only [q_lit, Int32.neg_neg, nI_add, pk_mul, q_sub, q_addn, q_nadd, q_lt, q_le, q_eq, q_eqn, q_neq, q_nen, q_ltn, q_nlt, q_len, q_nle, q_nltn, q_nlen, q_cl, q_ib, q_ibn, q_isz0, q_isz1, q_iszb, q_b0, q_b1, q_ng1, q_ng2, q_ng3, q_ng4, q_ng5, q_ng6, Bool.toNat_true, Bool.toNat_false, if_pos, if_neg, q_ct, q_cf, q_let, q_bd, q_it, q_if, Nat.zero_add, Nat.add_zero, true_and, and_true, false_and, and_false, or_false, false_or, or_true, true_or, Bool.true_eq_false, Bool.false_eq_true, wi_s, wi_o, wi_r]
      · rw [mr]; simp (disch := first | assumption | omega) only [q_lit, Int32.neg_neg, nI_add, pk_mul, q_sub, q_addn, q_nadd, q_lt, q_le, q_eq, q_eqn, q_neq, q_nen, q_ltn, q_nlt, q_len, q_nle, q_nltn, q_nlen, q_cl, q_ib, q_ibn, q_isz0, q_isz1, q_iszb, q_b0, q_b1, q_ng1, q_ng2, q_ng3, q_ng4, q_ng5, q_ng6, Bool.toNat_true, Bool.toNat_false, if_pos, if_neg, q_ct, q_cf, q_let, q_bd, q_it, q_if, Nat.zero_add, Nat.add_zero, true_and, and_true, false_and, and_false, or_false, false_or, or_true, true_or, Bool.true_eq_false, Bool.false_eq_true, wi_s, wi_o, wi_r, m_wi, m_wo]
  · refine out ?_ ?_
    · rw [xr]; simp (disch := first | assumption | omega) only [q_lit, Int32.neg_neg, nI_add, pk_mul, q_sub, q_addn, q_nadd, q_lt, q_le, q_eq, q_eqn, q_neq, q_nen, q_ltn, q_nlt, q_len, q_nle, q_nltn, q_nlen, q_cl, q_ib, q_ibn, q_isz0, q_isz1, q_iszb, q_b0, q_b1, q_ng1, q_ng2, q_ng3, q_ng4, q_ng5, q_ng6, Bool.toNat_true, Bool.toNat_false, if_pos, if_neg, q_ct, q_cf, q_let, q_bd, q_it, q_if, Nat.zero_add, Nat.add_zero, true_and, and_true, false_and, and_false, or_false, false_or, or_true, true_or, Bool.true_eq_false, Bool.false_eq_true, wi_s, wi_o, wi_r]
    · rw [mr]; simp (disch := first | assumption | omega) only [q_lit, Int32.neg_neg, nI_add, pk_mul, q_sub, q_addn, q_nadd, q_lt, q_le, q_eq, q_eqn, q_neq, q_nen, q_ltn, q_nlt, q_len, q_nle, q_nltn, q_nlen, q_cl, q_ib, q_ibn, q_isz0, q_isz1, q_iszb, q_b0, q_b1, q_ng1, q_ng2, q_ng3, q_ng4, q_ng5, q_ng6, Bool.toNat_true, Bool.toNat_false, if_pos, if_neg, q_ct, q_cf, q_let, q_bd, q_it, q_if, Nat.zero_add, Nat.add_zero, true_and, and_true, false_and, and_false, or_false, false_or, or_true, true_or, Bool.true_eq_false, Bool.false_eq_true, wi_s, wi_o, wi_r, m_wn]
  · refine out ?_ ?_
    · rw [xr]; simp (disch := first | assumption | omega) only [q_lit, Int32.neg_neg, nI_add, pk_mul, q_sub, q_addn, q_nadd, q_lt, q_le, q_eq, q_eqn, q_neq, q_nen, q_ltn, q_nlt, q_len, q_nle, q_nltn, q_nlen, q_cl, q_ib, q_ibn, q_isz0, q_isz1, q_iszb, q_b0, q_b1, q_ng1, q_ng2, q_ng3, q_ng4, q_ng5, q_ng6, Bool.toNat_true, Bool.toNat_false, if_pos, if_neg, q_ct, q_cf, q_let, q_bd, q_it, q_if, Nat.zero_add, Nat.add_zero, true_and, and_true, false_and, and_false, or_false, false_or, or_true, true_or, Bool.true_eq_false, Bool.false_eq_true, wi_s, wi_o, wi_r]
    · rw [mr]; simp (disch := first | assumption | omega) only [q_lit, Int32.neg_neg, nI_add, pk_mul, q_sub, q_addn, q_nadd, q_lt, q_le, q_eq, q_eqn, q_neq, q_nen, q_ltn, q_nlt, q_len, q_nle, q_nltn, q_nlen, q_cl, q_ib, q_ibn, q_isz0, q_isz1, q_iszb, q_b0, q_b1, q_ng1, q_ng2, q_ng3, q_ng4, q_ng5, q_ng6, Bool.toNat_true, Bool.toNat_false, if_pos, if_neg, q_ct, q_cf, q_let, q_bd, q_it, q_if, Nat.zero_add, Nat.add_zero, true_and, and_true, false_and, and_false, or_false, false_or, or_true, true_or, Bool.true_eq_false, Bool.false_eq_true, wi_s, wi_o, wi_r, m_wo]
