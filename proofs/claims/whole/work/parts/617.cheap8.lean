/-! PURE HALF: cheapest -/
theorem s_cheapest {RL : rLT} (hRL : rLoc RL) (hRul : rRul RL) : lws_cheapest (Rel RL) := by
  intro S X K h a1 a2
  obtain ⟨n, t, hs, hlg⟩ := h.2.2.2.2.2
  have hn := hs.1.1
  have out : f11_cheapest S X a1 a2 = some (-nI 1, X) → f12_cheapest K a1 a2 = some (-nI 1, K) → ∃ r X' K', f11_cheapest S X a1 a2 = some (r, X') ∧ f12_cheapest K a1 a2 = some (r, K') ∧ Rel RL S X' K' := fun q1 q2 => ⟨_, _, _, q1, q2, h⟩
  obtain ⟨b, f1, f2, f3, _⟩ := d_pers S hs.1.2.2.1 hs.1.2.2.2.1 hs.1.1 a1
  cases b
  · refine out ?_ ?_
    · unfold f11_cheapest; rw [f1, q_bd, if_pos (by decide)]; rfl
    · unfold f12_cheapest; rw [f2, q_bd, if_pos (by decide)]; rfl
  obtain ⟨p, hp, rfl⟩ := f3 rfl
  by_cases ha2 : a2 < -nI 1
  · refine out ?_ ?_
    · unfold f11_cheapest; rw [f1, q_bd, if_neg (by decide), if_pos (show a2 < (-1 : Int32) from ha2)]; rfl
    · unfold f12_cheapest; rw [f2, q_bd, if_neg (by decide), if_pos (show a2 < (-1 : Int32) from ha2)]; rfl
  have p6 : p < 6 := by omega
  have hr0 := rSt_rd hs hp
  obtain ⟨d, d1, d2, d3⟩ := rSt_day hs
  obtain ⟨V, hV⟩ := rRul_all hRul h.1.1 hs hp d1 d3
  obtain ⟨u, u1, u2, u3⟩ := rSt_pu hs p6
  obtain ⟨i1, inc, i2, i3⟩ := hs.2.2.2.2.2.1.1
  generalize eP : hP (K.1 2) p 1 = P
  have hlen : (ch_h P 12).length = q_pc (q_bs P 12) 12 := ch_h_len P 12 (fun i hi => by rw [q_bs_bit, decide_eq_true hi, Bool.true_and])
  generalize eY : ph_wi (ph_wi (ph_wi X 76 5 (nI p)) 76 7 (nI 0)) 76 6 (nI 0) = Y
  have yo : ∀ e j, (e ≠ 76 ∨ (j ≠ 5 ∧ j ≠ 6 ∧ j ≠ 7)) → Y.1 e j = X.1 e j := fun e j q => by rw [← eY]; rw [wi_o (by omega), wi_o (by omega), wi_o (by omega)]
  have y2 : Y.2 = X.2 := by rw [← eY]; rfl
  have y5 : Y.1 76 5 = nI p := by rw [← eY]; simp (disch := first | assumption | omega) only [q_lit, Int32.neg_neg, nI_add, pk_mul, q_sub, q_addn, q_nadd, q_lt, q_le, q_eq, q_eqn, q_neq, q_nen, q_ltn, q_nlt, q_len, q_nle, q_nltn, q_nlen, q_cl, q_ib, q_ibn, q_isz0, q_isz1, q_iszb, q_b0, q_b1, q_ng1, q_ng2, q_ng3, q_ng4, q_ng5, q_ng6, Bool.toNat_true, Bool.toNat_false, if_pos, if_neg, q_ct, q_cf, q_let, q_bd, q_it, q_if, Nat.zero_add, Nat.add_zero, true_and, and_true, false_and, and_false, or_false, false_or, or_true, true_or, Bool.true_eq_false, Bool.false_eq_true, wi_s, wi_o, wi_r]
  have y6 : Y.1 76 6 = nI 0 := by rw [← eY]; simp (disch := first | assumption | omega) only [q_lit, Int32.neg_neg, nI_add, pk_mul, q_sub, q_addn, q_nadd, q_lt, q_le, q_eq, q_eqn, q_neq, q_nen, q_ltn, q_nlt, q_len, q_nle, q_nltn, q_nlen, q_cl, q_ib, q_ibn, q_isz0, q_isz1, q_iszb, q_b0, q_b1, q_ng1, q_ng2, q_ng3, q_ng4, q_ng5, q_ng6, Bool.toNat_true, Bool.toNat_false, if_pos, if_neg, q_ct, q_cf, q_let, q_bd, q_it, q_if, Nat.zero_add, Nat.add_zero, true_and, and_true, false_and, and_false, or_false, false_or, or_true, true_or, Bool.true_eq_false, Bool.false_eq_true, wi_s, wi_o, wi_r]
  have y7 : Y.1 76 7 = nI 0 := by rw [← eY]; simp (disch := first | assumption | omega) only [q_lit, Int32.neg_neg, nI_add, pk_mul, q_sub, q_addn, q_nadd, q_lt, q_le, q_eq, q_eqn, q_neq, q_nen, q_ltn, q_nlt, q_len, q_nle, q_nltn, q_nlen, q_cl, q_ib, q_ibn, q_isz0, q_isz1, q_iszb, q_b0, q_b1, q_ng1, q_ng2, q_ng3, q_ng4, q_ng5, q_ng6, Bool.toNat_true, Bool.toNat_false, if_pos, if_neg, q_ct, q_cf, q_let, q_bd, q_it, q_if, Nat.zero_add, Nat.add_zero, true_and, and_true, false_and, and_false, or_false, false_or, or_true, true_or, Bool.true_eq_false, Bool.false_eq_true, wi_s, wi_o, wi_r]
  have xh : f9_hoursThatAre S Y 11 (nI 1) (nI p) = some (nI (q_bs P 12)) := by
    rw [← eP]
    exact x_hrs p6 (fun h hh => by rw [yo _ _ (by omega)]; exact (hr0.1 h hh).1)
  have mh : f12_hoursIn K (nI p) (nI 1) = some (nI (q_bs P 12)) := by rw [← eP]; exact m_hrs p6
  have lt12 := q_bs12 P
  have xb : f6_bitCount_0f7a4 S Y (nI (q_bs P 12)) = some (nI (ch_h P 12).length) := by rw [hlen]; exact x_bc lt12
  have mb : f12_ones K (nI (q_bs P 12)) = some (nI (ch_h P 12).length) := by rw [hlen]; exact m_ones (by omega)
  have l12 : (ch_h P 12).length ≤ 12 := by rw [hlen]; exact q_pc_le _ 12
  have X0 : f7_plan S X (nI p) = if nI (ch_h P 12).length ≤ (6 : Int32) then (f7_plan_l41 S 10000 (nI (q_bs P 12)) (nI 0) Y) else (some ((0 : Int32), Y)) := by
    unfold f7_plan
    rw [q_let, q_let, q_let, q_lit 0]
    rw [eY, y5, q_lit 1, xh, q_bd, xb, q_bd]
  have F1 : f11_cheapest S X (nI p) a2 = ((f7_plan S X (nI p)).bind fun q2 => if q2.1 = 0 then (some ((-1 : Int32), q2.2)) else (if a2 = (-1 : Int32) then (some ((q2.2.1 76 8), q2.2)) else ((f7_hourAt S q2.2 a2).bind fun q3 => some (q3, q2.2)))) := by
    unfold f11_cheapest
    rw [f1, q_bd, if_neg (by decide), if_neg (show ¬ a2 < (-1 : Int32) from ha2)]
  have F2 : f12_cheapest K (nI p) a2 = if nI (ch_h P 12).length ≤ (6 : Int32) then (f12_cheapest_l36 10000 (nI p) a2 (nI 0) (ph_wi K 0 35 (nI 0))) else (some ((-1 : Int32), K)) := by
    unfold f12_cheapest
    rw [f2, q_bd, if_neg (by decide), if_neg (show ¬ a2 < (-1 : Int32) from ha2), q_lit 1, mh, q_bd, mb, q_bd, q_let]
    rfl
  by_cases h6 : (ch_h P 12).length ≤ 6
  · have le6 : nI (ch_h P 12).length ≤ (6 : Int32) := (nI_leI (a := (ch_h P 12).length) (b := 6) (by omega) (by omega)).mpr h6
    rw [if_pos le6] at X0 F2
    -- the class
    obtain ⟨M1, c1, c2, c3, c4, c5⟩ := x_che (S := S) (P := P) Y h6 12 0 10000 Y (by omega) (by omega) (fun _ _ _ _ => rfl) rfl y6 (fun i hi => absurd hi (by simp [ch_h]))
    obtain ⟨M2, e1, e2, e3⟩ := x_fill (S := S) (c := 80) (L := 366) (v := -nI 1) (by rw [x_len h.1.1 (by omega)]; rfl) (by omega) M1
    generalize eM3 : ph_wi M2 76 8 (nI 1000000) = M3
    have m3o : ∀ e j, e ≠ 80 → e ≠ 77 → e ≠ 76 → M3.1 e j = X.1 e j := fun e j q1 q2 q3 => by
      rw [← eM3, wi_o (by omega), e2, if_neg (by omega), c2 e j q2 (by omega), yo e j (by omega)]
    have m36 : ∀ j, j ≠ 8 → M3.1 76 j = M1.1 76 j := fun j q => by
      rw [← eM3, wi_o (by omega), e2, if_neg (by omega)]
    have m32 : M3.2 = X.2 := by rw [← eM3]; exact e3.trans (c3.trans y2)
    have m35 : M3.1 76 5 = nI p := by rw [m36 5 (by omega), c2 76 5 (by omega) (by omega)]; exact y5
    have m366 : M3.1 76 6 = nI (ch_h P 12).length := by rw [m36 6 (by omega)]; exact c4
    have m367 : M3.1 76 7 = nI 0 := by rw [m36 7 (by omega), c2 76 7 (by omega) (by omega)]; exact y7
    have m377 : ∀ i, i < (ch_h P 12).length → M3.1 77 i = nI ((ch_h P 12).getD i 0) := fun i hi => by
      rw [← eM3, wi_o (by omega), e2, if_neg (by omega)]; exact c5 i hi
    have hpw : ∀ i, i < (ch_h P 12).length → (ch_h P 12).getD i 0 < 12 ∧ K.1 2 (12 * p + (ch_h P 12).getD i 0) = nI 1 := fun i hi => by
      have := ch_h_get P hi
      refine ⟨this.1, ?_⟩
      have z := this.2
      rw [← eP] at z ⊢
      exact of_decide_eq_true z
    generalize eC : (fun i w => V ((ch_h P 12).getD i 0) 1 (d + w)) = C
    have hC : ∀ i w, i < (ch_h P 12).length → w ≤ 61 → C i w ≤ 9999 := fun i w hi hw => by
      rw [← eC]
      have := hpw i hi
      exact ((hV _ this.1).1 (d + w) (by omega) (by omega)).2.2 this.2
    obtain ⟨M', s1, s2, s3, s4, s5, s6⟩ := x_ch_s (S := S) (X := M3) (C := C) (inc := inc) (m := (ch_h P 12).length) (p := p) (d := d) (hr := fun i => (ch_h P 12).getD i 0) h6 i2 d1 ((m3o 21 0 (by omega) (by omega) (by omega)).trans d2) ((m3o 21 1 (by omega) (by omega) (by omega)).trans (Eq.trans i1 i3)) m35 m366 m377 (fun i w hi hw => hC i w hi (by omega)) (fun i w hi hw M q => by
      have z := hpw i hi
      have := (hV _ z.1).2.1 M 1 (d + w) (fun e j he => (q.1 e j (by omega) (by omega) (by omega) (by omega) (by omega)).trans (m3o e j (by omega) (by omega) (by omega))) (fun i => by rw [q.2, m32]) (by omega) (fun _ => z.2) (by omega) (by omega)
      rw [← eC]
      exact this) (ch_h P 12).length 20 0 0 0 u 0 [] none M3 (by omega) (by omega) (by omega) rfl (by omega) (by omega) (by omega) ⟨fun _ _ _ _ _ _ _ => rfl, rfl⟩ (fun i w hi hw => by
        left
        rw [← eM3, wi_o (by omega), e2, if_pos (by omega)]) m367 (fun k hk => absurd hk (by omega)) (Or.inl ⟨rfl, by rw [← eM3]; simp (disch := first | assumption | omega) only [q_lit, Int32.neg_neg, nI_add, pk_mul, q_sub, q_addn, q_nadd, q_lt, q_le, q_eq, q_eqn, q_neq, q_nen, q_ltn, q_nlt, q_len, q_nle, q_nltn, q_nlen, q_cl, q_ib, q_ibn, q_isz0, q_isz1, q_iszb, q_b0, q_b1, q_ng1, q_ng2, q_ng3, q_ng4, q_ng5, q_ng6, Bool.toNat_true, Bool.toNat_false, if_pos, if_neg, q_ct, q_cf, q_let, q_bd, q_it, q_if, Nat.zero_add, Nat.add_zero, true_and, and_true, false_and, and_false, or_false, false_or, or_true, true_or, Bool.true_eq_false, Bool.false_eq_true, wi_s, wi_o, wi_r]⟩)
    have s1' : f7_search S M3 (nI 0) (nI 0) (nI u) (nI 0) = some M' := s1
    have m3u : M3.1 12 p = nI u := (m3o 12 p (by omega) (by omega) (by omega)).trans u2
    have X2 : f7_plan S X (nI p) = if (M'.1 76 8) = nI 1000000 then (some ((0 : Int32), M')) else (some ((1 : Int32), M')) := by
      rw [X0, c1]
      unfold f7_plan_j90
      rw [show (-1 : Int32) = -nI 1 from rfl, e1, q_bd, q_let, q_lit 1000000, eM3, m35, q_ib (by omega) p6, q_ct, q_cl (by omega), m3u, q_lit 0, s1', q_bd]
    -- the model
    obtain ⟨K2, k1, k2, k3, k4⟩ := m_che (a2 := a2) p6 K (by rw [eP]; exact h6) 12 0 10000 (ph_wi K 0 35 (nI 0)) (by omega) (by omega) (fun e j q1 q2 => by rw [wi_o (by omega)]) (by rw [wi_s]; rfl) (fun i hi => absurd hi (by simp [ch_h]))
    rw [eP] at k3 k4
    generalize eK3 : ph_wi K2 0 36 (nI 1000000000) = K3
    have k3o : ∀ e j, e ≠ 18 → (e ≠ 0 ∨ (j ≠ 35 ∧ j ≠ 36)) → K3.1 e j = K.1 e j := fun e j q1 q2 => by
      rw [← eK3, wi_o (by omega), k2 e j q1 (by omega)]
    have k32 : ∀ j, K3.1 2 j = K.1 2 j := fun j => k3o 2 j (by omega) (by omega)
    obtain ⟨K', t1, t2, t3, t4⟩ := m_tries (C := C) (inc := inc) (n := n) (m := (ch_h P 12).length) (p := p) (d := d) (u := u) (hr := fun i => (ch_h P 12).getD i 0) (K0 := K3) hp hn i2 d1 ((k32 _).trans hs.1.2.2.2.1) ((k32 _).trans i3) (fun i hi => (hpw i hi).1) (fun i j hi hj e => ch_h_inj P hi hj e) hC (fun i w hi hw M q1 q2 => by
      have z := hpw i hi
      have := ((hV _ z.1).2.2 M (d + w) (fun j hj => (q1 j hj).trans (k32 j)) q2 (by omega) (by omega)).2.2 z.2
      rw [← eC]
      exact this) (by rw [← eK3, wi_o (by omega)]; exact k3) h6 ((k32 _).trans d3) u1 ((k32 _).trans u3) (fun q hq => by
        obtain ⟨v, v1, v2, v3⟩ := rSt_pu hs (show q < 6 by omega)
        exact ⟨v, by omega, (k32 _).trans v3⟩) (fun i hi => (k32 _).trans (hpw i hi).2) (fun i hi => by rw [← eK3, wi_o (by omega)]; exact k4 i hi) (ch_h P 12).length 20 0 0 [] none K3 (by omega) (by omega) (by omega) rfl (by simp) (fun x hx => absurd hx (by simp)) ⟨fun _ => rfl, fun _ _ _ _ _ _ _ _ => rfl⟩ (fun t x hx => absurd hx (by simp)) (Or.inl ⟨rfl, by rw [← eK3, wi_s]⟩)
    have t1' : f12_triesRow K3 (nI p) (nI 0) (nI 0) = some K' := t1
    have F3 : f12_cheapest K (nI p) a2 = if (K'.1 0 36) = (1000000000 : Int32) then (some ((-1 : Int32), K')) else (if a2 < (K'.1 0 35) then (if a2 = (-1 : Int32) then (some ((K'.1 0 36), K')) else (cond (ph_ib a2 6) (some ((K'.1 20 a2.toNatClampNeg), K')) none)) else (some ((-1 : Int32), K'))) := by
      rw [F2, k1]
      unfold f12_cheapest_j81
      rw [q_let, q_lit 1000000000, eK3, q_lit 0, t1', q_bd]
    have k35 : K'.1 0 35 = nI (ch_h P 12).length := by
      rw [t2.2 0 35 (by omega) (by omega) (by omega) (by omega) (by omega) (by omega), ← eK3, wi_o (by omega)]; exact k3
    have x6 : M'.1 76 6 = nI (ch_h P 12).length := (s2.1 76 6 (by omega) (by omega) (by omega) (by omega) (by omega)).trans m366
    have rel : Rel RL S M' K' := Rel_fr hRL h (fun c j hc => by
      unfold rXj at hc
      rw [s2.1 c j (by omega) (by omega) (by omega) (by omega) (by omega), m3o c j (by omega) (by omega) (by omega)]) (fun c j _ => by rw [s2.2, m32]) (fun c j hc => by
      unfold rKj at hc
      by_cases e : c = 2
      · subst e; rw [t2.1 j, k32 j]
      · rw [t2.2 c j e (by omega) (by omega) (by omega) (by omega) (by omega), k3o c j (by omega) (by omega)])
    rw [List.foldl_nil] at t4
    rcases s6 with ⟨o1, o2⟩ | ⟨l, rw0, o1, o2, o3, o4, o5⟩
    · rcases t4 with ⟨_, v2⟩ | ⟨_, _, v1, _⟩
      · refine ⟨-nI 1, M', K', ?_, ?_, rel⟩
        · rw [F1, X2, if_pos o2, q_bd, if_pos rfl]; rfl
        · rw [F3, if_pos (show K'.1 0 36 = (1000000000 : Int32) from v2)]; rfl
      · rw [o1] at v1; exact absurd v1 (by simp)
    · rcases t4 with ⟨v1, _⟩ | ⟨l', rw1, v1, v2, v3, v4, v5⟩
      · rw [o1] at v1; exact absurd v1 (by simp)
      · rw [o1] at v1
        injection v1 with v1
        injection v1 with j1 j2
        subst j1 j2
        have X3 : f7_plan S X (nI p) = some ((1 : Int32), M') := by rw [X2, if_neg (by rw [o4, q_eq (by omega) (by omega)]; omega)]
        rw [X3, q_bd, if_neg (show ¬ (1 : Int32) = 0 by decide)] at F1
        rw [if_neg (show ¬ K'.1 0 36 = (1000000000 : Int32) from fun q => by
          rw [v4] at q
          have := (nI_eq (a := l) (b := 1000000000) (by omega) (by omega)).mp q
          omega)] at F3
        generalize (ch_h P 12).length = m at *
        rcases q_rnN a2 5 with rfl | ⟨i, q1, q2, rfl⟩ | ⟨_, q⟩ | ⟨i, q1, q2, rfl⟩
        · refine ⟨nI l, M', K', ?_, ?_, rel⟩
          · rw [F1, if_pos (by decide), o4]
          · rw [F3, k35, if_pos (show -nI 1 < nI m by rw [q_nlt (by omega) (by omega)]; omega), if_pos (by decide), v4]
        · by_cases him : i < m
          · refine ⟨nI ((ch_h P 12).getD (rw0.getD i 0) 0), M', K', ?_, ?_, rel⟩
            · rw [F1, if_neg (show ¬ nI i = (-1 : Int32) from fun q => by
                have := (q_eqn (a := i) (b := 1) (by omega) (by omega)).mp q
                omega)]
              unfold f7_hourAt
              simp (disch := first | assumption | omega) only [q_lit, Int32.neg_neg, nI_add, pk_mul, q_sub, q_addn, q_nadd, q_lt, q_le, q_eq, q_eqn, q_neq, q_nen, q_ltn, q_nlt, q_len, q_nle, q_nltn, q_nlen, q_cl, q_ib, q_ibn, q_isz0, q_isz1, q_iszb, q_b0, q_b1, q_ng1, q_ng2, q_ng3, q_ng4, q_ng5, q_ng6, Bool.toNat_true, Bool.toNat_false, if_pos, if_neg, q_ct, q_cf, q_let, q_bd, q_it, q_if, Nat.zero_add, Nat.add_zero, true_and, and_true, false_and, and_false, or_false, false_or, or_true, true_or, Bool.true_eq_false, Bool.false_eq_true, wi_s, wi_o, wi_r, x6, o5 i him]
            · rw [F3, k35]
              have e20 := v5 i him
              simp (disch := first | assumption | omega) only [q_lit, Int32.neg_neg, nI_add, pk_mul, q_sub, q_addn, q_nadd, q_lt, q_le, q_eq, q_eqn, q_neq, q_nen, q_ltn, q_nlt, q_len, q_nle, q_nltn, q_nlen, q_cl, q_ib, q_ibn, q_isz0, q_isz1, q_iszb, q_b0, q_b1, q_ng1, q_ng2, q_ng3, q_ng4, q_ng5, q_ng6, Bool.toNat_true, Bool.toNat_false, if_pos, if_neg, q_ct, q_cf, q_let, q_bd, q_it, q_if, Nat.zero_add, Nat.add_zero, true_and, and_true, false_and, and_false, or_false, false_or, or_true, true_or, Bool.true_eq_false, Bool.false_eq_true, wi_s, wi_o, wi_r, e20]
          · refine ⟨-nI 1, M', K', ?_, ?_, rel⟩
            · rw [F1]
              unfold f7_hourAt
              simp (disch := first | assumption | omega) only [q_lit, Int32.neg_neg, nI_add, pk_mul, q_sub, q_addn, q_nadd, q_lt, q_le, q_eq, q_eqn, q_neq, q_nen, q_ltn, q_nlt, q_len, q_nle, q_nltn, q_nlen, q_cl, q_ib, q_ibn, q_isz0, q_isz1, q_iszb, q_b0, q_b1, q_ng1, q_ng2, q_ng3, q_ng4, q_ng5, q_ng6, Bool.toNat_true, Bool.toNat_false, if_pos, if_neg, q_ct, q_cf, q_let, q_bd, q_it, q_if, Nat.zero_add, Nat.add_zero, true_and, and_true, false_and, and_false, or_false, false_or, or_true, true_or, Bool.true_eq_false, Bool.false_eq_true, wi_s, wi_o, wi_r, x6]
            · rw [F3, k35]
              simp (disch := first | assumption | omega) only [q_lit, Int32.neg_neg, nI_add, pk_mul, q_sub, q_addn, q_nadd, q_lt, q_le, q_eq, q_eqn, q_neq, q_nen, q_ltn, q_nlt, q_len, q_nle, q_nltn, q_nlen, q_cl, q_ib, q_ibn, q_isz0, q_isz1, q_iszb, q_b0, q_b1, q_ng1, q_ng2, q_ng3, q_ng4, q_ng5, q_ng6, Bool.toNat_true, Bool.toNat_false, if_pos, if_neg, q_ct, q_cf, q_let, q_bd, q_it, q_if, Nat.zero_add, Nat.add_zero, true_and, and_true, false_and, and_false, or_false, false_or, or_true, true_or, Bool.true_eq_false, Bool.false_eq_true, wi_s, wi_o, wi_r]
        · exact absurd q ha2
        · refine ⟨-nI 1, M', K', ?_, ?_, rel⟩
          · rw [F1]
            unfold f7_hourAt
            simp (disch := first | assumption | omega) only [q_lit, Int32.neg_neg, nI_add, pk_mul, q_sub, q_addn, q_nadd, q_lt, q_le, q_eq, q_eqn, q_neq, q_nen, q_ltn, q_nlt, q_len, q_nle, q_nltn, q_nlen, q_cl, q_ib, q_ibn, q_isz0, q_isz1, q_iszb, q_b0, q_b1, q_ng1, q_ng2, q_ng3, q_ng4, q_ng5, q_ng6, Bool.toNat_true, Bool.toNat_false, if_pos, if_neg, q_ct, q_cf, q_let, q_bd, q_it, q_if, Nat.zero_add, Nat.add_zero, true_and, and_true, false_and, and_false, or_false, false_or, or_true, true_or, Bool.true_eq_false, Bool.false_eq_true, wi_s, wi_o, wi_r, x6]
          · rw [F3, k35]
            simp (disch := first | assumption | omega) only [q_lit, Int32.neg_neg, nI_add, pk_mul, q_sub, q_addn, q_nadd, q_lt, q_le, q_eq, q_eqn, q_neq, q_nen, q_ltn, q_nlt, q_len, q_nle, q_nltn, q_nlen, q_cl, q_ib, q_ibn, q_isz0, q_isz1, q_iszb, q_b0, q_b1, q_ng1, q_ng2, q_ng3, q_ng4, q_ng5, q_ng6, Bool.toNat_true, Bool.toNat_false, if_pos, if_neg, q_ct, q_cf, q_let, q_bd, q_it, q_if, Nat.zero_add, Nat.add_zero, true_and, and_true, false_and, and_false, or_false, false_or, or_true, true_or, Bool.true_eq_false, Bool.false_eq_true, wi_s, wi_o, wi_r]
  · have nle : ¬ nI (ch_h P 12).length ≤ (6 : Int32) := fun q => h6 ((nI_leI (a := (ch_h P 12).length) (b := 6) (by omega) (by omega)).mp q)
    rw [if_neg nle] at X0 F2
    refine ⟨-nI 1, Y, K, ?_, F2, Rel_fr hRL h (fun c j hc => by
      unfold rXj at hc
      exact yo c j (by omega)) (fun c j _ => by rw [y2]) (fun _ _ _ => rfl)⟩
    rw [F1, X0, q_bd, if_pos rfl]
    rfl
