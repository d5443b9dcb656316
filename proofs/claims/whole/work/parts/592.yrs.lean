/-! PURE HALF: years -/
theorem q_litL (n : Nat) : (OfNat.ofNat n : Int64) = lN n := of_eq_true (eq_self (lN n))
/-- the next number drawn -/
def q_nx (s : Nat) : Nat := (s * 1103 + 12345) % 1000003
theorem q_nx_lt (s : Nat) : q_nx s < 1000003 := Nat.mod_lt _ (by omega)
theorem x_draw {S : ph_Sh} {X : ph_Mem} {s k : Nat} (hs : s < 1000004) (hk : 0 < k) (hk2 : k < 100) (h : X.2.1 84 4 = lN s) : f10_draw S X (nI k) = some (nI (q_nx s % k), ph_wl X 84 4 (lN (q_nx s))) := by
  have hn := q_nx_lt s
  have e1 : lN (s * 1103 + 12345) - lN (s * 1103 + 12345) / lN 1000003 * lN 1000003 = lN (q_nx s) := pk_lRem (by omega) (by omega) (by omega)
  have e2 : lN (q_nx s) - lN (q_nx s) / lN k * lN k = lN (q_nx s % k) := pk_lRem (by omega) hk (by omega)
  have e3 : ¬ lN k = 0 := fun q => by
    have := (pk_lEQ (a := k) (b := 0) (by omega) (by omega)).mp q
    omega
  have e4 : (1 : Int32) ≤ nI k := (nI_leI (a := 1) (by omega) (by omega)).mpr (by omega)
  unfold f10_draw
  rw [h, q_litL, q_litL, q_litL, q_lmul, q_ladd, e1, q_let, if_pos e4, q_tol (by omega), if_neg e3, wl_s, e2, lN_i]
theorem m_draw {K : ph_Mem} {s k : Nat} (hs : s < 1000004) (hk : 0 < k) (hk2 : k < 100) (h : K.1 0 53 = nI s) : f12_draws K (nI k) = some (nI (q_nx s % k), ph_wi K 0 53 (nI (q_nx s))) := by
  have hn := q_nx_lt s
  have e1 : lN (1103 * s + 12345) - lN (1103 * s + 12345) / lN 1000003 * lN 1000003 = lN (q_nx s) := by
    unfold q_nx
    rw [Nat.mul_comm s]
    exact pk_lRem (by omega) (by omega) (by omega)
  have e3 : ¬ nI k = 0 := fun q => by
    have := (nI_eq (a := k) (b := 0) (by omega) (by omega)).mp q
    omega
  unfold f12_draws
  rw [h, q_tol (by omega), q_litL, q_litL, q_litL, q_lmul, q_ladd, e1, lN_i, q_let, if_neg e3, wi_s, q_rem (by omega) hk (by omega)]
theorem xSc_wl {X : ph_Mem} {v : Int64} : (∀ d j, (ph_wl X 84 4 v).1 d j = X.1 d j) ∧ (ph_wl X 84 4 v).2.2 = X.2.2 := ⟨fun _ _ => rfl, rfl⟩
/-- what holds while years go by on paper -/
def yInv (RL : rLT) (S : ph_Sh) (X0 K0 X K : ph_Mem) (n t s : Nat) : Prop :=
  rSt RL S X 23 (K.1 2) n t ∧ (∃ nx sz, xLg X 61 nx sz) ∧ s < 1000004 ∧ X.2.1 84 4 = lN s ∧ K.1 0 53 = nI s ∧
  (∀ d j, (d < 23 ∨ 35 ≤ d) → d ≠ 6 → (d ≠ 61 ∨ (j ≠ 1 ∧ j ≠ 2)) → d ≠ 62 → X.1 d j = X0.1 d j) ∧ X.2.2 = X0.2.2 ∧
  (∀ d j, d ≠ 12 → (d ≠ 0 ∨ (j ≠ 8 ∧ j ≠ 22 ∧ j ≠ 23 ∧ j ≠ 24 ∧ j ≠ 53)) → (d ≠ 2 ∨ 223 ≤ j) → K.1 d j = K0.1 d j)
theorem yInv_x {RL : rLT} (hRL : rLoc RL) {S : ph_Sh} {X0 K0 X K X' K' : ph_Mem} {n t s : Nat} (h : yInv RL S X0 K0 X K n t s) (hx : xSc X X') (hk : kSc K K') : yInv RL S X0 K0 X' K' n t s := by
  obtain ⟨a1, ⟨nx, sz, b1, b2, b3, b4⟩, a3, a4, a5, a6, a7, a8⟩ := h
  have eg : K'.1 2 = K.1 2 := funext fun j => hk.1 2 j (by omega) (by omega)
  refine ⟨by rw [eg]; exact xSc_st hRL (by omega) a1 hx, ⟨nx, sz, b1, b2, (hx.1 _ _ (by omega)).trans b3, (hx.1 _ _ (by omega)).trans b4⟩, a3, (hx.2.2 _ _ (by omega)).trans a4, (hk.1 _ _ (by omega) (by omega)).trans a5, fun d j q1 q2 q3 q4 => (hx.1 d j q2).trans (a6 d j q1 q2 q3 q4), hx.2.1.trans a7, fun d j q1 q2 q3 => (hk.1 d j q1 (by omega)).trans (a8 d j q1 q2 q3)⟩
theorem yInv_t {RL : rLT} {S : ph_Sh} {X0 K0 X K X' K' : ph_Mem} {n t s nx sz k pl : Nat} (h : yInv RL S X0 K0 X K n t s) (hnx : nx < 16) (hx : xTr X X' 23 61) (he : xEn X X' 61 23 nx sz k pl) (hs : rSt RL S X' 23 (K'.1 2) n t) (hk : ∀ e j, e ≠ 2 → e ≠ 12 → (e ≠ 0 ∨ (j ≠ 8 ∧ j ≠ 22 ∧ j ≠ 23 ∧ j ≠ 24)) → K'.1 e j = K.1 e j) (hg : ∀ j, 223 ≤ j → K'.1 2 j = K.1 2 j) : yInv RL S X0 K0 X' K' n t s := by
  obtain ⟨a1, _, a3, a4, a5, a6, a7, a8⟩ := h
  obtain ⟨M, m1, M1, m2, m3, m4, m5, m6⟩ := he
  refine ⟨hs, ⟨(nx + 1) % 16, min 16 (sz + 1), by omega, by omega, m3.trans m2.1, m4.trans m2.2.1⟩, a3, (hx.2.2.2 _ _ (by omega)).trans a4, (hk _ _ (by omega) (by omega) (by omega)).trans a5, fun d j q1 q2 q3 q4 => ?_, hx.2.1.trans a7, fun d j q1 q2 q3 => ?_⟩
  · rw [← a6 d j q1 q2 q3 q4]
    by_cases e : d = 61
    · subst e; exact hx.2.2.1 j (by omega) (by omega)
    · exact hx.1 d j (by omega) q2 e q4
  · rw [← a8 d j q1 q2 q3]
    by_cases e : d = 2
    · subst e; exact hg j (by omega)
    · exact hk d j e q1 (by omega)
/-- one day's hour: both do the same -/
theorem yr_1 {RL : rLT} (hRL : rLoc RL) (hRul : rRul RL) {S : ph_Sh} (hS : ph_SX S) {X0 K0 X K : ph_Mem} {n t s p h : Nat} (hI : yInv RL S X0 K0 X K n t s) (hp : p < n) (hh : h < 12) : ∃ (b : Bool) (X' K' : ph_Mem), yInv RL S X0 K0 X' K' n t s ∧
    (∀ (rc : Int32 → Int32 → Int32 → Int32 → ph_Mem → Option (Int32 × ph_Mem)) (x4 x5 x7 : Int32), ((f9_holds S X 23 (nI p) (nI h)).bind fun q4 => if q4 = 0 then ((f9_tryRedeem S X 23 (nI p) (nI h) 61).bind fun q5 => f10_live_j93 S 23 61 rc x4 x5 x7 q5.2) else ((f9_tryPawn S X 23 (nI p) (nI h) 61).bind fun q6 => if q6.1 = (-3 : Int32) then (f10_live_j77 S 23 61 rc x4 x7 (0 : Int32) x5 q6.2) else (f10_live_j77 S 23 61 rc x4 x7 (1 : Int32) x5 q6.2))) = f10_live_j93 S 23 61 rc x4 (x5 + nI b.toNat) x7 X') ∧
    (∀ (rc : Int32 → Int32 → Int32 → ph_Mem → Option (Int32 × ph_Mem)) (x2 x3 x4 : Int32), ((f12_canPawn K (nI p) (nI h)).bind fun q11 => if q11.1 = 0 then ((f12_canRedeem q11.2 (nI p) (nI h)).bind fun q12 => if q12.1 = 0 then (f12_years_j133 rc x2 x3 x4 q12.2) else ((f12_redeems q12.2 (nI p) (nI h)).bind fun q13 => f12_years_j133 rc x2 x3 x4 q13.2)) else ((f12_pawns q11.2 (nI p) (nI h)).bind fun q14 => f12_years_j133 rc x2 (x3 + (1 : Int32)) x4 q14.2)) = f12_years_j133 rc x2 (x3 + nI b.toNat) x4 K') := by
  obtain ⟨hs, ⟨nx, sz, hlg⟩, a3, a4, a5, a6, a7, a8⟩ := id hI
  have hn := hs.1.1
  obtain ⟨d, d1, d2, d3⟩ := rSt_day hs
  obtain ⟨st, s1, s2, s3⟩ := rSt_hr hs hp hh
  obtain ⟨u, u1, u2, u3⟩ := rSt_pu hs (show p < 6 by omega)
  obtain ⟨V, v0, vx, vk⟩ := hRul S X 23 (K.1 2) n t p h d hS (Or.inr (Or.inl rfl)) hs hp hh d1 d3
  have v0' := v0 d (Nat.le_refl _) (by omega)
  have vkK := vk K d (fun _ _ => rfl) d3 (Nat.le_refl _) (by omega)
  have x0 : ∀ y : Int32, y + nI 0 = y := fun y => Int32.add_zero y
  obtain ⟨pa, pb⟩ := x_pawn hRL hRul hS (l := 61) (Or.inr (Or.inl rfl)) (by omega) (by omega) hs hp hh d1 d3 hlg V ⟨v0'.1, v0'.2.1⟩ (fun X1 kd q1 q2 q3 q4 => vx X1 kd d q1 q2 q3 q4 (Nat.le_refl _) (by omega))
  obtain ⟨ra, rb⟩ := x_redeem hRL (l := 61) (Or.inr (Or.inl rfl)) (by omega) (by omega) hs hp hh d1 d3 hlg V v0'.2.2 (fun X1 kd q1 q2 q3 q4 => vx X1 kd d q1 q2 q3 q4 (Nat.le_refl _) (by omega)) u3 u1
  obtain ⟨K1, k1, k2⟩ := m_canPawn (show p < 6 by omega) hh s1 s3 v0'.2.1 vkK.2.1
  have c2 : ∀ j, K1.1 2 j = K.1 2 j := fun j => k2.1 2 j (by omega) (by omega)
  have vk1 := vk K1 d (fun j _ => c2 j) ((c2 222).trans d3) (Nat.le_refl _) (by omega)
  have ho := x_holds (S := S) (c := 23) (show p < 6 by omega) hh (s2.trans s3.symm)
  by_cases q0 : st = 0
  · have e0 : hP (K.1 2) p 0 h = true := by unfold hP; rw [s3, q0]; exact decide_eq_true rfl
    by_cases ok : V 2 d = 0
    · rw [decide_eq_true ⟨q0, ok⟩] at k1
      obtain ⟨X', x1, x2, x3, x4⟩ := pb ⟨by rw [s3, q0], ok⟩ u u3 u1
      obtain ⟨K3, n1, n2, n3, n4⟩ := m_pawns (show p < 6 by omega) hh v0'.1 ((c2 222).trans d3) ((c2 _).trans u3) u1 vk1.1
      have eg : ∀ j, K3.1 2 j = gPawn (K.1 2) p (12 * p + h) (V 0 d) d (min 99999 (u + V 0 d)) j := fun j => by
        rw [n2 j]; unfold gPawn; rw [c2 j]
      have v999 := v0'.1
      refine ⟨true, X', K3, yInv_t hI hlg.1 x2 x3 (x4 _ eg) (fun e j q1 q2 q3 => (n3 e j q1 q2 q3).trans (k2.1 e j q2 q3)) (fun j hj => by
        rw [eg j]; unfold gPawn; rw [if_neg (by omega), if_neg (by omega), if_neg (by omega), if_neg (by omega)]), fun rc x4 x5 x7 => ?_, fun rc x2 x3 x4 => ?_⟩
      · unfold f10_live_j77
        simp (disch := first | assumption | omega) only [q_lit, Int32.neg_neg, nI_add, pk_mul, q_sub, q_addn, q_nadd, q_lt, q_le, q_eq, q_eqn, q_neq, q_nen, q_ltn, q_nlt, q_len, q_nle, q_nltn, q_nlen, q_cl, q_ib, q_ibn, q_isz0, q_isz1, q_iszb, q_b0, q_b1, q_ng1, q_ng2, q_ng3, q_ng4, q_ng5, q_ng6, Bool.toNat_true, Bool.toNat_false, if_pos, if_neg, q_ct, q_cf, q_let, q_bd, q_it, q_if, Nat.zero_add, Nat.add_zero, true_and, and_true, false_and, and_false, or_false, false_or, or_true, true_or, Bool.true_eq_false, Bool.false_eq_true, wi_s, wi_o, wi_r, ho, e0, x1]
      · simp (disch := first | assumption | omega) only [q_lit, Int32.neg_neg, nI_add, pk_mul, q_sub, q_addn, q_nadd, q_lt, q_le, q_eq, q_eqn, q_neq, q_nen, q_ltn, q_nlt, q_len, q_nle, q_nltn, q_nlen, q_cl, q_ib, q_ibn, q_isz0, q_isz1, q_iszb, q_b0, q_b1, q_ng1, q_ng2, q_ng3, q_ng4, q_ng5, q_ng6, Bool.toNat_true, Bool.toNat_false, if_pos, if_neg, q_ct, q_cf, q_let, q_bd, q_it, q_if, Nat.zero_add, Nat.add_zero, true_and, and_true, false_and, and_false, or_false, false_or, or_true, true_or, Bool.true_eq_false, Bool.false_eq_true, wi_s, wi_o, wi_r, k1, n1]
    · rw [decide_eq_false (fun z => ok z.2)] at k1
      obtain ⟨X', x1, x2⟩ := pa (fun z => ok z.2)
      obtain ⟨K2, r1, r2⟩ := m_canRed (K := K1) (v := V 1 d) (show p < 6 by omega) hh s1 ((c2 _).trans s3) (fun z => by omega) ((c2 _).trans u3) u1 (fun z => by omega)
      rw [decide_eq_false (fun z => by omega)] at r1
      refine ⟨false, X', K2, yInv_x hRL hI x2 (kSc_t k2 r2), fun rc x4 x5 x7 => ?_, fun rc x2 x3 x4 => ?_⟩
      · unfold f10_live_j77
        simp (disch := first | assumption | omega) only [q_lit, Int32.neg_neg, nI_add, pk_mul, q_sub, q_addn, q_nadd, q_lt, q_le, q_eq, q_eqn, q_neq, q_nen, q_ltn, q_nlt, q_len, q_nle, q_nltn, q_nlen, q_cl, q_ib, q_ibn, q_isz0, q_isz1, q_iszb, q_b0, q_b1, q_ng1, q_ng2, q_ng3, q_ng4, q_ng5, q_ng6, Bool.toNat_true, Bool.toNat_false, if_pos, if_neg, q_ct, q_cf, q_let, q_bd, q_it, q_if, Nat.zero_add, Nat.add_zero, true_and, and_true, false_and, and_false, or_false, false_or, or_true, true_or, Bool.true_eq_false, Bool.false_eq_true, wi_s, wi_o, wi_r, ho, e0, x1, x0]
      · simp (disch := first | assumption | omega) only [q_lit, Int32.neg_neg, nI_add, pk_mul, q_sub, q_addn, q_nadd, q_lt, q_le, q_eq, q_eqn, q_neq, q_nen, q_ltn, q_nlt, q_len, q_nle, q_nltn, q_nlen, q_cl, q_ib, q_ibn, q_isz0, q_isz1, q_iszb, q_b0, q_b1, q_ng1, q_ng2, q_ng3, q_ng4, q_ng5, q_ng6, Bool.toNat_true, Bool.toNat_false, if_pos, if_neg, q_ct, q_cf, q_let, q_bd, q_it, q_if, Nat.zero_add, Nat.add_zero, true_and, and_true, false_and, and_false, or_false, false_or, or_true, true_or, Bool.true_eq_false, Bool.false_eq_true, wi_s, wi_o, wi_r, k1, r1, x0]
  · have e0 : hP (K.1 2) p 0 h = false := by
      unfold hP
      apply decide_eq_false
      rw [s3, q_eq (by omega) (by omega)]
      exact q0
    rw [decide_eq_false (fun z => q0 z.1)] at k1
    have st1 : st = 1 → K.1 2 (12 * p + h) = nI 1 := fun q => by rw [s3, q]
    obtain ⟨K2, r1, r2⟩ := m_canRed (K := K1) (v := V 1 d) (show p < 6 by omega) hh s1 ((c2 _).trans s3) (fun q => v0'.2.2 (st1 q)) ((c2 _).trans u3) u1 (fun q => vk1.2.2 (st1 q))
    by_cases ok : st = 1 ∧ V 1 d ≤ u
    · rw [decide_eq_true ok] at r1
      have hst := st1 ok.1
      obtain ⟨X', x1, x2, x3, x4⟩ := rb ⟨hst, ok.2⟩
      have c3 : ∀ j, K2.1 2 j = K.1 2 j := fun j => (r2.1 2 j (by omega) (by omega)).trans (c2 j)
      have vk2 := vk K2 d (fun j _ => c3 j) ((c3 222).trans d3) (Nat.le_refl _) (by omega)
      obtain ⟨K3, n1, n2, n3, n4⟩ := m_redeems (show p < 6 by omega) hh (v0'.2.2 hst) ok.2 ((c3 _).trans u3) u1 (vk2.2.2 hst)
      have eg : ∀ j, K3.1 2 j = gRed (K.1 2) p (12 * p + h) (u - V 1 d) j := fun j => by
        rw [n2 j]; unfold gRed; rw [c3 j]
      refine ⟨false, X', K3, yInv_t hI hlg.1 x2 x3 (x4 _ eg) (fun e j q1 q2 q3 => ((n3 e j q1 q2 q3).trans (r2.1 e j q2 q3)).trans (k2.1 e j q2 q3)) (fun j hj => by
        rw [eg j]; unfold gRed; rw [if_neg (by omega), if_neg (by omega)]), fun rc x4 x5 x7 => ?_, fun rc x2 x3 x4 => ?_⟩
      · simp (disch := first | assumption | omega) only [q_lit, Int32.neg_neg, nI_add, pk_mul, q_sub, q_addn, q_nadd, q_lt, q_le, q_eq, q_eqn, q_neq, q_nen, q_ltn, q_nlt, q_len, q_nle, q_nltn, q_nlen, q_cl, q_ib, q_ibn, q_isz0, q_isz1, q_iszb, q_b0, q_b1, q_ng1, q_ng2, q_ng3, q_ng4, q_ng5, q_ng6, Bool.toNat_true, Bool.toNat_false, if_pos, if_neg, q_ct, q_cf, q_let, q_bd, q_it, q_if, Nat.zero_add, Nat.add_zero, true_and, and_true, false_and, and_false, or_false, false_or, or_true, true_or, Bool.true_eq_false, Bool.false_eq_true, wi_s, wi_o, wi_r, ho, e0, x1, x0]
      · simp (disch := first | assumption | omega) only [q_lit, Int32.neg_neg, nI_add, pk_mul, q_sub, q_addn, q_nadd, q_lt, q_le, q_eq, q_eqn, q_neq, q_nen, q_ltn, q_nlt, q_len, q_nle, q_nltn, q_nlen, q_cl, q_ib, q_ibn, q_isz0, q_isz1, q_iszb, q_b0, q_b1, q_ng1, q_ng2, q_ng3, q_ng4, q_ng5, q_ng6, Bool.toNat_true, Bool.toNat_false, if_pos, if_neg, q_ct, q_cf, q_let, q_bd, q_it, q_if, Nat.zero_add, Nat.add_zero, true_and, and_true, false_and, and_false, or_false, false_or, or_true, true_or, Bool.true_eq_false, Bool.false_eq_true, wi_s, wi_o, wi_r, k1, r1, n1, x0]
    · rw [decide_eq_false ok] at r1
      obtain ⟨X', x1, x2⟩ := ra (fun q => ok ⟨(nI_eq (by omega) (by omega)).mp (s3.symm.trans q.1), q.2⟩)
      refine ⟨false, X', K2, yInv_x hRL hI x2 (kSc_t k2 r2), fun rc x4 x5 x7 => ?_, fun rc x2 x3 x4 => ?_⟩
      · simp (disch := first | assumption | omega) only [q_lit, Int32.neg_neg, nI_add, pk_mul, q_sub, q_addn, q_nadd, q_lt, q_le, q_eq, q_eqn, q_neq, q_nen, q_ltn, q_nlt, q_len, q_nle, q_nltn, q_nlen, q_cl, q_ib, q_ibn, q_isz0, q_isz1, q_iszb, q_b0, q_b1, q_ng1, q_ng2, q_ng3, q_ng4, q_ng5, q_ng6, Bool.toNat_true, Bool.toNat_false, if_pos, if_neg, q_ct, q_cf, q_let, q_bd, q_it, q_if, Nat.zero_add, Nat.add_zero, true_and, and_true, false_and, and_false, or_false, false_or, or_true, true_or, Bool.true_eq_false, Bool.false_eq_true, wi_s, wi_o, wi_r, ho, e0, x1, x0]
      · simp (disch := first | assumption | omega) only [q_lit, Int32.neg_neg, nI_add, pk_mul, q_sub, q_addn, q_nadd, q_lt, q_le, q_eq, q_eqn, q_neq, q_nen, q_ltn, q_nlt, q_len, q_nle, q_nltn, q_nlen, q_cl, q_ib, q_ibn, q_isz0, q_isz1, q_iszb, q_b0, q_b1, q_ng1, q_ng2, q_ng3, q_ng4, q_ng5, q_ng6, Bool.toNat_true, Bool.toNat_false, if_pos, if_neg, q_ct, q_cf, q_let, q_bd, q_it, q_if, Nat.zero_add, Nat.add_zero, true_and, and_true, false_and, and_false, or_false, false_or, or_true, true_or, Bool.true_eq_false, Bool.false_eq_true, wi_s, wi_o, wi_r, k1, r1, x0]
/-- the years, side by side -/
theorem yr_l {RL : rLT} (hRL : rLoc RL) (hRul : rRul RL) {S : ph_Sh} (hS : ph_SX S) {X0 K0 : ph_Mem} {n t m inc : Nat} (hn0 : 0 < n) (hm : m ≤ 60) (hinc : inc ≤ 99) (hK0 : K0.1 2 471 = nI inc) (h52 : K0.1 0 52 = nI n) : ∀ (r i fx fk a s : Nat) (X K : ph_Mem), i + r = m → r + 1 < fx → r < fk → a ≤ i → yInv RL S X0 K0 X K n t s → ∃ (v s' : Nat) (X' K' : ph_Mem), v ≤ m ∧ f10_live_l15 S 23 61 fx (nI m) (nI a) (nI 1) (nI i) X = f10_live_j116 S 23 61 (nI v) X' ∧ f12_years_l63 fk (nI m) (nI a) (nI i) K = f12_years_j160 (nI v) K' ∧ yInv RL S X0 K0 X' K' n t s'
  | 0, i, fx + 1, fk + 1, a, s, X, K, e, _, _, ha, hI => by
    have : i = m := by omega
    subst this
    refine ⟨a, s, X, K, ha, ?_, ?_, hI⟩
    · unfold f10_live_l15
      simp (disch := first | assumption | omega) only [q_lit, Int32.neg_neg, nI_add, pk_mul, q_sub, q_addn, q_nadd, q_lt, q_le, q_eq, q_eqn, q_neq, q_nen, q_ltn, q_nlt, q_len, q_nle, q_nltn, q_nlen, q_cl, q_ib, q_ibn, q_isz0, q_isz1, q_iszb, q_b0, q_b1, q_ng1, q_ng2, q_ng3, q_ng4, q_ng5, q_ng6, Bool.toNat_true, Bool.toNat_false, if_pos, if_neg, q_ct, q_cf, q_let, q_bd, q_it, q_if, Nat.zero_add, Nat.add_zero, true_and, and_true, false_and, and_false, or_false, false_or, or_true, true_or, Bool.true_eq_false, Bool.false_eq_true, wi_s, wi_o, wi_r]
    · unfold f12_years_l63
      simp (disch := first | assumption | omega) only [q_lit, Int32.neg_neg, nI_add, pk_mul, q_sub, q_addn, q_nadd, q_lt, q_le, q_eq, q_eqn, q_neq, q_nen, q_ltn, q_nlt, q_len, q_nle, q_nltn, q_nlen, q_cl, q_ib, q_ibn, q_isz0, q_isz1, q_iszb, q_b0, q_b1, q_ng1, q_ng2, q_ng3, q_ng4, q_ng5, q_ng6, Bool.toNat_true, Bool.toNat_false, if_pos, if_neg, q_ct, q_cf, q_let, q_bd, q_it, q_if, Nat.zero_add, Nat.add_zero, true_and, and_true, false_and, and_false, or_false, false_or, or_true, true_or, Bool.true_eq_false, Bool.false_eq_true, wi_s, wi_o, wi_r]
  | r + 1, i, fx + 2, fk + 1, a, s, X, K, e, hfx, hfk, ha, hI => by
    obtain ⟨hs, _, a3, a4, a5, a6, a7, a8⟩ := id hI
    have hn := hs.1.1
    have nx1 := q_nx_lt s
    have nx2 := q_nx_lt (q_nx s)
    have x23 : X.1 23 1 = nI n := hs.1.2.2.1
    have k52 : K.1 0 52 = nI n := (a8 0 52 (by omega) (by omega) (by omega)).trans h52
    have d1 := x_draw (S := S) (k := n) a3 hn0 (by omega) a4
    have d2 := x_draw (S := S) (X := ph_wl X 84 4 (lN (q_nx s))) (k := 12) (by omega) (by omega) (by omega) wl_s
    have e1 := m_draw (k := n) a3 hn0 (by omega) a5
    have e2 := m_draw (K := ph_wi K 0 53 (nI (q_nx s))) (k := 12) (by omega) (by omega) (by omega) wi_s
    have hI2 : yInv RL S X0 K0 (ph_wl (ph_wl X 84 4 (lN (q_nx s))) 84 4 (lN (q_nx (q_nx s)))) (ph_wi (ph_wi K 0 53 (nI (q_nx s))) 0 53 (nI (q_nx (q_nx s)))) n t (q_nx (q_nx s)) := by
      obtain ⟨b1, b2, b3, b4, b5, b6, b7, b8⟩ := hI
      refine ⟨?_, b2, by omega, wl_s, wi_s, b6, b7, fun d j q1 q2 q3 => by rw [wi_o (by omega), wi_o (by omega)]; exact b8 d j q1 q2 q3⟩
      have eg : (ph_wi (ph_wi K 0 53 (nI (q_nx s))) 0 53 (nI (q_nx (q_nx s)))).1 2 = K.1 2 := by funext j; rw [wi_o (by omega), wi_o (by omega)]
      rw [eg]
      exact rSt_fr hRL b1 rfl rfl rfl (fun _ _ => rfl) (fun _ _ _ _ _ => rfl) (fun _ _ => rfl) (fun _ _ => rfl) (fun _ _ => rfl) (fun _ _ => rfl) (fun _ _ _ => rfl) (fun _ _ => rfl)
    have hp : q_nx s % n < n := Nat.mod_lt _ hn0
    have hh : q_nx (q_nx s) % 12 < 12 := Nat.mod_lt _ (by omega)
    obtain ⟨b, X1, K1, y1, y2, y3⟩ := yr_1 hRL hRul hS hI2 hp hh
    -- the day
    obtain ⟨hs1, ⟨nx, sz, hlg⟩, _, _, _, _, _, c8⟩ := id y1
    obtain ⟨d, q1, q2, q3⟩ := rSt_day hs1
    have i471 : K1.1 2 471 = nI inc := (c8 2 471 (by omega) (by omega) (by omega)).trans hK0
    obtain ⟨xa, xb⟩ := x_day hRL (S := S) (l := 61) (Or.inr (Or.inl rfl)) (by omega) (by omega) hs1 q1 q3 hinc i471 hlg
    have hb : a + b.toNat ≤ i + 1 := by cases b <;> simp <;> omega
    have z1 : ∀ fx', f10_live_l15 S 23 61 (fx' + 1) (nI m) (nI a) (nI 1) (nI i) X = f10_live_j93 S 23 61 (f10_live_l15 S 23 61 fx') (nI m) (nI (a + b.toNat)) (nI i) X1 := by
      intro fx'
      have := y2 (f10_live_l15 S 23 61 fx') (nI m) (nI a) (nI i)
      rw [nI_add] at this
      rw [← this]
      conv => lhs; unfold f10_live_l15
      rw [x23, q_lit 12]
      rw [if_neg (by rw [q_le (by omega) (by omega)]; omega), if_neg (by decide), d1, q_bd, d2, q_bd]
    have z2 : f12_years_l63 (fk + 1) (nI m) (nI a) (nI i) K = f12_years_j133 (f12_years_l63 fk) (nI m) (nI (a + b.toNat)) (nI i) K1 := by
      have := y3 (f12_years_l63 fk) (nI m) (nI a) (nI i)
      rw [nI_add] at this
      rw [← this]
      conv => lhs; unfold f12_years_l63
      rw [k52, q_lit 12]
      rw [if_neg (by rw [q_le (by omega) (by omega)]; omega), e1, q_bd, e2, q_bd]
    by_cases e999 : d = 999
    · refine ⟨a + b.toNat, q_nx (q_nx s), X1, K1, by omega, ?_, ?_, y1⟩
      · rw [z1 (fx + 1)]
        unfold f10_live_j93 f10_live_j108
        rw [xa e999, q_bd, if_pos (show -nI 3 = (-3 : Int32) from rfl)]
        conv => lhs; unfold f10_live_l15
        by_cases him : m ≤ i + 1
        · simp (disch := first | assumption | omega) only [q_lit, Int32.neg_neg, nI_add, pk_mul, q_sub, q_addn, q_nadd, q_lt, q_le, q_eq, q_eqn, q_neq, q_nen, q_ltn, q_nlt, q_len, q_nle, q_nltn, q_nlen, q_cl, q_ib, q_ibn, q_isz0, q_isz1, q_iszb, q_b0, q_b1, q_ng1, q_ng2, q_ng3, q_ng4, q_ng5, q_ng6, Bool.toNat_true, Bool.toNat_false, if_pos, if_neg, q_ct, q_cf, q_let, q_bd, q_it, q_if, Nat.zero_add, Nat.add_zero, true_and, and_true, false_and, and_false, or_false, false_or, or_true, true_or, Bool.true_eq_false, Bool.false_eq_true, wi_s, wi_o, wi_r]
        · simp (disch := first | assumption | omega) only [q_lit, Int32.neg_neg, nI_add, pk_mul, q_sub, q_addn, q_nadd, q_lt, q_le, q_eq, q_eqn, q_neq, q_nen, q_ltn, q_nlt, q_len, q_nle, q_nltn, q_nlen, q_cl, q_ib, q_ibn, q_isz0, q_isz1, q_iszb, q_b0, q_b1, q_ng1, q_ng2, q_ng3, q_ng4, q_ng5, q_ng6, Bool.toNat_true, Bool.toNat_false, if_pos, if_neg, q_ct, q_cf, q_let, q_bd, q_it, q_if, Nat.zero_add, Nat.add_zero, true_and, and_true, false_and, and_false, or_false, false_or, or_true, true_or, Bool.true_eq_false, Bool.false_eq_true, wi_s, wi_o, wi_r]
      · rw [z2]
        unfold f12_years_j133 f12_years_j147
        rw [e999] at q3
        rw [q3, if_pos (by decide)]
    · obtain ⟨X', x1, x2, x3, x4⟩ := xb (by omega)
      obtain ⟨K3, n1, n2, n3, n4⟩ := m_day (K := K1) hn hinc hs1.1.2.2.2.1 i471 q3 (fun q hq => by
        obtain ⟨u, u1, u2, u3⟩ := rSt_pu hs1 (show q < 6 by omega)
        exact ⟨u, by omega, u3⟩)
      have hI3 : yInv RL S X0 K0 X' K3 n t (q_nx (q_nx s)) := yInv_t y1 hlg.1 x2 x3 (x4 _ n2) (fun e j q1 q2 q3 => n3 e j q1) (fun j hj => by
        rw [n2 j]; unfold gDay; rw [if_neg (by omega), if_neg (by omega)])
      obtain ⟨v, s', X2, K2, w1, w2, w3, w4⟩ := yr_l hRL hRul hS hn0 hm hinc hK0 h52 r (i + 1) (fx + 1) fk (a + b.toNat) (q_nx (q_nx s)) X' K3 (by omega) (by omega) (by omega) hb hI3
      refine ⟨v, s', X2, K2, w1, ?_, ?_, w4⟩
      · rw [z1 (fx + 1), ← w2]
        unfold f10_live_j93 f10_live_j108
        rw [x1]
        simp (disch := first | assumption | omega) only [q_lit, Int32.neg_neg, nI_add, pk_mul, q_sub, q_addn, q_nadd, q_lt, q_le, q_eq, q_eqn, q_neq, q_nen, q_ltn, q_nlt, q_len, q_nle, q_nltn, q_nlen, q_cl, q_ib, q_ibn, q_isz0, q_isz1, q_iszb, q_b0, q_b1, q_ng1, q_ng2, q_ng3, q_ng4, q_ng5, q_ng6, Bool.toNat_true, Bool.toNat_false, if_pos, if_neg, q_ct, q_cf, q_let, q_bd, q_it, q_if, Nat.zero_add, Nat.add_zero, true_and, and_true, false_and, and_false, or_false, false_or, or_true, true_or, Bool.true_eq_false, Bool.false_eq_true, wi_s, wi_o, wi_r]
      · rw [z2, ← w3]
        unfold f12_years_j133
        have ne : ¬ nI d = (999 : Int32) := fun z => e999 ((nI_eq (a := d) (b := 999) (by omega) (by omega)).mp z)
        rw [q3, if_neg ne, n1, q_bd, q_lit, nI_add]
/-- what stands behind them is kept -/
theorem x_kp_l {RL : rLT} (hRL : rLoc RL) {S : ph_Sh} {n t : Nat} {g : Nat → Int32} (X : ph_Mem) (hs : rSt RL S X 23 g n t) : ∀ (r p fuel : Nat) (M : ph_Mem), p + r = n → r < fuel → M.1 84 0 = nI n → (∀ d j, d < 84 ∨ 88 ≤ d → M.1 d j = X.1 d j) → M.2.2 = X.2.2 → (∀ q, q < p → M.1 85 q = X.1 24 q ∧ M.1 86 q = nI (q_kn g q (hP g q 0) 12) ∧ M.1 87 q = nI (q_bs (hP g q 0) 12)) → ∃ M', f10_keep_l10 S 23 fuel (nI p) M = some M' ∧ M'.1 84 0 = nI n ∧ (∀ d j, d < 84 ∨ 88 ≤ d → M'.1 d j = X.1 d j) ∧ M'.2.2 = X.2.2 ∧ (∀ q, q < n → M'.1 85 q = X.1 24 q ∧ M'.1 86 q = nI (q_kn g q (hP g q 0) 12) ∧ M'.1 87 q = nI (q_bs (hP g q 0) 12))
  | 0, p, f + 1, M, e, _, h0, h1, h2, h3 => by
    have hn := hs.1.1
    have : p = n := by omega
    subst this
    refine ⟨M, ?_, h0, h1, h2, h3⟩
    unfold f10_keep_l10
    simp (disch := first | assumption | omega) only [q_lit, Int32.neg_neg, nI_add, pk_mul, q_sub, q_addn, q_nadd, q_lt, q_le, q_eq, q_eqn, q_neq, q_nen, q_ltn, q_nlt, q_len, q_nle, q_nltn, q_nlen, q_cl, q_ib, q_ibn, q_isz0, q_isz1, q_iszb, q_b0, q_b1, q_ng1, q_ng2, q_ng3, q_ng4, q_ng5, q_ng6, Bool.toNat_true, Bool.toNat_false, if_pos, if_neg, q_ct, q_cf, q_let, q_bd, q_it, q_if, Nat.zero_add, Nat.add_zero, true_and, and_true, false_and, and_false, or_false, false_or, or_true, true_or, Bool.true_eq_false, Bool.false_eq_true, wi_s, wi_o, wi_r, h0]
  | r + 1, p, f + 1, M, e, hf, h0, h1, h2, h3 => by
    have hn := hs.1.1
    have st : ∀ M' : ph_Mem, (∀ d j, d < 84 ∨ 88 ≤ d → M'.1 d j = X.1 d j) → M'.2.2 = X.2.2 → rSt RL S M' 23 g n t := fun M' q1 q2 => rSt_fr hRL hs (q1 _ _ (by omega)) (q1 _ _ (by omega)) (q1 _ _ (by omega)) (fun p _ => q1 _ _ (by omega)) (fun d j _ _ _ => q1 _ _ (by omega)) (fun j _ => q1 _ _ (by omega)) (fun j _ => q1 _ _ (by omega)) (fun j _ => q1 _ _ (by omega)) (fun i _ => by rw [q2]) (fun d j _ => q1 _ _ (by omega)) (fun j _ => rfl)
    have e24 : M.1 24 p = X.1 24 p := h1 24 p (by omega)
    have s1 := st (ph_wi M 85 p (X.1 24 p)) (fun d j hd => by simp (disch := first | assumption | omega) only [q_lit, Int32.neg_neg, nI_add, pk_mul, q_sub, q_addn, q_nadd, q_lt, q_le, q_eq, q_eqn, q_neq, q_nen, q_ltn, q_nlt, q_len, q_nle, q_nltn, q_nlen, q_cl, q_ib, q_ibn, q_isz0, q_isz1, q_iszb, q_b0, q_b1, q_ng1, q_ng2, q_ng3, q_ng4, q_ng5, q_ng6, Bool.toNat_true, Bool.toNat_false, if_pos, if_neg, q_ct, q_cf, q_let, q_bd, q_it, q_if, Nat.zero_add, Nat.add_zero, true_and, and_true, false_and, and_false, or_false, false_or, or_true, true_or, Bool.true_eq_false, Bool.false_eq_true, wi_s, wi_o, wi_r]; exact h1 d j hd) h2
    have k1 := x_kn0 (S := S) (rSt_rd s1 (show p < n by omega)) (show p < 6 by omega)
    have s2 := st (ph_wi (ph_wi M 85 p (X.1 24 p)) 86 p (nI (q_kn g p (hP g p 0) 12))) (fun d j hd => by simp (disch := first | assumption | omega) only [q_lit, Int32.neg_neg, nI_add, pk_mul, q_sub, q_addn, q_nadd, q_lt, q_le, q_eq, q_eqn, q_neq, q_nen, q_ltn, q_nlt, q_len, q_nle, q_nltn, q_nlen, q_cl, q_ib, q_ibn, q_isz0, q_isz1, q_iszb, q_b0, q_b1, q_ng1, q_ng2, q_ng3, q_ng4, q_ng5, q_ng6, Bool.toNat_true, Bool.toNat_false, if_pos, if_neg, q_ct, q_cf, q_let, q_bd, q_it, q_if, Nat.zero_add, Nat.add_zero, true_and, and_true, false_and, and_false, or_false, false_or, or_true, true_or, Bool.true_eq_false, Bool.false_eq_true, wi_s, wi_o, wi_r]; exact h1 d j hd) h2
    have k2 := x_hrs (S := S) (s := 0) (show p < 6 by omega) (fun h hh => ((rSt_rd s2 (show p < n by omega)).1 h hh).1)
    obtain ⟨M', y1, y2, y3, y4, y5⟩ := x_kp_l hRL X hs r (p + 1) f (ph_wi (ph_wi (ph_wi M 85 p (X.1 24 p)) 86 p (nI (q_kn g p (hP g p 0) 12))) 87 p (nI (q_bs (hP g p 0) 12))) (by omega) (by omega) (by simp (disch := first | assumption | omega) only [q_lit, Int32.neg_neg, nI_add, pk_mul, q_sub, q_addn, q_nadd, q_lt, q_le, q_eq, q_eqn, q_neq, q_nen, q_ltn, q_nlt, q_len, q_nle, q_nltn, q_nlen, q_cl, q_ib, q_ibn, q_isz0, q_isz1, q_iszb, q_b0, q_b1, q_ng1, q_ng2, q_ng3, q_ng4, q_ng5, q_ng6, Bool.toNat_true, Bool.toNat_false, if_pos, if_neg, q_ct, q_cf, q_let, q_bd, q_it, q_if, Nat.zero_add, Nat.add_zero, true_and, and_true, false_and, and_false, or_false, false_or, or_true, true_or, Bool.true_eq_false, Bool.false_eq_true, wi_s, wi_o, wi_r]; exact h0) (fun d j hd => by simp (disch := first | assumption | omega) only [q_lit, Int32.neg_neg, nI_add, pk_mul, q_sub, q_addn, q_nadd, q_lt, q_le, q_eq, q_eqn, q_neq, q_nen, q_ltn, q_nlt, q_len, q_nle, q_nltn, q_nlen, q_cl, q_ib, q_ibn, q_isz0, q_isz1, q_iszb, q_b0, q_b1, q_ng1, q_ng2, q_ng3, q_ng4, q_ng5, q_ng6, Bool.toNat_true, Bool.toNat_false, if_pos, if_neg, q_ct, q_cf, q_let, q_bd, q_it, q_if, Nat.zero_add, Nat.add_zero, true_and, and_true, false_and, and_false, or_false, false_or, or_true, true_or, Bool.true_eq_false, Bool.false_eq_true, wi_s, wi_o, wi_r]; exact h1 d j hd) h2 (fun q hq => by
      by_cases eq : q = p
      · subst eq; simp (disch := first | assumption | omega) only [q_lit, Int32.neg_neg, nI_add, pk_mul, q_sub, q_addn, q_nadd, q_lt, q_le, q_eq, q_eqn, q_neq, q_nen, q_ltn, q_nlt, q_len, q_nle, q_nltn, q_nlen, q_cl, q_ib, q_ibn, q_isz0, q_isz1, q_iszb, q_b0, q_b1, q_ng1, q_ng2, q_ng3, q_ng4, q_ng5, q_ng6, Bool.toNat_true, Bool.toNat_false, if_pos, if_neg, q_ct, q_cf, q_let, q_bd, q_it, q_if, Nat.zero_add, Nat.add_zero, true_and, and_true, false_and, and_false, or_false, false_or, or_true, true_or, Bool.true_eq_false, Bool.false_eq_true, wi_s, wi_o, wi_r]
      · simp (disch := first | assumption | omega) only [q_lit, Int32.neg_neg, nI_add, pk_mul, q_sub, q_addn, q_nadd, q_lt, q_le, q_eq, q_eqn, q_neq, q_nen, q_ltn, q_nlt, q_len, q_nle, q_nltn, q_nlen, q_cl, q_ib, q_ibn, q_isz0, q_isz1, q_iszb, q_b0, q_b1, q_ng1, q_ng2, q_ng3, q_ng4, q_ng5, q_ng6, Bool.toNat_true, Bool.toNat_false, if_pos, if_neg, q_ct, q_cf, q_let, q_bd, q_it, q_if, Nat.zero_add, Nat.add_zero, true_and, and_true, false_and, and_false, or_false, false_or, or_true, true_or, Bool.true_eq_false, Bool.false_eq_true, wi_s, wi_o, wi_r]; exact h3 q (by omega))
    refine ⟨M', ?_, y2, y3, y4, y5⟩
    unfold f10_keep_l10
    simp (disch := first | assumption | omega) only [q_lit, Int32.neg_neg, nI_add, pk_mul, q_sub, q_addn, q_nadd, q_lt, q_le, q_eq, q_eqn, q_neq, q_nen, q_ltn, q_nlt, q_len, q_nle, q_nltn, q_nlen, q_cl, q_ib, q_ibn, q_isz0, q_isz1, q_iszb, q_b0, q_b1, q_ng1, q_ng2, q_ng3, q_ng4, q_ng5, q_ng6, Bool.toNat_true, Bool.toNat_false, if_pos, if_neg, q_ct, q_cf, q_let, q_bd, q_it, q_if, Nat.zero_add, Nat.add_zero, true_and, and_true, false_and, and_false, or_false, false_or, or_true, true_or, Bool.true_eq_false, Bool.false_eq_true, wi_s, wi_o, wi_r, h0, e24, k1, k2]
    exact y1
theorem m_kp {a n : Nat} (hn : n ≤ 6) (K0 : ph_Mem) (hg : ∀ p, p < n → q_fo (K0.1 2) p) : ∀ (r p fuel : Nat) (K : ph_Mem), p + r = n → r < fuel → K.1 0 52 = nI n → (∀ d j, d ≠ 15 → d ≠ 24 → d ≠ 25 → d ≠ 26 → K.1 d j = K0.1 d j) → (∀ q, q < p → K.1 24 q = K0.1 2 (216 + q) ∧ K.1 25 q = nI (q_kn (K0.1 2) q (hP (K0.1 2) q 0) 12) ∧ K.1 26 q = nI (q_bs (hP (K0.1 2) q 0) 12)) → ∃ K', f12_years_l163 fuel (nI a) (nI p) K = f12_years_j230 (nI a) K' ∧ (∀ d j, d ≠ 15 → d ≠ 24 → d ≠ 25 → d ≠ 26 → K'.1 d j = K0.1 d j) ∧ (∀ q, q < n → K'.1 24 q = K0.1 2 (216 + q) ∧ K'.1 25 q = nI (q_kn (K0.1 2) q (hP (K0.1 2) q 0) 12) ∧ K'.1 26 q = nI (q_bs (hP (K0.1 2) q 0) 12))
  | 0, p, f + 1, K, e, _, h0, h1, h3 => by
    have : p = n := by omega
    subst this
    refine ⟨K, ?_, h1, h3⟩
    unfold f12_years_l163
    simp (disch := first | assumption | omega) only [q_lit, Int32.neg_neg, nI_add, pk_mul, q_sub, q_addn, q_nadd, q_lt, q_le, q_eq, q_eqn, q_neq, q_nen, q_ltn, q_nlt, q_len, q_nle, q_nltn, q_nlen, q_cl, q_ib, q_ibn, q_isz0, q_isz1, q_iszb, q_b0, q_b1, q_ng1, q_ng2, q_ng3, q_ng4, q_ng5, q_ng6, Bool.toNat_true, Bool.toNat_false, if_pos, if_neg, q_ct, q_cf, q_let, q_bd, q_it, q_if, Nat.zero_add, Nat.add_zero, true_and, and_true, false_and, and_false, or_false, false_or, or_true, true_or, Bool.true_eq_false, Bool.false_eq_true, wi_s, wi_o, wi_r, h0]
  | r + 1, p, f + 1, K, e, hf, h0, h1, h3 => by
    have eg : ∀ j, K.1 2 j = K0.1 2 j := fun j => h1 2 j (by omega) (by omega) (by omega) (by omega)
    have eA : (ph_wi K 24 p (K0.1 2 (216 + p))).1 2 = K0.1 2 := by funext j; rw [wi_o (by omega)]; exact eg j
    have eB : (ph_wi (ph_wi K 24 p (K0.1 2 (216 + p))) 26 p (nI (q_bs (hP (K0.1 2) p 0) 12))).1 2 = K0.1 2 := by funext j; rw [wi_o (by omega), wi_o (by omega)]; exact eg j
    have k1 : f12_hoursIn (ph_wi K 24 p (K0.1 2 (216 + p))) (nI p) (nI 0) = some (nI (q_bs (hP (K0.1 2) p 0) 12)) := by rw [m_hrs (by omega), eA]
    obtain ⟨K1, r1, r2, r3, r4⟩ := m_kn0 (p := p) (K := ph_wi (ph_wi K 24 p (K0.1 2 (216 + p))) 26 p (nI (q_bs (hP (K0.1 2) p 0) 12))) (by omega) (by rw [eB]; exact hg p (by omega))
    rw [eB] at r1
    obtain ⟨K', y1, y2, y3⟩ := m_kp (a := a) hn K0 hg r (p + 1) f (ph_wi K1 25 p (nI (q_kn (K0.1 2) p (hP (K0.1 2) p 0) 12))) (by omega) (by omega) (by simp (disch := first | assumption | omega) only [q_lit, Int32.neg_neg, nI_add, pk_mul, q_sub, q_addn, q_nadd, q_lt, q_le, q_eq, q_eqn, q_neq, q_nen, q_ltn, q_nlt, q_len, q_nle, q_nltn, q_nlen, q_cl, q_ib, q_ibn, q_isz0, q_isz1, q_iszb, q_b0, q_b1, q_ng1, q_ng2, q_ng3, q_ng4, q_ng5, q_ng6, Bool.toNat_true, Bool.toNat_false, if_pos, if_neg, q_ct, q_cf, q_let, q_bd, q_it, q_if, Nat.zero_add, Nat.add_zero, true_and, and_true, false_and, and_false, or_false, false_or, or_true, true_or, Bool.true_eq_false, Bool.false_eq_true, wi_s, wi_o, wi_r]; rw [r3 _ _ (by omega)]; simp (disch := first | assumption | omega) only [q_lit, Int32.neg_neg, nI_add, pk_mul, q_sub, q_addn, q_nadd, q_lt, q_le, q_eq, q_eqn, q_neq, q_nen, q_ltn, q_nlt, q_len, q_nle, q_nltn, q_nlen, q_cl, q_ib, q_ibn, q_isz0, q_isz1, q_iszb, q_b0, q_b1, q_ng1, q_ng2, q_ng3, q_ng4, q_ng5, q_ng6, Bool.toNat_true, Bool.toNat_false, if_pos, if_neg, q_ct, q_cf, q_let, q_bd, q_it, q_if, Nat.zero_add, Nat.add_zero, true_and, and_true, false_and, and_false, or_false, false_or, or_true, true_or, Bool.true_eq_false, Bool.false_eq_true, wi_s, wi_o, wi_r]; exact h0) (fun d j q1 q2 q3 q4 => by simp (disch := first | assumption | omega) only [q_lit, Int32.neg_neg, nI_add, pk_mul, q_sub, q_addn, q_nadd, q_lt, q_le, q_eq, q_eqn, q_neq, q_nen, q_ltn, q_nlt, q_len, q_nle, q_nltn, q_nlen, q_cl, q_ib, q_ibn, q_isz0, q_isz1, q_iszb, q_b0, q_b1, q_ng1, q_ng2, q_ng3, q_ng4, q_ng5, q_ng6, Bool.toNat_true, Bool.toNat_false, if_pos, if_neg, q_ct, q_cf, q_let, q_bd, q_it, q_if, Nat.zero_add, Nat.add_zero, true_and, and_true, false_and, and_false, or_false, false_or, or_true, true_or, Bool.true_eq_false, Bool.false_eq_true, wi_s, wi_o, wi_r]; rw [r3 _ _ (by omega)]; simp (disch := first | assumption | omega) only [q_lit, Int32.neg_neg, nI_add, pk_mul, q_sub, q_addn, q_nadd, q_lt, q_le, q_eq, q_eqn, q_neq, q_nen, q_ltn, q_nlt, q_len, q_nle, q_nltn, q_nlen, q_cl, q_ib, q_ibn, q_isz0, q_isz1, q_iszb, q_b0, q_b1, q_ng1, q_ng2, q_ng3, q_ng4, q_ng5, q_ng6, Bool.toNat_true, Bool.toNat_false, if_pos, if_neg, q_ct, q_cf, q_let, q_bd, q_it, q_if, Nat.zero_add, Nat.add_zero, true_and, and_true, false_and, and_false, or_false, false_or, or_true, true_or, Bool.true_eq_false, Bool.false_eq_true, wi_s, wi_o, wi_r]; exact h1 d j q1 q2 q3 q4) (fun q hq => by
      by_cases eq : q = p
      · subst eq
        simp (disch := first | assumption | omega) only [q_lit, Int32.neg_neg, nI_add, pk_mul, q_sub, q_addn, q_nadd, q_lt, q_le, q_eq, q_eqn, q_neq, q_nen, q_ltn, q_nlt, q_len, q_nle, q_nltn, q_nlen, q_cl, q_ib, q_ibn, q_isz0, q_isz1, q_iszb, q_b0, q_b1, q_ng1, q_ng2, q_ng3, q_ng4, q_ng5, q_ng6, Bool.toNat_true, Bool.toNat_false, if_pos, if_neg, q_ct, q_cf, q_let, q_bd, q_it, q_if, Nat.zero_add, Nat.add_zero, true_and, and_true, false_and, and_false, or_false, false_or, or_true, true_or, Bool.true_eq_false, Bool.false_eq_true, wi_s, wi_o, wi_r]
        rw [r3 _ _ (by omega), r3 _ _ (by omega)]
        simp (disch := first | assumption | omega) only [q_lit, Int32.neg_neg, nI_add, pk_mul, q_sub, q_addn, q_nadd, q_lt, q_le, q_eq, q_eqn, q_neq, q_nen, q_ltn, q_nlt, q_len, q_nle, q_nltn, q_nlen, q_cl, q_ib, q_ibn, q_isz0, q_isz1, q_iszb, q_b0, q_b1, q_ng1, q_ng2, q_ng3, q_ng4, q_ng5, q_ng6, Bool.toNat_true, Bool.toNat_false, if_pos, if_neg, q_ct, q_cf, q_let, q_bd, q_it, q_if, Nat.zero_add, Nat.add_zero, true_and, and_true, false_and, and_false, or_false, false_or, or_true, true_or, Bool.true_eq_false, Bool.false_eq_true, wi_s, wi_o, wi_r]
      · simp (disch := first | assumption | omega) only [q_lit, Int32.neg_neg, nI_add, pk_mul, q_sub, q_addn, q_nadd, q_lt, q_le, q_eq, q_eqn, q_neq, q_nen, q_ltn, q_nlt, q_len, q_nle, q_nltn, q_nlen, q_cl, q_ib, q_ibn, q_isz0, q_isz1, q_iszb, q_b0, q_b1, q_ng1, q_ng2, q_ng3, q_ng4, q_ng5, q_ng6, Bool.toNat_true, Bool.toNat_false, if_pos, if_neg, q_ct, q_cf, q_let, q_bd, q_it, q_if, Nat.zero_add, Nat.add_zero, true_and, and_true, false_and, and_false, or_false, false_or, or_true, true_or, Bool.true_eq_false, Bool.false_eq_true, wi_s, wi_o, wi_r]
        rw [r3 _ _ (by omega), r3 _ _ (by omega), r3 _ _ (by omega)]
        simp (disch := first | assumption | omega) only [q_lit, Int32.neg_neg, nI_add, pk_mul, q_sub, q_addn, q_nadd, q_lt, q_le, q_eq, q_eqn, q_neq, q_nen, q_ltn, q_nlt, q_len, q_nle, q_nltn, q_nlen, q_cl, q_ib, q_ibn, q_isz0, q_isz1, q_iszb, q_b0, q_b1, q_ng1, q_ng2, q_ng3, q_ng4, q_ng5, q_ng6, Bool.toNat_true, Bool.toNat_false, if_pos, if_neg, q_ct, q_cf, q_let, q_bd, q_it, q_if, Nat.zero_add, Nat.add_zero, true_and, and_true, false_and, and_false, or_false, false_or, or_true, true_or, Bool.true_eq_false, Bool.false_eq_true, wi_s, wi_o, wi_r]
        exact h3 q (by omega))
    refine ⟨K', ?_, y2, y3⟩
    unfold f12_years_l163
    simp (disch := first | assumption | omega) only [q_lit, Int32.neg_neg, nI_add, pk_mul, q_sub, q_addn, q_nadd, q_lt, q_le, q_eq, q_eqn, q_neq, q_nen, q_ltn, q_nlt, q_len, q_nle, q_nltn, q_nlen, q_cl, q_ib, q_ibn, q_isz0, q_isz1, q_iszb, q_b0, q_b1, q_ng1, q_ng2, q_ng3, q_ng4, q_ng5, q_ng6, Bool.toNat_true, Bool.toNat_false, if_pos, if_neg, q_ct, q_cf, q_let, q_bd, q_it, q_if, Nat.zero_add, Nat.add_zero, true_and, and_true, false_and, and_false, or_false, false_or, or_true, true_or, Bool.true_eq_false, Bool.false_eq_true, wi_s, wi_o, wi_r, h0, eg, k1, r1]
    exact y1
theorem m_as_l {k : Nat} (hk : k < 2) {K : ph_Mem} : ∀ (r i fuel : Nat), i + r = 223 → r < fuel → f12_laysAside_l2 fuel (nI k) (nI i) (ph_cp K 2 0 5 (223 * k) i) = some (ph_cp K 2 0 5 (223 * k) 223)
  | 0, i, f + 1, e, _ => by
    have : i = 223 := by omega
    subst this
    unfold f12_laysAside_l2
    simp (disch := first | assumption | omega) only [q_lit, Int32.neg_neg, nI_add, pk_mul, q_sub, q_addn, q_nadd, q_lt, q_le, q_eq, q_eqn, q_neq, q_nen, q_ltn, q_nlt, q_len, q_nle, q_nltn, q_nlen, q_cl, q_ib, q_ibn, q_isz0, q_isz1, q_iszb, q_b0, q_b1, q_ng1, q_ng2, q_ng3, q_ng4, q_ng5, q_ng6, Bool.toNat_true, Bool.toNat_false, if_pos, if_neg, q_ct, q_cf, q_let, q_bd, q_it, q_if, Nat.zero_add, Nat.add_zero, true_and, and_true, false_and, and_false, or_false, false_or, or_true, true_or, Bool.true_eq_false, Bool.false_eq_true, wi_s, wi_o, wi_r]
  | r + 1, i, f + 1, e, hf => by
    have ih := m_as_l hk (K := K) r (i + 1) f (by omega) (by omega)
    unfold f12_laysAside_l2
    simp (disch := first | assumption | omega) only [q_lit, Int32.neg_neg, nI_add, pk_mul, q_sub, q_addn, q_nadd, q_lt, q_le, q_eq, q_eqn, q_neq, q_nen, q_ltn, q_nlt, q_len, q_nle, q_nltn, q_nlen, q_cl, q_ib, q_ibn, q_isz0, q_isz1, q_iszb, q_b0, q_b1, q_ng1, q_ng2, q_ng3, q_ng4, q_ng5, q_ng6, Bool.toNat_true, Bool.toNat_false, if_pos, if_neg, q_ct, q_cf, q_let, q_bd, q_it, q_if, Nat.zero_add, Nat.add_zero, true_and, and_true, false_and, and_false, or_false, false_or, or_true, true_or, Bool.true_eq_false, Bool.false_eq_true, wi_s, wi_o, wi_r]
    rw [cp_st (by rw [cp_out (by omega), Nat.zero_add])]
    exact ih
theorem m_tb_l {k : Nat} (hk : k < 2) {K : ph_Mem} : ∀ (r i fuel : Nat), i + r = 223 → r < fuel → f12_takesBack_l2 fuel (nI k) (nI i) (ph_cp K 5 (223 * k) 2 0 i) = some (ph_cp K 5 (223 * k) 2 0 223)
  | 0, i, f + 1, e, _ => by
    have : i = 223 := by omega
    subst this
    unfold f12_takesBack_l2
    simp (disch := first | assumption | omega) only [q_lit, Int32.neg_neg, nI_add, pk_mul, q_sub, q_addn, q_nadd, q_lt, q_le, q_eq, q_eqn, q_neq, q_nen, q_ltn, q_nlt, q_len, q_nle, q_nltn, q_nlen, q_cl, q_ib, q_ibn, q_isz0, q_isz1, q_iszb, q_b0, q_b1, q_ng1, q_ng2, q_ng3, q_ng4, q_ng5, q_ng6, Bool.toNat_true, Bool.toNat_false, if_pos, if_neg, q_ct, q_cf, q_let, q_bd, q_it, q_if, Nat.zero_add, Nat.add_zero, true_and, and_true, false_and, and_false, or_false, false_or, or_true, true_or, Bool.true_eq_false, Bool.false_eq_true, wi_s, wi_o, wi_r]
  | r + 1, i, f + 1, e, hf => by
    have ih := m_tb_l hk (K := K) r (i + 1) f (by omega) (by omega)
    unfold f12_takesBack_l2
    simp (disch := first | assumption | omega) only [q_lit, Int32.neg_neg, nI_add, pk_mul, q_sub, q_addn, q_nadd, q_lt, q_le, q_eq, q_eqn, q_neq, q_nen, q_ltn, q_nlt, q_len, q_nle, q_nltn, q_nlen, q_cl, q_ib, q_ibn, q_isz0, q_isz1, q_iszb, q_b0, q_b1, q_ng1, q_ng2, q_ng3, q_ng4, q_ng5, q_ng6, Bool.toNat_true, Bool.toNat_false, if_pos, if_neg, q_ct, q_cf, q_let, q_bd, q_it, q_if, Nat.zero_add, Nat.add_zero, true_and, and_true, false_and, and_false, or_false, false_or, or_true, true_or, Bool.true_eq_false, Bool.false_eq_true, wi_s, wi_o, wi_r]
    have := cp_st (M := K) (s := 5) (sp := 223 * k) (d := 2) (dp := 0) (n := i) (v := (ph_cp K 5 (223 * k) 2 0 i).1 5 (223 * k + i)) (by rw [cp_out (by omega)])
    rw [Nat.zero_add] at this
    rw [this]
    exact ih
theorem m_aside {K : ph_Mem} {k : Nat} (hk : k < 2) : f12_laysAside K (nI k) = some (ph_cp K 2 0 5 (223 * k) 223) := by
  have := m_as_l hk (K := K) 223 0 10000 (by omega) (by omega)
  rw [cp_0] at this
  exact this
theorem m_tback {K : ph_Mem} {k : Nat} (hk : k < 2) : f12_takesBack K (nI k) = some (ph_cp K 5 (223 * k) 2 0 223) := by
  have := m_tb_l hk (K := K) 223 0 10000 (by omega) (by omega)
  rw [cp_0] at this
  exact this
