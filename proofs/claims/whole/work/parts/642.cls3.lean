/-! PURE HALF: the law's module: both read a clause (2) -/
section RD
variable {o : Bool} {S : ph_Sh} {bs cd vl pl : Nat → Nat} {T m : Nat} {M0 K0 M K : ph_Mem} {k lv dp cl : Nat}
def rdC (o : Bool) (cd vl : Nat → Nat) (T : Nat) (M0 K0 M : ph_Mem) (k cl n : Nat) (x y : Option ph_Mem) : Prop := ∃ M' K', x = some M' ∧ y = some K' ∧ (rFa T M0 K0 M' K' ∨ ∃ k' lv' cl' c, rOK T M0 K0 M' K' k' lv' 0 cl' ∧ lv' ≤ 50 ∧ k < k' ∧ cl ≤ cl' ∧ M'.1 63 11 = nI (n + 1) ∧ (∀ j, j < cl → M'.1 69 j = M.1 69 j) ∧ (∀ j, j < 6 * n → M'.1 68 j = M.1 68 j) ∧ cCl o (M'.1 68) (M'.1 69) cl' n c ∧ mCl o cd vl T k k' c)
/-- a clause's rest, put together -/
theorem rd_fin (hE : tkE o bs cd vl pl T m M0 K0) {MM N KN : ph_Mem} {k1 cl1 kd n a0 a1 : Nat} {F1 F2 : lwS} {ex ey : Option ph_Mem} (hn : n < 12) (h : rOK T M0 K0 N KN k1 lv 0 cl1) (hl : lv ≤ 50) (hk : k < k1) (hcl : cl ≤ cl1) (h11 : N.1 63 11 = nI (n + 1)) (h69 : ∀ j, j < cl → N.1 69 j = MM.1 69 j) (h68 : ∀ j, j < 6 * n → N.1 68 j = MM.1 68 j) (e0 : N.1 68 (6 * n) = nI kd) (e1 : N.1 68 (6 * n + 1) = nI 1) (e2 : N.1 68 (6 * n + 2) = nI a0) (e3 : N.1 68 (6 * n + 3) = nI a1) (hkd : kd < 3) (hck : cd k = hdc o kd) (hF1 : kd ≠ 2 → a1 ≤ cl1 ∧ lwK o (N.1 69) a0 a1 20 F1) (hF2 : o = true → kd ≠ 2 → lwK o (N.1 69) a1 cl1 20 F2) (m1 : kd = 2 → k1 = k + 1) (m2 : kd ≠ 2 → o = false → mS o cd vl T f12_sumOf (k + 1) k1 F1) (m3 : kd ≠ 2 → o = true → ∃ e0, mS o cd vl T f12_sumOf (k + 1) e0 F1 ∧ mS o cd vl T f12_sumOf (e0 + 1) k1 F2) (x1 : ex = f6_readClause_j138 S (nI (6 * n)) N) (y1 : ey = mrest o KN) : rdC o cd vl T M0 K0 MM k cl n ex ey := by
  obtain ⟨M', K', r1, r2, r3⟩ := rd_rest (S := S) hE h hl hn e1
  refine ⟨M', K', x1.trans r1, y1.trans r2, r3.imp id ?_⟩
  intro ⟨k', lv', cl', tm, e2', ts, z1, z2, z3, z4, z5, z6, z7, z8, z9, z10, z11, z12, z13, z14, z15, z16⟩
  have k'T := z1.2.1.1
  refine ⟨k', lv', cl', (kd, tm, F1, F2, ts), z1, z2, by omega, by omega, z12.trans h11, fun j hj => (z6 j (by omega)).trans (h69 j hj), fun j hj => (z7 j (by omega) (by omega) (by omega)).trans (h68 j hj), ⟨⟨hkd, (z7 _ (by omega) (by omega) (by omega)).trans e0⟩, ⟨z9, z8⟩, a0, a1, cl1, cl', ⟨z5, Nat.le_refl _⟩, ⟨(z7 _ (by omega) (by omega) (by omega)).trans e2, (z7 _ (by omega) (by omega) (by omega)).trans e3, z10, z11⟩, fun q => ⟨by have := (hF1 q).1; omega, lwK_cg (hF1 q).2 (fun j _ hj => z6 j (by have := (hF1 q).1; omega))⟩, fun q1 q2 => lwK_cg (hF2 q1 q2) (fun j _ hj => z6 j hj), fun q => (z15 q).1, fun t q => (z16 t q).2.1⟩, ⟨⟨by omega, k'T⟩, hck, k1, e2', z4, m1, m2, m3, z13, z14, fun q => ⟨(z15 q).2.1, (z15 q).2.2⟩, fun t q => ⟨(z16 t q).1, (z16 t q).2.2⟩⟩⟩
theorem rd_clause (hE : tkE o bs cd vl pl T m M0 K0) (h : rOK T M0 K0 M K k lv 0 cl) (hl : lv ≤ 50) {n : Nat} (hn : n < 12) (h11 : M.1 63 11 = nI n) : rdC o cd vl T M0 K0 M k cl n (f6_readClause S M) (f12_readOne K) := by
  have hT : T ≤ 400 := by have := hE.1; omega
  have hclk := h.2.1.2.1
  have k10 : K.1 0 10 = nI o.toNat := (h.1.2.1 0 10 (by omega)).trans hE.2.2.1.2.1
  have hk := rd_kind (S := S) hE h
  have X0 : f6_readClause S M = f6_readClause_j17 S (if cd k = hdc o 0 then nI 0 else if cd k = hdc o 1 then nI 1 else if cd k = hdc o 2 then nI 2 else -nI 1) M := by
    unfold f6_readClause
    simp only [q_lit]
    rw [h11, if_neg (by rw [q_le (by omega) (by omega)]; omega), hk, q_bd]
  have tk := fun x (hx : x < 400) => rd_take hE h (x := x) hx
  -- the model's choice
  have Y0 : f12_readOne K = (f12_takes0 K (nI (hdc o 0))).bind fun q1 => if q1.1 = nI 0 then ((f12_takes0 q1.2 (nI (hdc o 1))).bind fun q2 => if q2.1 = nI 0 then ((f12_must q2.2 (nI (hdc o 2))).bind fun q3 => mrest o q3) else (if o = true then f12_readOrder_j18 q2.2 else f12_readClause_j16 q2.2)) else (if o = true then f12_readOrder_j18 q1.2 else f12_readClause_j16 q1.2) := by
    unfold f12_readOne
    rw [k10]
    cases o
    · rw [if_pos (by first | rfl | trivial | decide)]
      show (f12_readClause K).bind _ = _
      have e : ∀ x : Option ph_Mem, (x.bind fun q1 => some q1) = x := fun x => by cases x <;> rfl
      rw [e]
      unfold f12_readClause mrest
      simp only [q_lit]
      rfl
    · rw [if_neg (by first | decide | exact fun q => absurd (show nI 1 = nI 0 from q) (by decide))]
      have e : ∀ x : Option ph_Mem, (x.bind fun q1 => some q1) = x := fun x => by cases x <;> rfl
      rw [e]
      unfold f12_readOrder mrest
      simp only [q_lit]
      rfl
  have hd4 : ∀ i, hdc o i < 400 := fun i => by
    unfold hdc
    (repeat' split) <;> omega
  have hdn : hdc o 0 ≠ hdc o 1 ∧ hdc o 0 ≠ hdc o 2 ∧ hdc o 1 ≠ hdc o 2 ∧ hdc o 0 ≠ 0 ∧ hdc o 1 ≠ 0 ∧ hdc o 2 ≠ 0 := by cases o <;> decide
  by_cases hkd : cd k = hdc o 0 ∨ cd k = hdc o 1 ∨ cd k = hdc o 2
  · obtain ⟨kd, kd3, ckd, xk⟩ : ∃ kd, kd < 3 ∧ cd k = hdc o kd ∧ f6_readClause S M = f6_readClause_j17 S (nI kd) M := by
      rcases hkd with q | q | q
      · exact ⟨0, by omega, q, by rw [X0, if_pos q]⟩
      · exact ⟨1, by omega, q, by rw [X0, if_neg (by omega), if_pos q]⟩
      · exact ⟨2, by omega, q, by rw [X0, if_neg (by omega), if_neg (by omega), if_pos q]⟩
    have kt := rd_lt hE h (by have := hdn; rcases hkd with q | q | q <;> omega)
    have hnx := rd_next h kt
    -- the class's head
    generalize eN : ph_wi (ph_wi (ph_wi (ph_wi (ph_wi M 63 8 (nI (k + 1))) 63 11 (nI (n + 1))) 68 (6 * n) (nI kd)) 68 (6 * n + 1) (nI 1)) 68 (6 * n + 2) (nI cl) = N
    have oN : ∀ c j, c ≠ 68 → (c ≠ 63 ∨ j ≠ 11) → N.1 c j = (ph_wi M 63 8 (nI (k + 1))).1 c j := fun c j q1 q2 => by rw [← eN, wi_o (by omega), wi_o (by omega), wi_o (by omega), wi_o (by omega)]
    have hN : rOK T M0 K0 N (ph_wi K 0 19 (nI (k + 1))) (k + 1) lv 0 cl := rOK_68 hnx oN (by rw [← eN]; rfl)
    have N11 : N.1 63 11 = nI (n + 1) := by rw [← eN, wi_o (by omega), wi_o (by omega), wi_o (by omega), wi_s]
    have N69 : ∀ j, N.1 69 j = M.1 69 j := fun j => by rw [oN 69 j (by omega) (by omega), wi_o (by omega)]
    have N68 : ∀ j, j < 6 * n → N.1 68 j = M.1 68 j := fun j hj => by rw [← eN, wi_o (by omega), wi_o (by omega), wi_o (by omega), wi_o (by omega), wi_o (by omega)]
    have Na : N.1 68 (6 * n) = nI kd := by rw [← eN, wi_o (by omega), wi_o (by omega), wi_s]
    have Nb : N.1 68 (6 * n + 1) = nI 1 := by rw [← eN, wi_o (by omega), wi_s]
    have Nc : N.1 68 (6 * n + 2) = nI cl := by rw [← eN, wi_s]
    have X1 : f6_readClause S M = if kd = 2 then f6_readClause_j111 S (nI (6 * n)) (nI 0) N else ((f6_readSum S N).bind fun q9 => f6_readClause_j111 S (nI (6 * n)) (nI 1) q9) := by
      have j96 : ∀ x : Nat, x ≤ 1 → ∀ P : ph_Mem, P.1 63 14 = nI cl → f6_readClause_j96 S (nI (6 * n)) (nI x) P = if x = 0 then f6_readClause_j111 S (nI (6 * n)) (nI 0) (ph_wi P 68 (6 * n + 2) (nI cl)) else ((f6_readSum S (ph_wi P 68 (6 * n + 2) (nI cl))).bind fun q9 => f6_readClause_j111 S (nI (6 * n)) (nI 1) q9) := by
        intro x hx P hP
        unfold f6_readClause_j96
        simp only [q_lit]
        rw [x_sp8 (by omega), q_bd, hP]
        have hc : x = 0 ∨ x = 1 := by omega
        rcases hc with rfl | rfl
        · rw [if_pos (by first | rfl | trivial | decide), if_pos rfl]
        · rw [if_neg (by first | decide | exact fun q => absurd (show nI 1 = nI 0 from q) (by decide)), if_neg (by omega)]
      have P14 : (ph_wi (ph_wi (ph_wi (ph_wi M 63 8 (nI (k + 1))) 63 11 (nI (n + 1))) 68 (6 * n) (nI kd)) 68 (6 * n + 1) (nI 1)).1 63 14 = nI cl := by rw [wi_o (by omega), wi_o (by omega), wi_o (by omega), wi_o (by omega)]; exact h.2.2.2.2.2.2
      have z11 : (ph_wi M 63 8 (nI (k + 1))).1 63 11 = nI n := by rw [wi_o (by omega)]; exact h11
      rw [xk]
      unfold f6_readClause_j17
      simp only [q_lit]
      rw [if_neg (by rw [q_eqn (by omega) (by omega)]; omega), rd_adv hE h kt, q_bd, q_let, z11, pk_mul, nI_add, q_let, Nat.mul_comm n 6, q_ib (by omega) (show 6 * n < 72 by omega), q_ct, q_let, nI_add, q_ib (by omega) (show 6 * n + 1 < 72 by omega), q_ct, q_let, q_cl (by omega), q_cl (by omega), j96 0 (by omega) _ P14, j96 1 (by omega) _ P14, eN]
      by_cases q2 : kd = 2
      · rw [if_pos (show nI kd = nI 2 by rw [q2]), if_pos q2, ite_self]; rfl
      · rw [if_neg (show ¬ nI kd = nI 2 by rw [q_eq (by omega) (by omega)]; exact q2), if_neg q2, ite_self]; rfl
    have j111 : ∀ (x c1 : Nat) (P : ph_Mem), P.1 63 14 = nI c1 → P.1 63 3 = nI o.toNat → x ≤ 1 → f6_readClause_j111 S (nI (6 * n)) (nI x) P = if x = 0 ∨ o = false then f6_readClause_j138 S (nI (6 * n)) (ph_wi P 68 (6 * n + 3) (nI c1)) else ((f6_expect S (ph_wi P 68 (6 * n + 3) (nI c1)) 28).bind fun q11 => (f6_readSum S q11).bind fun q12 => f6_readClause_j138 S (nI (6 * n)) q12) := by
      intro x c1 P h1 h2 hx
      have w3 : (ph_wi P 68 (6 * n + 3) (nI c1)).1 63 3 = nI o.toNat := by rw [wi_o (by omega)]; exact h2
      unfold f6_readClause_j111
      simp only [q_lit]
      rw [x_sp8 (by omega), q_bd, h1, show 6 * n + 2 + 1 = 6 * n + 3 by omega, w3]
      have hc : x = 0 ∨ x = 1 := by omega
      rcases hc with rfl | rfl
      · rw [if_pos (by first | rfl | trivial | decide), if_pos (Or.inl rfl)]
      · rw [if_neg (by first | decide | exact fun q => absurd (show nI 1 = nI 0 from q) (by decide))]
        cases o
        · rw [if_pos (by first | rfl | trivial | decide), if_pos (Or.inr rfl)]
        · rw [if_neg (by first | decide | exact fun q => absurd (show nI 1 = nI 0 from q) (by decide)), if_neg (by simp)]
    have N3 : N.1 63 3 = nI o.toNat := (hN.1.1.1 63 3 (by omega) (by omega) (by omega)).trans hE.2.2.1.1
    by_cases kd2 : kd = 2
    · -- no sums
      have Y1 : f12_readOne K = mrest o (ph_wi K 0 19 (nI (k + 1))) := by
        rw [Y0, tk _ (hd4 0), if_neg (by rw [ckd, kd2]; exact fun q => hdn.2.1 q.symm), q_bd, if_pos (by first | rfl | trivial | decide), tk _ (hd4 1), if_neg (by rw [ckd, kd2]; exact fun q => hdn.2.2.1 q.symm), q_bd, if_pos (by first | rfl | trivial | decide)]
        unfold f12_must
        rw [tk _ (hd4 2), if_pos (by rw [ckd, kd2]), q_bd, if_neg (by first | decide | exact fun q => absurd (show nI 1 = nI 0 from q) (by decide)), q_bd]
      have X2 : f6_readClause S M = f6_readClause_j138 S (nI (6 * n)) (ph_wi N 68 (6 * n + 3) (nI cl)) := by
        rw [X1, if_pos kd2, j111 0 cl N hN.2.2.2.2.2.2 N3 (by omega), if_pos (Or.inl rfl)]
      exact rd_fin (F1 := fun _ => none) (F2 := fun _ => none) (a0 := cl) (a1 := cl) (k := k) hE hn (rOK_68 hN (fun c j q1 q2 => wi_o (by omega)) rfl) hl (by omega) (Nat.le_refl _) (by rw [wi_o (by omega)]; exact N11) (fun j _ => by rw [wi_o (by omega)]; exact N69 j) (fun j hj => by rw [wi_o (by omega)]; exact N68 j hj) (by rw [wi_o (by omega)]; exact Na) (by rw [wi_o (by omega)]; exact Nb) (by rw [wi_o (by omega)]; exact Nc) wi_s kd3 ckd (fun q => absurd kd2 q) (fun _ q => absurd kd2 q) (fun _ => rfl) (fun q => absurd kd2 q) (fun q => absurd kd2 q) X2 Y1
    · have Y1 : f12_readOne K = if o = true then f12_readOrder_j18 (ph_wi K 0 19 (nI (k + 1))) else f12_readClause_j16 (ph_wi K 0 19 (nI (k + 1))) := by
        rw [Y0, tk _ (hd4 0)]
        by_cases q0 : kd = 0
        · rw [if_pos (by rw [ckd, q0]), q_bd, if_neg (by first | decide | exact fun q => absurd (show nI 1 = nI 0 from q) (by decide))]
        · have q1 : kd = 1 := by omega
          rw [if_neg (by rw [ckd, q1]; exact fun q => hdn.1 q.symm), q_bd, if_pos (by first | rfl | trivial | decide), tk _ (hd4 1), if_pos (by rw [ckd, q1]), q_bd, if_neg (by first | decide | exact fun q => absurd (show nI 1 = nI 0 from q) (by decide))]
      rw [if_neg kd2] at X1
      obtain ⟨M2, K2, r1, r2, r3, r4⟩ := rd_sum (S := S) hE 8 0 20 20 (by omega) (by omega) (by omega) (by omega) _ _ _ _ _ hN hl
      have r1' : f6_readSum S N = some M2 := r1
      have r2' : f12_readSum (ph_wi K 0 19 (nI (k + 1))) (nI 0) = some K2 := r2
      rw [r1', q_bd] at X1
      have Y2 : f12_readOne K = if o = true then ((f12_must K2 (nI 24)).bind fun q9 => (f12_readSum q9 (nI 0)).bind fun q10 => mrest true q10) else mrest false K2 := by
        rw [Y1]
        cases o
        · show f12_readClause_j16 _ = _
          unfold f12_readClause_j16
          simp only [q_lit]
          rw [r2', q_bd]
          rfl
        · show f12_readOrder_j18 _ = _
          unfold f12_readOrder_j18
          simp only [q_lit]
          rw [r2', q_bd]
          rfl
      rcases r4 with r4 | ⟨k1, lv1, cl1, F1, z1, z2, z3, z4, z5, z6, z7, z8⟩
      · have hB := rFa_B hE r4
        obtain ⟨_, p, _, _, y1, y2, _, _⟩ := id r4
        obtain ⟨M', x1, x2, x3⟩ := xf_111 (S := S) hT hB hn (nI 1)
        refine ⟨M', K2, X1.trans x1, ?_, Or.inl (rFa_68 r4 x3.1 x3.2 x2)⟩
        rw [Y2]
        cases o
        · exact kf_rest (o := false) y1.1 y2.2
        · have ks : f12_readSum K2 (nI 0) = some K2 := (kf_sum (rs := f12_readSum_n 19) y1.1 y2.2).2
          rw [if_pos (by first | rfl | trivial | decide), kf_must y1.1 y2.2, q_bd, ks, q_bd, kf_rest y1.1 y2.2]
      · -- behind the first sum
        have m3' : M2.1 63 3 = nI o.toNat := (z1.1.1.1 63 3 (by omega) (by omega) (by omega)).trans hE.2.2.1.1
        have z9 : rOK T M0 K0 (ph_wi M2 68 (6 * n + 3) (nI cl1)) K2 k1 lv1 0 cl1 := rOK_68 z1 (fun c j q1 q2 => wi_o (by omega)) rfl
        have o68 : ∀ j, j ≠ 6 * n + 3 → (ph_wi M2 68 (6 * n + 3) (nI cl1)).1 68 j = N.1 68 j := fun j q => by rw [wi_o (by omega)]; exact r3.1 68 j (by omega) (by omega)
        have o69 : ∀ j, j < cl → (ph_wi M2 68 (6 * n + 3) (nI cl1)).1 69 j = M.1 69 j := fun j hj => by rw [wi_o (by omega), z6 j hj]; exact N69 j
        have o11 : (ph_wi M2 68 (6 * n + 3) (nI cl1)).1 63 11 = nI (n + 1) := by rw [wi_o (by omega), r3.1 63 11 (by omega) (by omega)]; exact N11
        have k7 : lwK o ((ph_wi M2 68 (6 * n + 3) (nI cl1)).1 69) cl cl1 20 F1 := lwK_nd (lwK_cg z7 (fun j _ _ => wi_o (by omega))) (by omega)
        have s683 : (ph_wi M2 68 (6 * n + 3) (nI cl1)).1 68 (6 * n + 3) = nI cl1 := wi_s
        rw [j111 1 cl1 M2 z1.2.2.2.2.2.2 m3' (by omega)] at X1
        generalize ph_wi M2 68 (6 * n + 3) (nI cl1) = P at *
        cases o
        · rw [if_pos (Or.inr rfl)] at X1
          exact rd_fin (F1 := F1) (F2 := fun _ => none) (a0 := cl) (a1 := cl1) (k := k) hE hn z9 z2 (by omega) (by omega) o11 o69 (fun j hj => (o68 j (by omega)).trans (N68 j hj)) ((o68 _ (by omega)).trans Na) ((o68 _ (by omega)).trans Nb) ((o68 _ (by omega)).trans Nc) s683 kd3 ckd (fun _ => ⟨Nat.le_refl _, k7⟩) (fun q => nomatch q) (fun q => absurd q kd2) (fun _ _ => z8 20 (by omega)) (fun _ q => nomatch q) X1 Y2
        · rw [if_neg (by simp)] at X1
          have s28 : f6_says S P 28 = some (nI (decide (cd k1 = 24)).toNat) := rd_says hE z9 (by omega)
          have t24 := rd_take hE z9 (x := 24) (by omega)
          rw [if_pos (by first | rfl | trivial | decide)] at Y2
          by_cases c24 : cd k1 = 24
          · have k1t := rd_lt hE z9 (by omega)
            have hn2 := rd_next z9 k1t
            have ex : f6_expect S P 28 = some (ph_wi P 63 8 (nI (k1 + 1))) := by
              unfold f6_expect
              rw [s28, q_bd, decide_eq_true c24, if_neg (by first | decide | exact fun q => absurd (show nI 1 = nI 0 from q) (by decide)), rd_adv hE z9 k1t, q_bd]
            have ey : f12_must K2 (nI 24) = some (ph_wi K2 0 19 (nI (k1 + 1))) := by
              unfold f12_must
              rw [t24, if_pos c24, q_bd, if_neg (by first | decide | exact fun q => absurd (show nI 1 = nI 0 from q) (by decide))]
            rw [ex, q_bd] at X1
            rw [ey, q_bd] at Y2
            obtain ⟨M4, K4, v1, v2, v3, v4⟩ := rd_sum (S := S) hE 8 0 20 20 (by omega) (by omega) (by omega) (by omega) _ _ _ _ _ hn2 z2
            have v1' : f6_readSum S (ph_wi P 63 8 (nI (k1 + 1))) = some M4 := v1
            have v2' : f12_readSum (ph_wi K2 0 19 (nI (k1 + 1))) (nI 0) = some K4 := v2
            rw [v1', q_bd] at X1
            rw [v2', q_bd] at Y2
            rcases v4 with v4 | ⟨k2, lv2, cl2, F2, w1, w2, w3, w4, w5, w6, w7, w8⟩
            · have hB := rFa_B hE v4
              obtain ⟨_, p, _, _, y1, y2, _, _⟩ := id v4
              obtain ⟨M', x1, x2, x3⟩ := xf_138 (S := S) hT hB hn
              exact ⟨M', K4, X1.trans x1, Y2.trans (kf_rest y1.1 y2.2), Or.inl (rFa_68 v4 x3.1 x3.2 x2)⟩
            · have p68 : ∀ j, M4.1 68 j = P.1 68 j := fun j => by rw [v3.1 68 j (by omega) (by omega), wi_o (by omega)]
              have p69 : ∀ j, j < cl1 → M4.1 69 j = P.1 69 j := fun j hj => by rw [w6 j hj, wi_o (by omega)]
              exact rd_fin (F1 := F1) (F2 := F2) (a0 := cl) (a1 := cl1) (k := k) hE hn w1 w2 (by omega) (by omega) (by rw [v3.1 63 11 (by omega) (by omega), wi_o (by omega)]; exact o11) (fun j hj => (p69 j (by omega)).trans (o69 j hj)) (fun j hj => (p68 j).trans ((o68 j (by omega)).trans (N68 j hj))) ((p68 _).trans ((o68 _ (by omega)).trans Na)) ((p68 _).trans ((o68 _ (by omega)).trans Nb)) ((p68 _).trans ((o68 _ (by omega)).trans Nc)) ((p68 _).trans s683) kd3 ckd (fun _ => ⟨by omega, lwK_cg k7 (fun j _ hj => p69 j hj)⟩) (fun _ _ => lwK_nd w7 (by omega)) (fun q => absurd q kd2) (fun _ q => nomatch q) (fun _ _ => ⟨k1, z8 20 (by omega), w8 20 (by omega)⟩) X1 Y2
          · obtain ⟨fl1, fl2, fl3⟩ := rd_fail (S := S) hE z9
            have hB := rFa_B hE fl3
            obtain ⟨_, p, _, _, y1, y2, _, _⟩ := id fl3
            have ex : f6_expect S P 28 = some (ph_wi P 63 2 (nI (pl k1))) := by
              unfold f6_expect
              rw [s28, q_bd, decide_eq_false c24, if_pos (by first | rfl | trivial | decide), fl1, q_bd]
            have ey : f12_must K2 (nI 24) = some (ph_wi K2 0 21 (nI (pl k1))) := by
              unfold f12_must
              rw [t24, if_neg c24, q_bd, if_pos (by first | rfl | trivial | decide), fl2, q_bd]
            have rs : f6_readSum S (ph_wi P 63 2 (nI (pl k1))) = some (ph_wi (ph_wi P 63 2 (nI (pl k1))) 63 9 ((ph_wi P 63 2 (nI (pl k1))).1 63 9 + nI 1)) := (xf_sum (rs := f6_readSum_n S 19) hT hB).2
            have ks : f12_readSum (ph_wi K2 0 21 (nI (pl k1))) (nI 0) = some (ph_wi K2 0 21 (nI (pl k1))) := (kf_sum (rs := f12_readSum_n 19) y1.1 y2.2).2
            rw [ex, q_bd, rs, q_bd] at X1
            rw [ey, q_bd, ks, q_bd] at Y2
            obtain ⟨M', x1, x2, x3⟩ := xf_138 (S := S) hT (xf_w9 hB ((ph_wi P 63 2 (nI (pl k1))).1 63 9 + nI 1)) hn
            exact ⟨M', _, X1.trans x1, Y2.trans (kf_rest y1.1 y2.2), Or.inl (rFa_68 fl3 (fun c j q1 q2 => (x3.1 c j q1 q2).trans (wi_o (by omega))) x3.2 x2)⟩
  · -- no clause begins so
    have n0 : ¬ cd k = hdc o 0 := fun q => hkd (Or.inl q)
    have n1 : ¬ cd k = hdc o 1 := fun q => hkd (Or.inr (Or.inl q))
    have n2 : ¬ cd k = hdc o 2 := fun q => hkd (Or.inr (Or.inr q))
    obtain ⟨fl1, fl2, fl3⟩ := rd_fail (S := S) hE h
    obtain ⟨_, p, _, _, y1, y2, _, _⟩ := id fl3
    refine ⟨_, _, ?_, ?_, Or.inl fl3⟩
    · rw [X0, if_neg n0, if_neg n1, if_neg n2]
      unfold f6_readClause_j17
      rw [if_pos (by first | rfl | trivial | decide), fl1, q_bd]
    · rw [Y0, tk _ (hd4 0), if_neg n0, q_bd, if_pos (by first | rfl | trivial | decide), tk _ (hd4 1), if_neg n1, q_bd, if_pos (by first | rfl | trivial | decide)]
      unfold f12_must
      rw [tk _ (hd4 2), if_neg n2, q_bd, if_pos (by first | rfl | trivial | decide), fl2, q_bd, q_bd, kf_rest y1.1 y2.2]
end RD
