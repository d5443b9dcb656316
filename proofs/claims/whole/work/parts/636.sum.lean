/-! PURE HALF: the law's module: both read a term, a sum -/
section RD
variable {o : Bool} {S : ph_Sh} {bs cd vl pl : Nat → Nat} {T m : Nat} {M0 K0 M K : ph_Mem} {k lv dp cl : Nat}
theorem rd_term_l (hE : tkE o bs cd vl pl T m M0 K0) {rx : ph_Mem → Option ph_Mem} {rk : ph_Mem → Int32 → Option ph_Mem} (hdp : dp ≤ 8) (hP : ∀ M K k lv cl, rOK T M0 K0 M K k lv dp cl → lv ≤ 50 → rdS o cd vl T M0 K0 dp (17 - 2 * dp) (8 - dp) (fun fu => f12_partOf (f12_sumOf_n fu)) M k cl (f6_readPart S rx M) (f12_readPart rk K (nI dp))) (MM : ph_Mem) (hcl0 : cl ≤ k) : ∀ (n i fx fk : Nat) (M K : ph_Mem) (k1 lv cl1 : Nat) (F : lwS), T - k1 ≤ n → n < fx → n < fk → i ≤ k1 → rOK T M0 K0 M K k1 lv dp cl1 → lv ≤ 50 → k < k1 → cl < cl1 → cl1 + k ≤ cl + k1 → xG MM M → (∀ j, j < cl → M.1 69 j = MM.1 69 j) → lwK o (M.1 69) cl cl1 (18 - 2 * dp) F → (∀ fu, 8 - dp ≤ fu → mTP o cd vl T (f12_sumOf_n fu) k k1 F) → rdS o cd vl T M0 K0 dp (18 - 2 * dp) (8 - dp) (fun fu => f12_termOf (f12_sumOf_n fu)) MM k cl (f6_readTerm_l6 S rx fx (nI i) M) (f12_readTerm_l5 rk fk (nI dp) K)
  | n, i, 0, fk, M, K, k1, lv, cl1, F, _, h, _, _, _, _, _, _, _, _, _, _, _ => absurd h (by omega)
  | n, i, fx + 1, 0, M, K, k1, lv, cl1, F, _, _, h, _, _, _, _, _, _, _, _, _, _ => absurd h (by omega)
  | n, i, fx + 1, fk + 1, M, K, k1, lv, cl1, F, hn, hfx, hfk, hi, h, hl, hk, hcl, hck, hG, h69, hK, hm => by
    have hT : T ≤ 400 := by have := hE.1; omega
    have k1T := h.2.1.1
    have s23 : f6_says S M 23 = some (nI (decide (cd k1 = 142)).toNat) := rd_says hE h (by omega)
    have s24 : f6_says S M 24 = some (nI (decide (cd k1 = 147)).toNat) := rd_says hE h (by omega)
    have s25 : f6_says S M 25 = some (nI (decide (cd k1 = 137)).toNat) := rd_says hE h (by omega)
    have t1 := rd_take hE h (x := 142) (by omega)
    have t2 := rd_take hE h (x := 147) (by omega)
    have t3 := rd_take hE h (x := 137) (by omega)
    by_cases hop : cd k1 = 142 ∨ cd k1 = 147 ∨ cd k1 = 137
    · have kt := rd_lt hE h (by omega)
      have n400 : ¬ nI 400 ≤ nI i := by rw [q_le (by omega) (by omega)]; omega
      have hnx := rd_next h kt
      have adv := rd_adv (S := S) hE h kt
      obtain ⟨kd, hkd⟩ : ∃ kd, (cd k1 = 142 ∧ kd = 8) ∨ (cd k1 = 147 ∧ kd = 9) ∨ (cd k1 = 137 ∧ kd = 10) := by
        rcases hop with q | q | q
        · exact ⟨8, Or.inl ⟨q, rfl⟩⟩
        · exact ⟨9, Or.inr (Or.inl ⟨q, rfl⟩)⟩
        · exact ⟨10, Or.inr (Or.inr ⟨q, rfl⟩)⟩
      have kdb : 8 ≤ kd ∧ kd ≤ 10 := by omega
      have ex : f6_readTerm_l6 S rx (fx + 1) (nI i) M = (f6_readPart S rx (ph_wi M 63 8 (nI (k1 + 1)))).bind fun q8 => (f6_add S q8 (nI kd) (nI 0)).bind fun q9 => f6_readTerm_l6 S rx fx (nI (i + 1)) q9 := by
        conv => lhs; unfold f6_readTerm_l6
        unfold f6_readTerm_j40 f6_readTerm_j70
        simp only [q_lit, s23, s24, s25, q_bd, adv, nI_add]
        rw [if_neg n400]
        rcases hkd with ⟨q, rfl⟩ | ⟨q, rfl⟩ | ⟨q, rfl⟩
        · rw [decide_eq_true q, if_neg (by first | decide | exact fun q => absurd (show nI 1 = nI 0 from q) (by decide)), if_neg (by first | decide | exact fun q => absurd (show nI 1 = nI 0 from q) (by decide))]
        · rw [decide_eq_false (show ¬ cd k1 = 142 by omega), decide_eq_true q, if_pos (by first | rfl | trivial | decide), if_neg (by first | decide | exact fun q => absurd (show nI 1 = nI 0 from q) (by decide)), if_pos (by first | rfl | trivial | decide), if_neg (by first | decide | exact fun q => absurd (show nI 1 = nI 0 from q) (by decide))]
        · rw [decide_eq_false (show ¬ cd k1 = 142 by omega), decide_eq_false (show ¬ cd k1 = 147 by omega), decide_eq_true q, if_pos (by first | rfl | trivial | decide), if_pos (by first | rfl | trivial | decide), if_neg (by first | decide | exact fun q => absurd (show nI 1 = nI 0 from q) (by decide)), if_pos (by first | rfl | trivial | decide), if_pos (by first | rfl | trivial | decide)]
      have ey : f12_readTerm_l5 rk (fk + 1) (nI dp) K = (f12_readPart rk (ph_wi K 0 19 (nI (k1 + 1))) (nI dp)).bind fun q8 => f12_readTerm_l5 rk fk (nI dp) q8 := by
        conv => lhs; unfold f12_readTerm_l5
        unfold f12_readTerm_j41
        simp only [q_lit, m_sign, q_bd]
        rw [t1]
        rcases hkd with ⟨q, rfl⟩ | ⟨q, rfl⟩ | ⟨q, rfl⟩
        · rw [if_pos q, q_bd, if_neg (by first | decide | exact fun q => absurd (show nI 1 = nI 0 from q) (by decide))]
        · rw [if_neg (show ¬ cd k1 = 142 by omega), q_bd, if_pos (by first | rfl | trivial | decide), t2, if_pos q, q_bd, if_neg (by first | decide | exact fun q => absurd (show nI 1 = nI 0 from q) (by decide))]
        · rw [if_neg (show ¬ cd k1 = 142 by omega), q_bd, if_pos (by first | rfl | trivial | decide), t2, if_neg (show ¬ cd k1 = 147 by omega), q_bd, if_pos (by first | rfl | trivial | decide), t3, if_pos q, q_bd, if_neg (by first | decide | exact fun q => absurd (show nI 1 = nI 0 from q) (by decide))]
      obtain ⟨M3, K3, r1, r2, r3, r4⟩ := hP _ _ _ _ _ hnx hl
      have G3 : xG MM M3 := xG_t (xG_w hG (by omega)) r3
      rw [ex, ey, r1, r2, q_bd, q_bd]
      rcases r4 with r4 | ⟨k', lv', cl', G, z1, z2, z3, z4, z5, z6, z7, z8⟩
      · have hB := rFa_B hE r4
        obtain ⟨_, p, _, _, y1, y2, _, _⟩ := id r4
        obtain ⟨fx, rfl⟩ : ∃ z, fx = z + 1 := ⟨fx - 1, by omega⟩
        obtain ⟨fk, rfl⟩ : ∃ z, fk = z + 1 := ⟨fk - 1, by omega⟩
        rw [xf_add hB, q_bd, (xf_term hT hB).1, (kf_term y1.1 y2.2).1]
        exact ⟨M3, K3, rfl, rfl, G3, Or.inl r4⟩
      · have hc1 := h.2.1.2.1
        obtain ⟨a1, a2⟩ := rd_add (S := S) z1 hT (x := kd) (y := 0) (by omega) (by omega) (by omega)
        rw [a1, q_bd]
        have s69 : ∀ j, j < cl' → (ph_wi (ph_wi M3 69 cl' (nI (32 * 0 + kd))) 63 14 (nI (cl' + 1))).1 69 j = M3.1 69 j := fun j hj => by rw [wi_o (by omega), wi_o (by omega)]
        have lo : ∀ j, j < cl1 → M3.1 69 j = M.1 69 j := fun j hj => by rw [z6 j hj, wi_o (by omega)]
        have cl4 : cl' < 400 := by have := z1.2.1; omega
        exact rd_term_l hE hdp hP MM hcl0 (n - 1) (i + 1) fx fk _ K3 k' lv' (cl' + 1) (lw_J kd F G) (by omega) (by omega) (by omega) (by omega) a2 z2 (by omega) (by omega) (by omega) (xG_w (xG_w G3 (by omega)) (by omega)) (fun j hj => by rw [s69 j (by omega), lo j (by omega)]; exact h69 j hj) (lwK_join (lwK_cg hK (fun j _ q => by rw [s69 j (by omega), lo j q])) (lwK_cg z7 (fun j _ q => s69 j q)) cl4 (by rw [wi_o (by omega), wi_s, Nat.mul_zero, Nat.zero_add]) (by omega) (by omega) (Nat.le_refl _) (by omega) (by omega)) (fun fu hfu => mTP_s (hm fu hfu) hkd (z8 fu hfu))
    · have n1 : ¬ cd k1 = 142 := fun q => hop (Or.inl q)
      have n2 : ¬ cd k1 = 147 := fun q => hop (Or.inr (Or.inl q))
      have n3 : ¬ cd k1 = 137 := fun q => hop (Or.inr (Or.inr q))
      refine ⟨M, K, ?_, ?_, hG, Or.inr ⟨k1, lv, cl1, F, h, hl, hk, hcl, hck, h69, hK, fun fu hfu => mTP_e (hm fu hfu) n1 n2 n3⟩⟩
      · unfold f6_readTerm_l6
        simp only [q_lit, s23, s24, s25, q_bd]
        by_cases q : nI 400 ≤ nI i
        · rw [if_pos q]
        · rw [if_neg q, decide_eq_false n1, if_pos (by first | rfl | trivial | decide), decide_eq_false n2, if_pos (by first | rfl | trivial | decide), decide_eq_false n3, if_pos (by first | rfl | trivial | decide)]
      · unfold f12_readTerm_l5
        simp only [q_lit, m_sign, q_bd]
        rw [t1, if_neg n1, q_bd, if_pos (by first | rfl | trivial | decide), t2, if_neg n2, q_bd, if_pos (by first | rfl | trivial | decide), t3, if_neg n3, q_bd, if_pos (by first | rfl | trivial | decide)]
theorem rd_term (hE : tkE o bs cd vl pl T m M0 K0) {rx : ph_Mem → Option ph_Mem} {rk : ph_Mem → Int32 → Option ph_Mem} (hdp : dp ≤ 8) (hP : ∀ M K k lv cl, rOK T M0 K0 M K k lv dp cl → lv ≤ 50 → rdS o cd vl T M0 K0 dp (17 - 2 * dp) (8 - dp) (fun fu => f12_partOf (f12_sumOf_n fu)) M k cl (f6_readPart S rx M) (f12_readPart rk K (nI dp))) (h : rOK T M0 K0 M K k lv dp cl) (hl : lv ≤ 50) : rdS o cd vl T M0 K0 dp (18 - 2 * dp) (8 - dp) (fun fu => f12_termOf (f12_sumOf_n fu)) M k cl (f6_readTerm S rx M) (f12_readTerm rk K (nI dp)) := by
  have hT : T ≤ 400 := by have := hE.1; omega
  obtain ⟨M3, K3, r1, r2, r3, r4⟩ := hP _ _ _ _ _ h hl
  unfold f6_readTerm f12_readTerm
  simp only [q_lit]
  rw [r1, r2, q_bd, q_bd]
  rcases r4 with r4 | ⟨k', lv', cl', G, z1, z2, z3, z4, z5, z6, z7, z8⟩
  · have hB := rFa_B hE r4
    obtain ⟨_, p, _, _, y1, y2, _, _⟩ := id r4
    exact ⟨M3, K3, (xf_term hT hB).1 9999 _, (kf_term y1.1 y2.2).1 9999, r3, Or.inl r4⟩
  · have := h.2.1.2.1
    exact rd_term_l hE hdp hP M this 400 0 10000 10000 M3 K3 k' lv' cl' G (by omega) (by omega) (by omega) (by omega) z1 z2 z3 z4 z5 r3 z6 (lwK_nd z7 (by omega)) (fun fu hfu => mTP_0 (z8 fu hfu))
theorem rd_sum_l (hE : tkE o bs cd vl pl T m M0 K0) {rx : ph_Mem → Option ph_Mem} {rk : ph_Mem → Int32 → Option ph_Mem} (hdp : dp ≤ 8) (hP : ∀ M K k lv cl, rOK T M0 K0 M K k lv dp cl → lv ≤ 50 → rdS o cd vl T M0 K0 dp (18 - 2 * dp) (8 - dp) (fun fu => f12_termOf (f12_sumOf_n fu)) M k cl (f6_readTerm S rx M) (f12_readTerm rk K (nI dp))) (MM : ph_Mem) (hcl0 : cl ≤ k) : ∀ (n i fx fk : Nat) (M K : ph_Mem) (k1 lv cl1 : Nat) (F : lwS), T - k1 ≤ n → n < fx → n < fk → i ≤ k1 → rOK T M0 K0 M K k1 lv dp cl1 → lv ≤ 50 → k < k1 → cl < cl1 → cl1 + k ≤ cl + k1 → xG MM M → (∀ j, j < cl → M.1 69 j = MM.1 69 j) → lwK o (M.1 69) cl cl1 (19 - 2 * dp) F → (∀ fu, 8 - dp ≤ fu → mSP o cd vl T (f12_sumOf_n fu) k k1 F) → rdS o cd vl T M0 K0 dp (19 - 2 * dp) (8 - dp) (fun fu => f12_sumOf_b (f12_sumOf_n fu)) MM k cl (f6_readSum_l6 S rx fx (nI i) M) (f12_readSum_l5 rk fk (nI dp) K)
  | n, i, 0, fk, M, K, k1, lv, cl1, F, _, h, _, _, _, _, _, _, _, _, _, _, _ => absurd h (by omega)
  | n, i, fx + 1, 0, M, K, k1, lv, cl1, F, _, _, h, _, _, _, _, _, _, _, _, _, _ => absurd h (by omega)
  | n, i, fx + 1, fk + 1, M, K, k1, lv, cl1, F, hn, hfx, hfk, hi, h, hl, hk, hcl, hck, hG, h69, hK, hm => by
    have hT : T ≤ 400 := by have := hE.1; omega
    have k1T := h.2.1.1
    have s26 : f6_says S M 26 = some (nI (decide (cd k1 = 143)).toNat) := rd_says hE h (by omega)
    have s27 : f6_says S M 27 = some (nI (decide (cd k1 = 145)).toNat) := rd_says hE h (by omega)
    have t1 := rd_take hE h (x := 143) (by omega)
    have t2 := rd_take hE h (x := 145) (by omega)
    by_cases hop : cd k1 = 143 ∨ cd k1 = 145
    · have kt := rd_lt hE h (by omega)
      have n400 : ¬ nI 400 ≤ nI i := by rw [q_le (by omega) (by omega)]; omega
      have hnx := rd_next h kt
      have adv := rd_adv (S := S) hE h kt
      obtain ⟨kd, hkd⟩ : ∃ kd, (cd k1 = 143 ∧ kd = 6) ∨ (cd k1 = 145 ∧ kd = 7) := by
        rcases hop with q | q
        · exact ⟨6, Or.inl ⟨q, rfl⟩⟩
        · exact ⟨7, Or.inr ⟨q, rfl⟩⟩
      have kdb : 6 ≤ kd ∧ kd ≤ 7 := by omega
      have ex : f6_readSum_l6 S rx (fx + 1) (nI i) M = (f6_readTerm S rx (ph_wi M 63 8 (nI (k1 + 1)))).bind fun q8 => (f6_add S q8 (nI kd) (nI 0)).bind fun q9 => f6_readSum_l6 S rx fx (nI (i + 1)) q9 := by
        conv => lhs; unfold f6_readSum_l6
        unfold f6_readSum_j31 f6_readSum_j47
        simp only [q_lit, s26, s27, q_bd, adv, nI_add]
        rw [if_neg n400]
        rcases hkd with ⟨q, rfl⟩ | ⟨q, rfl⟩
        · rw [decide_eq_true q, if_neg (by first | decide | exact fun q => absurd (show nI 1 = nI 0 from q) (by decide)), if_neg (by first | decide | exact fun q => absurd (show nI 1 = nI 0 from q) (by decide))]
        · rw [decide_eq_false (show ¬ cd k1 = 143 by omega), decide_eq_true q, if_pos (by first | rfl | trivial | decide), if_neg (by first | decide | exact fun q => absurd (show nI 1 = nI 0 from q) (by decide)), if_pos (by first | rfl | trivial | decide)]
      have ey : f12_readSum_l5 rk (fk + 1) (nI dp) K = (f12_readTerm rk (ph_wi K 0 19 (nI (k1 + 1))) (nI dp)).bind fun q8 => f12_readSum_l5 rk fk (nI dp) q8 := by
        conv => lhs; unfold f12_readSum_l5
        unfold f12_readSum_j29
        simp only [q_lit, m_sign, q_bd]
        rw [t1]
        rcases hkd with ⟨q, rfl⟩ | ⟨q, rfl⟩
        · rw [if_pos q, q_bd, if_neg (by first | decide | exact fun q => absurd (show nI 1 = nI 0 from q) (by decide))]
        · rw [if_neg (show ¬ cd k1 = 143 by omega), q_bd, if_pos (by first | rfl | trivial | decide), t2, if_pos q, q_bd, if_neg (by first | decide | exact fun q => absurd (show nI 1 = nI 0 from q) (by decide))]
      obtain ⟨M3, K3, r1, r2, r3, r4⟩ := hP _ _ _ _ _ hnx hl
      have G3 : xG MM M3 := xG_t (xG_w hG (by omega)) r3
      rw [ex, ey, r1, r2, q_bd, q_bd]
      rcases r4 with r4 | ⟨k', lv', cl', G, z1, z2, z3, z4, z5, z6, z7, z8⟩
      · have hB := rFa_B hE r4
        obtain ⟨_, p, _, _, y1, y2, _, _⟩ := id r4
        obtain ⟨fx, rfl⟩ : ∃ z, fx = z + 1 := ⟨fx - 1, by omega⟩
        obtain ⟨fk, rfl⟩ : ∃ z, fk = z + 1 := ⟨fk - 1, by omega⟩
        rw [xf_add hB, q_bd, (xf_sum hT hB).1, (kf_sum y1.1 y2.2).1]
        exact ⟨M3, K3, rfl, rfl, G3, Or.inl r4⟩
      · have hc1 := h.2.1.2.1
        obtain ⟨a1, a2⟩ := rd_add (S := S) z1 hT (x := kd) (y := 0) (by omega) (by omega) (by omega)
        rw [a1, q_bd]
        have s69 : ∀ j, j < cl' → (ph_wi (ph_wi M3 69 cl' (nI (32 * 0 + kd))) 63 14 (nI (cl' + 1))).1 69 j = M3.1 69 j := fun j hj => by rw [wi_o (by omega), wi_o (by omega)]
        have lo : ∀ j, j < cl1 → M3.1 69 j = M.1 69 j := fun j hj => by rw [z6 j hj, wi_o (by omega)]
        have cl4 : cl' < 400 := by have := z1.2.1; omega
        exact rd_sum_l hE hdp hP MM hcl0 (n - 1) (i + 1) fx fk _ K3 k' lv' (cl' + 1) (lw_J kd F G) (by omega) (by omega) (by omega) (by omega) a2 z2 (by omega) (by omega) (by omega) (xG_w (xG_w G3 (by omega)) (by omega)) (fun j hj => by rw [s69 j (by omega), lo j (by omega)]; exact h69 j hj) (lwK_join (lwK_cg hK (fun j _ q => by rw [s69 j (by omega), lo j q])) (lwK_cg z7 (fun j _ q => s69 j q)) cl4 (by rw [wi_o (by omega), wi_s, Nat.mul_zero, Nat.zero_add]) (by omega) (by omega) (Nat.le_refl _) (by omega) (by omega)) (fun fu hfu => mSP_s (hm fu hfu) hkd (z8 fu hfu))
    · have n1 : ¬ cd k1 = 143 := fun q => hop (Or.inl q)
      have n2 : ¬ cd k1 = 145 := fun q => hop (Or.inr q)
      refine ⟨M, K, ?_, ?_, hG, Or.inr ⟨k1, lv, cl1, F, h, hl, hk, hcl, hck, h69, hK, fun fu hfu => mSP_e (hm fu hfu) n1 n2⟩⟩
      · unfold f6_readSum_l6
        simp only [q_lit, s26, s27, q_bd]
        by_cases q : nI 400 ≤ nI i
        · rw [if_pos q]
        · rw [if_neg q, decide_eq_false n1, if_pos (by first | rfl | trivial | decide), decide_eq_false n2, if_pos (by first | rfl | trivial | decide)]
      · unfold f12_readSum_l5
        simp only [q_lit, m_sign, q_bd]
        rw [t1, if_neg n1, q_bd, if_pos (by first | rfl | trivial | decide), t2, if_neg n2, q_bd, if_pos (by first | rfl | trivial | decide)]
theorem rd_sum_b (hE : tkE o bs cd vl pl T m M0 K0) {rx : ph_Mem → Option ph_Mem} {rk : ph_Mem → Int32 → Option ph_Mem} (hdp : dp ≤ 8) (hP : ∀ M K k lv cl, rOK T M0 K0 M K k lv dp cl → lv ≤ 50 → rdS o cd vl T M0 K0 dp (18 - 2 * dp) (8 - dp) (fun fu => f12_termOf (f12_sumOf_n fu)) M k cl (f6_readTerm S rx M) (f12_readTerm rk K (nI dp))) (h : rOK T M0 K0 M K k lv dp cl) (hl : lv ≤ 50) : rdS o cd vl T M0 K0 dp (19 - 2 * dp) (8 - dp) (fun fu => f12_sumOf_b (f12_sumOf_n fu)) M k cl (f6_readSum_b S rx M) (f12_readSum_b rk K (nI dp)) := by
  have hT : T ≤ 400 := by have := hE.1; omega
  obtain ⟨M3, K3, r1, r2, r3, r4⟩ := hP _ _ _ _ _ h hl
  unfold f6_readSum_b f12_readSum_b
  simp only [q_lit]
  rw [r1, r2, q_bd, q_bd]
  rcases r4 with r4 | ⟨k', lv', cl', G, z1, z2, z3, z4, z5, z6, z7, z8⟩
  · have hB := rFa_B hE r4
    obtain ⟨_, p, _, _, y1, y2, _, _⟩ := id r4
    exact ⟨M3, K3, (xf_sum hT hB).1 9999 _, (kf_sum y1.1 y2.2).1 9999, r3, Or.inl r4⟩
  · have := h.2.1.2.1
    exact rd_sum_l hE hdp hP M this 400 0 10000 10000 M3 K3 k' lv' cl' G (by omega) (by omega) (by omega) (by omega) z1 z2 z3 z4 z5 r3 z6 (lwK_nd z7 (by omega)) (fun fu hfu => mSP_0 (z8 fu hfu))
/-- sums at every depth -/
theorem rd_sum (hE : tkE o bs cd vl pl T m M0 K0) : ∀ (n dp fx fk : Nat), dp ≤ 8 → 8 - dp ≤ n → n + 2 ≤ fx → n + 2 ≤ fk → ∀ (M K : ph_Mem) (k lv cl : Nat), rOK T M0 K0 M K k lv dp cl → lv ≤ 50 → rdS o cd vl T M0 K0 dp (19 - 2 * dp) (9 - dp) f12_sumOf_n M k cl (f6_readSum_n S fx M) (f12_readSum_n fk K (nI dp))
  | n, dp, fx, fk, hdp, hn, hfx, hfk => by
    have hT : T ≤ 400 := by have := hE.1; omega
    obtain ⟨fx, rfl⟩ : ∃ z, fx = z + 1 := ⟨fx - 1, by omega⟩
    obtain ⟨fk, rfl⟩ : ∃ z, fk = z + 1 := ⟨fk - 1, by omega⟩
    obtain ⟨fy, rfl⟩ : ∃ z, fx = z + 1 := ⟨fx - 1, by omega⟩
    intro M K k lv cl h hl
    have rF : ∀ M, xB T M → f6_readSum_n S (fy + 1) M = some (ph_wi M 63 9 (M.1 63 9 + nI 1)) := fun M hB => (xf_sum hT hB).2
    have rS : dp < 8 → ∀ M K k lv cl, rOK T M0 K0 M K k lv (dp + 1) cl → lv ≤ 50 → rdS o cd vl T M0 K0 (dp + 1) (17 - 2 * dp) (8 - dp) f12_sumOf_n M k cl (f6_readSum_n S (fy + 1) M) (f12_readSum_n fk K (nI (dp + 1))) := by
      intro d8 M K k lv cl h hl
      have := rd_sum hE (n - 1) (dp + 1) (fy + 1) fk (by omega) (by omega) (by omega) (by omega) M K k lv cl h hl
      rw [show 19 - 2 * (dp + 1) = 17 - 2 * dp by omega, show 9 - (dp + 1) = 8 - dp by omega] at this
      exact this
    have sb := rd_sum_b (S := S) (rx := f6_readSum_n S (fy + 1)) (rk := f12_readSum_n fk) hE hdp (fun M K k lv cl h hl => rd_term hE hdp (fun M K k lv cl h hl => rd_part hE hdp rF rS h hl) h hl) h hl
    obtain ⟨M3, K3, r1, r2, r3, r4⟩ := sb
    refine ⟨M3, K3, r1, r2, r3, r4.imp id fun ⟨k', lv', cl', G, z1, z2, z3, z4, z5, z6, z7, z8⟩ => ⟨k', lv', cl', G, z1, z2, z3, z4, z5, z6, z7, fun fu hfu => ?_⟩⟩
    obtain ⟨fu, rfl⟩ : ∃ z, fu = z + 1 := ⟨fu - 1, by omega⟩
    exact mS_n (z8 fu (by omega))
termination_by n dp => 8 - dp
end RD
