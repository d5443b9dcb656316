/-! PURE HALF: the law's module: both read a test -/
section RD
variable {o : Bool} {S : ph_Sh} {bs cd vl pl : Nat → Nat} {T m : Nat} {M0 K0 M K : ph_Mem} {k lv dp cl : Nat}
def jI (jp : Option Nat) : Int32 := match jp with
  | none => -nI 1
  | some p => nI p
def lnd (code : Nat → Int32) (jp : Option Nat) (c : Nat) : Nat → Int32 := match jp with
  | none => code
  | some p => fun j => if j = p then code p + nI (32 * c) else code j
theorem lnd_o {code : Nat → Int32} {jp : Option Nat} {c j : Nat} (h : ∀ p, jp = some p → j ≠ p) : lnd code jp c j = code j := by
  cases jp with
  | none => rfl
  | some p => exact if_neg (h p rfl)
theorem x_land {jp : Option Nat} (hc : cl ≤ 400) (h14 : M.1 63 14 = nI cl) (hjp : ∀ p, jp = some p → p < cl) : ∃ M', f6_land S M (jI jp) = some M' ∧ (∀ j, M'.1 69 j = lnd (M.1 69) jp cl j) ∧ (∀ c j, c ≠ 69 → M'.1 c j = M.1 c j) ∧ M'.2 = M.2 := by
  cases jp with
  | none =>
    refine ⟨M, ?_, fun _ => rfl, fun _ _ _ => rfl, rfl⟩
    unfold f6_land jI
    rw [if_pos (by first | rfl | trivial | decide)]
  | some p =>
    have hp := hjp p rfl
    refine ⟨ph_wi M 69 p (M.1 69 p + nI (32 * cl)), ?_, fun j => ?_, fun c j q => wi_o (by omega), rfl⟩
    · show f6_land S M (nI p) = _
      unfold f6_land
      rw [if_neg (nI_pos (by omega)), h14, if_neg (by rw [q_le (by omega) (by omega)]; omega), q_ib (by omega) (show p < 400 by omega), q_ct, q_ct, q_cl (by omega), q_let]
      simp only [q_lit]
      rw [pk_mul, Nat.mul_comm cl 32]
    · show _ = if j = p then _ else _
      by_cases q : j = p
      · subst q; rw [wi_s, if_pos rfl]
      · rw [wi_o (by omega), if_neg q]
theorem rOK_69 {M' : ph_Mem} (h : rOK T M0 K0 M K k lv dp cl) (h1 : ∀ c j, c ≠ 69 → M'.1 c j = M.1 c j) (h2 : M'.2 = M.2) : rOK T M0 K0 M' K k lv dp cl := by
  obtain ⟨⟨f0, f1⟩, g, ⟨g4, g5⟩, ⟨g6, g7⟩, ⟨g8, g9⟩, g10, g11⟩ := h
  have q := fun j => h1 63 j (by omega)
  exact ⟨⟨xF_G f0 ⟨fun c j q1 _ => h1 c j q1, h2⟩, f1⟩, g, ⟨(q _).trans g4, g5⟩, ⟨(q _).trans g6, g7⟩, ⟨(q _).trans g8, g9⟩, (q _).trans g10, (q _).trans g11⟩
theorem xf_land (h : rFa T M0 K0 M K) (p : Nat) (hp : p < 400) : ∃ M', f6_land S M (nI p) = some M' ∧ rFa T M0 K0 M' K ∧ xG M M' := by
  obtain ⟨_, x, k, c, ⟨y1, y2, y3⟩, y4, y5, y6⟩ := id h
  by_cases q : p < c
  · obtain ⟨M', m1, _, m2, m3⟩ := x_land (S := S) (M := M) (cl := c) (jp := some p) y3 y6 (fun p' e => by injection e with e; omega)
    have g : xG M M' := ⟨fun c j q1 _ => m2 c j q1, m3⟩
    exact ⟨M', m1, rFa_G h g (m2 _ _ (by omega)) ⟨k, y2, (m2 _ _ (by omega)).trans y5⟩ (m2 _ _ (by omega)), g⟩
  · refine ⟨M, ?_, h, xG_r M⟩
    unfold f6_land
    rw [if_neg (nI_pos (by omega)), y6, if_pos (by rw [q_le (by omega) (by omega)]; omega)]
theorem rd_both_l (hE : tkE o bs cd vl pl T m M0 K0) {rx : ph_Mem → Option ph_Mem} {rk : ph_Mem → Int32 → Option ph_Mem} (hdp : dp ≤ 8) (hP : ∀ M K k lv cl, rOK T M0 K0 M K k lv dp cl → lv ≤ 50 → rdT o cd vl T M0 K0 dp (8 - dp) (fun fu => f12_plainOf (f12_testOf_n fu)) M k cl (f6_readPlain S rx M) (f12_readPlain rk K (nI dp))) (MM : ph_Mem) (hcl0 : cl ≤ k) : ∀ (n i fx fk : Nat) (jp : Option Nat) (M K : ph_Mem) (k1 lv cl1 : Nat) (F : lwT), T - k1 ≤ n → n < fx → n < fk → i ≤ k1 → rOK T M0 K0 M K k1 lv dp cl1 → lv ≤ 50 → k < k1 → cl < cl1 → cl1 + k ≤ cl + k1 → xG MM M → (∀ j, j < cl → M.1 69 j = MM.1 69 j) → (∀ p, jp = some p → cl ≤ p ∧ p < cl1) → lwK o (lnd (M.1 69) jp cl1) cl cl1 20 (lw_v F) → (∀ fu, 8 - dp ≤ fu → mBP o cd vl T (f12_testOf_n fu) k k1 F) → rdT o cd vl T M0 K0 dp (8 - dp) (fun fu => f12_bothOf (f12_testOf_n fu)) MM k cl (f6_readBoth_l8 S rx fx (jI jp) (nI i) M) (f12_readBoth_l5 rk fk (nI dp) K)
  | n, i, 0, fk, jp, M, K, k1, lv, cl1, F, _, h, _, _, _, _, _, _, _, _, _, _, _, _ => absurd h (by omega)
  | n, i, fx + 1, 0, jp, M, K, k1, lv, cl1, F, _, _, h, _, _, _, _, _, _, _, _, _, _, _ => absurd h (by omega)
  | n, i, fx + 1, fk + 1, jp, M, K, k1, lv, cl1, F, hn, hfx, hfk, hi, h, hl, hk, hcl, hck, hG, h69, hjp, hK, hm => by
    have hT : T ≤ 400 := by have := hE.1; omega
    have k1T := h.2.1.1
    have hc1 := h.2.1.2.1
    have sW : f6_says S M 37 = some (nI (decide (cd k1 = 6)).toNat) := rd_says hE h (by omega)
    have t1 := rd_take hE h (x := 6) (by omega)
    by_cases hop : cd k1 = 6
    · have kt := rd_lt hE h (by omega)
      have n400 : ¬ nI 400 ≤ nI i := by rw [q_le (by omega) (by omega)]; omega
      have hnx := rd_next h kt
      have adv := rd_adv (S := S) hE h kt
      obtain ⟨M3, l1, l2, l3, l4⟩ := x_land (S := S) (M := ph_wi M 63 8 (nI (k1 + 1))) (jp := jp) (cl := cl1) (by omega) hnx.2.2.2.2.2.2 (fun p e => (hjp p e).2)
      have l2' : ∀ j, M3.1 69 j = lnd (M.1 69) jp cl1 j := fun j => by
        rw [l2 j]
        have e : (ph_wi M 63 8 (nI (k1 + 1))).1 69 = M.1 69 := funext fun i => wi_o (by omega)
        rw [e]
      have h3 := rOK_69 hnx l3 l4
      obtain ⟨a1, a2⟩ := rd_add (S := S) h3 hT (x := 5) (y := 0) (by omega) (by omega) (by omega)
      have aj : f6_addJump S (ph_wi M 63 8 (nI (k1 + 1))) (nI 5) (jI jp) = some (nI cl1, ph_wi (ph_wi M3 69 cl1 (nI (32 * 0 + 5))) 63 14 (nI (cl1 + 1))) := by
        unfold f6_addJump
        simp only [q_lit]
        rw [l1, q_bd, a1, q_bd, a2.2.2.1.1, if_pos (by first | rfl | trivial | decide), a2.2.2.2.2.2.2, q_sub (by omega), Nat.add_sub_cancel]
      have ex : f6_readBoth_l8 S rx (fx + 1) (jI jp) (nI i) M = (f6_readPlain S rx (ph_wi (ph_wi M3 69 cl1 (nI (32 * 0 + 5))) 63 14 (nI (cl1 + 1)))).bind fun q5 => f6_readBoth_l8 S rx fx (nI cl1) (nI (i + 1)) q5 := by
        conv => lhs; unfold f6_readBoth_l8
        simp only [q_lit]
        rw [if_neg n400, sW, q_bd, decide_eq_true hop, if_neg (by first | decide | exact fun q => absurd (show nI 1 = nI 0 from q) (by decide)), adv, q_bd, aj, q_bd, nI_add]
      have ey : f12_readBoth_l5 rk (fk + 1) (nI dp) K = (f12_readPlain rk (ph_wi K 0 19 (nI (k1 + 1))) (nI dp)).bind fun q3 => f12_readBoth_l5 rk fk (nI dp) q3 := by
        conv => lhs; unfold f12_readBoth_l5
        simp only [q_lit]
        rw [t1, if_pos hop, q_bd, if_neg (by first | decide | exact fun q => absurd (show nI 1 = nI 0 from q) (by decide))]
      have G4 : xG MM (ph_wi (ph_wi M3 69 cl1 (nI (32 * 0 + 5))) 63 14 (nI (cl1 + 1))) := xG_w (xG_w (xG_t (xG_w hG (by omega)) ⟨fun c j q1 _ => l3 c j q1, l4⟩) (by omega)) (by omega)
      have c4 : ∀ j, j < cl1 → (ph_wi (ph_wi M3 69 cl1 (nI (32 * 0 + 5))) 63 14 (nI (cl1 + 1))).1 69 j = lnd (M.1 69) jp cl1 j := fun j hj => by rw [wi_o (by omega), wi_o (by omega)]; exact l2' j
      have c4' : (ph_wi (ph_wi M3 69 cl1 (nI (32 * 0 + 5))) 63 14 (nI (cl1 + 1))).1 69 cl1 = nI 5 := by rw [wi_o (by omega), wi_s]
      obtain ⟨M5, K5, r1, r2, r3, r4⟩ := hP _ _ _ _ _ a2 hl
      have G5 : xG MM M5 := xG_t G4 r3
      rw [ex, ey, r1, r2, q_bd, q_bd]
      rcases r4 with r4 | ⟨k', lv', cl', G, z1, z2, z3, z4, z5, z6, z7, z8⟩
      · have hB := rFa_B hE r4
        obtain ⟨_, p, _, _, y1, y2, _, _⟩ := id r4
        obtain ⟨fx, rfl⟩ : ∃ z, fx = z + 1 := ⟨fx - 1, by omega⟩
        obtain ⟨fk, rfl⟩ : ∃ z, fk = z + 1 := ⟨fk - 1, by omega⟩
        obtain ⟨M6, u1, u2, u3⟩ := xf_land (S := S) r4 cl1 (by omega)
        refine ⟨M6, K5, ?_, (kf_both y1.1 y2.2).1 _, xG_t G5 u3, Or.inl u2⟩
        unfold f6_readBoth_l8 f6_readBoth_j45
        rw [xf_says hT hB, q_bd, u1, q_bd]
        by_cases q : (400 : Int32) ≤ nI (i + 1)
        · rw [if_pos q]
        · rw [if_neg q, if_pos (by first | rfl | trivial | decide)]
      · have lo : ∀ j, j < cl1 → M5.1 69 j = lnd (M.1 69) jp cl1 j := fun j hj => by rw [z6 j (by omega), c4 j hj]
        have lc : M5.1 69 cl1 = nI 5 := by rw [z6 cl1 (by omega), c4']
        exact rd_both_l hE hdp hP MM hcl0 (n - 1) (i + 1) fx fk (some cl1) M5 K5 k' lv' cl' (lw_and F G) (by omega) (by omega) (by omega) (by omega) z1 z2 (by omega) (by omega) (by omega) G5 (fun j hj => by
          rw [lo j (by omega), lnd_o (fun p e => by have := hjp p e; omega)]
          exact h69 j hj) (fun p e => by injection e with e; omega) (lwK_and (b := cl1) (lwK_cg hK (fun j _ q => by rw [lnd_o (fun p e => by injection e with e; omega)]; exact lo j q)) (lwK_cg z7 (fun j q1 q2 => lnd_o (fun p e => by injection e with e; omega))) (by
            show (if cl1 = cl1 then M5.1 69 cl1 + nI (32 * cl') else _) = _
            rw [if_pos rfl, lc, nI_add, Nat.add_comm]) (by omega)) (fun fu hfu => mBP_s (hm fu hfu) hop (z8 fu hfu))
    · obtain ⟨M3, l1, l2, l3, l4⟩ := x_land (S := S) (M := M) (jp := jp) (cl := cl1) (by omega) h.2.2.2.2.2.2 (fun p e => (hjp p e).2)
      refine ⟨M3, K, ?_, ?_, xG_t hG ⟨fun c j q1 _ => l3 c j q1, l4⟩, Or.inr ⟨k1, lv, cl1, F, rOK_69 h l3 l4, hl, hk, hcl, hck, fun j hj => ?_, lwK_cg hK (fun j _ _ => l2 j), fun fu hfu => mBP_e (hm fu hfu) hop⟩⟩
      · unfold f6_readBoth_l8 f6_readBoth_j45
        simp only [q_lit]
        rw [sW, q_bd, decide_eq_false hop, l1, q_bd]
        by_cases q : nI 400 ≤ nI i
        · rw [if_pos q]
        · rw [if_neg q, if_pos (by first | rfl | trivial | decide)]
      · unfold f12_readBoth_l5
        simp only [q_lit]
        rw [t1, if_neg hop, q_bd, if_pos (by first | rfl | trivial | decide)]
      · rw [l2 j, lnd_o (fun p e => by have := hjp p e; omega)]
        exact h69 j hj
theorem rd_both (hE : tkE o bs cd vl pl T m M0 K0) {rx : ph_Mem → Option ph_Mem} {rk : ph_Mem → Int32 → Option ph_Mem} (hdp : dp ≤ 8) (hP : ∀ M K k lv cl, rOK T M0 K0 M K k lv dp cl → lv ≤ 50 → rdT o cd vl T M0 K0 dp (8 - dp) (fun fu => f12_plainOf (f12_testOf_n fu)) M k cl (f6_readPlain S rx M) (f12_readPlain rk K (nI dp))) (h : rOK T M0 K0 M K k lv dp cl) (hl : lv ≤ 50) : rdT o cd vl T M0 K0 dp (8 - dp) (fun fu => f12_bothOf (f12_testOf_n fu)) M k cl (f6_readBoth S rx M) (f12_readBoth rk K (nI dp)) := by
  have hT : T ≤ 400 := by have := hE.1; omega
  obtain ⟨M3, K3, r1, r2, r3, r4⟩ := hP _ _ _ _ _ h hl
  unfold f6_readBoth f12_readBoth
  simp only [q_lit]
  rw [r1, r2, q_bd, q_bd]
  rcases r4 with r4 | ⟨k', lv', cl', G, z1, z2, z3, z4, z5, z6, z7, z8⟩
  · have hB := rFa_B hE r4
    obtain ⟨_, p, _, _, y1, y2, _, _⟩ := id r4
    refine ⟨M3, K3, ?_, (kf_both y1.1 y2.2).1 9999, r3, Or.inl r4⟩
    unfold f6_readBoth_l8 f6_readBoth_j45 f6_land
    rw [xf_says hT hB, q_bd, if_neg (by first | decide | exact fun q => absurd (show nI 1 = nI 0 from q) (by decide)), if_pos (by first | rfl | trivial | decide), if_pos (by first | rfl | trivial | decide), q_bd]
  · have := h.2.1.2.1
    exact rd_both_l hE hdp hP M this 400 0 10000 10000 none M3 K3 k' lv' cl' G (by omega) (by omega) (by omega) (by omega) z1 z2 z3 z4 z5 r3 z6 (fun p e => nomatch e) z7 (fun fu hfu => mBP_0 (z8 fu hfu))
theorem rd_test_b_l (hE : tkE o bs cd vl pl T m M0 K0) {rx : ph_Mem → Option ph_Mem} {rk : ph_Mem → Int32 → Option ph_Mem} (hdp : dp ≤ 8) (hP : ∀ M K k lv cl, rOK T M0 K0 M K k lv dp cl → lv ≤ 50 → rdT o cd vl T M0 K0 dp (8 - dp) (fun fu => f12_bothOf (f12_testOf_n fu)) M k cl (f6_readBoth S rx M) (f12_readBoth rk K (nI dp))) (MM : ph_Mem) (hcl0 : cl ≤ k) : ∀ (n i fx fk : Nat) (jp : Option Nat) (M K : ph_Mem) (k1 lv cl1 : Nat) (F : lwT), T - k1 ≤ n → n < fx → n < fk → i ≤ k1 → rOK T M0 K0 M K k1 lv dp cl1 → lv ≤ 50 → k < k1 → cl < cl1 → cl1 + k ≤ cl + k1 → xG MM M → (∀ j, j < cl → M.1 69 j = MM.1 69 j) → (∀ p, jp = some p → cl ≤ p ∧ p < cl1) → lwK o (lnd (M.1 69) jp cl1) cl cl1 20 (lw_v F) → (∀ fu, 8 - dp ≤ fu → mTeP o cd vl T (f12_testOf_n fu) k k1 F) → rdT o cd vl T M0 K0 dp (8 - dp) (fun fu => f12_testOf_b (f12_testOf_n fu)) MM k cl (f6_readTest_l8 S rx fx (jI jp) (nI i) M) (f12_readTest_l5 rk fk (nI dp) K)
  | n, i, 0, fk, jp, M, K, k1, lv, cl1, F, _, h, _, _, _, _, _, _, _, _, _, _, _, _ => absurd h (by omega)
  | n, i, fx + 1, 0, jp, M, K, k1, lv, cl1, F, _, _, h, _, _, _, _, _, _, _, _, _, _, _ => absurd h (by omega)
  | n, i, fx + 1, fk + 1, jp, M, K, k1, lv, cl1, F, hn, hfx, hfk, hi, h, hl, hk, hcl, hck, hG, h69, hjp, hK, hm => by
    have hT : T ≤ 400 := by have := hE.1; omega
    have k1T := h.2.1.1
    have hc1 := h.2.1.2.1
    have sW : f6_says S M 38 = some (nI (decide (cd k1 = 5)).toNat) := rd_says hE h (by omega)
    have t1 := rd_take hE h (x := 5) (by omega)
    by_cases hop : cd k1 = 5
    · have kt := rd_lt hE h (by omega)
      have n400 : ¬ nI 400 ≤ nI i := by rw [q_le (by omega) (by omega)]; omega
      have hnx := rd_next h kt
      have adv := rd_adv (S := S) hE h kt
      obtain ⟨M3, l1, l2, l3, l4⟩ := x_land (S := S) (M := ph_wi M 63 8 (nI (k1 + 1))) (jp := jp) (cl := cl1) (by omega) hnx.2.2.2.2.2.2 (fun p e => (hjp p e).2)
      have l2' : ∀ j, M3.1 69 j = lnd (M.1 69) jp cl1 j := fun j => by
        rw [l2 j]
        have e : (ph_wi M 63 8 (nI (k1 + 1))).1 69 = M.1 69 := funext fun i => wi_o (by omega)
        rw [e]
      have h3 := rOK_69 hnx l3 l4
      obtain ⟨a1, a2⟩ := rd_add (S := S) h3 hT (x := 4) (y := 0) (by omega) (by omega) (by omega)
      have aj : f6_addJump S (ph_wi M 63 8 (nI (k1 + 1))) (nI 4) (jI jp) = some (nI cl1, ph_wi (ph_wi M3 69 cl1 (nI (32 * 0 + 4))) 63 14 (nI (cl1 + 1))) := by
        unfold f6_addJump
        simp only [q_lit]
        rw [l1, q_bd, a1, q_bd, a2.2.2.1.1, if_pos (by first | rfl | trivial | decide), a2.2.2.2.2.2.2, q_sub (by omega), Nat.add_sub_cancel]
      have ex : f6_readTest_l8 S rx (fx + 1) (jI jp) (nI i) M = (f6_readBoth S rx (ph_wi (ph_wi M3 69 cl1 (nI (32 * 0 + 4))) 63 14 (nI (cl1 + 1)))).bind fun q5 => f6_readTest_l8 S rx fx (nI cl1) (nI (i + 1)) q5 := by
        conv => lhs; unfold f6_readTest_l8
        simp only [q_lit]
        rw [if_neg n400, sW, q_bd, decide_eq_true hop, if_neg (by first | decide | exact fun q => absurd (show nI 1 = nI 0 from q) (by decide)), adv, q_bd, aj, q_bd, nI_add]
      have ey : f12_readTest_l5 rk (fk + 1) (nI dp) K = (f12_readBoth rk (ph_wi K 0 19 (nI (k1 + 1))) (nI dp)).bind fun q3 => f12_readTest_l5 rk fk (nI dp) q3 := by
        conv => lhs; unfold f12_readTest_l5
        simp only [q_lit]
        rw [t1, if_pos hop, q_bd, if_neg (by first | decide | exact fun q => absurd (show nI 1 = nI 0 from q) (by decide))]
      have G4 : xG MM (ph_wi (ph_wi M3 69 cl1 (nI (32 * 0 + 4))) 63 14 (nI (cl1 + 1))) := xG_w (xG_w (xG_t (xG_w hG (by omega)) ⟨fun c j q1 _ => l3 c j q1, l4⟩) (by omega)) (by omega)
      have c4 : ∀ j, j < cl1 → (ph_wi (ph_wi M3 69 cl1 (nI (32 * 0 + 4))) 63 14 (nI (cl1 + 1))).1 69 j = lnd (M.1 69) jp cl1 j := fun j hj => by rw [wi_o (by omega), wi_o (by omega)]; exact l2' j
      have c4' : (ph_wi (ph_wi M3 69 cl1 (nI (32 * 0 + 4))) 63 14 (nI (cl1 + 1))).1 69 cl1 = nI 4 := by rw [wi_o (by omega), wi_s]
      obtain ⟨M5, K5, r1, r2, r3, r4⟩ := hP _ _ _ _ _ a2 hl
      have G5 : xG MM M5 := xG_t G4 r3
      rw [ex, ey, r1, r2, q_bd, q_bd]
      rcases r4 with r4 | ⟨k', lv', cl', G, z1, z2, z3, z4, z5, z6, z7, z8⟩
      · have hB := rFa_B hE r4
        obtain ⟨_, p, _, _, y1, y2, _, _⟩ := id r4
        obtain ⟨fx, rfl⟩ : ∃ z, fx = z + 1 := ⟨fx - 1, by omega⟩
        obtain ⟨fk, rfl⟩ : ∃ z, fk = z + 1 := ⟨fk - 1, by omega⟩
        obtain ⟨M6, u1, u2, u3⟩ := xf_land (S := S) r4 cl1 (by omega)
        refine ⟨M6, K5, ?_, (kf_test y1.1 y2.2).1 _, xG_t G5 u3, Or.inl u2⟩
        unfold f6_readTest_l8 f6_readTest_j45
        rw [xf_says hT hB, q_bd, u1, q_bd]
        by_cases q : (400 : Int32) ≤ nI (i + 1)
        · rw [if_pos q]
        · rw [if_neg q, if_pos (by first | rfl | trivial | decide)]
      · have lo : ∀ j, j < cl1 → M5.1 69 j = lnd (M.1 69) jp cl1 j := fun j hj => by rw [z6 j (by omega), c4 j hj]
        have lc : M5.1 69 cl1 = nI 4 := by rw [z6 cl1 (by omega), c4']
        exact rd_test_b_l hE hdp hP MM hcl0 (n - 1) (i + 1) fx fk (some cl1) M5 K5 k' lv' cl' (lw_or F G) (by omega) (by omega) (by omega) (by omega) z1 z2 (by omega) (by omega) (by omega) G5 (fun j hj => by
          rw [lo j (by omega), lnd_o (fun p e => by have := hjp p e; omega)]
          exact h69 j hj) (fun p e => by injection e with e; omega) (lwK_or (b := cl1) (lwK_cg hK (fun j _ q => by rw [lnd_o (fun p e => by injection e with e; omega)]; exact lo j q)) (lwK_cg z7 (fun j q1 q2 => lnd_o (fun p e => by injection e with e; omega))) (by
            show (if cl1 = cl1 then M5.1 69 cl1 + nI (32 * cl') else _) = _
            rw [if_pos rfl, lc, nI_add, Nat.add_comm]) (by omega)) (fun fu hfu => mTeP_s (hm fu hfu) hop (z8 fu hfu))
    · obtain ⟨M3, l1, l2, l3, l4⟩ := x_land (S := S) (M := M) (jp := jp) (cl := cl1) (by omega) h.2.2.2.2.2.2 (fun p e => (hjp p e).2)
      refine ⟨M3, K, ?_, ?_, xG_t hG ⟨fun c j q1 _ => l3 c j q1, l4⟩, Or.inr ⟨k1, lv, cl1, F, rOK_69 h l3 l4, hl, hk, hcl, hck, fun j hj => ?_, lwK_cg hK (fun j _ _ => l2 j), fun fu hfu => mTeP_e (hm fu hfu) hop⟩⟩
      · unfold f6_readTest_l8 f6_readTest_j45
        simp only [q_lit]
        rw [sW, q_bd, decide_eq_false hop, l1, q_bd]
        by_cases q : nI 400 ≤ nI i
        · rw [if_pos q]
        · rw [if_neg q, if_pos (by first | rfl | trivial | decide)]
      · unfold f12_readTest_l5
        simp only [q_lit]
        rw [t1, if_neg hop, q_bd, if_pos (by first | rfl | trivial | decide)]
      · rw [l2 j, lnd_o (fun p e => by have := hjp p e; omega)]
        exact h69 j hj
theorem rd_test_b (hE : tkE o bs cd vl pl T m M0 K0) {rx : ph_Mem → Option ph_Mem} {rk : ph_Mem → Int32 → Option ph_Mem} (hdp : dp ≤ 8) (hP : ∀ M K k lv cl, rOK T M0 K0 M K k lv dp cl → lv ≤ 50 → rdT o cd vl T M0 K0 dp (8 - dp) (fun fu => f12_bothOf (f12_testOf_n fu)) M k cl (f6_readBoth S rx M) (f12_readBoth rk K (nI dp))) (h : rOK T M0 K0 M K k lv dp cl) (hl : lv ≤ 50) : rdT o cd vl T M0 K0 dp (8 - dp) (fun fu => f12_testOf_b (f12_testOf_n fu)) M k cl (f6_readTest_b S rx M) (f12_readTest_b rk K (nI dp)) := by
  have hT : T ≤ 400 := by have := hE.1; omega
  obtain ⟨M3, K3, r1, r2, r3, r4⟩ := hP _ _ _ _ _ h hl
  unfold f6_readTest_b f12_readTest_b
  simp only [q_lit]
  rw [r1, r2, q_bd, q_bd]
  rcases r4 with r4 | ⟨k', lv', cl', G, z1, z2, z3, z4, z5, z6, z7, z8⟩
  · have hB := rFa_B hE r4
    obtain ⟨_, p, _, _, y1, y2, _, _⟩ := id r4
    refine ⟨M3, K3, ?_, (kf_test y1.1 y2.2).1 9999, r3, Or.inl r4⟩
    unfold f6_readTest_l8 f6_readTest_j45 f6_land
    rw [xf_says hT hB, q_bd, if_neg (by first | decide | exact fun q => absurd (show nI 1 = nI 0 from q) (by decide)), if_pos (by first | rfl | trivial | decide), if_pos (by first | rfl | trivial | decide), q_bd]
  · have := h.2.1.2.1
    exact rd_test_b_l hE hdp hP M this 400 0 10000 10000 none M3 K3 k' lv' cl' G (by omega) (by omega) (by omega) (by omega) z1 z2 z3 z4 z5 r3 z6 (fun p e => nomatch e) z7 (fun fu hfu => mTeP_0 (z8 fu hfu))
/-- tests at every depth -/
theorem rd_test (hE : tkE o bs cd vl pl T m M0 K0) : ∀ (n dp fx fk : Nat), dp ≤ 8 → 8 - dp ≤ n → n + 2 ≤ fx → n + 2 ≤ fk → ∀ (M K : ph_Mem) (k lv cl : Nat), rOK T M0 K0 M K k lv dp cl → lv ≤ 50 → rdT o cd vl T M0 K0 dp (9 - dp) f12_testOf_n M k cl (f6_readTest_n S fx M) (f12_readTest_n fk K (nI dp))
  | n, dp, fx, fk, hdp, hn, hfx, hfk => by
    have hT : T ≤ 400 := by have := hE.1; omega
    obtain ⟨fx, rfl⟩ : ∃ z, fx = z + 1 := ⟨fx - 1, by omega⟩
    obtain ⟨fk, rfl⟩ : ∃ z, fk = z + 1 := ⟨fk - 1, by omega⟩
    obtain ⟨fy, rfl⟩ : ∃ z, fx = z + 1 := ⟨fx - 1, by omega⟩
    intro M K k lv cl h hl
    have rF : ∀ M, xB T M → ∃ M', f6_readTest_n S (fy + 1) M = some M' ∧ xB T M' ∧ xQ M M' := fun M hB => xf_test hT hB
    have rS : dp < 8 → ∀ M K k lv cl, rOK T M0 K0 M K k lv (dp + 1) cl → lv ≤ 50 → rdT o cd vl T M0 K0 (dp + 1) (8 - dp) f12_testOf_n M k cl (f6_readTest_n S (fy + 1) M) (f12_readTest_n fk K (nI (dp + 1))) := by
      intro d8 M K k lv cl h hl
      have := rd_test hE (n - 1) (dp + 1) (fy + 1) fk (by omega) (by omega) (by omega) (by omega) M K k lv cl h hl
      rw [show 9 - (dp + 1) = 8 - dp by omega] at this
      exact this
    have sb := rd_test_b (S := S) (rx := f6_readTest_n S (fy + 1)) (rk := f12_readTest_n fk) hE hdp (fun M K k lv cl h hl => rd_both hE hdp (fun M K k lv cl h hl => rd_plain hE hdp rF rS h hl) h hl) h hl
    obtain ⟨M3, K3, r1, r2, r3, r4⟩ := sb
    refine ⟨M3, K3, r1, r2, r3, r4.imp id fun ⟨k', lv', cl', G, z1, z2, z3, z4, z5, z6, z7, z8⟩ => ⟨k', lv', cl', G, z1, z2, z3, z4, z5, z6, z7, fun fu hfu => ?_⟩⟩
    obtain ⟨fu, rfl⟩ : ∃ z, fu = z + 1 := ⟨fu - 1, by omega⟩
    exact z8 fu (by omega)
termination_by n dp => 8 - dp
end RD
