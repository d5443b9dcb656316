/-! PURE HALF: the law's module: both read a plain test (2) -/
section RD
variable {o : Bool} {S : ph_Sh} {bs cd vl pl : Nat → Nat} {T m : Nat} {M0 K0 M K : ph_Mem} {k lv dp cl : Nat}
theorem xf_j87 (h : xB T M) (x : Int32) {rs : ph_Mem → Option ph_Mem} : f6_readPlain_j87 S rs x M = some M := by
  unfold f6_readPlain_j87
  rw [xf_add h, q_bd, ite_self]
theorem rd_plain (hE : tkE o bs cd vl pl T m M0 K0) {rx : ph_Mem → Option ph_Mem} {rk : ph_Mem → Int32 → Option ph_Mem} (hdp : dp ≤ 8) (hrF : ∀ M, xB T M → ∃ M', rx M = some M' ∧ xB T M' ∧ xQ M M') (hrS : dp < 8 → ∀ M K k lv cl, rOK T M0 K0 M K k lv (dp + 1) cl → lv ≤ 50 → rdT o cd vl T M0 K0 (dp + 1) (8 - dp) f12_testOf_n M k cl (rx M) (rk K (nI (dp + 1)))) (h : rOK T M0 K0 M K k lv dp cl) (hl : lv ≤ 50) : rdT o cd vl T M0 K0 dp (8 - dp) (fun fu => f12_plainOf (f12_testOf_n fu)) M k cl (f6_readPlain S rx M) (f12_readPlain rk K (nI dp)) := by
  have hT : T ≤ 400 := by have := hE.1; omega
  obtain ⟨n, M1, K1, a1, a2, a3, a4, a5, a6, a7⟩ := rd_nots (S := S) hE (rx := rx) (rk := rk) 400 0 10000 10000 M K k lv cl (by omega) (by omega) (by omega) (by omega) h
  have hclk := h.2.1.2.1
  have X0 : f6_readPlain S rx M = f6_readPlain_j28 S rx (nI n) M1 := by rw [← Nat.zero_add n]; exact a3
  have Y0 : f12_readPlain rk K (nI dp) = f12_readPlain_j16 rk (nI dp) K1 := a4
  rw [X0, Y0]
  have n400 : n ≤ 400 := by have := a5.2.1.1; omega
  -- at k + n
  have s32 : f6_says S M1 32 = some (nI (decide (cd (k + n) = 140)).toNat) := rd_says hE a5 (by omega)
  have fin := rd_fine a5
  have g19 := a5.2.2.2.1.2
  have k401 : k + n < 401 := by have := a5.2.1.1; omega
  have c9 : K1.1 9 (k + n) = nI (cd (k + n)) := by
    obtain ⟨a, e, a1, a2, a3, a4, a5', a6, a7, _⟩ := hE.2.2.2.1 (k + n) a5.2.1.1
    exact (a5.1.2.1 9 (k + n) (by omega)).trans a7
  have cb := (hE.2.2.2.2.2.2.2 (k + n)).1
  have plk : pl (k + n) ≤ 400 := by
    obtain ⟨a, e, a1, a2, a3, _⟩ := hE.2.2.2.1 (k + n) a5.2.1.1
    have := hE.1
    omega
  by_cases c140 : cd (k + n) = 140
  · -- in brackets
    have kt := rd_lt hE a5 (by omega)
    have hd1 := rOK_dp a5 (dp + 1)
    have g10 := a5.2.2.2.2.2.1
    have e0 : f6_readPlain_j28 S rx (nI n) M1 = (f6_open S M1).bind fun q9 => (rx q9).bind fun q10 => ph_let (ph_wi q10 63 10 ((q10.1 63 10) - nI 1)) fun M11 => (f6_expect S M11 33).bind fun q12 => f6_readPlain_j87 S rx (nI n) q12 := by
      unfold f6_readPlain_j28
      simp only [q_lit]
      rw [s32, q_bd, decide_eq_true c140, if_neg (by first | decide | exact fun q => absurd (show nI 1 = nI 0 from q) (by decide))]
    have e0' : ∀ z, (if nI dp = nI 8 then (f12_faults K1).bind fun q12 => f12_readPlain_j53 rk (nI dp) q12 else f12_readPlain_j53 rk (nI dp) K1) = z → f12_readPlain_j16 rk (nI dp) K1 = z := by
      intro z hz
      rw [← hz]
      unfold f12_readPlain_j16
      simp only [q_lit]
      rw [fin, q_bd, if_neg (by first | decide | exact fun q => absurd (show nI 1 = nI 0 from q) (by decide)), g19, q_ib (by omega) k401, q_ct, q_let, q_cl (by omega), c9, m_sign, q_bd, c140, if_pos (by first | rfl | trivial | decide)]
    by_cases d8 : dp = 8
    · subst d8
      obtain ⟨fl1, fl2, fl3⟩ := rd_fail (S := S) hE hd1
      have op : f6_open S M1 = some (ph_wi (ph_wi M1 63 10 (nI 9)) 63 2 (nI (pl (k + n)))) := by
        unfold f6_open
        simp only [q_lit]
        rw [q_let, g10, nI_add, wi_s, if_neg (by first | decide | exact fun q => absurd (show nI 1 = nI 0 from q) (by decide)), fl1]
        rfl
      have hB := rFa_B hE fl3
      have gM2 : xG M1 (ph_wi (ph_wi M1 63 10 (nI 9)) 63 2 (nI (pl (k + n)))) := xG_w (xG_w (xG_r M1) (by omega)) (by omega)
      generalize ph_wi (ph_wi M1 63 10 (nI 9)) 63 2 (nI (pl (k + n))) = M2 at *
      obtain ⟨M3, r1, r2, r3⟩ := hrF _ hB
      have q4 : xQ M2 (ph_wi M3 63 10 (M3.1 63 10 - nI 1)) := xQ_w r3 (by omega)
      have b4 : xB T (ph_wi M3 63 10 (M3.1 63 10 - nI 1)) := by
        obtain ⟨p, k', h1, h2, h3, h4, h5⟩ := r2
        exact ⟨p, k', h1, h2, by rw [wi_o (by omega)]; exact h3, by rw [wi_o (by omega)]; exact h4, by rw [wi_o (by omega)]; exact h5⟩
      have fl4 := rFa_Q fl3 q4 b4
      refine ⟨_, _, ?_, e0' _ ?_, xG_t a6 (xG_t gM2 (xQ_G q4)), Or.inl fl4⟩
      · rw [e0, op, q_bd, r1, q_bd, q_let, xf_exp hT b4, q_bd, xf_j87 b4]
      · rw [if_pos (by first | rfl | trivial | decide), fl2, q_bd]
        unfold f12_readPlain_j53
        rw [kf_fine (p := pl (k + n)) plk wi_s, q_bd, if_pos (by first | rfl | trivial | decide)]
    · have adv := rd_adv (S := S) hE hd1 kt
      have hn := rd_next hd1 kt
      have op : f6_open S M1 = some (ph_wi (ph_wi M1 63 10 (nI (dp + 1))) 63 8 (nI (k + n + 1))) := by
        unfold f6_open
        simp only [q_lit]
        rw [q_let, g10, nI_add, wi_s, if_pos (by rw [q_le (by omega) (by omega)]; omega), adv]
        rfl
      obtain ⟨M3, K3, r1, r2, r3, r4⟩ := hrS (by omega) _ _ _ _ _ hn hl
      have gx : xG M M3 := xG_t a6 (xG_t (xG_w (xG_w (xG_r M1) (by omega)) (by omega)) r3)
      have mk : f12_readPlain_j16 rk (nI dp) K1 = f12_must K3 (nI 141) := by
        apply e0'
        rw [if_neg (by rw [q_eq (by omega) (by omega)]; exact d8)]
        unfold f12_readPlain_j53
        simp only [q_lit]
        rw [fin, q_bd, if_neg (by first | decide | exact fun q => absurd (show nI 1 = nI 0 from q) (by decide)), q_let, g19, nI_add, nI_add, r2, q_bd, m_sign, q_bd]
        cases f12_must K3 (nI (100 + 41)) <;> rfl
      have xk : f6_readPlain_j28 S rx (nI n) M1 = (f6_expect S (ph_wi M3 63 10 ((M3.1 63 10) - nI 1)) 33).bind fun q12 => f6_readPlain_j87 S rx (nI n) q12 := by
        rw [e0, op, q_bd, r1, q_bd, q_let]
      rw [xk, mk]
      rcases r4 with r4 | ⟨k', lv', cl', F, z1, z2, z3, z4, z5, z6, z7, z8⟩
      · have r5 : rFa T M0 K0 (ph_wi M3 63 10 ((M3.1 63 10) - nI 1)) K3 := by
          obtain ⟨_, p, k1, c1, y1, y2, y3, y4⟩ := id r4
          exact rFa_G r4 (xG_w (xG_r _) (by omega)) (wi_o (by omega)) ⟨k1, y1.2.1, by rw [wi_o (by omega)]; exact y3⟩ (wi_o (by omega))
        obtain ⟨_, p, k1, c1, y1, y2, y3, y4⟩ := id r4
        have hB := rFa_B hE r5
        exact ⟨_, K3, by rw [xf_exp hT hB, q_bd, xf_j87 hB], kf_must y1.1 y2.2, xG_w gx (by omega), Or.inl r5⟩
      · have w10 : M3.1 63 10 - nI 1 = nI dp := by
          rw [z1.2.2.2.2.2.1, q_sub (by omega), Nat.add_sub_cancel]
        rw [w10]
        have z1' := rOK_dp z1 dp
        have s33 : f6_says S (ph_wi M3 63 10 (nI dp)) 33 = some (nI (decide (cd k' = 141)).toNat) := rd_says hE z1' (by omega)
        have tk := rd_take hE z1' (x := 141) (by omega)
        by_cases c141 : cd k' = 141
        · have k't := rd_lt hE z1' (by omega)
          have ex : f6_expect S (ph_wi M3 63 10 (nI dp)) 33 = some (ph_wi (ph_wi M3 63 10 (nI dp)) 63 8 (nI (k' + 1))) := by
            unfold f6_expect
            rw [s33, q_bd, decide_eq_true c141, if_neg (by first | decide | exact fun q => absurd (show nI 1 = nI 0 from q) (by decide)), rd_adv hE z1' k't, q_bd]
          have ey : f12_must K3 (nI 141) = some (ph_wi K3 0 19 (nI (k' + 1))) := by
            unfold f12_must
            rw [tk, if_pos c141, q_bd, if_neg (by first | decide | exact fun q => absurd (show nI 1 = nI 0 from q) (by decide))]
          rw [ex, ey, q_bd]
          refine rd_nt (mt := f12_testOf_n) (F := F) (k1 := k + n) hT n400 (rd_next z1' k't) z2 rfl (by omega) hclk z4 (by omega) (xG_w (xG_w gx (by omega)) (by omega)) (fun j hj => ?_) ?_ a1 a2 (fun fu hfu => mB_br (z8 fu hfu) c140 k't)
          · rw [wi_o (by omega), wi_o (by omega), z6 j hj, wi_o (by omega), wi_o (by omega), a7]
          · exact lwK_cg z7 (fun j _ _ => by rw [wi_o (by omega), wi_o (by omega)])
        · obtain ⟨fl1, fl2, fl3⟩ := rd_fail (S := S) hE z1'
          have hB := rFa_B hE fl3
          refine ⟨_, _, ?_, ?_, xG_w (xG_w gx (by omega)) (by omega), Or.inl fl3⟩
          · unfold f6_expect
            rw [s33, q_bd, decide_eq_false c141, if_pos (by first | rfl | trivial | decide), fl1, q_bd, q_bd, xf_j87 hB]
          · unfold f12_must
            rw [tk, if_neg c141, q_bd, if_pos (by first | rfl | trivial | decide), fl2, q_bd]
  · -- a comparison
    obtain ⟨M2, K2, r1, r2, r3, r4⟩ := rd_sum (S := S) hE (8 - dp) dp 20 20 hdp (Nat.le_refl _) (by omega) (by omega) M1 K1 (k + n) lv cl a5 hl
    have r1' : f6_readSum S M1 = some M2 := r1
    have r2' : f12_readSum K1 (nI dp) = some K2 := r2
    have G2 : xG M M2 := xG_t a6 r3
    have X1 : f6_readPlain_j28 S rx (nI n) M1 = (f6_comparisonHere S M2).bind fun q5 => (f6_advance S q5.2).bind fun q6 => (f6_readSum S q6).bind fun q7 => (f6_add S q7 q5.1 (nI 0)).bind fun q8 => f6_readPlain_j87 S rx (nI n) q8 := by
      unfold f6_readPlain_j28
      simp only [q_lit]
      rw [s32, q_bd, decide_eq_false c140, if_pos (by first | rfl | trivial | decide), r1', q_bd]
    have Y1 : f12_readPlain_j16 rk (nI dp) K1 = (f12_takes0 K2 (nI 160)).bind fun q7 => if q7.1 = nI 0 then ((f12_takes0 q7.2 (nI 162)).bind fun q9 => if q9.1 = nI 0 then ((f12_must q9.2 (nI 161)).bind fun q11 => f12_readSum q11 (nI dp)) else (f12_readSum q9.2 (nI dp))) else (f12_readSum q7.2 (nI dp)) := by
      have j128 : ∀ N, f12_readPlain_j128 rk (nI dp) N = f12_readSum N (nI dp) := fun N => by
        unfold f12_readPlain_j128
        cases f12_readSum N (nI dp) <;> rfl
      unfold f12_readPlain_j16
      simp only [q_lit, m_sign, q_bd, j128]
      rw [fin, q_bd, if_neg (by first | decide | exact fun q => absurd (show nI 1 = nI 0 from q) (by decide)), g19, q_ib (by omega) k401, q_ct, q_let, q_cl (by omega), c9, if_neg (by rw [q_eq (by omega) (by omega)]; exact c140), r2', q_bd]
    rw [X1, Y1]
    rcases r4 with r4 | ⟨k', lv', cl', F, z1, z2, z3, z4, z5, z6, z7, z8⟩
    · -- the first sum failed
      have hB := rFa_B hE r4
      obtain ⟨_, p, _, _, y1, y2, _, _⟩ := id r4
      have ch : f6_comparisonHere S M2 = some (nI 13, M2) := by
        unfold f6_comparisonHere
        simp only [xf_says (S := S) hT hB, q_bd, xf_fail (S := S) hB]
        rfl
      obtain ⟨ka, _, ad, hB2⟩ := xf_adv (S := S) hT hB
      have rs : f6_readSum S (ph_wi M2 63 8 (nI ka)) = some (ph_wi (ph_wi M2 63 8 (nI ka)) 63 9 ((ph_wi M2 63 8 (nI ka)).1 63 9 + nI 1)) := (xf_sum (rs := f6_readSum_n S 19) hT hB2).2
      have hB3 := xf_w9 hB2 ((ph_wi M2 63 8 (nI ka)).1 63 9 + nI 1)
      have q3 : xQ M2 (ph_wi (ph_wi M2 63 8 (nI ka)) 63 9 ((ph_wi M2 63 8 (nI ka)).1 63 9 + nI 1)) := xQ_w (xQ_w (xQ_r M2) (by omega)) (by omega)
      have ks : f12_readSum K2 (nI dp) = some K2 := (kf_sum (rs := f12_readSum_n 19) y1.1 y2.2).2
      refine ⟨_, K2, ?_, ?_, xG_t G2 (xQ_G q3), Or.inl (rFa_Q r4 q3 hB3)⟩
      · rw [ch, q_bd, ad, q_bd, rs, q_bd, xf_add hB3, q_bd, xf_j87 hB3]
      · rw [kf_take y1.1 y2.2, q_bd, if_pos (by first | rfl | trivial | decide), kf_take y1.1 y2.2, q_bd, if_pos (by first | rfl | trivial | decide), kf_must y1.1 y2.2, q_bd, ks]
    · have s34 : f6_says S M2 34 = some (nI (decide (cd k' = 160)).toNat) := rd_says hE z1 (by omega)
      have s35 : f6_says S M2 35 = some (nI (decide (cd k' = 162)).toNat) := rd_says hE z1 (by omega)
      have s36 : f6_says S M2 36 = some (nI (decide (cd k' = 161)).toNat) := rd_says hE z1 (by omega)
      have t1 := rd_take hE z1 (x := 160) (by omega)
      have t2 := rd_take hE z1 (x := 162) (by omega)
      have t3 := rd_take hE z1 (x := 161) (by omega)
      by_cases hop : cd k' = 160 ∨ cd k' = 162 ∨ cd k' = 161
      · have kt := rd_lt hE z1 (by omega)
        have hnx := rd_next z1 kt
        obtain ⟨kd, hkd⟩ : ∃ kd, (cd k' = 160 ∧ kd = 11) ∨ (cd k' = 162 ∧ kd = 12) ∨ (cd k' = 161 ∧ kd = 13) := by
          rcases hop with q | q | q
          · exact ⟨11, Or.inl ⟨q, rfl⟩⟩
          · exact ⟨12, Or.inr (Or.inl ⟨q, rfl⟩)⟩
          · exact ⟨13, Or.inr (Or.inr ⟨q, rfl⟩)⟩
        have kdb : 11 ≤ kd ∧ kd ≤ 13 := by omega
        have ch : f6_comparisonHere S M2 = some (nI kd, M2) := by
          unfold f6_comparisonHere
          simp only [s34, s35, s36, q_bd, q_lit]
          rcases hkd with ⟨q, rfl⟩ | ⟨q, rfl⟩ | ⟨q, rfl⟩
          · rw [decide_eq_true q, if_neg (by first | decide | exact fun q => absurd (show nI 1 = nI 0 from q) (by decide))]
          · rw [decide_eq_false (show ¬ cd k' = 160 by omega), decide_eq_true q, if_pos (by first | rfl | trivial | decide), if_neg (by first | decide | exact fun q => absurd (show nI 1 = nI 0 from q) (by decide))]
          · rw [decide_eq_false (show ¬ cd k' = 160 by omega), decide_eq_false (show ¬ cd k' = 162 by omega), decide_eq_true q, if_pos (by first | rfl | trivial | decide), if_pos (by first | rfl | trivial | decide), if_neg (by first | decide | exact fun q => absurd (show nI 1 = nI 0 from q) (by decide))]
        have mt : ((f12_takes0 K2 (nI 160)).bind fun q7 => if q7.1 = nI 0 then ((f12_takes0 q7.2 (nI 162)).bind fun q9 => if q9.1 = nI 0 then ((f12_must q9.2 (nI 161)).bind fun q11 => f12_readSum q11 (nI dp)) else (f12_readSum q9.2 (nI dp))) else (f12_readSum q7.2 (nI dp))) = f12_readSum (ph_wi K2 0 19 (nI (k' + 1))) (nI dp) := by
          rw [t1]
          rcases hkd with ⟨q, rfl⟩ | ⟨q, rfl⟩ | ⟨q, rfl⟩
          · rw [if_pos q, q_bd, if_neg (by first | decide | exact fun q => absurd (show nI 1 = nI 0 from q) (by decide))]
          · rw [if_neg (show ¬ cd k' = 160 by omega), q_bd, if_pos (by first | rfl | trivial | decide), t2, if_pos q, q_bd, if_neg (by first | decide | exact fun q => absurd (show nI 1 = nI 0 from q) (by decide))]
          · rw [if_neg (show ¬ cd k' = 160 by omega), q_bd, if_pos (by first | rfl | trivial | decide), t2, if_neg (show ¬ cd k' = 162 by omega), q_bd, if_pos (by first | rfl | trivial | decide)]
            unfold f12_must
            rw [t3, if_pos q, q_bd, if_neg (by first | decide | exact fun q => absurd (show nI 1 = nI 0 from q) (by decide)), q_bd]
        rw [ch, q_bd, rd_adv hE z1 kt, q_bd, mt]
        obtain ⟨M4, K4, v1, v2, v3, v4⟩ := rd_sum (S := S) hE (8 - dp) dp 20 20 hdp (Nat.le_refl _) (by omega) (by omega) _ _ _ _ _ hnx z2
        have v1' : f6_readSum S (ph_wi M2 63 8 (nI (k' + 1))) = some M4 := v1
        have v2' : f12_readSum (ph_wi K2 0 19 (nI (k' + 1))) (nI dp) = some K4 := v2
        have G4 : xG M M4 := xG_t (xG_w G2 (by omega)) v3
        rw [v1', v2', q_bd]
        rcases v4 with v4 | ⟨k'', lv'', cl'', G, w1, w2, w3, w4, w5, w6, w7, w8⟩
        · have hB := rFa_B hE v4
          exact ⟨M4, K4, by rw [xf_add hB, q_bd, xf_j87 hB], rfl, G4, Or.inl v4⟩
        · have hc1 := z1.2.1.2.1
          obtain ⟨b1, b2⟩ := rd_add (S := S) w1 hT (x := kd) (y := 0) (by omega) (by omega) (by omega)
          rw [b1, q_bd]
          have s69 : ∀ j, j < cl'' → (ph_wi (ph_wi M4 69 cl'' (nI (32 * 0 + kd))) 63 14 (nI (cl'' + 1))).1 69 j = M4.1 69 j := fun j hj => by rw [wi_o (by omega), wi_o (by omega)]
          have lo : ∀ j, j < cl' → M4.1 69 j = M2.1 69 j := fun j hj => by rw [w6 j hj, wi_o (by omega)]
          have cl4 : cl'' < 400 := by have := w1.2.1; omega
          refine rd_nt (mt := f12_testOf_n) (F := lw_C kd F G) (k1 := k + n) hT n400 b2 w2 rfl (by omega) hclk (by omega) (by omega) (xG_w (xG_w G4 (by omega)) (by omega)) (fun j hj => ?_) ?_ a1 a2 (fun fu hfu => mB_cmp c140 (z8 20 (by omega)) hkd (w8 20 (by omega)))
          · rw [s69 j (by omega), lo j (by omega), z6 j hj, a7]
          · exact lwK_cmp (lwK_cg z7 (fun j _ q => by rw [s69 j (by omega), lo j q])) (lwK_cg w7 (fun j _ q => s69 j q)) cl4 (by rw [wi_o (by omega), wi_s, Nat.mul_zero, Nat.zero_add]) (by omega) (by omega) (by omega) (by omega) (by omega)
      · have n1 : ¬ cd k' = 160 := fun q => hop (Or.inl q)
        have n2 : ¬ cd k' = 162 := fun q => hop (Or.inr (Or.inl q))
        have n3 : ¬ cd k' = 161 := fun q => hop (Or.inr (Or.inr q))
        obtain ⟨fl1, fl2, fl3⟩ := rd_fail (S := S) hE z1
        have hB := rFa_B hE fl3
        obtain ⟨_, p, _, _, y1, y2, _, _⟩ := id fl3
        have ch : f6_comparisonHere S M2 = some (nI 13, ph_wi M2 63 2 (nI (pl k'))) := by
          unfold f6_comparisonHere
          simp only [s34, s35, s36, q_bd, q_lit]
          rw [decide_eq_false n1, decide_eq_false n2, decide_eq_false n3, if_pos (by first | rfl | trivial | decide), if_pos (by first | rfl | trivial | decide), if_pos (by first | rfl | trivial | decide), fl1, q_bd]
        obtain ⟨ka, _, ad, hB2⟩ := xf_adv (S := S) hT hB
        have q3 : xQ (ph_wi M2 63 2 (nI (pl k'))) (ph_wi (ph_wi (ph_wi M2 63 2 (nI (pl k'))) 63 8 (nI ka)) 63 9 ((ph_wi (ph_wi M2 63 2 (nI (pl k'))) 63 8 (nI ka)).1 63 9 + nI 1)) := xQ_w (xQ_w (xQ_r _) (by omega)) (by omega)
        have rs : f6_readSum S (ph_wi (ph_wi M2 63 2 (nI (pl k'))) 63 8 (nI ka)) = some (ph_wi (ph_wi (ph_wi M2 63 2 (nI (pl k'))) 63 8 (nI ka)) 63 9 ((ph_wi (ph_wi M2 63 2 (nI (pl k'))) 63 8 (nI ka)).1 63 9 + nI 1)) := (xf_sum (rs := f6_readSum_n S 19) hT hB2).2
        have hB3 := xf_w9 hB2 ((ph_wi (ph_wi M2 63 2 (nI (pl k'))) 63 8 (nI ka)).1 63 9 + nI 1)
        have ks : f12_readSum (ph_wi K2 0 21 (nI (pl k'))) (nI dp) = some (ph_wi K2 0 21 (nI (pl k'))) := (kf_sum (rs := f12_readSum_n 19) y1.1 y2.2).2
        refine ⟨_, _, ?_, ?_, xG_t (xG_w G2 (by omega)) (xQ_G q3), Or.inl (rFa_Q fl3 q3 hB3)⟩
        · rw [ch, q_bd, ad, q_bd, rs, q_bd, xf_add hB3, q_bd, xf_j87 hB3]
        · rw [t1, if_neg n1, q_bd, if_pos (by first | rfl | trivial | decide), t2, if_neg n2, q_bd, if_pos (by first | rfl | trivial | decide)]
          unfold f12_must
          rw [t3, if_neg n3, q_bd, if_pos (by first | rfl | trivial | decide), fl2, q_bd, q_bd, ks]
end RD
