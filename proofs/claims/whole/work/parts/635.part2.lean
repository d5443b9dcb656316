/-! PURE HALF: the law's module: both read a part (2) -/
section RD
variable {o : Bool} {S : ph_Sh} {bs cd vl pl : Nat → Nat} {T m : Nat} {M0 K0 M K : ph_Mem} {k lv dp cl : Nat}
theorem rFa_K {K' : ph_Mem} (h : rFa T M0 K0 M K) (h1 : kF K0 K') (h2 : K'.1 0 21 = K.1 0 21) : rFa T M0 K0 M K' := by
  obtain ⟨⟨f0, f1⟩, p, k, cl, c, ⟨h5, h6⟩, h7⟩ := h
  exact ⟨⟨f0, h1⟩, p, k, cl, c, ⟨h5, h2.trans h6⟩, h7⟩
theorem rOK_dp (h : rOK T M0 K0 M K k lv dp cl) (e : Nat) : rOK T M0 K0 (ph_wi M 63 10 (nI e)) K k lv e cl := by
  obtain ⟨⟨f0, f1⟩, g, ⟨g4, g5⟩, ⟨g6, g7⟩, ⟨g8, g9⟩, g10, g11⟩ := h
  exact ⟨⟨xF_G f0 (xG_w (xG_r M) (by omega)), f1⟩, g, ⟨by rw [wi_o (by omega)]; exact g4, g5⟩, ⟨by rw [wi_o (by omega)]; exact g6, g7⟩, ⟨by rw [wi_o (by omega)]; exact g8, g9⟩, wi_s, by rw [wi_o (by omega)]; exact g11⟩
theorem rOK_lv (h : rOK T M0 K0 M K k lv dp cl) {l : Nat} (hl : l ≤ 51) : rOK T M0 K0 (ph_wi M 63 9 (nI l)) (ph_wi K 0 20 (nI l)) k l dp cl := by
  obtain ⟨⟨f0, f1⟩, ⟨g1, g2, g3⟩, ⟨g4, g5⟩, ⟨g6, g7⟩, ⟨g8, g9⟩, g10, g11⟩ := h
  exact ⟨⟨xF_G f0 (xG_w (xG_r M) (by omega)), kF_w f1 (by omega)⟩, ⟨g1, g2, hl⟩, ⟨by rw [wi_o (by omega)]; exact g4, by rw [wi_o (by omega)]; exact g5⟩, ⟨by rw [wi_o (by omega)]; exact g6, by rw [wi_o (by omega)]; exact g7⟩, ⟨wi_s, wi_s⟩, by rw [wi_o (by omega)]; exact g10, by rw [wi_o (by omega)]; exact g11⟩
theorem rd_leaf {nd d : Nat} {mk : Nat → ph_Mem → Int32 → Option (Int64 × ph_Mem)} {M2 K2 : ph_Mem} {k2 lv2 : Nat} (hT : T ≤ 400) (h2 : rOK T M0 K0 M2 K2 k2 lv2 dp cl) (hl : lv2 ≤ 50) (hk : k < k2) (hcl : cl ≤ k) (hG : xG M M2) (h69 : ∀ j, j < cl → M2.1 69 j = M.1 69 j) {x y : Nat} (hx : x < 32) (hy : y ≤ 1000) {F : lwS} (hK : ∀ code : Nat → Int32, code cl = nI (32 * y + x) → lwK o code cl (cl + 1) 1 F) (hnd : 1 ≤ nd) (hm : ∀ fu, d ≤ fu → mS o cd vl T (mk fu) k k2 F) {ex ey : Option ph_Mem} (e1 : ex = f6_add S M2 (nI x) (nI y)) (e2 : ey = some K2) : rdS o cd vl T M0 K0 dp nd d mk M k cl ex ey := by
  obtain ⟨a1, a2⟩ := rd_add (S := S) h2 hT hx hy (by omega)
  exact ⟨_, K2, e1.trans a1, e2, xG_w (xG_w hG (by omega)) (by omega), Or.inr ⟨k2, lv2, cl + 1, F, a2, hl, hk, by omega, by omega, fun j hj => by rw [wi_o (by omega), wi_o (by omega)]; exact h69 j hj, lwK_nd (hK _ (by rw [wi_o (by omega), wi_s])) hnd, hm⟩⟩
theorem rd_part (hE : tkE o bs cd vl pl T m M0 K0) {rx : ph_Mem → Option ph_Mem} {rk : ph_Mem → Int32 → Option ph_Mem} (hdp : dp ≤ 8) (hrF : ∀ M, xB T M → rx M = some (ph_wi M 63 9 (M.1 63 9 + nI 1))) (hrS : dp < 8 → ∀ M K k lv cl, rOK T M0 K0 M K k lv (dp + 1) cl → lv ≤ 50 → rdS o cd vl T M0 K0 (dp + 1) (17 - 2 * dp) (8 - dp) f12_sumOf_n M k cl (rx M) (rk K (nI (dp + 1)))) (h : rOK T M0 K0 M K k lv dp cl) (hl : lv ≤ 50) : rdS o cd vl T M0 K0 dp (17 - 2 * dp) (8 - dp) (fun fu => f12_partOf (f12_sumOf_n fu)) M k cl (f6_readPart S rx M) (f12_readPart rk K (nI dp)) := by
  have hT : T ≤ 400 := by have := hE.1; omega
  have kT := rd_lt hE h
  have s6 : f6_says S M 6 = some (nI (decide (cd k = 191)).toNat) := rd_says hE h (by omega)
  have fin := rd_fine h
  have hclk := h.2.1.2.1
  have c9 : K.1 9 k = nI (cd k) := by
    obtain ⟨a, e, a1, a2, a3, a4, a5, a6, a7, _⟩ := hE.2.2.2.1 k h.2.1.1
    exact (h.1.2.1 9 k (by omega)).trans a7
  have c10 : K.1 10 k = nI (vl k) := by
    obtain ⟨a, e, a1, a2, a3, a4, a5, a6, a7, a8, _⟩ := hE.2.2.2.1 k h.2.1.1
    exact (h.1.2.1 10 k (by omega)).trans a8
  have cb := hE.2.2.2.2.2.2.2 k
  have g19 := h.2.2.2.1.2
  have k401 : k < 401 := by have := h.2.1.1; omega
  have plk : pl k ≤ 400 := by
    obtain ⟨a, e, a1, a2, a3, _⟩ := hE.2.2.2.1 k h.2.1.1
    have := hE.1
    omega
  by_cases c191 : cd k = 191
  · -- in brackets
    have kt := kT (by omega)
    have hd1 := rOK_dp h (dp + 1)
    have g10 := h.2.2.2.2.2.1
    have e0 : f6_readPart S rx M = (f6_open S M).bind fun q6 => (rx q6).bind fun q7 => ph_let (ph_wi q7 63 10 ((q7.1 63 10) - nI 1)) fun M8 => (f6_expect S M8 7).bind fun q9 => some q9 := by
      unfold f6_readPart
      simp only [q_lit]
      rw [s6, q_bd, decide_eq_true c191, if_neg (by first | decide | exact fun q => absurd (show nI 1 = nI 0 from q) (by decide))]
    have e0' : ∀ z, (if nI dp = nI 8 then (f12_faults K).bind fun q4 => f12_readPart_j37 rk (nI dp) q4 else f12_readPart_j37 rk (nI dp) K) = z → f12_readPart rk K (nI dp) = z := by
      intro z hz
      rw [← hz]
      unfold f12_readPart
      simp only [q_lit]
      rw [fin, q_bd, if_neg (by first | decide | exact fun q => absurd (show nI 1 = nI 0 from q) (by decide)), g19, q_ib (by omega) k401, q_ct, q_let, q_cl (by omega), c9, m_sign, q_bd, c191, if_pos (by first | rfl | trivial | decide)]
    by_cases d8 : dp = 8
    · subst d8
      obtain ⟨fl1, fl2, fl3⟩ := rd_fail (S := S) hE hd1
      have op : f6_open S M = some (ph_wi (ph_wi M 63 10 (nI 9)) 63 2 (nI (pl k))) := by
        unfold f6_open
        simp only [q_lit]
        rw [q_let, g10, nI_add, wi_s, if_neg (by first | decide | exact fun q => absurd (show nI 1 = nI 0 from q) (by decide)), fl1]
        rfl
      have hB := rFa_B hE fl3
      have gM2 : xG M (ph_wi (ph_wi M 63 10 (nI 9)) 63 2 (nI (pl k))) := xG_w (xG_w (xG_r M) (by omega)) (by omega)
      have h82 : (ph_wi (ph_wi M 63 10 (nI 9)) 63 2 (nI (pl k))).1 63 8 = nI k := by rw [wi_o (by omega), wi_o (by omega)]; exact h.2.2.2.1.1
      generalize ph_wi (ph_wi M 63 10 (nI 9)) 63 2 (nI (pl k)) = M2 at *
      have rx1 := hrF _ hB
      have fl4 : rFa T M0 K0 (ph_wi (ph_wi M2 63 9 (M2.1 63 9 + nI 1)) 63 10 ((ph_wi M2 63 9 (M2.1 63 9 + nI 1)).1 63 10 - nI 1)) (ph_wi K 0 21 (nI (pl k))) := rFa_G fl3 (xG_w (xG_w (xG_r _) (by omega)) (by omega)) (by rw [wi_o (by omega), wi_o (by omega)]) ⟨k, h.2.1.1, by rw [wi_o (by omega), wi_o (by omega)]; exact h82⟩ (by rw [wi_o (by omega), wi_o (by omega)])
      refine ⟨ph_wi (ph_wi M2 63 9 (M2.1 63 9 + nI 1)) 63 10 ((ph_wi M2 63 9 (M2.1 63 9 + nI 1)).1 63 10 - nI 1), ph_wi K 0 21 (nI (pl k)), ?_, e0' _ ?_, xG_w (xG_w gM2 (by omega)) (by omega), Or.inl fl4⟩
      · rw [e0, op, q_bd, rx1, q_bd, q_let, xf_exp hT (rFa_B hE fl4), q_bd]
      · rw [if_pos (by first | rfl | trivial | decide), fl2, q_bd]
        unfold f12_readPart_j37
        rw [kf_fine (p := pl k) plk wi_s, q_bd, if_pos (by first | rfl | trivial | decide)]
    · have adv := rd_adv (S := S) hE hd1 kt
      have hn := rd_next hd1 kt
      have op : f6_open S M = some (ph_wi (ph_wi M 63 10 (nI (dp + 1))) 63 8 (nI (k + 1))) := by
        unfold f6_open
        simp only [q_lit]
        rw [q_let, g10, nI_add, wi_s, if_pos (by rw [q_le (by omega) (by omega)]; omega), adv]
        rfl
      obtain ⟨M3, K3, r1, r2, r3, r4⟩ := hrS (by omega) _ _ _ _ _ hn hl
      have gx : xG M M3 := xG_t (xG_w (xG_w (xG_r M) (by omega)) (by omega)) r3
      have mk : f12_readPart rk K (nI dp) = f12_must K3 (nI 193) := by
        apply e0'
        rw [if_neg (by rw [q_eq (by omega) (by omega)]; exact d8)]
        unfold f12_readPart_j37
        simp only [q_lit]
        rw [fin, q_bd, if_neg (by first | decide | exact fun q => absurd (show nI 1 = nI 0 from q) (by decide)), q_let, g19, nI_add, nI_add, r2, q_bd, m_sign, q_bd]
        cases f12_must K3 (nI (100 + 93)) <;> rfl
      have xk : f6_readPart S rx M = f6_expect S (ph_wi M3 63 10 ((M3.1 63 10) - nI 1)) 7 := by
        rw [e0, op, q_bd, r1, q_bd, q_let]
        cases f6_expect S (ph_wi M3 63 10 ((M3.1 63 10) - nI 1)) 7 <;> rfl
      rcases r4 with r4 | ⟨k', lv', cl', F, z1, z2, z3, z4, z5, z6, z7, z8⟩
      · have r5 : rFa T M0 K0 (ph_wi M3 63 10 ((M3.1 63 10) - nI 1)) K3 := by
          obtain ⟨_, p, k1, c1, y1, y2, y3, y4⟩ := id r4
          exact rFa_G r4 (xG_w (xG_r _) (by omega)) (wi_o (by omega)) ⟨k1, y1.2.1, by rw [wi_o (by omega)]; exact y3⟩ (wi_o (by omega))
        obtain ⟨_, p, k1, c1, y1, y2, y3, y4⟩ := id r4
        exact ⟨_, K3, xk.trans (xf_exp hT (rFa_B hE r5) 7), mk.trans (kf_must y1.1 y2.2), xG_w gx (by omega), Or.inl r5⟩
      · have w10 : M3.1 63 10 - nI 1 = nI dp := by
          rw [z1.2.2.2.2.2.1, q_sub (by omega), Nat.add_sub_cancel]
        rw [w10] at xk
        have z1' := rOK_dp z1 dp
        have s7 : f6_says S (ph_wi M3 63 10 (nI dp)) 7 = some (nI (decide (cd k' = 193)).toNat) := rd_says hE z1' (by omega)
        have tk := rd_take hE z1' (x := 193) (by omega)
        by_cases c193 : cd k' = 193
        · have k't := rd_lt hE z1' (by omega)
          refine ⟨_, _, xk.trans ?_, mk.trans ?_, xG_w (xG_w gx (by omega)) (by omega), Or.inr ⟨k' + 1, lv', cl', F, rd_next z1' k't, z2, by omega, z4, by omega, fun j hj => ?_, ?_, fun fu hfu => mS_br (z8 fu hfu) c191 k't⟩⟩
          · unfold f6_expect
            rw [s7, q_bd, decide_eq_true c193, if_neg (by first | decide | exact fun q => absurd (show nI 1 = nI 0 from q) (by decide)), rd_adv hE z1' k't, q_bd]
          · unfold f12_must
            rw [tk, if_pos c193, q_bd, if_neg (by first | decide | exact fun q => absurd (show nI 1 = nI 0 from q) (by decide))]
          · rw [wi_o (by omega), wi_o (by omega), z6 j hj, wi_o (by omega), wi_o (by omega)]
          · exact lwK_cg z7 (fun j _ _ => by rw [wi_o (by omega), wi_o (by omega)])
        · obtain ⟨fl1, fl2, fl3⟩ := rd_fail (S := S) hE z1'
          refine ⟨_, _, xk.trans ?_, mk.trans ?_, xG_w (xG_w gx (by omega)) (by omega), Or.inl fl3⟩
          · unfold f6_expect
            rw [s7, q_bd, decide_eq_false c193, if_pos (by first | rfl | trivial | decide), fl1, q_bd]
          · unfold f12_must
            rw [tk, if_neg c193, q_bd, if_pos (by first | rfl | trivial | decide), fl2, q_bd]
  · -- a leaf
    have g8 := h.2.2.2.2.1.1
    have g9 := h.2.2.2.2.1.2
    have h1 := rOK_lv h (l := lv + 1) (by omega)
    generalize eM1 : ph_wi M 63 9 (nI (lv + 1)) = M1 at *
    generalize eK1 : ph_wi K 0 20 (nI (lv + 1)) = K1 at *
    have G1 : xG M M1 := by rw [← eM1]; exact xG_w (xG_r M) (by omega)
    have o69 : ∀ j, M1.1 69 j = M.1 69 j := fun j => by rw [← eM1, wi_o (by omega)]
    have isn := rd_isn (S := S) hE h1
    obtain ⟨fl1, fl2, fl3⟩ := rd_fail (S := S) hE h1
    obtain ⟨_, fk2, fk3⟩ := rd_fail (S := S) hE h
    have m3 : M1.1 63 3 = nI o.toNat := (h1.1.1.1 63 3 (by omega) (by omega) (by omega)).trans hE.2.2.1.1
    have m9 : M1.1 63 9 = nI (lv + 1) := h1.2.2.2.2.1.1
    have k8 : K.1 0 8 = nI (if o = true then 17 else 8) := (h.1.2.1 0 8 (by omega)).trans hE.2.2.1.2.2.1
    have k9 : K.1 0 9 = nI (if o = true then 22 else 16) := (h.1.2.1 0 9 (by omega)).trans hE.2.2.1.2.2.2
    -- the class up to the choice
    have e0 : f6_readPart S rx M = f6_readPart_j75 S rx (nI (decide (cd k = 50)).toNat) (if (if o = true then 17 else 8) ≤ cd k ∧ cd k ≤ (if o = true then 22 else 16) then nI (if o = true then owd (cd k) else cd k - 8) else -nI 1) M1 := by
      unfold f6_readPart
      simp only [q_lit]
      rw [s6, q_bd, decide_eq_false c191, if_pos (by first | rfl | trivial | decide), q_let, g8, nI_add, eM1, isn, q_bd]
      by_cases c50 : cd k = 50
      · rw [decide_eq_true c50, if_neg (by first | decide | exact fun q => absurd (show nI 1 = nI 0 from q) (by decide))]
        cases o
        · rw [if_neg (by simp; omega)]
        · rw [if_neg (by simp; omega)]
      · rw [decide_eq_false c50, if_pos (by first | rfl | trivial | decide), m3]
        cases o
        · rw [if_pos (by first | rfl | trivial | decide), rd_law hE h1, q_bd]; rfl
        · rw [if_neg (by first | decide | exact fun q => absurd (show nI 1 = nI 0 from q) (by decide)), rd_ord hE h1, q_bd]; rfl
    have m0 : ∀ z, (if cd k = 50 ∧ vl k ≤ 1000 ∨ (if o = true then 17 else 8) ≤ cd k ∧ cd k ≤ (if o = true then 22 else 16) then f12_readPart_j111 rk (nI (cd k)) K else some (ph_wi K 0 21 (nI (pl k)))) = z → f12_readPart rk K (nI dp) = z := by
      intro z hz
      rw [← hz]
      have j149 : f12_readPart_j149 rk K = some (ph_wi K 0 21 (nI (pl k))) := by
        unfold f12_readPart_j149
        rw [fk2]
        rfl
      have j95 : f12_readPart_j95 rk (nI (cd k)) K = if (if o = true then 17 else 8) ≤ cd k ∧ cd k ≤ (if o = true then 22 else 16) then f12_readPart_j111 rk (nI (cd k)) K else some (ph_wi K 0 21 (nI (pl k))) := by
        unfold f12_readPart_j95
        rw [k8, k9, j149]
        have b1 : (if o = true then 17 else 8) < 100 := by cases o <;> simp
        have b2 : (if o = true then 22 else 16) < 100 := by cases o <;> simp
        generalize (if o = true then 17 else 8) = lo at *
        generalize (if o = true then 22 else 16) = hi at *
        by_cases q1 : lo ≤ cd k
        · rw [if_neg (by rw [q_lt (by omega) (by omega)]; omega)]
          by_cases q2 : cd k ≤ hi
          · rw [if_neg (by rw [q_lt (by omega) (by omega)]; omega), if_pos ⟨q1, q2⟩]
          · rw [if_pos (by rw [q_lt (by omega) (by omega)]; omega), if_neg (fun q => q2 q.2)]
        · rw [if_pos (by rw [q_lt (by omega) (by omega)]; omega), if_neg (fun q => q1 q.1)]
      unfold f12_readPart
      simp only [q_lit]
      rw [fin, q_bd, if_neg (by first | decide | exact fun q => absurd (show nI 1 = nI 0 from q) (by decide)), g19, q_ib (by omega) k401, q_ct, q_let, q_cl (by omega), c9, m_sign, q_bd, if_neg (by rw [q_eq (by omega) (by omega)]; exact c191), q_ct, c10, j95]
      by_cases c50 : cd k = 50
      · rw [if_pos (by rw [c50])]
        by_cases c1000 : vl k ≤ 1000
        · rw [if_pos (by rw [q_le (by omega) (by omega)]; exact c1000), if_pos (Or.inl ⟨c50, c1000⟩)]
        · rw [if_neg (by rw [q_le (by omega) (by omega)]; exact c1000)]
          by_cases q : (if o = true then 17 else 8) ≤ cd k ∧ cd k ≤ (if o = true then 22 else 16)
          · rw [if_pos q, if_pos (Or.inr q)]
          · rw [if_neg q, if_neg (fun z => z.elim (fun z => c1000 z.2) q)]
      · rw [if_neg (by rw [q_eq (by omega) (by omega)]; exact c50)]
        by_cases q : (if o = true then 17 else 8) ≤ cd k ∧ cd k ≤ (if o = true then 22 else 16)
        · rw [if_pos q, if_pos (Or.inr q)]
        · rw [if_neg q, if_neg (fun z => z.elim (fun z => c50 z.1) q)]
    by_cases l50 : lv = 50
    · -- one part too many
      have xx : f6_readPart S rx M = some (ph_wi M1 63 2 (nI (pl k))) := by
        rw [e0]
        unfold f6_readPart_j75 f6_readPart_j94
        simp only [q_lit]
        rw [m9, if_pos (by rw [q_lt (by omega) (by omega)]; omega), fl1]
        rfl
      have k111 : ∃ K', f12_readPart_j111 rk (nI (cd k)) K = some K' ∧ kF K0 K' ∧ K'.1 0 21 = nI (pl k) := by
        have p21 : (ph_wi (ph_wi K 0 21 (nI (pl k))) 0 20 (nI (lv + 1))).1 0 21 = nI (pl k) := by rw [wi_o (by omega), wi_s]
        refine ⟨ph_wi (ph_wi K 0 21 (nI (pl k))) 0 20 (nI (lv + 1)), ?_, kF_w (kF_w h.1.2 (by omega)) (by omega), p21⟩
        have lf : f12_leaf K = some (ph_wi (ph_wi K 0 21 (nI (pl k))) 0 20 (nI (lv + 1))) := by
          unfold f12_leaf f12_leaf_j13
          simp only [q_lit]
          rw [g9, l50, if_pos (by first | rfl | trivial | decide), fk2, q_bd, q_let, wi_o (by omega), g9, l50, nI_add, kf_fine (p := pl k) plk (by rw [wi_o (by omega), wi_s]), q_bd, if_pos (by first | rfl | trivial | decide)]
        unfold f12_readPart_j111 f12_readPart_j133
        rw [lf, q_bd]
        generalize ph_wi (ph_wi K 0 21 (nI (pl k))) 0 20 (nI (lv + 1)) = K' at *
        simp only [kf_num plk p21, q_bd]
        repeat' split
        all_goals rfl
      obtain ⟨K', q1, q2, q3⟩ := k111
      by_cases cnd : cd k = 50 ∧ vl k ≤ 1000 ∨ (if o = true then 17 else 8) ≤ cd k ∧ cd k ≤ (if o = true then 22 else 16)
      · exact ⟨_, K', xx, m0 _ (by rw [if_pos cnd]; exact q1), xG_w G1 (by omega), Or.inl (rFa_K fl3 q2 (q3.trans wi_s.symm))⟩
      · exact ⟨_, _, xx, m0 _ (by rw [if_neg cnd]), xG_w G1 (by omega), Or.inl (rFa_K fl3 (kF_w h.1.2 (by omega)) (wi_s.trans wi_s.symm))⟩
    · have l1 : lv + 1 ≤ 50 := by omega
      have lf : f12_leaf K = some (ph_wi K1 0 19 (nI (k + 1))) := by
        unfold f12_leaf f12_leaf_j13
        simp only [q_lit]
        rw [g9, if_neg (by rw [q_eq (by omega) (by omega)]; exact l50), q_let, nI_add, eK1, rd_fine h1, q_bd, if_neg (by first | decide | exact fun q => absurd (show nI 1 = nI 0 from q) (by decide)), q_let, h1.2.2.2.1.2, nI_add]
      have f0 : ∀ (x1 : Nat) (s0 : Int32), f6_readPart_j75 S rx (nI x1) s0 M1 = if nI x1 = nI 0 then (if s0 = -nI 1 then some (ph_wi M1 63 2 (nI (pl k))) else f6_readPart_j101 S rx (nI x1) s0 M1) else f6_readPart_j101 S rx (nI x1) s0 M1 := fun x1 s0 => by
        unfold f6_readPart_j75 f6_readPart_j94
        simp only [q_lit]
        rw [m9, if_neg (by rw [q_lt (by omega) (by omega)]; omega), fl1]
        rfl
      by_cases c50 : cd k = 50
      · have kt := kT (by omega)
        have n0 := rd_num (S := S) hE h1 (a := 0) (b := 1000) (by omega) (by omega)
        have e1 : f6_readPart S rx M = (f6_readNumber S M1 (nI 0) (nI 1000)).bind fun q12 => (f6_add S q12.2 (nI 0) q12.1).bind fun q13 => some q13 := by
          rw [e0, f0, decide_eq_true c50, if_neg (by first | decide | exact fun q => absurd (show nI 1 = nI 0 from q) (by decide))]
          unfold f6_readPart_j101
          simp only [q_lit]
          rw [if_neg (by first | decide | exact fun q => absurd (show nI 1 = nI 0 from q) (by decide))]
        by_cases v1000 : vl k ≤ 1000
        · rw [if_pos ⟨c50, by omega, v1000⟩] at n0
          have hn := rd_next h1 kt
          refine rd_leaf (S := S) (M2 := ph_wi M1 63 8 (nI (k + 1))) (K2 := ph_wi K1 0 19 (nI (k + 1))) (x := 0) (y := vl k) (F := fun _ => some (nI (vl k)).toInt64) hT hn l1 (by omega) hclk (xG_w G1 (by omega)) (fun j _ => by rw [wi_o (by omega)]; exact o69 j) (by omega) v1000 (fun code hc => lwK_num (by omega) v1000 hc) (by omega) (fun fu _ => mS_num kt c50) ?_ (m0 _ ?_)
          · rw [e1, n0.1, q_bd]
            cases f6_add S (ph_wi M1 63 8 (nI (k + 1))) (nI 0) (nI (vl k)) <;> rfl
          · rw [if_pos (Or.inl ⟨c50, v1000⟩)]
            unfold f12_readPart_j111 f12_readPart_j133
            rw [lf, q_bd, c50]
            simp only [q_lit]
            rw [if_neg (by first | decide | exact fun q => absurd (show nI 1 = nI 0 from q) (by decide)), if_pos (by first | rfl | trivial | decide), if_neg (by first | decide | exact fun q => absurd (show nI 1 = nI 0 from q) (by decide))]
        · rw [if_neg (fun z => v1000 z.2.2)] at n0
          refine ⟨_, _, ?_, m0 _ (if_neg (fun z => ?_)), xG_w G1 (by omega), Or.inl (rFa_K fl3 (kF_w h.1.2 (by omega)) (wi_s.trans wi_s.symm))⟩
          · rw [e1, n0.1, q_bd, xf_add (rFa_B hE fl3), q_bd]
          · rcases z with z | z
            · exact v1000 z.2
            · rw [c50] at z
              cases o <;> simp at z
      · by_cases rng : (if o = true then 17 else 8) ≤ cd k ∧ cd k ≤ (if o = true then 22 else 16)
        · rw [if_pos rng] at e0
          have kt := kT (by cases o <;> simp at rng <;> omega)
          have hn := rd_next h1 kt
          have adv := rd_adv (S := S) hE h1 kt
          have M3 : (ph_wi M1 63 8 (nI (k + 1))).1 63 3 = nI o.toNat := by rw [wi_o (by omega)]; exact m3
          have e1 : f6_readPart S rx M = f6_readPart_j101 S rx (nI 0) (nI (if o = true then owd (cd k) else cd k - 8)) M1 := by
            rw [e0, f0, decide_eq_false c50, if_pos (by first | rfl | trivial | decide), if_neg (by
              rw [q_eqn (by cases o <;> simp [owd] <;> (repeat' split) <;> omega) (by omega)]
              omega)]
            rfl
          have m1 : ∀ z, f12_readPart_j111 rk (nI (cd k)) K = z → f12_readPart rk K (nI dp) = z := fun z hz => m0 z (by rw [if_pos (Or.inr rng)]; exact hz)
          have G2 : xG M (ph_wi M1 63 8 (nI (k + 1))) := xG_w G1 (by omega)
          have p69 : ∀ j, (ph_wi M1 63 8 (nI (k + 1))).1 69 j = M.1 69 j := fun j => by rw [wi_o (by omega)]; exact o69 j
          generalize eM2 : ph_wi M1 63 8 (nI (k + 1)) = M2 at *
          generalize eK2 : ph_wi K1 0 19 (nI (k + 1)) = K2 at *
          -- a word that stands alone
          have plain : ∀ w, w < 21 → w < lwW o → f6_readPart_j101 S rx (nI 0) (nI (if o = true then owd (cd k) else cd k - 8)) M1 = f6_readPart_j181 S rx (nI w) (nI 0) M2 → cd k < 20 → (∀ fu, 8 - dp ≤ fu → mS o cd vl T (f12_partOf (f12_sumOf_n fu)) k (k + 1) (fun r => some (r w).toInt64)) → rdS o cd vl T M0 K0 dp (17 - 2 * dp) (8 - dp) (fun fu => f12_partOf (f12_sumOf_n fu)) M k cl (f6_readPart S rx M) (f12_readPart rk K (nI dp)) := by
            intro w w21 wW hx c20 hm
            refine rd_leaf (S := S) (M2 := M2) (K2 := K2) (x := 1) (y := w) (F := fun r => some (r w).toInt64) hT hn l1 (by omega) hclk G2 (fun j _ => p69 j) (by omega) (by omega) (fun code hc => lwK_word (by omega) wW hc) (by omega) hm ?_ (m1 _ ?_)
            · rw [e1, hx]
              unfold f6_readPart_j181
              simp only [q_lit]
              rw [nI_add, Nat.add_zero]
              cases f6_add S M2 (nI 1) (nI w) <;> rfl
            · unfold f12_readPart_j111 f12_readPart_j133
              rw [lf, q_bd]
              simp only [q_lit]
              rw [if_pos (by rw [q_lt (by omega) (by omega)]; exact c20), if_neg (by rw [q_eq (by omega) (by omega)]; omega)]
          have j101 : ∀ x2 : Int32, f6_readPart_j101 S rx (nI 0) x2 M1 = if nI o.toNat = nI 0 then f6_readPart_j147 S rx x2 (nI 0) M2 else (if x2 < nI 3 then f6_readPart_j147 S rx x2 (nI 0) M2 else ((f6_readNumber S M2 (nI 0) (nI 5)).bind fun q11 => f6_readPart_j147 S rx x2 q11.1 q11.2)) := by
            intro x2
            unfold f6_readPart_j101 f6_readPart_j146
            simp only [q_lit]
            rw [if_pos (by first | rfl | trivial | decide), adv, q_bd, M3]
          cases o
          · -- a law's word
            have r1 : 8 ≤ cd k := rng.1
            have r2 : cd k ≤ 16 := rng.2
            refine plain (cd k - 8) (by omega) (show cd k - 8 < 9 by omega) ?_ (by omega) (fun fu _ => mS_word kt (show cd k = 8 + (cd k - 8) by omega) (show cd k - 8 < 9 by omega))
            rw [j101, if_pos (by first | rfl | trivial | decide)]
            unfold f6_readPart_j147
            rw [M3, if_pos (by first | rfl | trivial | decide)]
            rfl
          · have r1 : 17 ≤ cd k := rng.1
            have r2 : cd k ≤ 22 := rng.2
            have j147 : ∀ (x2 s0 : Int32) (N : ph_Mem), N.1 63 3 = nI 1 → f6_readPart_j147 S rx x2 s0 N = if x2 = nI 15 then ((f6_readNumber S N (nI 0) (nI 7)).bind fun q14 => (f6_add S q14.2 (nI 2) ((s0 * nI 8) + q14.1)).bind fun q15 => some q15) else f6_readPart_j181 S rx x2 s0 N := by
              intro x2 s0 N hN
              unfold f6_readPart_j147
              simp only [q_lit]
              rw [hN, if_neg (by first | decide | exact fun q => absurd (show nI 1 = nI 0 from q) (by decide))]
            by_cases c20 : cd k < 20
            · have ow : owd (cd k) = cd k - 17 := by unfold owd; rw [if_pos (by omega)]
              refine plain (cd k - 17) (by omega) (show cd k - 17 < 21 by omega) ?_ c20 (fun fu _ => mS_word kt (show cd k = 17 + (cd k - 17) by omega) (show cd k - 17 < 3 by omega))
              show f6_readPart_j101 S rx (nI 0) (nI (owd (cd k))) M1 = _
              rw [ow, j101, if_neg (by first | decide | exact fun q => absurd (show nI 1 = nI 0 from q) (by decide)), if_pos (by rw [q_lt (by omega) (by omega)]; omega), j147 _ _ _ M3, if_neg (by rw [q_eq (by omega) (by omega)]; omega)]
            · -- purse, held, knows
              have ow : 3 ≤ owd (cd k) ∧ owd (cd k) ≤ 15 ∧ (cd k ≠ 22 → owd (cd k) ≤ 9) := by
                have hc : cd k = 20 ∨ cd k = 21 ∨ cd k = 22 := by omega
                rcases hc with hc | hc | hc <;> rw [hc] <;> decide
              have e2 : f6_readPart S rx M = (f6_readNumber S M2 (nI 0) (nI 5)).bind fun q11 => f6_readPart_j147 S rx (nI (owd (cd k))) q11.1 q11.2 := by
                rw [e1]
                show f6_readPart_j101 S rx (nI 0) (nI (owd (cd k))) M1 = _
                rw [j101, if_neg (by first | decide | exact fun q => absurd (show nI 1 = nI 0 from q) (by decide)), if_neg (by rw [q_lt (by omega) (by omega)]; omega)]
              have m2 : f12_readPart rk K (nI dp) = (f12_mustNumber K2 (nI 0) (nI 5)).bind fun q11 => f12_readPart_j133 rk (nI (cd k)) q11 := by
                apply m1
                unfold f12_readPart_j111
                rw [lf, q_bd]
                simp only [q_lit]
                rw [if_neg (by rw [q_lt (by omega) (by omega)]; omega), if_neg (by rw [q_lt (by omega) (by omega)]; omega)]
              have j133 : ∀ N : ph_Mem, f12_readPart_j133 rk (nI (cd k)) N = if cd k = 22 then f12_mustNumber N (nI 0) (nI 7) else some N := by
                intro N
                unfold f12_readPart_j133
                simp only [q_lit]
                by_cases c22 : cd k = 22
                · rw [if_pos (by rw [c22]), if_pos c22]
                  cases f12_mustNumber N (nI 0) (nI 7) <;> rfl
                · rw [if_neg (by rw [q_eq (by omega) (by omega)]; exact c22), if_neg c22]
              have n5 := rd_num (S := S) hE hn (a := 0) (b := 5) (by omega) (by omega)
              by_cases cn : cd (k + 1) = 50 ∧ 0 ≤ vl (k + 1) ∧ vl (k + 1) ≤ 5
              · rw [if_pos cn, if_pos cn] at n5
                have k1 := rd_lt hE hn (by omega)
                have hn2 := rd_next hn k1
                have N3 : (ph_wi M2 63 8 (nI (k + 1 + 1))).1 63 3 = nI 1 := by rw [wi_o (by omega)]; exact M3
                have G3 : xG M (ph_wi M2 63 8 (nI (k + 1 + 1))) := xG_w G2 (by omega)
                have r69 : ∀ j, (ph_wi M2 63 8 (nI (k + 1 + 1))).1 69 j = M.1 69 j := fun j => by rw [wi_o (by omega)]; exact p69 j
                rw [e2, m2, n5.1, n5.2, q_bd, q_bd, j147 _ _ _ N3, j133]
                obtain ⟨pe1, pe2, pe3⟩ := mS_pers (cd := cd) (vl := vl) (T := T) (rs := f12_sumOf_n 0) (i := k) (p := vl (k + 1)) k1 rfl (by omega)
                by_cases c22 : cd k = 22
                · rw [if_pos c22, if_pos (by rw [c22]; rfl)]
                  have n7 := rd_num (S := S) hE hn2 (a := 0) (b := 7) (by omega) (by omega)
                  by_cases cn2 : cd (k + 1 + 1) = 50 ∧ 0 ≤ vl (k + 1 + 1) ∧ vl (k + 1 + 1) ≤ 7
                  · rw [if_pos cn2, if_pos cn2] at n7
                    have k2 := rd_lt hE hn2 (by omega)
                    have hn3 := rd_next hn2 k2
                    refine rd_leaf (S := S) (x := 2) (y := 8 * vl (k + 1) + vl (k + 1 + 1)) (F := lw_kn (vl (k + 1)) (vl (k + 1 + 1))) hT hn3 l1 (by omega) hclk (xG_w G3 (by omega)) (fun j _ => by rw [wi_o (by omega)]; exact r69 j) (by omega) (by omega) (fun code hc => lwK_kn (by omega) (by omega) (by omega) hc) (by omega) (fun fu _ => (mS_pers (rs := f12_sumOf_n fu) k1 rfl (by omega)).2.2 (vl (k + 1 + 1)) k2 rfl (by omega) c22) ?_ n7.2
                    rw [n7.1, q_bd, pk_mul, nI_add, Nat.mul_comm (vl (k + 1)) 8]
                    cases f6_add S (ph_wi (ph_wi M2 63 8 (nI (k + 1 + 1))) 63 8 (nI (k + 1 + 1 + 1))) (nI 2) (nI (8 * vl (k + 1) + vl (k + 1 + 1))) <;> rfl
                  · rw [if_neg cn2, if_neg cn2] at n7
                    obtain ⟨_, _, fl5⟩ := rd_fail (S := S) hE hn2
                    exact ⟨_, _, by rw [n7.1, q_bd, xf_add (rFa_B hE fl5), q_bd], n7.2, xG_w G3 (by omega), Or.inl fl5⟩
                · rw [if_neg c22, if_neg (by rw [q_eq (by omega) (by omega)]; have := ow.2.2 c22; omega)]
                  refine rd_leaf (S := S) (x := 1) (y := owd (cd k) + vl (k + 1)) (F := fun r => some (r (owd (cd k) + vl (k + 1))).toInt64) hT hn2 l1 (by omega) hclk G3 (fun j _ => r69 j) (by omega) (by omega) (fun code hc => lwK_word (o := true) (by omega) (show owd (cd k) + vl (k + 1) < 21 by have := ow.2.2 c22; omega) hc) (by omega) (fun fu _ => ?_) ?_ rfl
                  · have pp := mS_pers (cd := cd) (vl := vl) (T := T) (rs := f12_sumOf_n fu) (i := k) (p := vl (k + 1)) k1 rfl (by omega)
                    have hc : cd k = 20 ∨ cd k = 21 := by omega
                    rcases hc with hc | hc
                    · have := pp.1 hc
                      rw [hc]
                      exact this
                    · have := pp.2.1 hc
                      rw [hc]
                      exact this
                  · unfold f6_readPart_j181
                    simp only [q_lit]
                    rw [nI_add]
                    cases f6_add S (ph_wi M2 63 8 (nI (k + 1 + 1))) (nI 1) (nI (owd (cd k) + vl (k + 1))) <;> rfl
              · rw [if_neg cn, if_neg cn] at n5
                obtain ⟨_, _, fl5⟩ := rd_fail (S := S) hE hn
                have plk1 : pl (k + 1) ≤ 400 := by
                  obtain ⟨_, p, k1, c1, y1, y2, y3, y4⟩ := id fl5
                  have q : nI (pl (k + 1)) = nI p := by rw [← y2.1, wi_s]
                  obtain ⟨a, e, a1, a2, a3, _⟩ := hE.2.2.2.1 (k + 1) hn.2.1.1
                  have := hE.1
                  omega
                have hB := rFa_B hE fl5
                refine ⟨_, _, ?_, ?_, xG_w G2 (by omega), Or.inl fl5⟩
                · rw [e2, n5.1, q_bd]
                  have N3 : (ph_wi M2 63 2 (nI (pl (k + 1)))).1 63 3 = nI 1 := by rw [wi_o (by omega)]; exact M3
                  rw [j147 _ _ _ N3]
                  by_cases c15 : nI (owd (cd k)) = nI 15
                  · rw [if_pos c15, xf_num hT hB (by omega), q_bd, xf_add hB, q_bd]
                  · rw [if_neg c15]
                    unfold f6_readPart_j181
                    rw [xf_add hB, q_bd]
                · rw [m2, n5.2, q_bd, j133]
                  by_cases c22 : cd k = 22
                  · rw [if_pos c22, kf_num plk1 wi_s]
                  · rw [if_neg c22]
        · -- no word
          rw [if_neg rng] at e0
          refine ⟨_, _, ?_, m0 _ (if_neg (fun z => z.elim (fun z => c50 z.1) rng)), xG_w G1 (by omega), Or.inl (rFa_K fl3 (kF_w h.1.2 (by omega)) (wi_s.trans wi_s.symm))⟩
          rw [e0, f0, decide_eq_false c50, if_pos (by first | rfl | trivial | decide), if_pos (by first | rfl | trivial | decide)]
end RD
