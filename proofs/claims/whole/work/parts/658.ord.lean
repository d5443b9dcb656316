/-! PURE HALF: orders -/
theorem rSt_0w {S : ph_Sh} {X : ph_Mem} {c : Nat} {g : Nat → Int32} {n t j : Nat} {v : Int32} (hc : 11 ≤ c) (hs : rSt RLx S X c g n t) : rSt RLx S (ph_wi X 0 j v) c g n t :=
  rSt_fr RLx_loc hs (wi_o (by omega)) (wi_o (by omega)) (wi_o (by omega)) (fun p _ => wi_o (by omega)) (fun d j _ _ _ => wi_o (by omega)) (fun j _ => wi_o (by omega)) (fun j _ => wi_o (by omega)) (fun j _ => wi_o (by omega)) (fun i _ => rfl) (fun d j _ => wi_o (by omega)) (fun j _ => rfl)
theorem s_orders : lws_orders RelF := by
  intro S X K ⟨h, hS⟩
  obtain ⟨⟨hSX, hW⟩, hsh, ht, i0, i1, n0, t, hs, hlg⟩ := id h
  obtain ⟨a1, a2, a3, a4, a5, a6, a7, a8, a9, b1, b2, b3⟩ := id hsh
  have s88 := hSX.1
  generalize eK0 : ph_wi K 0 40 (-nI 1) = K0
  have k0o : ∀ c j, (c ≠ 0 ∨ j ≠ 40) → K0.1 c j = K.1 c j := fun c j z => by rw [← eK0, wi_o (by omega)]
  have k040 : K0.1 0 40 = -nI 1 := by rw [← eK0, wi_s]
  have ht0 : rTape X K0 := rTape_fr ht rfl (k0o _ _ (by omega)) (fun _ _ => rfl) (fun j _ => k0o _ _ (by omega))
  have fx : ∀ z, ((f6_read S X (nI 1)).bind fun q => ph_rd S q fun S M s0 => (f11_orders_j8 S s0 M).map fun r => (r.1, r.2, S)) = z → f11_orders S X = z := by
    intro z hz
    rw [← hz]
    unfold f11_orders
    rfl
  have fk : ∀ z, ((f12_readsAs K0 (nI 1)).bind fun q2 => if q2.1 = nI 0 then ((f12_refuses q2.2 (-nI 6)).bind fun q4 => some (q4.1, q4.2)) else ((f12_laysAside q2.2 (nI 1)).bind fun q3 => f12_orders_l27 10000 (nI 0) q3)) = z → f12_orders K = z := by
    intro z hz
    rw [← hz]
    unfold f12_orders
    simp only [q_lit]
    rw [q_let, eK0]
  obtain ⟨M', K', dX, dK, r⟩ := rd_whole (o := true) (S := S) ht0 (fun j hj => (k0o 6 j (by omega)).trans (b3 j hj))
  have gx : ∀ c j, rXj c j → ¬ (c = 63 ∧ j = 1) → M'.1 c j = X.1 c j := fun c j q1 q2 => dX.1 c j (by unfold rXj at q1; omega) (by unfold rXj at q1; omega)
  have gk : ∀ c j, rKj c j → ¬ (c = 0 ∧ (j = 13 ∨ j = 14 ∨ j = 40)) → K'.1 c j = K.1 c j := fun c j q1 q2 => (dK.1 c j (by unfold rKj at q1; omega) (by unfold rKj at q1; omega)).trans (k0o c j (by omega))
  have k40 : K'.1 0 40 = -nI 1 := (dK.1 0 40 (by omega) (by omega)).trans k040
  rcases r with ⟨p, p1, p2, p3, p4, p5⟩ | ⟨cd, vl, T, n, cl, st, en, c, q1, q2, q3, q4, q5, q6, q7, q8, q9, q10, q11, q12, q13, q14⟩
  · have r0 : Rel RLx S (ph_wi (ph_wi (ph_wi M' 63 1 (nI 0)) 0 16 (nI p)) 0 17 (-nI 1)) K' := Rel_rd RLx_loc h (Nat.le_refl _) (fun _ _ => rfl) (fun c j _ z1 z2 z3 => by rw [wi_o (by omega), wi_o (by omega), wi_o (by omega)]; exact gx c j z1 z2) (by rw [← dX.2]; rfl) gk (by rw [wi_o (by omega), wi_o (by omega), wi_s]) dK.2.2 (by rw [wi_o (by omega), wi_s]; exact p5.symm) (by rw [wi_s]; exact k40.symm)
    refine ⟨-nI 6, _, S, _, fx _ ?_, fk _ ?_, hSX, Nat.le_refl _, Rel_ref RLx_loc r0 6 (by omega), hS⟩
    · have p2 : f6_read S X (nI 1) = some (false, M') := p2
      rw [p2, q_bd]
      show (f11_orders_j8 S none M').map (fun r => (r.1, r.2, S)) = _
      unfold f11_orders_j8
      simp only [q_lit]
      rw [q_let, q_let, q_let, wi_o (by omega), p4]
      show (((f11_refused S (ph_wi (ph_wi (ph_wi M' 63 1 (nI 0)) 0 16 (nI p)) 0 17 (-nI 1)) (-nI 6)).bind fun q3 => some (q3.1, q3.2))).map (fun r => (r.1, r.2, S)) = _
      rw [x_refd 6 (by omega)]
      rfl
    · have p3 : f12_readsAs K0 (nI 1) = some (nI 0, K') := p3
      rw [p3, q_bd, if_pos (by first | rfl | trivial | decide), m_refuses 6 (by omega), q_bd]
  · obtain ⟨rk1, rk2, rk3⟩ := rdk_ok h hS dX.2 q8.2 q10 q9 q11
    rw [rk1, q_ct] at q4
    have q4 : f6_read S X (nI 1) = some (true, M') := q4
    have q5 : f12_readsAs K0 (nI 1) = some (nI 1, K') := q5
    -- the shape grows by a program
    generalize eS : ph_ext S (6 * n) cl = S1
    have hS1 : ph_SX S1 := by rw [← eS]; exact ph_ext_SX hSX
    have s1 : S1.2 = S.2 + 3 := by rw [← eS]; rfl
    have so : ∀ c, c < S.2 → S1.1 c = S.1 c := fun c hc => by rw [← eS]; exact ext_o hc
    have sP : ph_isPb S1 S.2 = true := by rw [← eS]; exact ext_P
    have sL : ph_len S1 (S.2 + 1) = 6 * n ∧ ph_len S1 (S.2 + 2) = cl := by rw [← eS]; exact ext_len
    have sh1 : rSh S1 := by rw [← eS]; exact rSh_ext hS
    generalize eX1 : ph_rdM S M' = X1
    have x1o : ∀ c j, c < S.2 → X1.1 c j = M'.1 c j := fun c j hc => by rw [← eX1]; exact rdM_o hc
    have x1r : X1.2 = X.2 := by rw [← eX1]; exact dX.2
    have xq0 : X1.1 S.2 0 = nI n := by rw [← eX1, rdM_0]; exact q9
    have xq1 : ∀ j, j < 72 → X1.1 (S.2 + 1) j = M'.1 68 j := fun j hj => by rw [← eX1]; exact rdM_1 hj
    have xq2 : ∀ j, j < 400 → X1.1 (S.2 + 2) j = M'.1 69 j := fun j hj => by rw [← eX1]; exact rdM_2 hj
    generalize eXa : ph_wi (ph_wi (ph_wi X1 63 1 (nI 0)) 0 16 (-nI 1)) 0 17 (-nI 1) = Xa
    have xao : ∀ c j, ¬ (c = 63 ∧ j = 1) → ¬ (c = 0 ∧ (j = 16 ∨ j = 17)) → Xa.1 c j = X1.1 c j := fun c j z1 z2 => by rw [← eXa, wi_o (by omega), wi_o (by omega), wi_o (by omega)]
    have xar : Xa.2 = X.2 := by rw [← eXa]; exact x1r
    have r0 : Rel RLx S1 Xa K' := Rel_rd RLx_loc h (by omega) so (fun c j z0 z1 z2 z3 => by rw [xao c j z2 (by omega), x1o c j z0]; exact gx c j z1 z2) (by rw [xar]) gk (by rw [← eXa, wi_o (by omega), wi_o (by omega), wi_s]) dK.2.2 (by rw [← eXa, wi_o (by omega), wi_s]; exact q7.symm) (by rw [← eXa, wi_s]; exact k40.symm)
    obtain ⟨⟨_, rw1⟩, _, _, _, _, n1, t1, hs1, hl1⟩ := id r0
    have hn1 := hs1.1.1
    obtain ⟨nx, sz, lg1, lg2, lg3, lg4, lg5, lg6⟩ := id hl1
    -- the class lays aside
    obtain ⟨X2, c1, z⟩ := x_copy (S := S1) (X := Xa) (c := 23) (q := 11) (by omega) hs1.2.2.2.2.2.2.1
    have st2 := rSt_cp RLx_loc (c := 23) hs1 (by omega) z (g' := K'.1 2) (fun j _ => rfl)
    have zd := z.2.2.2.2.1
    have zr := z.2.2.2.2.2.2.2.2.1
    have zo := z.2.2.2.2.2.2.2.2.2
    obtain ⟨X3, l1, l2, l3, l4, l5, l6⟩ := x_lcp (S := S1) (X := X2) (c := 61) (p := 59) (by omega)
    generalize eX4 : ph_wi (ph_wi X3 70 1 (nI 0)) 9 2 (-nI 1) = X4
    have x4o : ∀ c j, ¬ (c = 70 ∧ j = 1) → ¬ (c = 9 ∧ j = 2) → X4.1 c j = X3.1 c j := fun c j z1 z2 => by rw [← eX4, wi_o (by omega), wi_o (by omega)]
    have x4r : X4.2 = X2.2 := by rw [← eX4]; exact l6
    have x4a : ∀ c j, (c < 23 ∨ 35 ≤ c) → (c ≠ 61 ∨ (j ≠ 1 ∧ j ≠ 2)) → c ≠ 62 → ¬ (c = 70 ∧ j = 1) → ¬ (c = 9 ∧ j = 2) → X4.1 c j = Xa.1 c j := fun c j w1 w2 w3 w4 w5 => by
      rw [x4o c j w4 w5, l5 c j w2 w3]
      exact (zo c j (by omega)).1
    -- the model lays aside
    have as := m_aside (K := K') (k := 1) (by omega)
    generalize eKa : ph_cp K' 2 0 5 (223 * 1) 223 = Ka at as
    have lf := m_lf_l (K := Ka) 3584 0 10000 (by omega) (by omega)
    rw [cp_0] at lf
    generalize eKb : ph_cp Ka 13 0 14 0 3584 = Kb at lf
    have kbo : ∀ c j, c ≠ 5 → c ≠ 14 → Kb.1 c j = K'.1 c j := fun c j w1 w2 => by rw [← eKb, cp_out (by omega), ← eKa, cp_out (by omega)]
    have kb5 : ∀ j, j < 223 → Kb.1 5 (223 + j) = K'.1 2 j := fun j hj => by rw [← eKb, cp_out (by omega), ← eKa, cp_in (by omega), show 0 + (223 + j - 223 * 1) = j by omega]
    have kb14 : ∀ j, j < 3584 → Kb.1 14 j = K'.1 13 j := fun j hj => by rw [← eKb, cp_in (by omega), ← eKa, cp_out (by omega), show 0 + (j - 0) = j by omega]
    obtain ⟨Kc, y1, y2, y3, y4, y5⟩ := m_layt (t := 6) (K := Kb) (by omega) q1.1 ((kbo 0 18 (by omega) (by omega)).trans q2)
    generalize eK9 : ph_wi (ph_wi (ph_wi Kc 0 41 (nI 0)) 0 42 (-nI 1)) 0 43 (nI 2400) = K9
    have k9c : ∀ c j, (c ≠ 0 ∨ (j ≠ 41 ∧ j ≠ 42 ∧ j ≠ 43)) → K9.1 c j = Kc.1 c j := fun c j w => by rw [← eK9, wi_o (by omega), wi_o (by omega), wi_o (by omega)]
    have k9o : ∀ c j, c ≠ 5 → c ≠ 14 → (c ≠ 2 ∨ rGj j) → (c ≠ 0 ∨ (j ≠ 41 ∧ j ≠ 42 ∧ j ≠ 43)) → K9.1 c j = K'.1 c j := fun c j w1 w2 w3 w4 => by
      rw [k9c c j w4, y4 c j (by unfold rGj at w3; omega)]
      exact kbo c j w1 w2
    have k95 : ∀ j, j < 223 → K9.1 5 (223 + j) = K'.1 2 j := fun j hj => by
      rw [k9c 5 _ (by omega), y4 5 _ (by omega)]
      exact kb5 j hj
    have k914 : ∀ j, j < 3584 → K9.1 14 j = K'.1 13 j := fun j hj => by
      rw [k9c 14 _ (by omega), y4 14 _ (by omega)]
      exact kb14 j hj
    -- the persons are looked at
    have st4 : rSt RLx S1 X4 11 (K9.1 2) n1 t1 := rSt_fr RLx_loc hs1 (x4a _ _ (by omega) (by omega) (by omega) (by omega) (by omega)) (x4a _ _ (by omega) (by omega) (by omega) (by omega) (by omega)) (x4a _ _ (by omega) (by omega) (by omega) (by omega) (by omega)) (fun p _ => x4a _ _ (by omega) (by omega) (by omega) (by omega) (by omega)) (fun d j _ _ _ => x4a _ _ (by omega) (by omega) (by omega) (by omega) (by omega)) (fun j _ => x4a _ _ (by omega) (by omega) (by omega) (by omega) (by omega)) (fun j _ => x4a _ _ (by omega) (by omega) (by omega) (by omega) (by omega)) (fun j _ => x4a _ _ (by omega) (by omega) (by omega) (by omega) (by omega)) (fun i _ => by rw [x4r]; exact (zo 22 i (by omega)).2) (fun d j _ => x4a _ _ (by omega) (by omega) (by omega) (by omega) (by omega)) (fun j hj => k9o 2 j (by omega) (by omega) (Or.inr hj) (by omega))
    obtain ⟨X5, u1, u2, u3, u4⟩ := x_look_l (q := S.2) 6 0 10000 X4 (by omega) (by omega) st4 (fun p hp => absurd hp (by omega))
    have x5a : ∀ c j, c ≠ 9 → (c < 23 ∨ 35 ≤ c) → (c ≠ 61 ∨ (j ≠ 1 ∧ j ≠ 2)) → c ≠ 62 → ¬ (c = 70 ∧ j = 1) → X5.1 c j = Xa.1 c j := fun c j w0 w1 w2 w3 w4 => by
      rw [u3 c j (by omega)]
      exact x4a c j w1 w2 w3 w4 (by omega)
    have x5x : ∀ c j, 88 ≤ c → X5.1 c j = X1.1 c j := fun c j w => by rw [x5a c j (by omega) (by omega) (by omega) (by omega) (by omega), xao c j (by omega) (by omega)]
    have hI : oI S1 X5 K9 n1 t1 S.2 n cl c cd vl T := by
      refine ⟨rSt_9 st4 (fun c j w => u3 c j (by omega)) (by rw [u4]), rLog_fr hn1 hl1 (x5a _ _ (by omega) (by omega) (by omega) (by omega) (by omega)) (x5a _ _ (by omega) (by omega) (by omega) (by omega) (by omega)) (k9o _ _ (by omega) (by omega) (by omega) (by omega)) (fun j _ => x5a _ _ (by omega) (by omega) (by omega) (by omega) (by omega)) (fun j _ => k9o _ _ (by omega) (by omega) (by omega) (by omega)) (fun d j _ _ _ => x5a _ _ (by omega) (by omega) (by omega) (by omega) (by omega)), ⟨⟨⟨sP, q8.2⟩, (x5x _ _ (by omega)).trans xq0, ⟨sL.1, sL.2, q10⟩, fun j hj => cCl_fr (q12 j hj) (fun i hi => by rw [x5x _ _ (by omega)]; exact xq1 i (by omega)) (fun i hi => by rw [x5x _ _ (by omega)]; exact xq2 i (by omega)) (Nat.le_refl _)⟩, by omega⟩, ⟨q1, fun k hk => ?_⟩, ?_, ?_, u2⟩
      · obtain ⟨w1, w2⟩ := y3 k hk
        have w1 : Kc.1 2 (2885 + k) = Kb.1 9 k := w1
        have w2 : Kc.1 2 (5685 + k) = Kb.1 10 k := w2
        rw [k9c 2 _ (by omega), k9c 2 _ (by omega), w1, w2, kbo 9 k (by omega) (by omega), kbo 10 k (by omega) (by omega)]
        exact q3 k (by omega)
      · rw [u3 70 1 (by omega), ← eX4, wi_o (by omega), wi_s, ← eK9, wi_o (by omega), wi_o (by omega), wi_s]
      · rw [u3 9 2 (by omega), ← eX4, wi_s, ← eK9, wi_o (by omega), wi_s]
    obtain ⟨X6, K10, xr, kr, rr⟩ := o_run (x1 := Kb.1 0 28) hS1 q13 q8 q1.1 q14 n 0 10000 10000 X5 K9 (by omega) (by omega) (by omega) hI (fun _ => by rw [← eK9, wi_s, q13.1]) (fun w => absurd w (by omega))
    have ek : f12_orders K = f12_orders_l96 10000 (Kb.1 0 28) (nI (2400 + T)) (nI 0) K9 := by
      refine fk _ ?_
      rw [q5, q_bd, if_neg (by first | decide | exact fun q => absurd (show nI 1 = nI 0 from q) (by decide))]
      show (f12_laysAside K' (nI 1)).bind _ = _
      rw [as, q_bd, lf]
      unfold f12_orders_j52
      simp only [q_lit]
      have y1' : f12_lays Kb (nI 6) = some Kc := y1
      have e484 : K9.1 2 484 = nI T := by rw [k9c 2 484 (by omega)]; exact y2
      have e43 : K9.1 0 43 = nI 2400 := by rw [← eK9, wi_s]
      rw [y1', q_bd, q_let, q_let, q_let, eK9, e484, e43, nI_add, q_let]
    have er : f8_run S1 X3 S.2 11 59 = f8_run_l41 S1 S.2 11 59 10000 (nI 0) X5 := by
      unfold f8_run
      simp only [q_lit]
      rw [q_let, q_let, eX4]
      exact u1
    have ex : ∀ {v : Int32} {Y Z : ph_Mem} {w : Int32}, f8_run S1 X3 S.2 11 59 = some (v, Y) → (if v = -nI 1 then ((f11_accepted S1 (ph_wi Y 0 17 v) (Y.1 70 1)).bind fun q12 => some (q12.1, q12.2)) else ((f9_copyFrom S1 (ph_wi Y 0 17 v) 11 23).bind fun q13 => (f1_copyFrom S1 q13 59 61).bind fun q14 => (f11_refused S1 q14 (-nI 3)).bind fun q15 => some (q15.1, q15.2))) = some (w, Z) → f11_orders S X = some (w, Z, S1) := by
      intro v Y Z w e1 e2
      refine fx _ ?_
      rw [q4, q_bd]
      show (f11_orders_j8 (ph_ext S (ph_rh M') (ph_rc M')) (some S.2) (ph_rdM S M')).map (fun r => (r.1, r.2, ph_ext S (ph_rh M') (ph_rc M'))) = _
      rw [rk2, rk3, eS, eX1]
      have j8 : f11_orders_j8 S1 (some S.2) X1 = some (w, Z) := by
        have e63 : (ph_wi X1 63 1 (nI 0)).1 63 2 = -nI 1 := by rw [wi_o (by omega), x1o _ _ (by omega)]; exact q6
        rw [← e2]
        unfold f11_orders_j8
        simp only [q_lit]
        rw [q_let, q_let, q_let, e63, eXa]
        show ((f9_copyFrom S1 Xa 23 11).bind _) = _
        rw [c1, q_bd, l1, q_bd]
        show (cond (ph_isPb S1 S.2) _ none) = _
        rw [sP, q_ct, e1, q_bd, q_let, wi_s, wi_o (by omega)]
      rw [j8]
      rfl
    have x6a : ∀ c j, rXj c j → (c < 11 ∨ 23 ≤ c) → (c < 59 ∨ 62 ≤ c) → X6.1 c j = Xa.1 c j := fun c j w1 w2 w3 => by
      unfold rXj at w1
      rw [xr.1 c j (by omega) (by omega) w2 (by omega) (by omega) (by omega)]
      exact x5a c j (by omega) (by omega) (by omega) (by omega) (by omega)
    have x6r : X6.2.2 = X2.2.2 := by rw [xr.2, u4, x4r]
    have x6b : ∀ c j, (23 ≤ c ∧ c < 35) → X6.1 c j = X2.1 c j := fun c j w => by rw [xr.1 c j (by omega) (by omega) (by omega) (by omega) (by omega) (by omega), u3 c j (by omega), x4o c j (by omega) (by omega), l5 c j (by omega) (by omega)]
    have x661 : ∀ j, X6.1 61 j = X3.1 61 j := fun j => by rw [xr.1 61 j (by omega) (by omega) (by omega) (by omega) (by omega) (by omega), u3 61 j (by omega), x4o 61 j (by omega) (by omega)]
    have x662 : ∀ j, X6.1 62 j = X3.1 62 j := fun j => by rw [xr.1 62 j (by omega) (by omega) (by omega) (by omega) (by omega) (by omega), u3 62 j (by omega), x4o 62 j (by omega) (by omega)]
    have a59 : ∀ j, X2.1 59 j = Xa.1 59 j := fun j => (zo 59 j (by omega)).1
    have a60 : ∀ j, X2.1 60 j = Xa.1 60 j := fun j => (zo 60 j (by omega)).1
    have e611 : X6.1 61 1 = nI nx := by rw [x661, l2, a59]; exact lg3
    have e612 : X6.1 61 2 = nI sz := by rw [x661, l3, a59]; exact lg4
    have k10 : ∀ c j, rKj c j → c ≠ 2 → c ≠ 13 → (c ≠ 0 ∨ (j ≠ 28 ∧ j ≠ 40)) → K10.1 c j = K'.1 c j := fun c j w1 w2 w3 w4 => by
      unfold rKj at w1
      rw [kr c j (by omega) w3 (by omega) (by omega) (by omega)]
      exact k9o c j (by omega) (by omega) (by omega) (by omega)
    have k1040 : K10.1 0 40 = -nI 1 := by
      rw [kr 0 40 (by omega) (by omega) (by omega) (by omega) (by omega), k9o 0 40 (by omega) (by omega) (by omega) (by omega)]
      exact k40
    rcases rr with ⟨g1, g2, g3⟩ | ⟨s, g0, g1, g2⟩
    · -- all orders are carried out
      have rel : Rel RLx S1 (ph_wi X6 0 17 (-nI 1)) K10 := Rel_o RLx_loc r0 (fun c j w1 w2 w3 w4 => by rw [wi_o (by omega)]; exact x6a c j w1 w2 w3) ⟨nx, sz, lg1, lg2, by rw [wi_o (by omega)]; exact e611, by rw [wi_o (by omega)]; exact e612⟩ (fun c j w => by
          show X6.2.2 c j = _
          rw [x6r]
          exact (zo c j (by omega)).2) (fun i hi => by
          show ph_okN S1 (X6.2.2 34 i) = true
          rw [x6r, zr i hi]
          exact hs1.2.2.2.2.2.2.1 i hi) k10 (by rw [wi_s]; exact k1040.symm) (rSt_0w (by omega) g3.1) (rLog_fr hn1 g3.2.1 (wi_o (by omega)) (wi_o (by omega)) rfl (fun j _ => wi_o (by omega)) (fun j _ => rfl) (fun d j _ _ _ => wi_o (by omega)))
      refine ⟨K10.1 0 41, _, S1, _, ex (er.trans g1) ?_, ek.trans (g2.trans ?_), hS1, by omega, Rel_acc RLx_loc rel, sh1⟩
      · rw [if_pos rfl, x_acc, q_bd, g3.2.2.2.2.1]
      · unfold f12_orders_j174
        rw [m_good, q_bd]
    · -- one is not: all is taken back
      generalize eM : ph_wi X6 0 17 (nI s) = M11
      have mo : ∀ c j, ¬ (c = 0 ∧ j = 17) → M11.1 c j = X6.1 c j := fun c j w => by rw [← eM, wi_o (by omega)]
      have mr : M11.2 = X6.2 := by rw [← eM]; rfl
      have m34 : ∀ i, M11.2.2 34 i = X2.2.2 34 i := fun i => by rw [mr, x6r]
      have st6 : rSt RLx S1 M11 23 (K'.1 2) n1 t1 := by
        have e : ∀ c j, 23 ≤ c → c < 35 → M11.1 c j = X2.1 c j := fun c j w1 w2 => by rw [mo c j (by omega)]; exact x6b c j ⟨w1, w2⟩
        refine rSt_fr RLx_loc st2 (e _ _ (by omega) (by omega)) (e _ _ (by omega) (by omega)) (e _ _ (by omega) (by omega)) (fun p _ => e _ _ (by omega) (by omega)) (fun d j _ _ _ => e _ _ (by omega) (by omega)) (fun j _ => e _ _ (by omega) (by omega)) (fun j _ => e _ _ (by omega) (by omega)) (fun j _ => e _ _ (by omega) (by omega)) (fun i _ => m34 i) (fun d j w => ?_) (fun j _ => rfl)
        rw [mo d j (by omega), x6a d j (by unfold rXj; omega) (by omega) (by omega)]
        exact (zo d j (by omega)).1.symm
      obtain ⟨X7, v1, vz⟩ := x_copy (S := S1) (X := M11) (c := 11) (q := 23) (by omega) st6.2.2.2.2.2.2.1
      have st7 := rSt_cp RLx_loc (c := 11) st6 (by omega) vz (g' := K'.1 2) (fun j _ => rfl)
      have vd := vz.2.2.2.2.1
      have vo := vz.2.2.2.2.2.2.2.2.2
      obtain ⟨X8, w1, w2, w3, w4, w5, w6⟩ := x_lcp (S := S1) (X := X7) (c := 59) (p := 61) (by omega)
      have x8o : ∀ c j, (c < 11 ∨ 23 ≤ c) → (c < 59 ∨ 61 ≤ c) → X8.1 c j = M11.1 c j := fun c j o1 o2 => by
        rw [w5 c j (by omega) (by omega)]
        exact (vo c j (by omega)).1
      have tb := m_tback (K := K10) (k := 1) (by omega)
      generalize eKd : ph_cp K10 5 (223 * 1) 2 0 223 = Kd at tb
      have lb := m_lb_l (K := Kd) (x1 := Kb.1 0 28) (x3 := nI s) 3584 0 10000 (by omega) (by omega)
      rw [cp_0] at lb
      generalize eKe : ph_cp Kd 14 0 13 0 3584 = Ke at lb
      generalize eKf : ph_wi (ph_wi Ke 0 28 (Kb.1 0 28)) 0 40 (nI s) = Kf
      have kfo : ∀ c j, c ≠ 2 → c ≠ 13 → (c ≠ 0 ∨ (j ≠ 28 ∧ j ≠ 40)) → Kf.1 c j = K10.1 c j := fun c j o1 o2 o3 => by rw [← eKf, wi_o (by omega), wi_o (by omega), ← eKe, cp_out (by omega), ← eKd, cp_out (by omega)]
      have kf2 : ∀ j, rGj j → Kf.1 2 j = K'.1 2 j := fun j hj => by
        rw [← eKf, wi_o (by omega), wi_o (by omega), ← eKe, cp_out (by omega), ← eKd]
        by_cases j2 : j < 223
        · rw [cp_in (by omega), show 223 * 1 + (j - 0) = 223 + j by omega, kr 5 _ (by omega) (by omega) (by omega) (by omega) (by omega)]
          exact k95 j j2
        · rw [cp_out (by omega), kr 2 j (by omega) (by omega) (by omega) (by omega) (by omega)]
          exact k9o 2 j (by omega) (by omega) (Or.inr hj) (by omega)
      have kf13 : ∀ j, j < 3584 → Kf.1 13 j = K'.1 13 j := fun j hj => by
        rw [← eKf, wi_o (by omega), wi_o (by omega), ← eKe, cp_in (by omega), show 0 + (j - 0) = j by omega, ← eKd, cp_out (by omega), kr 14 _ (by omega) (by omega) (by omega) (by omega) (by omega)]
        exact k914 j hj
      have kf28 : Kf.1 0 28 = K'.1 0 28 := by rw [← eKf, wi_o (by omega), wi_s]; exact kbo 0 28 (by omega) (by omega)
      have st8 : rSt RLx S1 X8 11 (Kf.1 2) n1 t1 := by
        have e : ∀ c j, 11 ≤ c → c < 23 → X8.1 c j = X7.1 c j := fun c j o1 o2 => w5 c j (by omega) (by omega)
        exact rSt_fr RLx_loc st7 (e _ _ (by omega) (by omega)) (e _ _ (by omega) (by omega)) (e _ _ (by omega) (by omega)) (fun p _ => e _ _ (by omega) (by omega)) (fun d j _ _ _ => e _ _ (by omega) (by omega)) (fun j _ => e _ _ (by omega) (by omega)) (fun j _ => e _ _ (by omega) (by omega)) (fun j _ => e _ _ (by omega) (by omega)) (fun i _ => by rw [w6]) (fun d j o => w5 d j (by omega) (by omega)) kf2
      have lg8 : rLog X8 Kf n1 := by
        refine rLog_fr hn1 hl1 ?_ ?_ kf28 (fun j hj => ?_) (fun j hj => kf13 j hj) (fun d j o1 o2 hj => ?_)
        · rw [w2, (vo 61 1 (by omega)).1, mo 61 1 (by omega), e611]; exact lg3.symm
        · rw [w3, (vo 61 2 (by omega)).1, mo 61 2 (by omega), e612]; exact lg4.symm
        · have w4j : X8.1 60 j = X7.1 62 j := w4 j hj
          have l4j : X3.1 62 j = X2.1 60 j := l4 j hj
          rw [w4j, (vo 62 j (by omega)).1, mo 62 j (by omega), x662, l4j, a60]
        · obtain ⟨d', rfl⟩ : ∃ d', d = 11 + d' := ⟨d - 11, by omega⟩
          rw [w5 _ _ (by omega) (by omega), vd d' j (by omega) (by omega) hj, mo _ _ (by omega), x6b _ _ (by omega), zd d' j (by omega) (by omega) hj]
      have rel : Rel RLx S1 X8 Kf := Rel_o RLx_loc r0 (fun c j o1 o2 o3 o4 => by rw [x8o c j o2 (by omega), mo c j (by omega)]; exact x6a c j o1 o2 o3) ⟨nx, sz, lg1, lg2, by rw [x8o 61 1 (by omega) (by omega), mo 61 1 (by omega)]; exact e611, by rw [x8o 61 2 (by omega) (by omega), mo 61 2 (by omega)]; exact e612⟩ (fun c j o => by
          rw [w6, (vo c j (by omega)).2, mr, x6r]
          exact (zo c j (by omega)).2) (fun i hi => by
          rw [w6, (vo 34 i (by omega)).2, m34, zr i hi]
          exact hs1.2.2.2.2.2.2.1 i hi) (fun c j o1 o2 o3 o4 => (kfo c j o2 o3 o4).trans (k10 c j o1 o2 o3 o4)) (by rw [x8o 0 17 (by omega) (by omega), ← eM, wi_s, ← eKf, wi_s]) st8 lg8
      refine ⟨-nI 3, _, S1, _, ex (er.trans g1) ?_, ek.trans (g2.trans ?_), hS1, by omega, Rel_ref RLx_loc rel 3 (by omega), sh1⟩
      · rw [if_neg (by rw [q_eqn (by omega) (by omega)]; omega), eM, v1, q_bd, w1, q_bd]
        exact x_refd 3 (by omega)
      · unfold f12_orders_j115
        have tb' : f12_takesBack K10 1 = some Kd := tb
        have lb' : f12_orders_l123 10000 (Kb.1 0 28) (nI s) 0 Kd = f12_orders_j151 (Kb.1 0 28) (nI s) Ke := lb
        rw [tb', q_bd, lb']
        unfold f12_orders_j151
        rw [q_let, q_let, eKf, show (-3 : Int32) = -nI 3 from rfl, m_refuses 3 (by omega), q_bd]
