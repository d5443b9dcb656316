/-! PURE HALF: law -/
def RelF : ph_Sh → ph_Mem → ph_Mem → Prop := fun S X K => Rel RLx S X K ∧ rSh S
theorem m_layt_l {t T : Nat} (ht : t ≤ 6) (hT : T ≤ 400) : ∀ (r k f : Nat) (K : ph_Mem), k + r = T → r < f → K.1 0 18 = nI T → ∃ K', f12_lays_l16 f (nI t) (nI k) K = some K' ∧ (∀ i, k ≤ i → i < T → K'.1 2 (485 + 400 * t + i) = K.1 9 i ∧ K'.1 2 (3285 + 400 * t + i) = K.1 10 i) ∧ (∀ c j, (c ≠ 2 ∨ ¬ ((485 + 400 * t + k ≤ j ∧ j < 485 + 400 * t + T) ∨ (3285 + 400 * t + k ≤ j ∧ j < 3285 + 400 * t + T))) → K'.1 c j = K.1 c j) ∧ K'.2 = K.2
  | r, k, 0, _, _, h, _ => absurd h (by omega)
  | 0, k, f + 1, K, e, _, h18 => by
    have : k = T := by omega
    subst this
    refine ⟨K, ?_, fun i q1 q2 => absurd q2 (by omega), fun _ _ _ => rfl, rfl⟩
    unfold f12_lays_l16
    rw [h18, if_pos (Int32.le_refl _)]
  | r + 1, k, f + 1, K, e, hf, h18 => by
    obtain ⟨K', p1, p2, p3, p4⟩ := m_layt_l ht hT r (k + 1) f (ph_wi (ph_wi K 2 (485 + 400 * t + k) (K.1 9 k)) 2 (3285 + 400 * t + k) (K.1 10 k)) (by omega) (by omega) (by rw [wi_o (by omega), wi_o (by omega)]; exact h18)
    refine ⟨K', ?_, fun i q1 q2 => ?_, fun c j q => ?_, p4⟩
    · rw [← p1]
      conv => lhs; unfold f12_lays_l16
      simp only [q_lit]
      rw [h18, if_neg (by rw [q_le (by omega) (by omega)]; omega), q_ib (by omega) (show k < 401 by omega), q_ct, pk_mul, nI_add, nI_add, q_ib (by omega) (show 485 + 400 * t + k < 6085 by omega), q_ct, q_let, q_ct, nI_add, nI_add, q_ib (by omega) (show 3285 + 400 * t + k < 6085 by omega), q_ct, q_let, q_cl (by omega), q_cl (by omega), q_cl (by omega), nI_add, wi_o (by omega)]
    · by_cases ei : i = k
      · subst ei
        rw [p3 2 _ (by omega), p3 2 _ (by omega), wi_o (by omega), wi_s, wi_s]
        exact ⟨rfl, rfl⟩
      · obtain ⟨u1, u2⟩ := p2 i (by omega) q2
        rw [u1, u2, wi_o (by omega), wi_o (by omega), wi_o (by omega), wi_o (by omega)]
        exact ⟨rfl, rfl⟩
    · rw [p3 c j (by omega), wi_o (by omega), wi_o (by omega)]
theorem m_layt {t T : Nat} {K : ph_Mem} (ht : t ≤ 6) (hT : T ≤ 400) (h18 : K.1 0 18 = nI T) : ∃ K', f12_lays K (nI t) = some K' ∧ K'.1 2 (478 + t) = nI T ∧ (∀ i, i < T → K'.1 2 (485 + 400 * t + i) = K.1 9 i ∧ K'.1 2 (3285 + 400 * t + i) = K.1 10 i) ∧ (∀ c j, (c ≠ 2 ∨ ¬ (j = 478 + t ∨ (485 + 400 * t ≤ j ∧ j < 885 + 400 * t) ∨ (3285 + 400 * t ≤ j ∧ j < 3685 + 400 * t))) → K'.1 c j = K.1 c j) ∧ K'.2 = K.2 := by
  obtain ⟨K', p1, p2, p3, p4⟩ := m_layt_l ht hT T 0 10000 (ph_wi K 2 (478 + t) (nI T)) (by omega) (by omega) (by rw [wi_o (by omega)]; exact h18)
  refine ⟨K', ?_, by rw [p3 2 _ (by omega), wi_s], fun i hi => ?_, fun c j q => ?_, p4⟩
  · unfold f12_lays
    simp only [q_lit]
    rw [nI_add, q_ib (by omega) (by omega), q_ct, q_let, q_cl (by omega), h18]
    exact p1
  · obtain ⟨u1, u2⟩ := p2 i (by omega) hi
    rw [u1, u2, wi_o (by omega), wi_o (by omega)]
    exact ⟨rfl, rfl⟩
  · rw [p3 c j (by omega), wi_o (by omega)]
theorem x_refd {S : ph_Sh} {X : ph_Mem} (j : Nat) (h7 : j < 7) : (f11_refused S X (-nI j)).bind (fun q3 => some (q3.1, q3.2)) = some (-nI j, ph_wi (ph_wi X 3 j (X.1 3 j + nI 1)) 0 18 (-nI j)) := by rw [x_refused j h7]; rfl
theorem ext_P {S : ph_Sh} {n cl : Nat} : ph_isPb (ph_ext S n cl) S.2 = true := by
  have e0 : (ph_ext S n cl).1 S.2 = .inr (4, [(0, 0), (2, S.2 + 1), (2, S.2 + 2)]) := if_pos rfl
  have e1 : (ph_ext S n cl).1 (S.2 + 1) = .inl (0, n) := by
    show (if S.2 + 1 = S.2 then _ else if S.2 + 1 = S.2 + 1 then _ else _) = _
    rw [if_neg (by omega), if_pos rfl]
  have e2 : (ph_ext S n cl).1 (S.2 + 2) = .inl (0, cl) := by
    show (if S.2 + 2 = S.2 then _ else if S.2 + 2 = S.2 + 1 then _ else if S.2 + 2 = S.2 + 2 then _ else _) = _
    rw [if_neg (by omega), if_neg (by omega), if_pos rfl]
  unfold ph_isPb ph_iab
  rw [e0, e1, e2]
  have : decide (S.2 + 2 < (ph_ext S n cl).2) = true := decide_eq_true (show S.2 + 2 < S.2 + 3 by omega)
  rw [this]
  simp
theorem ext_len {S : ph_Sh} {n cl : Nat} : ph_len (ph_ext S n cl) (S.2 + 1) = n ∧ ph_len (ph_ext S n cl) (S.2 + 2) = cl := by
  have e1 : (ph_ext S n cl).1 (S.2 + 1) = .inl (0, n) := by
    show (if S.2 + 1 = S.2 then _ else if S.2 + 1 = S.2 + 1 then _ else _) = _
    rw [if_neg (by omega), if_pos rfl]
  have e2 : (ph_ext S n cl).1 (S.2 + 2) = .inl (0, cl) := by
    show (if S.2 + 2 = S.2 then _ else if S.2 + 2 = S.2 + 1 then _ else if S.2 + 2 = S.2 + 2 then _ else _) = _
    rw [if_neg (by omega), if_neg (by omega), if_pos rfl]
  unfold ph_len
  rw [e1, e2]
  exact ⟨rfl, rfl⟩
theorem rdM_0 {S : ph_Sh} {M : ph_Mem} : (ph_rdM S M).1 S.2 0 = M.1 63 11 := by
  show (if S.2 = S.2 then (if 0 = 0 then M.1 63 11 else 0) else _) = _
  rw [if_pos rfl, if_pos rfl]
theorem rdM_1 {S : ph_Sh} {M : ph_Mem} {j : Nat} (h : j < 72) : (ph_rdM S M).1 (S.2 + 1) j = M.1 68 j := by
  show (if S.2 + 1 = S.2 then _ else if S.2 + 1 = S.2 + 1 then (if j < 72 then M.1 68 j else 0) else _) = _
  rw [if_neg (by omega), if_pos rfl, if_pos h]
theorem rdM_2 {S : ph_Sh} {M : ph_Mem} {j : Nat} (h : j < 400) : (ph_rdM S M).1 (S.2 + 2) j = M.1 69 j := by
  show (if S.2 + 2 = S.2 then _ else if S.2 + 2 = S.2 + 1 then _ else if S.2 + 2 = S.2 + 2 then (if j < 400 then M.1 69 j else 0) else _) = _
  rw [if_neg (by omega), if_neg (by omega), if_pos rfl, if_pos h]
theorem s_law : lws_law RelF := by
  intro S X K ⟨h, hS⟩
  obtain ⟨⟨hSX, hW⟩, hsh, ht, i0, i1, n0, t, hs, hlg⟩ := id h
  obtain ⟨a1, a2, a3, a4, a5, a6, a7, a8, a9, b1, b2, b3⟩ := id hsh
  have t6 := hs.1.2.1
  have xt := hs.1.2.2.2.2.1
  have kt := hs.1.2.2.2.2.2.1
  have s88 := hSX.1
  by_cases te : t = 6
  · subst te
    have r0 : Rel RLx S (ph_wi X 63 1 (nI 0)) (ph_wi K 0 13 (nI 0)) := Rel_rd RLx_loc h (Nat.le_refl _) (fun _ _ => rfl) (fun c j _ _ q1 _ => wi_o (by omega)) rfl (fun c j _ q => wi_o (by omega)) wi_s wi_s (by rw [wi_o (by omega), wi_o (by omega)]; exact a4) (by rw [wi_o (by omega), wi_o (by omega)]; exact a5)
    refine ⟨-nI 5, _, S, _, ?_, ?_, hSX, Nat.le_refl _, Rel_ref RLx_loc r0 5 (by omega), hS⟩
    · unfold f11_law
      rw [xt, if_neg (by first | decide | exact fun q => absurd (show nI 1 = nI 0 from q) (by decide)), q_let, show (-5 : Int32) = -nI 5 from rfl, show (0 : Int32) = nI 0 from rfl, x_refused 5 (by omega), q_bd]
    · unfold f12_law
      rw [kt, if_pos (by first | rfl | trivial | decide), q_let, show (-5 : Int32) = -nI 5 from rfl, show (0 : Int32) = nI 0 from rfl, m_refuses 5 (by omega), q_bd]
  · have fx : ∀ z, ((f6_read S X (nI 0)).bind fun q => ph_rd S q fun S M s0 => (f11_law_j35 S s0 M).map fun r => (r.1, r.2, S)) = z → f11_law S X = z := by
      intro z hz
      rw [← hz]
      unfold f11_law
      rw [xt, if_pos (show nI t < (6 : Int32) from (nI_ltI (a := t) (b := 6) (by omega) (by omega)).mpr (by omega))]
      rfl
    have fk : ∀ z, ((f12_readsAs K (nI 0)).bind fun q1 => if q1.1 = nI 0 then ((f12_refuses q1.2 (-nI 6)).bind fun q5 => some (q5.1, q5.2)) else ((f12_lays q1.2 (q1.2.1 2 476)).bind fun q2 => ph_let (ph_wi q2 2 476 ((q2.1 2 476) + nI 1)) fun M3 => (f12_good M3 ((M3.1 2 476) - nI 1)).bind fun q4 => some (q4.1, q4.2))) = z → f12_law K = z := by
      intro z hz
      rw [← hz]
      unfold f12_law
      rw [kt, if_neg (show ¬ nI t = (6 : Int32) from fun q => te ((nI_eq (a := t) (b := 6) (by omega) (by omega)).mp q))]
      rfl
    obtain ⟨M', K', dX, dK, r⟩ := rd_whole (o := false) (S := S) ht b3
    have gx : ∀ c j, rXj c j → ¬ (c = 63 ∧ j = 1) → M'.1 c j = X.1 c j := fun c j q1 q2 => dX.1 c j (by unfold rXj at q1; omega) (by unfold rXj at q1; omega)
    have gk : ∀ c j, rKj c j → ¬ (c = 0 ∧ (j = 13 ∨ j = 14 ∨ j = 40)) → K'.1 c j = K.1 c j := fun c j q1 q2 => dK.1 c j (by unfold rKj at q1; omega) (by unfold rKj at q1; omega)
    rcases r with ⟨p, p1, p2, p3, p4, p5⟩ | ⟨cd, vl, T, n, cl, st, en, c, q1, q2, q3, q4, q5, q6, q7, q8, q9, q10, q11, q12, q13, q14⟩
    · have r0 : Rel RLx S (ph_wi (ph_wi M' 63 1 (nI 0)) 0 16 (nI p)) K' := Rel_rd RLx_loc h (Nat.le_refl _) (fun _ _ => rfl) (fun c j _ z1 z2 z3 => by rw [wi_o (by omega), wi_o (by omega)]; exact gx c j z1 z2) (by rw [← dX.2]; rfl) gk (by rw [wi_o (by omega), wi_s]) dK.2.2 (by rw [wi_s]; exact p5.symm) (by rw [wi_o (by omega), wi_o (by omega), dX.1 0 17 (by omega) (by omega), dK.1 0 40 (by omega) (by omega)]; exact a5)
      refine ⟨-nI 6, _, S, _, fx _ ?_, fk _ ?_, hSX, Nat.le_refl _, Rel_ref RLx_loc r0 6 (by omega), hS⟩
      · have p2 : f6_read S X (nI 0) = some (false, M') := p2
        rw [p2, q_bd]
        show (f11_law_j35 S none M').map (fun r => (r.1, r.2, S)) = _
        unfold f11_law_j35
        rw [q_let, q_let, show (-6 : Int32) = -nI 6 from rfl, show (0 : Int32) = nI 0 from rfl, wi_o (by omega), p4]
        show (((f11_refused S (ph_wi (ph_wi M' 63 1 (nI 0)) 0 16 (nI p)) (-nI 6)).bind fun q3 => some (q3.1, q3.2))).map (fun r => (r.1, r.2, S)) = _
        rw [x_refd 6 (by omega)]
        rfl
      · have p3 : f12_readsAs K (nI 0) = some (nI 0, K') := p3
        rw [p3, q_bd, if_pos (by first | rfl | trivial | decide), m_refuses 6 (by omega), q_bd]
    · obtain ⟨rk1, rk2, rk3⟩ := rdk_ok h hS dX.2 q8.2 q10 q9 q11
      rw [rk1, q_ct] at q4
      have q4 : f6_read S X (nI 0) = some (true, M') := q4
      have q5 : f12_readsAs K (nI 0) = some (nI 1, K') := q5
      -- the shape grows by a program
      generalize eS : ph_ext S (6 * n) cl = S1
      have hS1 : ph_SX S1 := by rw [← eS]; exact ph_ext_SX hSX
      have s1 : S1.2 = S.2 + 3 := by rw [← eS]; rfl
      have so : ∀ c, c < S.2 → S1.1 c = S.1 c := fun c hc => by rw [← eS]; exact ext_o hc
      have sP : ph_isPb S1 S.2 = true := by rw [← eS]; exact ext_P
      have sL : ph_len S1 (S.2 + 1) = 6 * n ∧ ph_len S1 (S.2 + 2) = cl := by rw [← eS]; exact ext_len
      have sh1 : rSh S1 := by rw [← eS]; exact rSh_ext hS
      generalize eX1 : ph_rdM S M' = X1
      have x1o : ∀ c j, c < S.2 → X1.1 c j = M'.1 c j := fun c j hc => by rw [← eX1]; exact rdM_o hc
      have x1r : X1.2 = X.2 := by rw [← eX1]; exact dX.2
      have xq0 : X1.1 S.2 0 = nI n := by rw [← eX1, rdM_0]; exact q9
      have xq1 : ∀ j, j < 72 → X1.1 (S.2 + 1) j = M'.1 68 j := fun j hj => by rw [← eX1]; exact rdM_1 hj
      have xq2 : ∀ j, j < 400 → X1.1 (S.2 + 2) j = M'.1 69 j := fun j hj => by rw [← eX1]; exact rdM_2 hj
      generalize eXa : ph_wi (ph_wi X1 63 1 (nI 0)) 0 16 (-nI 1) = Xa
      have xao : ∀ c j, ¬ (c = 63 ∧ j = 1) → ¬ (c = 0 ∧ j = 16) → Xa.1 c j = X1.1 c j := fun c j z1 z2 => by rw [← eXa, wi_o (by omega), wi_o (by omega)]
      have xar : Xa.2 = X.2 := by rw [← eXa]; exact x1r
      have r0 : Rel RLx S1 Xa K' := Rel_rd RLx_loc h (by omega) so (fun c j z0 z1 z2 z3 => by rw [xao c j z2 (by omega), x1o c j z0]; exact gx c j z1 z2) (by rw [xar]) gk (by rw [← eXa, wi_o (by omega), wi_s]) dK.2.2 (by rw [← eXa, wi_s]; exact q7.symm) (by rw [xao _ _ (by omega) (by omega), x1o _ _ (by omega), dX.1 0 17 (by omega) (by omega), dK.1 0 40 (by omega) (by omega)]; exact a5)
      have hsa : rSt RLx S1 Xa 11 (K'.1 2) n0 t := by
        obtain ⟨_, _, _, _, _, n1, t1, hs1, _⟩ := id r0
        have e1 : t1 = t := by
          have u1 := hs1.1.2.2.2.2.1
          rw [xao _ _ (by omega) (by omega), x1o _ _ (by omega), dX.1 11 13 (by omega) (by omega), xt] at u1
          have := (nI_eq (by omega) (by have := hs1.1.2.1; omega)).mp u1
          exact this.symm
        have e2 : n1 = n0 := by
          have u1 := hs1.1.2.2.1
          rw [xao _ _ (by omega) (by omega), x1o _ _ (by omega), dX.1 11 1 (by omega) (by omega), hs.1.2.2.1] at u1
          have := (nI_eq (by have := hs.1.1; omega) (by have := hs1.1.1; omega)).mp u1
          exact this.symm
        rw [← e1, ← e2]
        exact hs1
      obtain ⟨K2, l1, l2, l3, l4, l5⟩ := m_layt (t := t) (K := K') (by omega) q1.1 q2
      have k476 : K'.1 2 476 = nI t := (dK.1 2 476 (by omega) (by omega)).trans kt
      generalize eK3 : ph_wi K2 2 476 (nI (t + 1)) = K3
      have k3o : ∀ c j, (c ≠ 2 ∨ ¬ (j = 476 ∨ j = 478 + t ∨ (485 + 400 * t ≤ j ∧ j < 885 + 400 * t) ∨ (3285 + 400 * t ≤ j ∧ j < 3685 + 400 * t))) → K3.1 c j = K'.1 c j := fun c j z => by rw [← eK3, wi_o (by omega), l4 c j (by omega)]
      generalize eX8 : ph_wi (ph_wr Xa 22 t (some S.2)) 11 13 (nI (t + 1)) = X8
      have x8o : ∀ c j, ¬ (c = 11 ∧ j = 13) → X8.1 c j = Xa.1 c j := fun c j z => by rw [← eX8, wi_o (by omega)]; rfl
      have x8r : ∀ c j, X8.2.2 c j = if c = 22 ∧ j = t then some S.2 else X.2.2 c j := fun c j => by
        rw [← eX8]
        show (ph_wr Xa 22 t (some S.2)).2.2 c j = _
        rw [wr_at, xar]
      obtain ⟨d1, d2, d3, d4, d5, d6, d7⟩ := hsa
      have hs8 : rSt RLx S1 X8 11 (K3.1 2) n0 (t + 1) := by
        refine ⟨?_, rMv_fr d2 d1.1 (fun j _ => ⟨x8o _ _ (by omega), x8o _ _ (by omega), x8o _ _ (by omega)⟩) (fun p _ => x8o _ _ (by omega)) (x8o _ _ (by omega)) (fun j hj => k3o 2 j (by omega)), rHr_fr d1.1 d3 (fun d j _ _ _ => x8o _ _ (by omega)) (fun j _ _ => k3o 2 j (by omega)), rNd_fr d4 (fun j _ => x8o _ _ (by omega)) (fun j _ _ => k3o 2 j (by omega)), rBd_fr d5 (fun j _ => x8o _ _ (by omega)) (fun j _ _ => k3o 2 j (by omega)), rTm_fr d6 (fun j _ _ => x8o _ _ (by omega)) (fun j _ _ => k3o 2 j (by omega)), ?_, ?_⟩
        · refine ⟨d1.1, by omega, (x8o 11 1 (by omega)).trans d1.2.2.1, (k3o 2 475 (by omega)).trans d1.2.2.2.1, by rw [← eX8, wi_s], by rw [← eK3, wi_s], ?_, ?_⟩
          · rw [x8o 11 14 (by omega), k3o 2 477 (by omega)]; exact d1.2.2.2.2.2.2.1
          · rw [k3o 2 477 (by omega)]
            exact d1.2.2.2.2.2.2.2.imp id fun ⟨f, f1, f2⟩ => ⟨f, by omega, f2⟩
        · intro i hi
          rw [x8r]
          by_cases z : i = t
          · rw [if_pos ⟨rfl, z⟩]; exact sP
          · rw [if_neg (fun y => z y.2)]
            have := d7.1 i hi
            rw [xar] at this
            exact this
        · intro i hi
          by_cases z : i = t
          · subst z
            refine ⟨S.2, by rw [x8r, if_pos ⟨rfl, rfl⟩], ⟨by omega, sP⟩, cd, vl, T, n, cl, st, en, c, q1, by rw [← eK3, wi_o (by omega)]; exact l2, fun k hk => ?_, q8, ?_, ⟨sL.1, sL.2, q10⟩, fun j hj => ?_, q13, q14⟩
            · obtain ⟨u1, u2⟩ := l3 k hk
              rw [← eK3, wi_o (by omega), wi_o (by omega), u1, u2]
              exact q3 k (by omega)
            · rw [x8o _ _ (by omega), xao _ _ (by omega) (by omega)]; exact xq0
            · exact cCl_fr (q12 j hj) (fun i hi => by rw [x8o _ _ (by omega), xao _ _ (by omega) (by omega)]; exact xq1 i (by omega)) (fun i hi => by rw [x8o _ _ (by omega), xao _ _ (by omega) (by omega)]; exact xq2 i (by omega)) (Nat.le_refl _)
          · obtain ⟨q, e1, e2⟩ := d7.2 i (by omega)
            refine ⟨q, ?_, RLx_loc S1 S1 Xa X8 q i (K'.1 2) (K3.1 2) e2 (Nat.le_refl _) (fun _ _ => rfl) (fun c j z1 z2 => x8o c j (by omega)) (by omega) (k3o 2 _ (by omega)) (fun k hk => ⟨k3o 2 _ (by omega), k3o 2 _ (by omega)⟩)⟩
            rw [x8r, if_neg (fun y => z y.2)]
            rw [xar] at e1
            exact e1
      have hl8 : rLog X8 K3 n0 := by
        obtain ⟨_, _, _, _, _, n1, t1, hs1, hl1⟩ := id r0
        have e2 : n1 = n0 := by
          have u1 := hs1.1.2.2.1
          have u2 := d1.2.2.1
          rw [u2] at u1
          exact ((nI_eq (by have := d1.1; omega) (by have := hs1.1.1; omega)).mp u1).symm
        rw [e2] at hl1
        exact rLog_fr d1.1 hl1 (x8o _ _ (by omega)) (x8o _ _ (by omega)) (k3o _ _ (by omega)) (fun j _ => x8o _ _ (by omega)) (fun j _ => k3o _ _ (by omega)) (fun d j _ _ _ => x8o _ _ (by omega))
      have rel8 : Rel RLx S1 X8 K3 := Rel_mk RLx_loc r0 (fun c j _ z1 _ => x8o c j (by omega)) (fun c j z => by rw [x8r, if_neg (by omega), xar]) (fun c j _ z1 z2 z3 => k3o c j (by omega)) hs8 hl8
      refine ⟨nI t, _, S1, _, fx _ ?_, fk _ ?_, hS1, by omega, Rel_acc RLx_loc rel8, sh1⟩
      · rw [q4, q_bd]
        show (f11_law_j35 (ph_ext S (ph_rh M') (ph_rc M')) (some S.2) (ph_rdM S M')).map (fun r => (r.1, r.2, ph_ext S (ph_rh M') (ph_rc M'))) = _
        rw [rk2, rk3, eS, eX1]
        have j35 : f11_law_j35 S1 (some S.2) X1 = some (nI t, ph_wi X8 0 18 (nI 0)) := by
          have e63 : (ph_wi X1 63 1 (nI 0)).1 63 2 = -nI 1 := by rw [wi_o (by omega), x1o _ _ (by omega)]; exact q6
          have eXt : Xa.1 11 13 = nI t := by rw [xao _ _ (by omega) (by omega), x1o _ _ (by omega), dX.1 11 13 (by omega) (by omega)]; exact xt
          unfold f11_law_j35
          simp only [q_lit]
          rw [q_let, q_let, e63, eXa]
          show (cond (ph_isPb S1 S.2) _ none) = _
          rw [sP, q_ct, eXt, q_ib (by omega) (show t < 6 by omega), q_ct, q_let, q_cl (by omega)]
          have eXr : (ph_wr Xa 22 t (some S.2)).1 11 13 = nI t := eXt
          have e88 : X8.1 11 13 = nI (t + 1) := by rw [← eX8, wi_s]
          rw [eXr, nI_add, q_let, eX8, e88, q_sub (by omega), Nat.add_sub_cancel, x_acc, q_bd]
        rw [j35, ← eS]
        rfl
      · have k2476 : K2.1 2 476 = nI t := by rw [l4 2 476 (by omega)]; exact k476
        have e476 : K3.1 2 476 = nI (t + 1) := by rw [← eK3, wi_s]
        rw [q5, q_bd, if_neg (by first | decide | exact fun q => absurd (show nI 1 = nI 0 from q) (by decide))]
        show (f12_lays K' (K'.1 2 476)).bind _ = _
        rw [k476, l1, q_bd, q_let, k2476, nI_add, eK3, e476, q_sub (by omega), Nat.add_sub_cancel, m_good, q_bd]
