/-! PURE HALF: orders: the loops, in both -/
theorem oI_g {S : ph_Sh} {X K X' K' : ph_Mem} {n t q N cl : Nat} {cs : Nat → lwC} {cd vl : Nat → Nat} {T : Nat} (h : oI S X K n t q N cl cs cd vl T) (hx : ∀ c j, c ≠ 6 → (c ≠ 9 ∨ 2 ≤ j) → (c ≠ 70 ∨ j ≠ 1) → X'.1 c j = X.1 c j) (hr : X'.2.2 = X.2.2) (k2 : ∀ j, K'.1 2 j = K.1 2 j) (k13 : ∀ j, K'.1 13 j = K.1 13 j) (k28 : K'.1 0 28 = K.1 0 28) (k42 : K'.1 0 42 = K.1 0 42) (e41 : X'.1 70 1 = K'.1 0 41) : oI S X' K' n t q N cl cs cd vl T := by
  obtain ⟨h1, h2, ⟨h3, h3'⟩, h4, h5, h6, h7⟩ := h
  refine ⟨rSt_fr RLx_loc h1 (hx _ _ (by omega) (by omega) (by omega)) (hx _ _ (by omega) (by omega) (by omega)) (hx _ _ (by omega) (by omega) (by omega)) (fun p _ => hx _ _ (by omega) (by omega) (by omega)) (fun d j _ _ _ => hx _ _ (by omega) (by omega) (by omega)) (fun j _ => hx _ _ (by omega) (by omega) (by omega)) (fun j _ => hx _ _ (by omega) (by omega) (by omega)) (fun j _ => hx _ _ (by omega) (by omega) (by omega)) (fun i _ => by rw [hr]) (fun d j _ => hx _ _ (by omega) (by omega) (by omega)) (fun j _ => k2 j), rLog_fr h1.1.1 h2 (hx _ _ (by omega) (by omega) (by omega)) (hx _ _ (by omega) (by omega) (by omega)) k28 (fun j _ => hx _ _ (by omega) (by omega) (by omega)) (fun j _ => k13 j) (fun d j _ _ _ => hx _ _ (by omega) (by omega) (by omega)), ⟨cPr_fr h3 h3' (fun c j _ => hx c j (by omega) (by omega) (by omega)), h3'⟩, ⟨h4.1, fun k hk' => by rw [k2, k2]; exact h4.2 k hk'⟩, e41, ?_, fun p hp => wdl_fr (h7 p hp) (hx _ _ (by omega) (by omega) (by omega)) (hx _ _ (by omega) (by omega) (by omega)) (hx _ _ (by omega) (by omega) (by omega)) (k2 _) (fun _ _ => k2 _) (fun _ _ => k2 _)⟩
  rw [hx _ _ (by omega) (by omega) (by omega), k42]
  exact h6
theorem oI_en {S : ph_Sh} {X K : ph_Mem} {n t q N cl : Nat} {cs : Nat → lwC} {cd vl : Nat → Nat} {T : Nat} (h : oI S X K n t q N cl cs cd vl T) {r : lwE} (hr : ∀ k, 2 ≤ k → r k = X.1 9 k) : oEn (K.1 2) r := by
  obtain ⟨h1, h2, ⟨h3, h3'⟩, h4, h5, h6, h7⟩ := h
  have hn := h1.1.1
  refine ⟨n, hn, h1.1.2.2.2.1, fun p hp => ?_, fun p hp hp6 => ?_⟩
  · rw [hr _ (by omega), hr _ (by omega), hr _ (by omega)]
    exact ⟨(rSt_rd h1 hp).2.2, (h7 p (by omega)).1 hp⟩
  · rw [hr _ (by omega), hr _ (by omega), hr _ (by omega)]
    exact (h7 p hp6).2 hp
theorem o_times {S : ph_Sh} {n t q N cl T i : Nat} {cs : Nat → lwC} {cd vl st en : Nat → Nat} {rc : Int32 → ph_Mem → Option (Int32 × ph_Mem)} (hS : ph_SX S) (hm : mC true cd vl T N st en cs) (hi : i < N) (hN : N ≤ 12) : ∀ (u k fx fk : Nat) (X K : ph_Mem), k + u = (cs i).2.1 → u < fx → u < fk → oI S X K n t q N cl cs cd vl T → K.1 0 43 = nI (2400 + st i) → ∃ X' K', xR X X' ∧ kR K K' ∧ ((f8_run_l61 S q 11 59 rc fx (nI i) (nI (cs i).2.1) (nI k) X = rc (nI (i + 1)) X' ∧ f12_runs_l19 fk (nI (2400 + T)) (nI (cs i).2.1) (nI (2400 + en i + 1)) (nI k) K = some (nI 1, K') ∧ oI S X' K' n t q N cl cs cd vl T ∧ K'.1 0 43 = nI (2400 + en i + 1)) ∨ (f8_run_l61 S q 11 59 rc fx (nI i) (nI (cs i).2.1) (nI k) X = some (nI i, X') ∧ f12_runs_l19 fk (nI (2400 + T)) (nI (cs i).2.1) (nI (2400 + en i + 1)) (nI k) K = some (nI 0, K')))
  | u, k, 0, fk, _, _, _, h, _, _, _ => absurd h (by omega)
  | u, k, fx + 1, 0, _, _, _, _, h, _, _ => absurd h (by omega)
  | 0, k, fx + 1, fk + 1, X, K, hk, hfx, hfk, h, h43 => by
    refine ⟨X, ph_wi K 0 43 (nI (2400 + en i + 1)), xR_r, fun c j _ _ _ _ z => wi_o (by omega), Or.inl ⟨?_, ?_, oI_g h (fun _ _ _ _ _ => rfl) rfl (fun j => wi_o (by omega)) (fun j => wi_o (by omega)) (wi_o (by omega)) (wi_o (by omega)) (by rw [wi_o (by omega)]; exact h.2.2.2.2.1), wi_s⟩⟩
    · conv => lhs; unfold f8_run_l61
      unfold f8_run_j153
      simp only [q_lit]
      rw [if_pos (by rw [show k = (cs i).2.1 by omega]; exact Int32.le_refl _), nI_add]
    · conv => lhs; unfold f12_runs_l19
      simp only [q_lit]
      rw [if_pos (by rw [show k = (cs i).2.1 by omega]; exact Int32.le_refl _), q_let]
  | u + 1, k, fx + 1, fk + 1, X, K, hk, hfx, hfk, h, h43 => by
    obtain ⟨hs, hl, ⟨hP, hq⟩, hT, h70, h92, hw⟩ := id h
    obtain ⟨d, d1, d2, d3⟩ := rSt_day hs
    have d2 : X.1 21 0 = nI d := d2
    obtain ⟨⟨t3, _⟩, ⟨t20, _⟩, _⟩ := hP.2.2.2 i hi
    have mcl := hm.2.1 i hi
    -- the words
    generalize eA : ph_wi (ph_wi X 9 0 (X.1 21 0)) 9 1 (X.1 70 1) = A
    have ao : ∀ c j, (c ≠ 9 ∨ 2 ≤ j) → A.1 c j = X.1 c j := fun c j z => by rw [← eA, wi_o (by omega), wi_o (by omega)]
    have ar : A.2.2 = X.2.2 := by rw [← eA]; rfl
    have xA : xR X A := ⟨fun c j _ z _ _ _ _ => ao c j (by omega), ar⟩
    obtain ⟨K1, g1, ⟨g45, g22, g44, su, ti, g46, g47, gg⟩, g3⟩ := m_goes (r := A.1 9) (K := K) (lv := true) hT t3 t20 mcl h43 (by rw [← eA, wi_o (by omega), wi_s, d2, d3]) (by rw [← eA, wi_s]; exact h70) (by rw [ao 9 2 (by omega)]; exact h92) (oI_en h (fun k hk => ao 9 k (by omega)))
    obtain ⟨gt, gs2, gs⟩ := gg rfl
    have hI : oI S A K1 n t q N cl cs cd vl T := oI_fr h (fun c j _ z => ao c j z) ar g3
    have k43 : K1.1 0 43 = nI (2400 + st i) := (g3.1 0 43 (by omega) (by omega) (by omega)).trans h43
    obtain ⟨p1, p2⟩ := cPr_t (c := 8) (r := A.1 9) hI.2.2.1.1 hi (fun _ _ => rfl)
    have ex : f8_run_l61 S q 11 59 rc (fx + 1) (nI i) (nI (cs i).2.1) (nI k) X = (f4_isEmpty S A q (nI i) (nI 2)).bind fun q7 => if q7 = nI 0 then ((f2_value S A 8 q (nI i) (nI 2)).bind fun q8 => if (lg_cmp q8.1 1) = 0 then (f8_run_j122 S q 11 59 rc (f8_run_l61 S q 11 59 rc fx) (nI i) (nI (cs i).2.1) (nI k) q8.2) else (f8_run_j147 S q 11 59 rc (f8_run_l61 S q 11 59 rc fx) (nI i) (nI (cs i).2.1) (nI k) q8.2)) else (f8_run_j122 S q 11 59 rc (f8_run_l61 S q 11 59 rc fx) (nI i) (nI (cs i).2.1) (nI k) A) := by
      conv => lhs; unfold f8_run_l61
      have z70 : (ph_wi X 9 0 (X.1 21 0)).1 70 1 = X.1 70 1 := wi_o (by omega)
      rw [if_neg (show ¬ nI (cs i).2.1 ≤ nI k by rw [q_le (by omega) (by omega)]; omega), q_let]
      show ph_let (ph_wi (ph_wi X 9 0 (X.1 21 0)) 9 1 ((ph_wi X 9 0 (X.1 21 0)).1 70 1)) _ = _
      rw [z70, q_let, eA]
      rfl
    have ek : f12_runs_l19 (fk + 1) (nI (2400 + T)) (nI (cs i).2.1) (nI (2400 + en i + 1)) (nI k) K = if nI ti.toNat = nI 0 then f12_runs_l19 fk (nI (2400 + T)) (nI (cs i).2.1) (nI (2400 + en i + 1)) (nI (k + 1)) K1 else (if nI su.toNat = nI 0 then some (nI 0, K1) else ((f12_obeys K1).bind fun q4 => if 0 ≤ q4.1 then f12_runs_l19 fk (nI (2400 + T)) (nI (cs i).2.1) (nI (2400 + en i + 1)) (nI (k + 1)) (ph_wi q4.2 0 41 ((q4.2.1 0 41) + nI 1)) else (some (nI 0, q4.2)))) := by
      conv => lhs; unfold f12_runs_l19
      unfold f12_runs_j67
      have g1' : f12_goesAlong K (nI (2400 + T)) 1 = some K1 := g1
      rw [if_neg (show ¬ nI (cs i).2.1 ≤ nI k by rw [q_le (by omega) (by omega)]; omega), g1', q_bd, g46, g47, show nI k + 1 = nI (k + 1) from nI_add ..]
      rfl
    -- the order is not carried out
    have no : ∀ B, vSc 8 A B → ti = false → f8_run_l61 S q 11 59 rc (fx + 1) (nI i) (nI (cs i).2.1) (nI k) X = f8_run_j147 S q 11 59 rc (f8_run_l61 S q 11 59 rc fx) (nI i) (nI (cs i).2.1) (nI k) B → ∃ X' K', xR X X' ∧ kR K K' ∧ ((f8_run_l61 S q 11 59 rc (fx + 1) (nI i) (nI (cs i).2.1) (nI k) X = rc (nI (i + 1)) X' ∧ f12_runs_l19 (fk + 1) (nI (2400 + T)) (nI (cs i).2.1) (nI (2400 + en i + 1)) (nI k) K = some (nI 1, K') ∧ oI S X' K' n t q N cl cs cd vl T ∧ K'.1 0 43 = nI (2400 + en i + 1)) ∨ (f8_run_l61 S q 11 59 rc (fx + 1) (nI i) (nI (cs i).2.1) (nI k) X = some (nI i, X') ∧ f12_runs_l19 (fk + 1) (nI (2400 + T)) (nI (cs i).2.1) (nI (2400 + en i + 1)) (nI k) K = some (nI 0, K'))) := by
      intro B vB ht e1
      rw [ht, if_pos (by first | rfl | trivial | decide)] at ek
      have e2 : f8_run_j147 S q 11 59 rc (f8_run_l61 S q 11 59 rc fx) (nI i) (nI (cs i).2.1) (nI k) B = f8_run_l61 S q 11 59 rc fx (nI i) (nI (cs i).2.1) (nI (k + 1)) B := by
        unfold f8_run_j147
        rw [show nI k + 1 = nI (k + 1) from nI_add ..]
      rw [e1, e2, ek]
      obtain ⟨X', K', z1, z2, z3⟩ := o_times (rc := rc) hS hm hi hN u (k + 1) fx fk B K1 (by omega) (by omega) (by omega) (oI_fr hI (fun c j _ _ => by rw [vB.1]) vB.2.1 oFr_r) k43
      exact ⟨X', K', xR_t xA (xR_t (xR_v vB) z1), kR_t (kR_o g3) z2, z3⟩
    -- it is
    have yes : ∀ B, vSc 8 A B → ti = true → f8_run_l61 S q 11 59 rc (fx + 1) (nI i) (nI (cs i).2.1) (nI k) X = f8_run_j122 S q 11 59 rc (f8_run_l61 S q 11 59 rc fx) (nI i) (nI (cs i).2.1) (nI k) B → ∃ X' K', xR X X' ∧ kR K K' ∧ ((f8_run_l61 S q 11 59 rc (fx + 1) (nI i) (nI (cs i).2.1) (nI k) X = rc (nI (i + 1)) X' ∧ f12_runs_l19 (fk + 1) (nI (2400 + T)) (nI (cs i).2.1) (nI (2400 + en i + 1)) (nI k) K = some (nI 1, K') ∧ oI S X' K' n t q N cl cs cd vl T ∧ K'.1 0 43 = nI (2400 + en i + 1)) ∨ (f8_run_l61 S q 11 59 rc (fx + 1) (nI i) (nI (cs i).2.1) (nI k) X = some (nI i, X') ∧ f12_runs_l19 (fk + 1) (nI (2400 + T)) (nI (cs i).2.1) (nI (2400 + en i + 1)) (nI k) K = some (nI 0, K'))) := by
      intro B vB ht e1
      rw [ht, if_neg (by first | decide | exact fun q => absurd (show nI 1 = nI 0 from q) (by decide))] at ek
      have hIB : oI S B K1 n t q N cl cs cd vl T := oI_fr hI (fun c j _ _ => by rw [vB.1]) vB.2.1 oFr_r
      obtain ⟨X1, xr, hx⟩ := o_act (r := A.1 9) (su := su) hS hIB hi (fun k _ => by rw [vB.1]) g45 gs2 gs
      rcases hx with ⟨y1, y2⟩ | ⟨y0, y1, v, K2, y2, y3, y4, y5, y6⟩
      · have e2 : f8_run_j122 S q 11 59 rc (f8_run_l61 S q 11 59 rc fx) (nI i) (nI (cs i).2.1) (nI k) B = some (nI i, X1) := by
          unfold f8_run_j122
          rw [y1, q_bd, if_pos (by first | rfl | trivial | decide)]
        cases su
        · rw [if_pos (by first | rfl | trivial | decide)] at ek
          exact ⟨X1, K1, xR_t xA (xR_t (xR_v vB) xr), kR_o g3, Or.inr ⟨e1.trans e2, ek⟩⟩
        · obtain ⟨v, K2, y2, y3, y4⟩ := y2 rfl
          rw [if_neg (by first | decide | exact fun q => absurd (show nI 1 = nI 0 from q) (by decide)), y2, q_bd, if_neg y3] at ek
          exact ⟨X1, K2, xR_t xA (xR_t (xR_v vB) xr), kR_t (kR_o g3) y4, Or.inr ⟨e1.trans e2, ek⟩⟩
      · have e2 : f8_run_j122 S q 11 59 rc (f8_run_l61 S q 11 59 rc fx) (nI i) (nI (cs i).2.1) (nI k) B = f8_run_l61 S q 11 59 rc fx (nI i) (nI (cs i).2.1) (nI (k + 1)) (ph_wi X1 70 1 (X1.1 70 1 + nI 1)) := by
          unfold f8_run_j122 f8_run_j147
          rw [y1, q_bd, if_neg (by first | decide | exact fun q => absurd (show nI 1 = nI 0 from q) (by decide)), q_let, show nI k + 1 = nI (k + 1) from nI_add ..]
          rfl
        rw [y0, if_neg (by first | decide | exact fun q => absurd (show nI 1 = nI 0 from q) (by decide)), y2, q_bd, if_pos y3] at ek
        rw [e1, e2, ek]
        have z41 := y4.2.2.2.2.1
        have k2_43 : K2.1 0 43 = nI (2400 + st i) := y6.trans k43
        obtain ⟨X', K', z1, z2, z3⟩ := o_times (rc := rc) hS hm hi hN u (k + 1) fx fk (ph_wi X1 70 1 (X1.1 70 1 + nI 1)) (ph_wi K2 0 41 (K2.1 0 41 + nI 1)) (by omega) (by omega) (by omega) (oI_g y4 (fun c j _ _ z => wi_o (by omega)) rfl (fun j => wi_o (by omega)) (fun j => wi_o (by omega)) (wi_o (by omega)) (wi_o (by omega)) (by rw [wi_s, wi_s, z41])) (by rw [wi_o (by omega)]; exact k2_43)
        exact ⟨X', K', xR_t xA (xR_t (xR_v vB) (xR_t xr (xR_t ⟨fun c j _ _ _ _ _ z => wi_o (by omega), rfl⟩ z1))), kR_t (kR_o g3) (kR_t y5 (kR_t (fun c j _ _ _ _ z => wi_o (by omega)) z2)), z3⟩
    cases et : (cs i).2.2.2.2 with
    | none =>
      rw [et] at gt
      rw [p1 et, q_bd, if_neg (by first | decide | exact fun q => absurd (show nI 1 = nI 0 from q) (by decide))] at ex
      exact yes A (vSc_r 8 A) gt ex
    | some tt =>
      obtain ⟨s1, M1, s2, s3⟩ := p2 tt et
      rw [et] at gt
      have gt : ti = decide (tt (A.1 9) = some true) := gt
      rw [s1, q_bd, if_pos (by first | rfl | trivial | decide), s2, q_bd] at ex
      by_cases tr : tt (A.1 9) = some true
      · rw [if_pos (by rw [lw_v1]; exact tr)] at ex
        exact yes M1 s3 (by rw [gt, decide_eq_true tr]) ex
      · rw [if_neg (by rw [lw_v1]; exact tr)] at ex
        exact no M1 s3 (by rw [gt, decide_eq_false tr]) ex
