/-! PURE HALF: orders: copies, and the loop over the clauses -/
theorem Rel_o {RL : rLT} (hRL : rLoc RL) {S : ph_Sh} {X K X' K' : ph_Mem} (h : Rel RL S X K) (hx : ∀ c j, rXj c j → (c < 11 ∨ 23 ≤ c) → (c < 59 ∨ 62 ≤ c) → (c ≠ 0 ∨ j ≠ 17) → X'.1 c j = X.1 c j) (h61 : ∃ a b : Nat, a < 16 ∧ b ≤ 16 ∧ X'.1 61 1 = nI a ∧ X'.1 61 2 = nI b) (hr : ∀ c j, c = 1 ∨ c = 46 ∨ c = 58 → X'.2.2 c j = X.2.2 c j) (h34 : ∀ i, i < 6 → ph_okN S (X'.2.2 34 i) = true) (hk : ∀ c j, rKj c j → c ≠ 2 → c ≠ 13 → (c ≠ 0 ∨ (j ≠ 28 ∧ j ≠ 40)) → K'.1 c j = K.1 c j) (e17 : X'.1 0 17 = K'.1 0 40) {n t : Nat} (hs : rSt RL S X' 11 (K'.1 2) n t) (hl : rLog X' K' n) : Rel RL S X' K' := by
  obtain ⟨h1, h2, h3, h4, h5, n', t', h6, h8⟩ := h
  obtain ⟨a1, a2, a3, a4, a5, _, ⟨d, d1, d2, d3, d4⟩, a8, a9, b1, b2, b3⟩ := h2
  have hX : ∀ c j, rXj c j → (c < 11 ∨ 62 ≤ c) → (c ≠ 0 ∨ j ≠ 17) → X'.1 c j = X.1 c j := fun c j q r r2 => hx c j q (by omega) (by omega) r2
  have hI : ∀ c j, 35 ≤ c → c < 59 → X'.1 c j = X.1 c j := fun c j q r => hx c j (by unfold rXj; omega) (by omega) (by omega) (by omega)
  have h88 : ∀ d j, 88 ≤ d → X'.1 d j = X.1 d j := fun d j hd => hX d j (by unfold rXj; omega) (by omega) (by omega)
  refine ⟨⟨h1.1, fun e i he hi => by
    by_cases e22 : e = 22
    · subst e22; exact hs.2.2.2.2.2.2.1 i hi
    · by_cases e34 : e = 34
      · subst e34; exact h34 i hi
      · rw [hr e i (by omega)]; exact h1.2 e i he hi⟩, ⟨?_, fun i hi => ?_, ?_, ?_, ?_, h61, ⟨d, d1, ?_, ?_, fun p hp => ?_⟩, ?_, fun j e1 e2 => ?_, ?_, ?_, fun j hj => ?_⟩, ?_, ?_, ?_, n, t, hs, hl⟩
  · rw [hX 0 18 (by unfold rXj; omega) (by omega) (by omega), hk 0 0 (by unfold rKj; omega) (by omega) (by omega) (by omega)]; exact a1
  · rw [hX 3 i (by unfold rXj; omega) (by omega) (by omega), hk 1 i (by unfold rKj; omega) (by omega) (by omega) (by omega)]; exact a2 i hi
  · rw [hX 0 15 (by unfold rXj; omega) (by omega) (by omega), hk 0 6 (by unfold rKj; omega) (by omega) (by omega) (by omega)]; exact a3
  · rw [hX 0 16 (by unfold rXj; omega) (by omega) (by omega), hk 0 14 (by unfold rKj; omega) (by omega) (by omega) (by omega)]; exact a4
  · exact e17
  · rw [hX 84 0 (by unfold rXj; omega) (by omega) (by omega)]; exact d2
  · rw [hk 0 52 (by unfold rKj; omega) (by omega) (by omega) (by omega)]; exact d3
  · rw [hX 85 p (by unfold rXj; omega) (by omega) (by omega), hX 86 p (by unfold rXj; omega) (by omega) (by omega), hX 87 p (by unfold rXj; omega) (by omega) (by omega), hk 24 p (by unfold rKj; omega) (by omega) (by omega) (by omega), hk 25 p (by unfold rKj; omega) (by omega) (by omega) (by omega), hk 26 p (by unfold rKj; omega) (by omega) (by omega) (by omega)]; exact d4 p hp
  · rw [hX 75 0 (by unfold rXj; omega) (by omega) (by omega)]; exact a8
  · rw [hX 82 j (by unfold rXj; omega) (by omega) (by omega)]; exact a9 j e1 e2
  · rw [hr 1 0 (by omega)]; exact b1
  · rw [hr 1 1 (by omega)]; exact b2
  · rw [hk 6 j (by unfold rKj; omega) (by omega) (by omega) (by omega)]; exact b3 j hj
  · exact rTape_fr h3 (hX _ _ (by unfold rXj; omega) (by omega) (by omega)) (hk _ _ (by unfold rKj; omega) (by omega) (by omega) (by omega)) (fun j _ => hX _ _ (by unfold rXj; omega) (by omega) (by omega)) (fun j _ => hk _ _ (by unfold rKj; omega) (by omega) (by omega) (by omega))
  · exact rImg_fr hRL (by omega) h4 (hX _ _ (by unfold rXj; omega) (by omega) (by omega)) (hk _ _ (by unfold rKj; omega) (by omega) (by omega) (by omega)) hI (fun d j hd => hr d j (by omega)) h88 (fun j => hk _ _ (by unfold rKj; omega) (by omega) (by omega) (by omega))
  · exact rImg_fr hRL (by omega) h5 (hX _ _ (by unfold rXj; omega) (by omega) (by omega)) (hk _ _ (by unfold rKj; omega) (by omega) (by omega) (by omega)) hI (fun d j hd => hr d j (by omega)) h88 (fun j => hk _ _ (by unfold rKj; omega) (by omega) (by omega) (by omega))
theorem cpk_l : ph_cpk (nI 0) (nI 0) (nI 192) 192 192 = true := by decide
theorem x_lcp {S : ph_Sh} {X : ph_Mem} {c p : Nat} (hne : c + 2 ≤ p ∨ p + 2 ≤ c) : ∃ X', f1_copyFrom S X c p = some X' ∧ X'.1 c 1 = X.1 p 1 ∧ X'.1 c 2 = X.1 p 2 ∧ (∀ j, j < 192 → X'.1 (c + 1) j = X.1 (p + 1) j) ∧ (∀ d j, (d ≠ c ∨ (j ≠ 1 ∧ j ≠ 2)) → d ≠ c + 1 → X'.1 d j = X.1 d j) ∧ X'.2 = X.2 := by
  refine ⟨ph_wi (ph_wi (ph_cp X (p + 1) 0 (c + 1) 0 192) c 1 (X.1 p 1)) c 2 (X.1 p 2), ?_, by rw [wi_o (by omega), wi_s], wi_s, fun j hj => ?_, fun d j q1 q2 => ?_, rfl⟩
  · unfold f1_copyFrom
    simp only [q_lit]
    rw [cpk_l, q_ct, q_let, q_let, q_let, q_cl (by omega), q_cl (by omega), wi_o (by omega), cp_out (by omega), cp_out (by omega)]
  · rw [wi_o (by omega), wi_o (by omega), cp_in (by omega), show 0 + (j - 0) = j by omega]
  · rw [wi_o (by omega), wi_o (by omega), cp_out (by omega)]
theorem m_lf_l {K : ph_Mem} : ∀ (r i fuel : Nat), i + r = 3584 → r < fuel → f12_orders_l27 fuel (nI i) (ph_cp K 13 0 14 0 i) = f12_orders_j52 (ph_cp K 13 0 14 0 3584)
  | 0, i, f + 1, e, _ => by
    have : i = 3584 := by omega
    subst this
    conv => lhs; unfold f12_orders_l27
    simp only [q_lit]
    rw [if_pos (Int32.le_refl _)]
  | r + 1, i, f + 1, e, hf => by
    have ih := m_lf_l (K := K) r (i + 1) f (by omega) (by omega)
    conv => lhs; unfold f12_orders_l27
    simp only [q_lit]
    have := cp_st (M := K) (s := 13) (sp := 0) (d := 14) (dp := 0) (n := i) (v := (ph_cp K 13 0 14 0 i).1 13 i) (by rw [cp_out (by omega), Nat.zero_add])
    rw [Nat.zero_add] at this
    rw [if_neg (by rw [q_le (by omega) (by omega)]; omega), q_ib (by omega) (by omega), q_ct, q_ct, q_let, q_cl (by omega), this, nI_add]
    exact ih
theorem m_lb_l {K : ph_Mem} {x1 x3 : Int32} : ∀ (r i fuel : Nat), i + r = 3584 → r < fuel → f12_orders_l123 fuel x1 x3 (nI i) (ph_cp K 14 0 13 0 i) = f12_orders_j151 x1 x3 (ph_cp K 14 0 13 0 3584)
  | 0, i, f + 1, e, _ => by
    have : i = 3584 := by omega
    subst this
    conv => lhs; unfold f12_orders_l123
    simp only [q_lit]
    rw [if_pos (Int32.le_refl _)]
  | r + 1, i, f + 1, e, hf => by
    have ih := m_lb_l (K := K) (x1 := x1) (x3 := x3) r (i + 1) f (by omega) (by omega)
    conv => lhs; unfold f12_orders_l123
    simp only [q_lit]
    have := cp_st (M := K) (s := 14) (sp := 0) (d := 13) (dp := 0) (n := i) (v := (ph_cp K 14 0 13 0 i).1 14 i) (by rw [cp_out (by omega), Nat.zero_add])
    rw [Nat.zero_add] at this
    rw [if_neg (by rw [q_le (by omega) (by omega)]; omega), q_ib (by omega) (by omega), q_ct, q_ct, q_let, q_cl (by omega), this, nI_add]
    exact ih
theorem x_look_l {S : ph_Sh} {g : Nat → Int32} {n t q : Nat} : ∀ (r k f : Nat) (X : ph_Mem), k + r = 6 → r < f → rSt RLx S X 11 g n t → (∀ p, p < k → wdl (X.1 9) g n p) → ∃ X', f8_run_l18 S q 11 59 f (nI k) X = f8_run_l41 S q 11 59 10000 (nI 0) X' ∧ (∀ p, p < 6 → wdl (X'.1 9) g n p) ∧ (∀ c j, (c ≠ 9 ∨ j < 3) → X'.1 c j = X.1 c j) ∧ X'.2 = X.2
  | r, k, 0, _, _, h, _, _ => absurd h (by omega)
  | 0, k, f + 1, X, hk, _, hs, hw => by
    refine ⟨X, ?_, fun p hp => hw p (by omega), fun _ _ _ => rfl, rfl⟩
    conv => lhs; unfold f8_run_l18
    unfold f8_run_j38
    simp only [q_lit]
    rw [if_pos (by rw [q_le (by omega) (by omega)]; omega)]
  | r + 1, k, f + 1, X, hk, hf, hs, hw => by
    obtain ⟨X1, y1, y2, y3, y4⟩ := x_look hs (show k < 6 by omega)
    obtain ⟨X', z1, z2, z3, z4⟩ := x_look_l (q := q) r (k + 1) f X1 (by omega) (by omega) (rSt_9 hs (fun c j z => y3 c j (by omega)) (by rw [y4])) (fun p hp => by
      by_cases e : p = k
      · subst e; exact y2
      · exact wdl_fr (hw p (by omega)) (y3 _ _ (by omega)) (y3 _ _ (by omega)) (y3 _ _ (by omega)) rfl (fun _ _ => rfl) (fun _ _ => rfl))
    refine ⟨X', ?_, z2, fun c j z => (z3 c j z).trans (y3 c j (by omega)), z4.trans y4⟩
    conv => lhs; unfold f8_run_l18
    simp only [q_lit]
    rw [if_neg (by rw [q_le (by omega) (by omega)]; omega), y1, q_bd, nI_add]
    exact z1
theorem o_run {S : ph_Sh} {n t q N cl T : Nat} {cs : Nat → lwC} {cd vl st en : Nat → Nat} {x1 : Int32} (hS : ph_SX S) (hm : mC true cd vl T N st en cs) (hN : 0 < N ∧ N ≤ 12) (hT4 : T ≤ 400) (he : en (N - 1) = T) : ∀ (u i fx fk : Nat) (X K : ph_Mem), i + u = N → u < fx → u < fk → oI S X K n t q N cl cs cd vl T → (i < N → K.1 0 43 = nI (2400 + st i)) → (i = N → K.1 0 43 = nI (2400 + T + 1)) → ∃ X' K', xR X X' ∧ kR K K' ∧ ((f8_run_l41 S q 11 59 fx (nI i) X = some (-nI 1, X') ∧ f12_orders_l96 fk x1 (nI (2400 + T)) (nI i) K = f12_orders_j174 K' ∧ oI S X' K' n t q N cl cs cd vl T) ∨ ∃ s, s < N ∧ f8_run_l41 S q 11 59 fx (nI i) X = some (nI s, X') ∧ f12_orders_l96 fk x1 (nI (2400 + T)) (nI i) K = f12_orders_j115 x1 (nI s) K')
  | u, i, 0, fk, _, _, _, h, _, _, _, _ => absurd h (by omega)
  | u, i, fx + 1, 0, _, _, _, _, h, _, _, _ => absurd h (by omega)
  | 0, i, fx + 1, fk + 1, X, K, hi, _, _, h, _, h43 => by
    have q0 := h.2.2.1.1.2.1
    refine ⟨X, K, xR_r, kR_r, Or.inl ⟨?_, ?_, h⟩⟩
    · conv => lhs; unfold f8_run_l41
      simp only [q_lit]
      rw [q0, if_pos (by rw [q_le (by omega) (by omega)]; omega)]
    · conv => lhs; unfold f12_orders_l96
      simp only [q_lit]
      rw [h43 (by omega), if_pos (by rw [q_le (by omega) (by omega)]; omega)]
  | u + 1, i, fx + 1, fk + 1, X, K, hi, hfx, hfk, h, h43, _ => by
    have iN : i < N := by omega
    have q0 := h.2.2.1.1.2.1
    have tm := (cPr_k h.2.2.1.1 iN).2
    obtain ⟨⟨t3, _⟩, ⟨t20, _⟩, _⟩ := h.2.2.1.1.2.2.2 i iN
    have mcl := hm.2.1 i iN
    have c43 := h43 iN
    have sT := mcl.1
    obtain ⟨K1, g1, ⟨g45, g22, g44, _⟩, g3⟩ := m_goes (r := fun k => if k = 0 then K.1 2 222 else if k = 1 then K.1 0 41 else X.1 9 k) (K := K) (lv := false) h.2.2.2.1 t3 t20 mcl c43 rfl rfl h.2.2.2.2.2.1 (oI_en h (fun k hk => by rw [if_neg (by omega), if_neg (by omega)]))
    have hI : oI S X K1 n t q N cl cs cd vl T := oI_fr h (fun _ _ _ _ => rfl) rfl g3
    have k43 : K1.1 0 43 = nI (2400 + st i) := (g3.1 0 43 (by omega) (by omega) (by omega)).trans c43
    obtain ⟨X2, K2, z1, z2, z3⟩ := o_times (rc := f8_run_l41 S q 11 59 fx) hS hm iN hN.2 (cs i).2.1 0 10000 10000 X K1 (by omega) (by omega) (by omega) hI k43
    have ex : f8_run_l41 S q 11 59 (fx + 1) (nI i) X = f8_run_l61 S q 11 59 (f8_run_l41 S q 11 59 fx) 10000 (nI i) (nI (cs i).2.1) (nI 0) X := by
      conv => lhs; unfold f8_run_l41
      simp only [q_lit]
      rw [q0, if_neg (by rw [q_le (by omega) (by omega)]; omega), tm, q_bd]
    have ek : f12_orders_l96 (fk + 1) x1 (nI (2400 + T)) (nI i) K = (f12_runs_l19 10000 (nI (2400 + T)) (nI (cs i).2.1) (nI (2400 + en i + 1)) (nI 0) K1).bind fun q11 => if q11.1 = nI 0 then (f12_orders_j115 x1 (nI i) q11.2) else (f12_orders_l96 fk x1 (nI (2400 + T)) (nI (i + 1)) q11.2) := by
      conv => lhs; unfold f12_orders_l96
      unfold f12_runs
      have g1' : f12_goesAlong K (nI (2400 + T)) (nI 0) = some K1 := g1
      simp only [q_lit]
      rw [c43, if_neg (by rw [q_le (by omega) (by omega)]; omega), g1', q_bd, g44, g22, nI_add]
    rw [ex, ek]
    rcases z3 with ⟨y1, y2, y3, y4⟩ | ⟨y1, y2⟩
    · rw [y1, y2, q_bd, if_neg (by first | decide | exact fun q => absurd (show nI 1 = nI 0 from q) (by decide))]
      obtain ⟨X', K', w1, w2, w3⟩ := o_run (x1 := x1) hS hm hN hT4 he u (i + 1) fx fk X2 K2 (by omega) (by omega) (by omega) y3 (fun z => by rw [y4, hm.2.2 i z]; rfl) (fun z => by rw [y4, show i = N - 1 by omega, he])
      exact ⟨X', K', xR_t z1 w1, kR_t (kR_o g3) (kR_t z2 w2), w3⟩
    · rw [y1, y2, q_bd, if_pos (by first | rfl | trivial | decide)]
      exact ⟨X2, K2, z1, kR_t (kR_o g3) z2, Or.inr ⟨i, iN, rfl, rfl⟩⟩
