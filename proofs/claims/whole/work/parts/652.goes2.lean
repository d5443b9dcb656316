/-! PURE HALF: orders: the model goes along a whole clause -/
theorem m_gs {cd vl : Nat → Nat} {T i j k : Nat} {F : lwS} {r : lwE} {K : ph_Mem} {lv su : Bool} {rc : Int32 → Int32 → Int32 → ph_Mem → Option ph_Mem} (hm : mS true cd vl T f12_sumOf i j F) (ht : txt true cd vl T 2400 K r) (hg : K.1 0 22 = nI (2400 + i)) (h46 : K.1 0 46 = nI su.toNat) (hk : k < 2) : ∃ (v : Int64) (K' : ph_Mem) (su' : Bool), f12_goesAlong_j119 rc (nI lv.toNat) (nI 2) (nI k) K = rc (nI lv.toNat) (nI 2) (nI (k + 1)) K' ∧ K'.1 0 22 = nI (2400 + j) ∧ K'.1 0 46 = nI su'.toNat ∧ K'.2.1 23 k = v ∧ (∀ a, a ≠ k → K'.2.1 23 a = K.2.1 23 a) ∧ (lv = true → (F r = none → su' = false) ∧ ∀ x, F r = some x → v = x ∧ su' = su) ∧ (∀ c a, c ≠ 15 → (c ≠ 0 ∨ (a ≠ 22 ∧ a ≠ 24 ∧ a ≠ 46)) → K'.1 c a = K.1 c a) ∧ K'.2.2 = K.2.2 ∧ ∀ c a, c ≠ 23 → K'.2.1 c a = K.2.1 c a := by
  have fr0 : mFr true K (ph_wi K 0 24 (nI 0)) := mFr_w (mFr_r K) (Or.inr rfl)
  obtain ⟨v, P, bk, y1, y2, y3, y4, y5⟩ := hm.2.2 _ r 2400 lv false (txt_fr ht fr0) (by rw [wi_o (by omega)]; exact hg) (by rw [wi_s]; rfl)
  have fr := mFr_t fr0 y4
  have p46 : P.1 0 46 = nI su.toNat := (fr.1 0 46 (by omega) (by omega)).trans h46
  refine ⟨v, ph_wi (ph_wl P 23 k v) 0 46 (nI (su && !bk).toNat), su && !bk, ?_, by rw [wi_o (by omega)]; exact y2, wi_s, ?_, fun a ha => ?_, fun hl => ?_, fun c a q1 q2 => by rw [wi_o (by omega)]; exact fr.1 c a q1 (by omega), ?_, fun c a q => ?_⟩
  · unfold f12_goesAlong_j119 f12_goesAlong_j155 f12_goesAlong_j156
    simp only [q_lit]
    rw [q_let, y1, q_bd, q_ib (by omega) hk, q_ct, q_let, q_cl (by omega)]
    have w1 : (ph_wl P 23 k v).1 0 46 = nI su.toNat := p46
    have w2 : (ph_wl P 23 k v).1 0 24 = nI bk.toNat := y3
    rw [w1, w2, nI_add]
    cases su
    · rw [if_pos (by first | rfl | trivial | decide), q_isz0, q_ct, q_let]; rfl
    · rw [if_neg (by first | decide | exact fun q => absurd (show nI 1 = nI 0 from q) (by decide))]
      cases bk
      · rw [if_pos (by first | rfl | trivial | decide), q_isz1, q_ct, q_let]; rfl
      · rw [if_neg (by first | decide | exact fun q => absurd (show nI 1 = nI 0 from q) (by decide)), q_isz0, q_ct, q_let]; rfl
  · show (ph_wl P 23 k v).2.1 23 k = v
    exact wl_s
  · show (ph_wl P 23 k v).2.1 23 a = _
    rw [wl_o (by omega), fr.2.1]
  · obtain ⟨v1, v2⟩ := y5.1 ⟨hl, rfl⟩
    refine ⟨fun q => ?_, fun x q => ?_⟩
    · rw [v1 q]
      cases su <;> rfl
    · obtain ⟨z1, z2⟩ := v2 x q
      rw [z2]
      exact ⟨z1, by cases su <;> rfl⟩
  · show P.2.2 = _
    rw [fr.2.1]
  · show (ph_wl P 23 k v).2.1 c a = _
    rw [wl_o (by omega), fr.2.1]
/-- the words of the persons, as the model counts them -/
def oEn (g : Nat → Int32) (r : lwE) : Prop := ∃ n, n ≤ 6 ∧ g 475 = nI n ∧ (∀ p, p < n → q_fo g p ∧ r (3 + p) = g (216 + p) ∧ r (9 + p) = nI (q_pc (q_bs (hP g p 0) 12) 12) ∧ r (15 + p) = nI (q_kn g p (hP g p 0) 12)) ∧ ∀ p, n ≤ p → p < 6 → r (3 + p) = -nI 1 ∧ r (9 + p) = -nI 1 ∧ r (15 + p) = -nI 1
/-- what the model holds behind a clause -/
def oGo (c : lwC) (e : Nat) (r : lwE) (lv : Bool) (K' : ph_Mem) : Prop := K'.1 0 45 = nI (hdc true c.1) ∧ K'.1 0 22 = nI (2400 + e + 1) ∧ K'.1 0 44 = nI c.2.1 ∧ ∃ su ti : Bool, K'.1 0 46 = nI su.toNat ∧ K'.1 0 47 = nI ti.toNat ∧ (lv = true → ti = tsB c.2.2.2.2 r ∧ (c.1 = 2 → su = true) ∧ (c.1 ≠ 2 → (su = true → c.2.2.1 r = some (K'.2.1 23 0) ∧ c.2.2.2.1 r = some (K'.2.1 23 1)) ∧ (su = false → c.2.2.1 r = none ∨ c.2.2.2.1 r = none)))
theorem m_goes {cd vl : Nat → Nat} {T k e : Nat} {c : lwC} {r : lwE} {K : ph_Mem} {lv : Bool} (hT : oTx cd vl T K) (hc3 : c.1 < 3) (hc20 : c.2.1 ≤ 20) (hm : mCl true cd vl T k e c) (hg : K.1 0 43 = nI (2400 + k)) (h0 : r 0 = K.1 2 222) (h1 : r 1 = K.1 0 41) (h2 : r 2 = K.1 0 42) (hE : oEn (K.1 2) r) : ∃ K', f12_goesAlong K (nI (2400 + T)) (nI lv.toNat) = some K' ∧ oGo c e r lv K' ∧ oFr K K' := by
  obtain ⟨⟨ke, eT⟩, hh, e1, e2, e2e, m2, _, ms, _, mt, mn, mb⟩ := hm
  have T4 := hT.1.1
  generalize eA : ph_wi (ph_wi (ph_wi (ph_wi (ph_wi (ph_wi K 0 8 (nI 17)) 0 23 (nI (2400 + T))) 12 0 (K.1 2 222)) 12 1 (K.1 0 41)) 12 2 (K.1 0 42)) 0 22 (nI (2400 + k)) = A
  have oA : oFr K A := by
    rw [← eA]
    exact ⟨fun a j q1 q2 q3 => by rw [wi_o (by omega), wi_o (by omega), wi_o (by omega), wi_o (by omega), wi_o (by omega), wi_o (by omega)], rfl, fun _ _ _ => rfl⟩
  have a2 : ∀ j, A.1 2 j = K.1 2 j := fun j => oA.1 2 j (by omega) (by omega) (by omega)
  have tA : txt true cd vl T 2400 A r := by
    refine ⟨⟨Nat.le_refl _, T4, hT.1.2.1, hT.1.2.2⟩, fun j hj => by rw [a2, a2]; exact hT.2 j hj, by rw [← eA, wi_o (by omega), wi_o (by omega), wi_o (by omega), wi_o (by omega), wi_s], ?_⟩
    unfold mE
    rw [if_pos rfl, show A.1 2 = K.1 2 from funext a2]
    refine ⟨by rw [← eA, wi_o (by omega), wi_o (by omega), wi_o (by omega), wi_o (by omega), wi_o (by omega), wi_s], fun j hj => ?_, hE⟩
    have : j = 0 ∨ j = 1 ∨ j = 2 := by omega
    rcases this with rfl | rfl | rfl
    · rw [← eA, wi_o (by omega), wi_o (by omega), wi_o (by omega), wi_s, h0]
    · rw [← eA, wi_o (by omega), wi_o (by omega), wi_s, h1]
    · rw [← eA, wi_o (by omega), wi_s, h2]
  have a22 : A.1 0 22 = nI (2400 + k) := by rw [← eA, wi_s]
  have cA := m_code tA (show k ≤ T by omega)
  rw [hh] at cA
  generalize eB : ph_wi (ph_wi (ph_wi A 0 45 (nI (hdc true c.1))) 0 22 (nI (2400 + (k + 1)))) 0 46 (nI 1) = B
  have bo : ∀ a j, (a ≠ 0 ∨ (j ≠ 22 ∧ j ≠ 45 ∧ j ≠ 46)) → B.1 a j = A.1 a j := fun a j q => by rw [← eB, wi_o (by omega), wi_o (by omega), wi_o (by omega)]
  have oB : oFr K B := by
    have z1 := oFr_w (v := nI (hdc true c.1)) oA (j := 45) (by omega)
    have z2 := oFr_w (v := nI (2400 + (k + 1))) z1 (j := 22) (by omega)
    have z3 := oFr_w (v := nI 1) z2 (j := 46) (by omega)
    rw [← eB]; exact z3
  have tB : txt true cd vl T 2400 B r := txt_o tA (bo _ _ (by omega)) (bo _ _ (by omega)) (fun j _ => bo _ _ (by omega)) (fun j => bo _ _ (by omega))
  have b22 : B.1 0 22 = nI (2400 + (k + 1)) := by rw [← eB, wi_o (by omega), wi_s]
  have b45 : B.1 0 45 = nI (hdc true c.1) := by rw [← eB, wi_o (by omega), wi_o (by omega), wi_s]
  have b46 : B.1 0 46 = nI 1 := by rw [← eB, wi_s]
  have go : f12_goesAlong K (nI (2400 + T)) (nI lv.toNat) = if B.1 0 45 = (26 : Int32) then (f12_goesAlong_j94 (nI lv.toNat) (nI 0) B) else (f12_goesAlong_j94 (nI lv.toNat) (nI 2) B) := by
    unfold f12_goesAlong
    simp only [q_lit]
    rw [q_let, q_let, q_let, q_let, q_let, q_let]
    have r1 : (ph_wi (ph_wi K 0 8 (nI 17)) 0 23 (nI (2400 + T))).1 2 222 = K.1 2 222 := by rw [wi_o (by omega), wi_o (by omega)]
    rw [r1]
    have r2 : (ph_wi (ph_wi (ph_wi K 0 8 (nI 17)) 0 23 (nI (2400 + T))) 12 0 (K.1 2 222)).1 0 41 = K.1 0 41 := by rw [wi_o (by omega), wi_o (by omega), wi_o (by omega)]
    rw [r2]
    have r3 : (ph_wi (ph_wi (ph_wi (ph_wi K 0 8 (nI 17)) 0 23 (nI (2400 + T))) 12 0 (K.1 2 222)) 12 1 (K.1 0 41)).1 0 42 = K.1 0 42 := by rw [wi_o (by omega), wi_o (by omega), wi_o (by omega), wi_o (by omega)]
    rw [r3]
    have r4 : (ph_wi (ph_wi (ph_wi (ph_wi (ph_wi K 0 8 (nI 17)) 0 23 (nI (2400 + T))) 12 0 (K.1 2 222)) 12 1 (K.1 0 41)) 12 2 (K.1 0 42)).1 0 43 = nI (2400 + k) := by rw [wi_o (by omega), wi_o (by omega), wi_o (by omega), wi_o (by omega), wi_o (by omega), hg]
    rw [r4, eA, a22, cA, q_bd, q_let, wi_o (by omega), a22, nI_add, show 2400 + k + 1 = 2400 + (k + 1) by omega, q_let, q_let, eB]
  -- the rest, from e1 on
  have fin : ∀ (N : ph_Mem) (su : Bool), txt true cd vl T 2400 N r → N.1 0 22 = nI (2400 + e1) → N.1 0 45 = nI (hdc true c.1) → N.1 0 46 = nI su.toNat → oFr K N → e1 ≤ e2 → (lv = true → (c.1 = 2 → su = true) ∧ (c.1 ≠ 2 → (su = true → c.2.2.1 r = some (N.2.1 23 0) ∧ c.2.2.2.1 r = some (N.2.1 23 1)) ∧ (su = false → c.2.2.1 r = none ∨ c.2.2.2.1 r = none))) → ∃ K', f12_goesAlong_j165 (nI lv.toNat) N = some K' ∧ oGo c e r lv K' ∧ oFr K K' := by
    intro N su q1 q2 q3 q4 q5 q6 q7
    obtain ⟨K', ti, z1, z2, z3, z4, z5, z6, z7, z8, z9⟩ := m_goeT (lv := lv) (tm := c.2.1) (ts := c.2.2.2.2) (e := e) eT ⟨q6, e2e⟩ hc20 (mt rfl) mn mb q1 q2
    refine ⟨K', z1, ⟨(z7 45 (by omega) (by omega) (by omega) (by omega)).trans q3, z2, z3, su, ti, (z7 46 (by omega) (by omega) (by omega) (by omega)).trans q4, z4, fun hl => ⟨z5 hl, ?_⟩⟩, oFr_t q5 z6⟩
    rw [z8]
    exact q7 hl
  have le12 : e1 ≤ e2 := by
    rcases mt rfl with ⟨_, z, _⟩ | ⟨_, z, _⟩ <;> omega
  by_cases c2 : c.1 = 2
  · have e1k := m2 c2
    obtain ⟨K', z1, z2, z3⟩ := fin B true tB (by rw [e1k]; exact b22) b45 b46 oB le12 (fun _ => ⟨fun _ => rfl, fun q => absurd c2 q⟩)
    refine ⟨K', ?_, z2, z3⟩
    rw [go, b45, if_pos (by unfold hdc; rw [c2]; rfl)]
    unfold f12_goesAlong_j94
    conv => lhs; unfold f12_goesAlong_l98
    simp only [q_lit]
    rw [if_pos (Int32.le_refl _)]
    exact z1
  · obtain ⟨e0, s1, s2⟩ := ms c2 rfl
    have h26 : ¬ nI (hdc true c.1) = (26 : Int32) := by
      have : c.1 = 0 ∨ c.1 = 1 := by omega
      unfold hdc
      rcases this with q | q
      · rw [q]; decide
      · rw [q]; decide
    obtain ⟨v0, N0, u0, x1, x2, x3, x4, x5, x6, x7, x8, x9⟩ := m_gs (lv := lv) (su := true) (k := 0) (rc := f12_goesAlong_l98 9999) s1 tB b22 b46 (by omega)
    generalize eN1 : ph_wi N0 0 22 (nI (2400 + (e0 + 1))) = N1
    have n1o : ∀ a j, (a ≠ 0 ∨ j ≠ 22) → N1.1 a j = N0.1 a j := fun a j q => by rw [← eN1, wi_o (by omega)]
    have n1o' : ∀ a j, a ≠ 15 → (a ≠ 0 ∨ (j ≠ 22 ∧ j ≠ 24 ∧ j ≠ 46)) → N1.1 a j = B.1 a j := fun a j q1 q2 => (n1o a j (by omega)).trans (x7 a j q1 q2)
    have tN1 : txt true cd vl T 2400 N1 r := txt_o tB (n1o' _ _ (by omega) (by omega)) (n1o' _ _ (by omega) (by omega)) (fun j _ => n1o' _ _ (by omega) (by omega)) (fun j => n1o' _ _ (by omega) (by omega))
    obtain ⟨v1, N2, u1, w1, w2, w3, w4, w5, w6, w7, w8, w9⟩ := m_gs (lv := lv) (su := u0) (k := 1) (rc := f12_goesAlong_l98 9998) s2 tN1 (by rw [← eN1, wi_s]) (by rw [n1o 0 46 (by omega)]; exact x3) (by omega)
    have n2o : ∀ a j, a ≠ 15 → (a ≠ 0 ∨ (j ≠ 22 ∧ j ≠ 24 ∧ j ≠ 46)) → N2.1 a j = B.1 a j := fun a j q1 q2 => (w7 a j q1 q2).trans (n1o' a j q1 q2)
    have n1r : N1.2 = N0.2 := by rw [← eN1]; rfl
    have oN2 : oFr K N2 := ⟨fun a j q1 q2 q3 => (n2o a j q2 (by omega)).trans (oB.1 a j q1 q2 q3), by rw [w8, n1r, x8]; exact oB.2.1, fun a j q => by rw [w9 a j q, n1r, x9 a j q]; exact oB.2.2 a j q⟩
    have v0e : N2.2.1 23 0 = v0 := by rw [w5 0 (by omega), n1r]; exact x4
    obtain ⟨K', z1, z2, z3⟩ := fin N2 u1 (txt_o tB (n2o _ _ (by omega) (by omega)) (n2o _ _ (by omega) (by omega)) (fun j _ => n2o _ _ (by omega) (by omega)) (fun j => n2o _ _ (by omega) (by omega))) w2 ((n2o 0 45 (by omega) (by omega)).trans b45) w3 oN2 le12 (fun hl => ⟨fun q => absurd q c2, fun _ => by
      rw [v0e, w4]
      obtain ⟨f1, f2⟩ := x6 hl
      obtain ⟨f3, f4⟩ := w6 hl
      cases F1 : c.2.2.1 r with
      | none =>
        refine ⟨fun q => ?_, fun _ => Or.inl rfl⟩
        have g1 := f1 F1
        cases F2 : c.2.2.2.1 r with
        | none => rw [f3 F2] at q; exact absurd q (by decide)
        | some x => rw [(f4 x F2).2, g1] at q; exact absurd q (by decide)
      | some x =>
        obtain ⟨g1, g2⟩ := f2 x F1
        cases F2 : c.2.2.2.1 r with
        | none => exact ⟨fun q => by rw [f3 F2] at q; exact absurd q (by decide), fun _ => Or.inr rfl⟩
        | some y =>
          obtain ⟨g3, g4⟩ := f4 y F2
          rw [g1, g3]
          exact ⟨fun _ => ⟨rfl, rfl⟩, fun q => by rw [g4, g2] at q; exact absurd q (by decide)⟩⟩)
    refine ⟨K', ?_, z2, z3⟩
    rw [go, b45, if_neg h26]
    unfold f12_goesAlong_j94
    conv => lhs; unfold f12_goesAlong_l98
    simp only [q_lit]
    rw [if_neg (by decide), if_pos (Int32.le_refl _), x1]
    conv => lhs; unfold f12_goesAlong_l98
    simp only [q_lit]
    rw [if_neg (by decide), if_neg (by decide), x2, nI_add, show 2400 + e0 + 1 = 2400 + (e0 + 1) by omega, q_let, eN1, w1]
    conv => lhs; unfold f12_goesAlong_l98
    simp only [q_lit]
    rw [if_pos (by decide)]
    exact z1
