/-! PURE HALF: orders: one order is carried out, in both (2) -/
theorem rSt_9 {S : ph_Sh} {X X' : ph_Mem} {g : Nat → Int32} {n t : Nat} (hs : rSt RLx S X 11 g n t) (hx : ∀ c j, c ≠ 9 → X'.1 c j = X.1 c j) (hr : X'.2.2 = X.2.2) : rSt RLx S X' 11 g n t :=
  rSt_fr RLx_loc hs (hx _ _ (by omega)) (hx _ _ (by omega)) (hx _ _ (by omega)) (fun p _ => hx _ _ (by omega)) (fun d j _ _ _ => hx _ _ (by omega)) (fun j _ => hx _ _ (by omega)) (fun j _ => hx _ _ (by omega)) (fun j _ => hx _ _ (by omega)) (fun i _ => by rw [hr]) (fun d j _ => hx _ _ (by omega)) (fun j _ => rfl)
theorem rLog_9 {X X' K K' : ph_Mem} {n : Nat} (hn : n ≤ 6) (h : rLog X K n) (hx : ∀ c j, c ≠ 9 → X'.1 c j = X.1 c j) (hk : K'.1 0 28 = K.1 0 28) (hk2 : ∀ j, K'.1 13 j = K.1 13 j) : rLog X' K' n :=
  rLog_fr hn h (hx _ _ (by omega)) (hx _ _ (by omega)) hk (fun j _ => hx _ _ (by omega)) (fun j _ => hk2 j) (fun d j _ _ _ => hx _ _ (by omega))
theorem wdl_pu {w w' g g' : Nat → Int32} {n p : Nat} (h : wdl w g n p) (h1 : p < n → w' (3 + p) = g' (216 + p)) (h1' : n ≤ p → w' (3 + p) = w (3 + p)) (h2 : w' (9 + p) = w (9 + p)) (h3 : w' (15 + p) = w (15 + p)) (g2 : ∀ h, h < 12 → g' (12 * p + h) = g (12 * p + h)) (g3 : ∀ j, 223 ≤ j → g' j = g j) : wdl w' g' n p := by
  have hh : ∀ i, i < 12 → hP g' p 0 i = hP g p 0 i := fun i hi => by unfold hP; rw [g2 i hi]
  unfold wdl
  rw [h2, h3, q_bs_ext 12 hh, q_kn_g g3, q_kn_ext (g := g) (p := p) 12 hh]
  exact ⟨fun q => ⟨h1 q, (h.1 q).2⟩, fun q => ⟨(h1' q).trans (h.2 q).1, (h.2 q).2⟩⟩
theorem br_ne (h : Nat) (hh : h < 2 ^ 20) : ¬ lwBr = lN h := by
  intro q
  have : lwBr < 0 := by decide
  rw [q] at this
  exact absurd ((pk_lLT (a := h) (b := 0) (by omega) (by omega)).mp this) (by omega)
/-- the rest of a move: last, the person's words -/
theorem o_146 {S : ph_Sh} {X K X1 K1 : ph_Mem} {n t q N cl T p : Nat} {cs : Nat → lwC} {cd vl : Nat → Nat} {r0 : Int32} (h : oI S X K n t q N cl cs cd vl T) (hp : p < n) (hm : oMv S X K X1 K1 n t r0) (ho : ∀ q, q < 6 → q ≠ p → K1.1 2 (216 + q) = K.1 2 (216 + q) ∧ ∀ h, h < 12 → K1.1 2 (12 * q + h) = K.1 2 (12 * q + h)) : ∃ X', xR X X' ∧ ((f8_runOnce_j146 S q 11 59 (lN p) r0 X1 = some (nI 0, X') ∧ ∃ v K', f12_obeys_j58 r0 K1 = some (v, K') ∧ ¬ 0 ≤ v ∧ kR K K') ∨ (f8_runOnce_j146 S q 11 59 (lN p) r0 X1 = some (nI 1, X') ∧ ∃ v K', f12_obeys_j58 r0 K1 = some (v, K') ∧ 0 ≤ v ∧ oI S X' K' n t q N cl cs cd vl T ∧ kR K K' ∧ K'.1 0 43 = K.1 0 43)) := by
  obtain ⟨hs, hl, ⟨hP, hq⟩, hT, h70, h92, hw⟩ := id h
  have hn := hs.1.1
  rcases hm with ⟨rfl, x1, x2⟩ | ⟨v, v9, rfl, x1, x2, x3, x4, x5⟩
  · have s1 := rSt_9 (X' := ph_wi X1 9 2 (-nI 3)) (xSc_st RLx_loc (by omega) hs x1) (fun c j z => wi_o (by omega)) rfl
    obtain ⟨X3, y1, y2, y3, y4⟩ := x_look s1 (show p < 6 by omega)
    refine ⟨X3, xR_t (xR_s x1) (xR_t xR_9 ⟨fun c j _ z _ _ _ _ => y3 c j (by omega), by rw [y4]⟩), Or.inl ⟨?_, -nI 3, K1, ?_, by decide, kR_s x2⟩⟩
    · unfold f8_runOnce_j146
      simp only [q_lit]
      rw [q_let, lN_i, y1, q_bd, if_pos (by first | rfl | trivial | decide)]
    · unfold f12_obeys_j58
      rw [if_pos (by decide)]
  · have s1 := rSt_9 (X' := ph_wi X1 9 2 (nI v)) x3 (fun c j z => wi_o (by omega)) rfl
    obtain ⟨X3, y1, y2, y3, y4⟩ := x_look s1 (show p < 6 by omega)
    have e9 : ∀ c j, c ≠ 9 → X3.1 c j = X1.1 c j := fun c j z => by rw [y3 c j (by omega), wi_o (by omega)]
    have er : X3.2.2 = X1.2.2 := by rw [y4]; rfl
    have k2 : (ph_wi K1 0 42 (nI v)).1 2 = K1.1 2 := funext fun j => wi_o (by omega)
    have x9 : ∀ j, X1.1 9 j = X.1 9 j := fun j => x1.1 9 j (by omega) (by omega) (by omega) (by omega)
    refine ⟨X3, xR_t (xR_m x1) (xR_t xR_9 ⟨fun c j _ z _ _ _ _ => y3 c j (by omega), by rw [y4]⟩), Or.inr ⟨?_, nI v, ph_wi K1 0 42 (nI v), ?_, nI_le (a := 0) (b := v) (by omega) (by omega), ⟨?_, ?_, ⟨?_, hq⟩, ⟨hT.1, fun k hk => ?_⟩, ?_, ?_, fun p' hp' => ?_⟩, kR_t (kR_k x2 x5) (fun c j _ _ _ _ z => wi_o (by omega)), (wi_o (by omega)).trans (x2.1 0 43 (by omega) (by omega) (by omega) (by omega))⟩⟩
    · unfold f8_runOnce_j146
      simp only [q_lit]
      rw [q_let, lN_i, y1, q_bd, if_neg (by rw [q_eqn (by omega) (by omega)]; omega)]
    · unfold f12_obeys_j58
      rw [if_neg (nI_pos (by omega)), q_let]
    · rw [k2]
      exact rSt_9 x3 e9 er
    · exact rLog_9 hn x4 e9 (wi_o (by omega)) (fun j => wi_o (by omega))
    · exact cPr_fr hP hq (fun c j z => by rw [e9 c j (by omega), x1.1 c j (by omega) (by omega) (by omega) (by omega)])
    · rw [k2, x5 _ (by omega), x5 _ (by omega)]
      exact hT.2 k hk
    · rw [e9 70 1 (by omega), x1.1 70 1 (by omega) (by omega) (by omega) (by omega), wi_o (by omega), x2.1 0 41 (by omega) (by omega) (by omega) (by omega)]
      exact h70
    · rw [y3 9 2 (by omega), wi_s, wi_s]
    · rw [k2]
      by_cases z : p' = p
      · subst z
        exact y2
      · obtain ⟨o1, o2⟩ := ho p' hp' z
        exact wdl_fr (hw p' hp') (by rw [y3 9 _ (by omega), wi_o (by omega)]; exact x9 _) (by rw [y3 9 _ (by omega), wi_o (by omega)]; exact x9 _) (by rw [y3 9 _ (by omega), wi_o (by omega)]; exact x9 _) o1 o2 x5
theorem cpk_ok : ∀ n, n < 7 → ph_cpk (nI 0) (nI 3) (nI n) 6 21 = true := by decide
theorem o_act {S : ph_Sh} {X K : ph_Mem} {n t q N cl T i : Nat} {cs : Nat → lwC} {cd vl : Nat → Nat} {r : lwE} {su : Bool} (hS : ph_SX S) (h : oI S X K n t q N cl cs cd vl T) (hi : i < N) (hr : ∀ k, k < 21 → X.1 9 k = r k) (h45 : K.1 0 45 = nI (hdc true (cs i).1)) (h2 : (cs i).1 = 2 → su = true) (hsu : (cs i).1 ≠ 2 → (su = true → (cs i).2.2.1 r = some (K.2.1 23 0) ∧ (cs i).2.2.2.1 r = some (K.2.1 23 1)) ∧ (su = false → (cs i).2.2.1 r = none ∨ (cs i).2.2.2.1 r = none)) : ∃ X', xR X X' ∧ ((f8_runOnce S X q (nI i) 11 59 = some (nI 0, X') ∧ (su = true → ∃ v K', f12_obeys K = some (v, K') ∧ ¬ 0 ≤ v ∧ kR K K')) ∨ (su = true ∧ f8_runOnce S X q (nI i) 11 59 = some (nI 1, X') ∧ ∃ v K', f12_obeys K = some (v, K') ∧ 0 ≤ v ∧ oI S X' K' n t q N cl cs cd vl T ∧ kR K K' ∧ K'.1 0 43 = K.1 0 43)) := by
  obtain ⟨hs, hl, ⟨hP, hq⟩, hT, h70, h92, hw⟩ := id h
  have hn := hs.1.1
  obtain ⟨k1, _⟩ := cPr_k hP hi
  have kb3 := (hP.2.2.2 i hi).1.1
  by_cases c2 : (cs i).1 = 2
  · obtain ⟨r0, X1, K1, d1, d2, d3, d4⟩ := o_day hs hl
    have e45 : K.1 0 45 = (26 : Int32) := by rw [h45, c2]; rfl
    have ob : f12_obeys K = some (r0, K1) := by
      unfold f12_obeys
      rw [if_pos e45, d2, q_bd]
    have ru : X1.1 11 1 = nI n → f8_runOnce S X q (nI i) 11 59 = if r0 = -nI 3 then some (nI 0, ph_cp X1 12 0 9 3 n) else some (nI 1, ph_cp X1 12 0 9 3 n) := by
      intro z
      unfold f8_runOnce
      simp only [q_lit]
      rw [k1, q_bd, if_pos (by rw [c2]), d1, q_bd, z, cpk_ok n (by omega), q_ct, q_let, q_cl (by omega), q_cl (by omega), q_cl (by omega)]
    rcases d3 with ⟨rfl, x1, x2⟩ | ⟨v, v9, rfl, x1, x2, x3, x4, x5⟩
    · rw [if_pos rfl] at ru
      refine ⟨ph_cp X1 12 0 9 3 n, xR_t (xR_s x1) ⟨fun c j _ z _ _ _ _ => cp_out (by omega), rfl⟩, Or.inl ⟨ru ((x1.1 11 1 (by omega)).trans hs.1.2.2.1), fun _ => ⟨_, K1, ob, by decide, kR_s x2⟩⟩⟩
    · rw [if_neg (by rw [q_eqn (by omega) (by omega)]; omega)] at ru
      have x9 : ∀ j, X1.1 9 j = X.1 9 j := fun j => x1.1 9 j (by omega) (by omega) (by omega) (by omega)
      refine ⟨ph_cp X1 12 0 9 3 n, xR_t (xR_m x1) ⟨fun c j _ z _ _ _ _ => cp_out (by omega), rfl⟩, Or.inr ⟨h2 c2, ru x3.1.2.2.1, nI v, K1, ob, nI_le (a := 0) (b := v) (by omega) (by omega), ⟨rSt_9 x3 (fun c j z => cp_out (by omega)) rfl, rLog_9 hn x4 (fun c j z => cp_out (by omega)) rfl (fun _ => rfl), ⟨cPr_fr hP hq (fun c j z => by rw [cp_out (by omega), x1.1 c j (by omega) (by omega) (by omega) (by omega)]), hq⟩, ⟨hT.1, fun k hk => by rw [x5 _ (by omega), x5 _ (by omega)]; exact hT.2 k hk⟩, ?_, ?_, fun p hp => wdl_pu (hw p hp) (fun z => ?_) (fun z => ?_) ?_ ?_ (fun h hh => d4 p h hp hh) x5⟩, kR_k x2 x5, x2.1 0 43 (by omega) (by omega) (by omega) (by omega)⟩⟩
      · rw [cp_out (by omega), x1.1 70 1 (by omega) (by omega) (by omega) (by omega), x2.1 0 41 (by omega) (by omega) (by omega) (by omega)]
        exact h70
      · rw [cp_out (by omega), x9, x2.1 0 42 (by omega) (by omega) (by omega) (by omega)]
        exact h92
      · rw [cp_in (by omega), show 0 + (3 + p - 3) = p by omega]
        exact (x3.2.1.2.2 p hp).1
      · rw [cp_out (by omega)]
        exact x9 _
      · rw [cp_out (by omega)]
        exact x9 _
      · rw [cp_out (by omega)]
        exact x9 _
  · obtain ⟨⟨M1, u1, u2⟩, _, _⟩ := cPr_s (c := 8) (r := r) hP hi c2 hr
    obtain ⟨_, _, u4⟩ := cPr_s (c := 8) (r := r) (cPr_v (M' := M1) hP u2.1) hi c2 (fun k hk => by rw [u2.1]; exact hr k hk)
    obtain ⟨⟨M2, w1, w2⟩, _⟩ := u4 rfl
    have v12 := vSc_t u2 w2
    have hX2 : M2.1 11 1 = nI n := by rw [v12.1]; exact hs.1.2.2.1
    cases su
    · refine ⟨M2, xR_v v12, Or.inl ⟨x_bad k1 (by omega) u1 w1 hn hX2 (fun h' p' z1 z2 z3 => ?_), fun z => absurd z (by decide)⟩⟩
      rcases (hsu c2).2 rfl with z | z
      · rw [z] at z3
        exact br_ne h' (by omega) z3.1
      · rw [z] at z3
        exact br_ne p' (by omega) z3.2
    · obtain ⟨f0, f1⟩ := (hsu c2).1 rfl
      rw [f0] at u1
      rw [f1] at w1
      have u1 : f2_value S X 8 q (nI i) (nI 0) = some (K.2.1 23 0, M1) := u1
      have w1 : f2_value S M1 8 q (nI i) (nI 1) = some (K.2.1 23 1, M2) := w1
      obtain ⟨y, y1, y2⟩ := m_sm (K := K) (K.2.1 23 0)
      obtain ⟨x, x1, x2⟩ := m_sm (K := K) (K.2.1 23 1)
      have n26 : ¬ K.1 0 45 = (26 : Int32) := by
        have : (cs i).1 = 0 ∨ (cs i).1 = 1 := by omega
        rw [h45]
        unfold hdc
        rcases this with z | z
        · rw [z]; decide
        · rw [z]; decide
      have ob : f12_obeys K = if (cs i).1 = 0 then ((f12_pawnsKept K x y).bind fun q4 => f12_obeys_j58 q4.1 q4.2) else ((f12_redeemsKept K x y).bind fun q3 => f12_obeys_j58 q3.1 q3.2) := by
        unfold f12_obeys
        rw [if_neg n26, y1, q_bd, x1, q_bd, h45]
        have : (cs i).1 = 0 ∨ (cs i).1 = 1 := by omega
        unfold hdc
        rcases this with z | z
        · rw [z, if_pos (by decide), if_pos rfl]
        · rw [z, if_neg (by decide), if_neg (by decide)]
      have hI2 : oI S M2 K n t q N cl cs cd vl T := oI_fr h (fun c j _ _ => by rw [v12.1]) v12.2.1 oFr_r
      by_cases hv : ∃ h p, h < 12 ∧ p < n ∧ K.2.1 23 0 = lN h ∧ K.2.1 23 1 = lN p
      · obtain ⟨h', p', g1, g2, g3, g4⟩ := hv
        have ey := (y2 h' (by omega)).2 g3 (by omega)
        have ex := (x2 p' (by omega)).2 g4 (by omega)
        subst ey ex
        rw [g3] at u1
        rw [g4] at w1
        have rg := x_good k1 (by omega) u1 w1 hn hX2 g1 g2
        have fin : ∀ {X1 K1 : ph_Mem} {r0 : Int32}, f8_runOnce S X q (nI i) 11 59 = f8_runOnce_j146 S q 11 59 (lN p') r0 X1 → f12_obeys K = f12_obeys_j58 r0 K1 → oMv S M2 K X1 K1 n t r0 → (∀ q, q < 6 → q ≠ p' → K1.1 2 (216 + q) = K.1 2 (216 + q) ∧ ∀ h, h < 12 → K1.1 2 (12 * q + h) = K.1 2 (12 * q + h)) → ∃ X', xR X X' ∧ ((f8_runOnce S X q (nI i) 11 59 = some (nI 0, X') ∧ (true = true → ∃ v K', f12_obeys K = some (v, K') ∧ ¬ 0 ≤ v ∧ kR K K')) ∨ (true = true ∧ f8_runOnce S X q (nI i) 11 59 = some (nI 1, X') ∧ ∃ v K', f12_obeys K = some (v, K') ∧ 0 ≤ v ∧ oI S X' K' n t q N cl cs cd vl T ∧ kR K K' ∧ K'.1 0 43 = K.1 0 43)) := by
          intro X1 K1 r0 e1 e2 e3 e4
          rw [e1, e2]
          obtain ⟨X', a1, a2⟩ := o_146 hI2 g2 e3 e4
          refine ⟨X', xR_t (xR_v v12) a1, ?_⟩
          rcases a2 with ⟨a2, a3⟩ | ⟨a2, a3⟩
          · exact Or.inl ⟨a2, fun _ => a3⟩
          · exact Or.inr ⟨rfl, a2, a3⟩
        by_cases c0 : (cs i).1 = 0
        · rw [if_pos c0] at rg ob
          obtain ⟨r0, X1, K1, d1, d2, d3, d4⟩ := o_pawn hS hI2.1 hI2.2.1 g2 g1
          rw [d1, q_bd] at rg
          rw [d2, q_bd] at ob
          exact fin rg ob d3 d4
        · rw [if_neg c0] at rg ob
          obtain ⟨r0, X1, K1, d1, d2, d3, d4⟩ := o_red hS hI2.1 hI2.2.1 g2 g1
          rw [d1, q_bd] at rg
          rw [d2, q_bd] at ob
          exact fin rg ob d3 d4
      · refine ⟨M2, xR_v v12, Or.inl ⟨x_bad k1 (by omega) u1 w1 hn hX2 (fun h' p' z1 z2 z3 => hv ⟨h', p', z1, z2, z3.1, z3.2⟩), fun _ => ?_⟩⟩
        obtain ⟨v, v1, v2, v3⟩ := m_whyB (K := K) (x := x) (y := y) hs.1.2.2.2.1 hn (fun h' p' z1 z2 z3 => by
          rcases (y2 h' (by omega)).1 z3.1 with z4 | z4
          · rcases (x2 p' (by omega)).1 z3.2 with z5 | z5
            · exact hv ⟨h', p', z1, z2, z4, z5⟩
            · omega
          · omega)
        refine ⟨v, K, ?_, v3, kR_r⟩
        have e1 : f12_pawnsKept K x y = some (v, K) := by
          unfold f12_pawnsKept f12_pawnsKept_j20
          rw [v1, q_bd, if_pos v2, if_neg v3]
        have e2 : f12_redeemsKept K x y = some (v, K) := by
          unfold f12_redeemsKept f12_redeemsKept_j20
          rw [v1, q_bd, if_pos v2, if_neg v3]
        have e3 : f12_obeys_j58 v K = some (v, K) := by
          unfold f12_obeys_j58
          rw [if_pos v2]
        rw [ob, e1, e2, q_bd, ite_self]
        exact e3
