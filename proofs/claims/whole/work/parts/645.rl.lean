/-! PURE HALF: the law's module: what a law's program and its text have in common -/
def RLx : rLT := fun S X q i g => (88 ≤ q ∧ ph_isPb S q = true) ∧ ∃ cd vl T n cl st en c, (T ≤ 400 ∧ cd T = 0 ∧ ∀ k, cd k < 400 ∧ vl k < 2 ^ 30) ∧ g (478 + i) = nI T ∧ (∀ k, k < T → g (485 + 400 * i + k) = nI (cd k) ∧ g (3285 + 400 * i + k) = nI (vl k)) ∧ (0 < n ∧ n ≤ 12) ∧ X.1 q 0 = nI n ∧ (ph_len S (q + 1) = 6 * n ∧ ph_len S (q + 2) = cl ∧ cl ≤ 400) ∧ (∀ j, j < n → cCl false (X.1 (q + 1)) (X.1 (q + 2)) cl j (c j)) ∧ mC false cd vl T n st en c ∧ en (n - 1) = T
theorem isPb_lt {S : ph_Sh} {q : Nat} (h : ph_isPb S q = true) : q + 2 < S.2 := by
  unfold ph_isPb at h
  rw [Bool.and_eq_true] at h
  exact of_decide_eq_true h.1
theorem isPb_ext {S S' : ph_Sh} {q : Nat} (h : ph_isPb S q = true) (h1 : S.2 ≤ S'.2) (h2 : ∀ c, c < S.2 → S'.1 c = S.1 c) : ph_isPb S' q = true := by
  have l := isPb_lt h
  have la : ∀ c, c < S.2 → ph_len S' c = ph_len S c := fun c hc => by unfold ph_len; rw [h2 c hc]
  have ia : ∀ c, c < S.2 → ph_iab S' c = ph_iab S c := fun c hc => by
    unfold ph_iab
    rw [h2 c hc]
  unfold ph_isPb at h ⊢
  rw [Bool.and_eq_true] at h ⊢
  rw [h2 q (by omega), ia _ (by omega), ia _ (by omega)]
  exact ⟨decide_eq_true (by omega), h.2⟩
theorem okN_ext {S S' : ph_Sh} {x : Option Nat} (h : ph_okN S x = true) (h1 : S.2 ≤ S'.2) (h2 : ∀ c, c < S.2 → S'.1 c = S.1 c) : ph_okN S' x = true := by
  cases x with
  | none => rfl
  | some p => exact isPb_ext (show ph_isPb S p = true from h) h1 h2
theorem RLx_loc : rLoc RLx := by
  intro S S' X X' q i g g' h h1 h2 h3 hi h4 h5
  obtain ⟨⟨a1, a2⟩, cd, vl, T, n, cl, st, en, c, ⟨b1, b2, b3⟩, b4, b5, b6, b7, ⟨b8, b9, b10⟩, b11, b12, b13⟩ := h
  have l := isPb_lt a2
  have la : ∀ c, c < S.2 → ph_len S' c = ph_len S c := fun c hc => by unfold ph_len; rw [h2 c hc]
  refine ⟨⟨a1, isPb_ext a2 h1 h2⟩, cd, vl, T, n, cl, st, en, c, ⟨b1, b2, b3⟩, h4.trans b4, fun k hk => ?_, b6, (h3 _ _ (by omega) (by omega)).trans b7, ⟨(la _ (by omega)).trans b8, (la _ (by omega)).trans b9, b10⟩, fun j hj => cCl_fr (b11 j hj) (fun j _ => h3 _ _ (by omega) (by omega)) (fun j _ => h3 _ _ (by omega) (by omega)) (Nat.le_refl _), b12, b13⟩
  rw [(h5 k (by omega)).1, (h5 k (by omega)).2]
  exact b5 k hk
/-- shapes that reading may grow -/
def rSh (S : ph_Sh) : Prop := ∀ c, 88 ≤ c → c < S.2 → (match S.1 c with
  | .inr o => o.2.all fun q => decide (q.1 = 0) || (decide (q.1 = 1) || decide (q.2 < S.2))
  | .inl a => decide (a.1 < 4)) = true
theorem kdX_wf0 : ∀ c, c < 88 → (decide (c = 1 ∨ c = 22 ∨ c = 34 ∨ c = 46 ∨ c = 58) || (match ph_kdX c with
  | .inr o => o.2.all fun q => decide (q.1 = 0) || (decide (q.1 = 1) || decide (q.2 < 88))
  | .inl a => decide (a.1 < 4))) = true := by decide +kernel
theorem kdX_wf (c : Nat) (h : c < 88) (h1 : ¬ (c = 1 ∨ c = 22 ∨ c = 34 ∨ c = 46 ∨ c = 58)) : (match ph_kdX c with
  | .inr o => o.2.all fun q => decide (q.1 = 0) || (decide (q.1 = 1) || decide (q.2 < 88))
  | .inl a => decide (a.1 < 4)) = true := by
  have := kdX_wf0 c h
  rw [decide_eq_false h1, Bool.false_or] at this
  exact this
theorem rwf_ok {RL : rLT} {S : ph_Sh} {X K M : ph_Mem} (h : Rel RL S X K) (hS : rSh S) (hM : M.2 = X.2) : ph_rwf S M = true := by
  obtain ⟨⟨⟨s1, s2⟩, hW⟩, hsh, _⟩ := h
  obtain ⟨_, _, _, _, _, _, _, _, _, b1, b2, _⟩ := hsh
  unfold ph_rwf
  rw [List.all_eq_true]
  intro c hc
  have hc := List.mem_range.mp hc
  by_cases c88 : c < 88
  · rw [s2 c c88]
    by_cases q : c = 1 ∨ c = 22 ∨ c = 34 ∨ c = 46 ∨ c = 58
    · have row : ∀ j, j < 6 → (c ≠ 1) → (match M.2.2 c j with
          | none => true
          | some t => decide (t < S.2)) = true := fun j hj hc1 => by
        have := hW c j (by omega) hj
        rw [hM]
        cases e : X.2.2 c j with
        | none => rfl
        | some t =>
          rw [e] at this
          have := isPb_lt (show ph_isPb S t = true from this)
          exact decide_eq_true (by omega)
      rcases q with rfl | rfl | rfl | rfl | rfl
      · show (decide ((4 : Nat) < 4) || (List.range 2).all _) = true
        rw [decide_eq_false (by omega), Bool.false_or, List.all_eq_true]
        intro j hj
        have hj := List.mem_range.mp hj
        rw [hM]
        have hc : j = 0 ∨ j = 1 := by omega
        rcases hc with rfl | rfl
        · rw [b1]; exact decide_eq_true (by omega)
        · rw [b2]; exact decide_eq_true (by omega)
      all_goals
        show (decide ((5 : Nat) < 4) || (List.range 6).all _) = true
        rw [decide_eq_false (by omega), Bool.false_or, List.all_eq_true]
        intro j hj
        exact row j (List.mem_range.mp hj) (by omega)
    · have := kdX_wf c c88 q
      cases e : ph_kdX c with
      | inr o =>
        rw [e] at this
        show (o.2.all _) = true
        have this : (o.2.all fun q => decide (q.1 = 0) || (decide (q.1 = 1) || decide (q.2 < 88))) = true := this
        rw [List.all_eq_true] at this ⊢
        intro q hq
        have := this q hq
        rw [Bool.or_eq_true, Bool.or_eq_true] at this ⊢
        rcases this with z | z | z
        · exact Or.inl z
        · exact Or.inr (Or.inl z)
        · exact Or.inr (Or.inr (decide_eq_true (by have := of_decide_eq_true z; omega)))
      | inl a =>
        rw [e] at this
        show (decide (a.1 < 4) || _) = true
        have this : decide (a.1 < 4) = true := this
        rw [this, Bool.true_or]
  · have := hS c (by omega) hc
    cases e : S.1 c with
    | inr o =>
      rw [e] at this
      exact this
    | inl a =>
      rw [e] at this
      show (decide (a.1 < 4) || _) = true
      have this : decide (a.1 < 4) = true := this
      rw [this, Bool.true_or]
theorem rdk_ok {RL : rLT} {S : ph_Sh} {X K M : ph_Mem} {n cl : Nat} (h : Rel RL S X K) (hS : rSh S) (hM : M.2 = X.2) (hn : n ≤ 12) (hc : cl ≤ 400) (h1 : M.1 63 11 = nI n) (h2 : M.1 63 14 = nI cl) : ph_rdk S M = true ∧ ph_rh M = 6 * n ∧ ph_rc M = cl := by
  refine ⟨?_, ?_, ?_⟩
  · unfold ph_rdk ph_rdk0
    rw [rwf_ok h hS hM, h1, h2, Bool.true_and]
    simp only [q_lit]
    rw [decide_eq_true (by rw [q_le (by omega) (by omega)]; omega), decide_eq_true (by rw [q_le (by omega) (by omega)]; omega), decide_eq_true (by rw [q_le (by omega) (by omega)]; omega), decide_eq_true (by rw [q_le (by omega) (by omega)]; omega)]
    rfl
  · unfold ph_rh
    rw [h1, q_cl (by omega), Nat.mul_comm]
  · unfold ph_rc
    rw [h2, q_cl (by omega)]
theorem rSh_ext {S : ph_Sh} {a b : Nat} (h : rSh S) : rSh (ph_ext S a b) := by
  intro c h1 h2
  have h2 : c < S.2 + 3 := h2
  show (match (if c = S.2 then (.inr (4, [(0, 0), (2, S.2 + 1), (2, S.2 + 2)]) : ph_Kd) else if c = S.2 + 1 then .inl (0, a) else if c = S.2 + 2 then .inl (0, b) else S.1 c) with
    | .inr o => o.2.all fun q => decide (q.1 = 0) || (decide (q.1 = 1) || decide (q.2 < S.2 + 3))
    | .inl a => decide (a.1 < 4)) = true
  by_cases c0 : c = S.2
  · rw [if_pos c0]
    simp
  · rw [if_neg c0]
    by_cases c1 : c = S.2 + 1
    · rw [if_pos c1]; rfl
    · rw [if_neg c1]
      by_cases c2 : c = S.2 + 2
      · rw [if_pos c2]; rfl
      · rw [if_neg c2]
        have := h c h1 (by omega)
        cases e : S.1 c with
        | inr o =>
          rw [e] at this
          have this : (o.2.all fun q => decide (q.1 = 0) || (decide (q.1 = 1) || decide (q.2 < S.2))) = true := this
          show (o.2.all _) = true
          rw [List.all_eq_true] at this ⊢
          intro q hq
          have := this q hq
          rw [Bool.or_eq_true, Bool.or_eq_true] at this ⊢
          rcases this with z | z | z
          · exact Or.inl z
          · exact Or.inr (Or.inl z)
          · exact Or.inr (Or.inr (decide_eq_true (by have := of_decide_eq_true z; omega)))
        | inl a =>
          rw [e] at this
          exact this
theorem ext_o {S : ph_Sh} {a b c : Nat} (h : c < S.2) : (ph_ext S a b).1 c = S.1 c := by
  show (if c = S.2 then _ else if c = S.2 + 1 then _ else if c = S.2 + 2 then _ else S.1 c) = _
  rw [if_neg (by omega), if_neg (by omega), if_neg (by omega)]
theorem rdM_o {S : ph_Sh} {M : ph_Mem} {c j : Nat} (h : c < S.2) : (ph_rdM S M).1 c j = M.1 c j := by
  show (if c = S.2 then _ else if c = S.2 + 1 then _ else if c = S.2 + 2 then _ else M.1 c j) = _
  rw [if_neg (by omega), if_neg (by omega), if_neg (by omega)]
/-- laws over a grown shape -/
theorem rLw_ext {RL : rLT} (hRL : rLoc RL) {S S' : ph_Sh} {X X' : ph_Mem} {c : Nat} {g : Nat → Int32} {t : Nat} (ht : t ≤ 6) (h : rLw RL S X c g t) (h1 : S.2 ≤ S'.2) (h2 : ∀ c, c < S.2 → S'.1 c = S.1 c) (h3 : ∀ c j, 88 ≤ c → c < S.2 → X'.1 c j = X.1 c j) (h4 : ∀ i, X'.2.2 (c + 11) i = X.2.2 (c + 11) i) : rLw RL S' X' c g t := by
  refine ⟨fun i hi => by rw [h4]; exact okN_ext (h.1 i hi) h1 h2, fun i hi => ?_⟩
  obtain ⟨q, e1, e2⟩ := h.2 i hi
  exact ⟨q, (h4 i).trans e1, hRL S S' X X' q i g g e2 h1 h2 h3 (by omega) rfl (fun _ _ => ⟨rfl, rfl⟩)⟩
theorem rSt_ext {RL : rLT} (hRL : rLoc RL) {S S' : ph_Sh} {X X' : ph_Mem} {c : Nat} {g : Nat → Int32} {n t : Nat} (hs : rSt RL S X c g n t) (h0 : ∀ e j, c ≤ e → e < c + 12 → X'.1 e j = X.1 e j) (h1 : S.2 ≤ S'.2) (h2 : ∀ c, c < S.2 → S'.1 c = S.1 c) (h3 : ∀ c j, 88 ≤ c → c < S.2 → X'.1 c j = X.1 c j) (h4 : ∀ i, X'.2.2 (c + 11) i = X.2.2 (c + 11) i) : rSt RL S' X' c g n t := by
  obtain ⟨a1, a2, a3, a4, a5, a6, a7⟩ := hs
  exact ⟨rHd_fr a1 (h0 _ _ (by omega) (by omega)) (h0 _ _ (by omega) (by omega)) (h0 _ _ (by omega) (by omega)) (fun _ _ _ => rfl), rMv_fr a2 a1.1 (fun j _ => ⟨h0 (c + 5) j (by omega) (by omega), h0 (c + 6) j (by omega) (by omega), h0 (c + 7) j (by omega) (by omega)⟩) (fun p _ => h0 (c + 1) p (by omega) (by omega)) (h0 (c + 10) 0 (by omega) (by omega)) (fun _ _ => rfl), rHr_fr a1.1 a3 (fun d j _ _ _ => h0 _ _ (by omega) (by omega)) (fun _ _ _ => rfl), rNd_fr a4 (fun j _ => h0 _ _ (by omega) (by omega)) (fun _ _ _ => rfl), rBd_fr a5 (fun j _ => h0 _ _ (by omega) (by omega)) (fun _ _ _ => rfl), rTm_fr a6 (fun j _ _ => h0 _ _ (by omega) (by omega)) (fun _ _ _ => rfl), rLw_ext hRL a1.2.1 a7 h1 h2 h3 h4⟩
/-- the text was read: the tape is empty, the latest fault, the latest stop; the shape may have grown -/
theorem Rel_rd {RL : rLT} (hRL : rLoc RL) {S S' : ph_Sh} {X K X' K' : ph_Mem} (h : Rel RL S X K) (h1 : S.2 ≤ S'.2) (h2 : ∀ c, c < S.2 → S'.1 c = S.1 c) (hx : ∀ c j, c < S.2 → rXj c j → ¬ (c = 63 ∧ j = 1) → ¬ (c = 0 ∧ (j = 16 ∨ j = 17)) → X'.1 c j = X.1 c j) (hr : X'.2.2 = X.2.2) (hk : ∀ c j, rKj c j → ¬ (c = 0 ∧ (j = 13 ∨ j = 14 ∨ j = 40)) → K'.1 c j = K.1 c j) (e1 : X'.1 63 1 = nI 0) (e2 : K'.1 0 13 = nI 0) (e3 : X'.1 0 16 = K'.1 0 14) (e4 : X'.1 0 17 = K'.1 0 40) : Rel RL S' X' K' := by
  obtain ⟨⟨hS, hW⟩, hsh, ht, i0, i1, n, t, hs, hl⟩ := h
  obtain ⟨a1, a2, a3, a4, a5, ⟨a, b, c1, c2, c3, c4⟩, ⟨d, d1, d2, d3, d4⟩, a8, a9, b1, b2, b3⟩ := hsh
  have s88 := hS.1
  have gX : ∀ c j, c < 88 → rXj c j → ¬ (c = 63 ∧ j = 1) → ¬ (c = 0 ∧ (j = 16 ∨ j = 17)) → X'.1 c j = X.1 c j := fun c j q => hx c j (by omega)
  have g88 : ∀ c j, 88 ≤ c → c < S.2 → X'.1 c j = X.1 c j := fun c j q1 q2 => hx c j q2 (by unfold rXj; omega) (by omega) (by omega)
  have gS : ∀ c j, (11 ≤ c ∧ c < 23) ∨ (35 ≤ c ∧ c < 61) → X'.1 c j = X.1 c j := fun c j q => gX c j (by omega) (by unfold rXj; omega) (by omega) (by omega)
  have gI : ∀ k, k < 2 → rImg RL S X K k → rImg RL S' X' K' k := by
    intro k hk2 ⟨q1, q2⟩
    have e4k : K'.1 4 k = K.1 4 k := hk 4 k (by unfold rKj; omega) (by omega)
    refine ⟨by rw [gX 2 k (by omega) (by unfold rXj; omega) (by omega) (by omega), e4k]; exact q1, ?_⟩
    rw [e4k]
    refine q2.imp id fun ⟨z, n', t', z'⟩ => ⟨z, n', t', ?_⟩
    have eg : (fun j => K'.1 3 (6085 * k + j)) = fun j => K.1 3 (6085 * k + j) := funext fun j => hk 3 _ (by unfold rKj; omega) (by omega)
    rw [eg]
    exact rSt_ext hRL z' (fun e j _ _ => gS e j (by omega)) h1 h2 g88 (fun i => by rw [hr])
  refine ⟨⟨⟨by omega, fun c hc => (h2 c (by omega)).trans (hS.2 c hc)⟩, fun e i he hi => by rw [hr]; exact okN_ext (hW e i he hi) h1 h2⟩, ⟨?_, fun i hi => ?_, ?_, e3, e4, ⟨a, b, c1, c2, ?_, ?_⟩, ⟨d, d1, ?_, ?_, fun p hp => ?_⟩, ?_, fun j q1 q2 => ?_, ?_, ?_, fun j hj => ?_⟩, ⟨0, by omega, e1, e2, fun j hj => absurd hj (by omega)⟩, gI 0 (by omega) i0, gI 1 (by omega) i1, n, t, ?_, ?_⟩
  · rw [gX 0 18 (by omega) (by unfold rXj; omega) (by omega) (by omega), hk 0 0 (by unfold rKj; omega) (by omega)]; exact a1
  · rw [gX 3 i (by omega) (by unfold rXj; omega) (by omega) (by omega), hk 1 i (by unfold rKj; omega) (by omega)]; exact a2 i hi
  · rw [gX 0 15 (by omega) (by unfold rXj; omega) (by omega) (by omega), hk 0 6 (by unfold rKj; omega) (by omega)]; exact a3
  · rw [gX 61 1 (by omega) (by unfold rXj; omega) (by omega) (by omega)]; exact c3
  · rw [gX 61 2 (by omega) (by unfold rXj; omega) (by omega) (by omega)]; exact c4
  · rw [gX 84 0 (by omega) (by unfold rXj; omega) (by omega) (by omega)]; exact d2
  · rw [hk 0 52 (by unfold rKj; omega) (by omega)]; exact d3
  · rw [gX 85 p (by omega) (by unfold rXj; omega) (by omega) (by omega), gX 86 p (by omega) (by unfold rXj; omega) (by omega) (by omega), gX 87 p (by omega) (by unfold rXj; omega) (by omega) (by omega), hk 24 p (by unfold rKj; omega) (by omega), hk 25 p (by unfold rKj; omega) (by omega), hk 26 p (by unfold rKj; omega) (by omega)]; exact d4 p hp
  · rw [gX 75 0 (by omega) (by unfold rXj; omega) (by omega) (by omega)]; exact a8
  · rw [gX 82 j (by omega) (by unfold rXj; omega) (by omega) (by omega)]; exact a9 j q1 q2
  · rw [hr]; exact b1
  · rw [hr]; exact b2
  · rw [hk 6 j (by unfold rKj; omega) (by omega)]; exact b3 j hj
  · have := rSt_ext hRL hs (X' := X') (fun e j _ _ => gS e j (by omega)) h1 h2 g88 (fun i => by rw [hr])
    exact rSt_fr hRL this rfl rfl rfl (fun _ _ => rfl) (fun _ _ _ _ _ => rfl) (fun _ _ => rfl) (fun _ _ => rfl) (fun _ _ => rfl) (fun _ _ => rfl) (fun _ _ _ => rfl) (fun j hj => hk 2 j (by unfold rGj at hj; unfold rKj; omega) (by omega))
  · exact rLog_fr hs.1.1 hl (gS _ _ (by omega)) (gS _ _ (by omega)) (hk _ _ (by unfold rKj; omega) (by omega)) (fun j _ => gS _ _ (by omega)) (fun j _ => hk _ _ (by unfold rKj; omega) (by omega)) (fun d j _ _ _ => gS _ _ (by omega))
