/-! PURE HALF: the law's module: the model's terms and sums -/
theorem mR_two {α β γ : Type} {lv bk b1 b2 b3 : Bool} {v : α} {w : β} {u : γ} {F : Option α} {G : Option β} {jn : α → β → Option γ} (h1 : mR lv bk b1 v F) (h2 : mR lv b1 b2 w G) (h3 : mR lv b2 b3 u (jn v w)) : mR lv bk b3 u (F.bind fun x => G.bind fun y => jn x y) := by
  refine ⟨fun hl => ?_, fun hl => ?_⟩
  · obtain ⟨rfl, rfl⟩ := hl
    obtain ⟨a1, a2⟩ := h1.1 ⟨rfl, rfl⟩
    cases eF : F with
    | none =>
      have e1 := a1 eF
      subst e1
      have e2 := h2.2 (by simp)
      subst e2
      have e3 := h3.2 (by simp)
      subst e3
      exact ⟨fun _ => rfl, fun x q => absurd q (by simp)⟩
    | some x =>
      obtain ⟨rfl, rfl⟩ := a2 x eF
      obtain ⟨c1, c2⟩ := h2.1 ⟨rfl, rfl⟩
      cases eG : G with
      | none =>
        have e2 := c1 eG
        subst e2
        have e3 := h3.2 (by simp)
        subst e3
        exact ⟨fun _ => rfl, fun x q => absurd q (by simp)⟩
      | some y =>
        obtain ⟨rfl, rfl⟩ := c2 y eG
        exact h3.1 ⟨rfl, rfl⟩
  · have e1 := h1.2 hl
    subst e1
    have e2 := h2.2 hl
    subst e2
    exact h3.2 hl
theorem m_bd {o : Bool} {K : ph_Mem} {x : Int64} {lv bk : Bool} (hb : K.1 0 24 = nI bk.toNat) : ∃ (v : Int64) (K' : ph_Mem) (bk' : Bool), f12_bounded K x (nI lv.toNat) = some (v, K') ∧ K'.1 0 24 = nI bk'.toNat ∧ K'.1 0 22 = K.1 0 22 ∧ mFr o K K' ∧ mR lv bk bk' v (lw_bd x) := by
  unfold f12_bounded f12_bounded_j20 f12_bounded_j25 lw_bd
  simp only [q_lit]
  cases lv
  · rw [if_pos (by first | rfl | trivial | decide), hb]
    cases bk
    · exact ⟨x, K, false, by rw [if_pos (by first | rfl | trivial | decide)], hb, rfl, mFr_r K, fun q => absurd q.1 (by simp), fun _ => rfl⟩
    · exact ⟨0, K, true, by rw [if_neg (by first | decide | exact fun q => absurd (show nI 1 = nI 0 from q) (by decide))], hb, rfl, mFr_r K, fun q => absurd q.1 (by simp), fun _ => rfl⟩
  · rw [if_neg (by first | decide | exact fun q => absurd (show nI 1 = nI 0 from q) (by decide))]
    have big : ∃ (v : Int64) (K' : ph_Mem) (bk' : Bool), (ph_let (ph_wi K 0 24 (nI 1)) fun M1 => if (M1.1 0 24) = nI 0 then (some (x, M1)) else (some ((0 : Int64), M1))) = some (v, K') ∧ K'.1 0 24 = nI bk'.toNat ∧ K'.1 0 22 = K.1 0 22 ∧ mFr o K K' ∧ mR true bk bk' v (none : Option Int64) := by
      refine ⟨0, ph_wi K 0 24 (nI 1), true, ?_, wi_s, wi_o (by omega), mFr_w (mFr_r K) (Or.inr rfl), fun _ => ⟨fun _ => rfl, fun x q => absurd q (by simp)⟩, fun q => ?_⟩
      · rw [q_let, wi_s, if_neg (by first | decide | exact fun q => absurd (show nI 1 = nI 0 from q) (by decide))]
      · cases bk
        · exact absurd ⟨rfl, rfl⟩ q
        · rfl
    by_cases h1 : 1000000000 < x
    · rw [if_pos (show nI 0 < lg_cmp x 1000000000 from (lg_cmp_gt _ _).mpr h1), if_pos h1]
      exact big
    · rw [if_neg (show ¬ nI 0 < lg_cmp x 1000000000 from fun q => h1 ((lg_cmp_gt _ _).mp q)), if_neg h1]
      by_cases h2 : x < -1000000000
      · rw [if_neg (show ¬ nI 0 ≤ lg_cmp x (-1000000000) from fun q => absurd h2 (Int64.not_lt.mpr ((lg_cmp_ge _ _).mp q))), if_pos h2]
        exact big
      · rw [if_pos (show nI 0 ≤ lg_cmp x (-1000000000) from (lg_cmp_ge _ _).mpr (Int64.not_lt.mp h2)), if_neg h2, hb]
        cases bk
        · exact ⟨x, K, false, by rw [if_pos (by first | rfl | trivial | decide)], hb, rfl, mFr_r K, fun _ => ⟨fun q => absurd q (by simp), fun y q => by injection q with q; exact ⟨q, rfl⟩⟩, fun q => absurd ⟨rfl, rfl⟩ q⟩
        · exact ⟨0, K, true, by rw [if_neg (by first | decide | exact fun q => absurd (show nI 1 = nI 0 from q) (by decide))], hb, rfl, mFr_r K, fun q => absurd q.2 (by simp), fun _ => rfl⟩
theorem lw_j6 (a b : Int64) : lw_j 6 a b = lw_bd (a + b) := by unfold lw_j; rw [if_pos rfl]
theorem lw_j7 (a b : Int64) : lw_j 7 a b = lw_bd (a - b) := by unfold lw_j; rw [if_neg (by omega), if_pos rfl]
theorem lw_j8 (a b : Int64) : lw_j 8 a b = lw_bd (a * b) := by unfold lw_j; rw [if_neg (by omega), if_neg (by omega), if_pos rfl]
theorem m_j121 {o : Bool} {rs : ph_Mem → Int32 → Option (Int64 × ph_Mem)} {rc : Int32 → Int64 → ph_Mem → Option (Int64 × ph_Mem)} {K : ph_Mem} {x k : Nat} (hk : (x = 142 ∧ k = 8) ∨ (x = 147 ∧ k = 9) ∨ (x = 137 ∧ k = 10)) {v w : Int64} {lv bk : Bool} (hw : k = 8 ∨ w ≠ 0) (hb : K.1 0 24 = nI bk.toNat) : ∃ (u : Int64) (K' : ph_Mem) (bk' : Bool), f12_termOf_j121 rs rc (nI lv.toNat) v (nI x) w K = rc (nI lv.toNat) u K' ∧ K'.1 0 24 = nI bk'.toNat ∧ K'.1 0 22 = K.1 0 22 ∧ mFr o K K' ∧ mR lv bk bk' u (lw_j k v w) := by
  unfold f12_termOf_j121 f12_termOf_j160
  simp only [q_lit, m_sign, q_bd]
  rcases hk with ⟨rfl, rfl⟩ | ⟨rfl, rfl⟩ | ⟨rfl, rfl⟩
  · obtain ⟨u, K', bk', y1, y2⟩ := m_bd (x := v * w) (lv := lv) hb
    rw [lw_j8]
    exact ⟨u, K', bk', by rw [if_pos (by first | rfl | trivial | decide), y1, q_bd], y2⟩
  · have w0 : w ≠ 0 := hw.resolve_left (by omega)
    obtain ⟨u, K', bk', y1, y2, y3, y4, y5⟩ := m_bd (x := v / w) (lv := lv) hb
    refine ⟨u, K', bk', by rw [if_neg (by first | decide | exact fun q => absurd (show nI 1 = nI 0 from q) (by decide)), if_pos (by first | rfl | trivial | decide), if_neg w0, y1, q_bd], y2, y3, y4, ?_⟩
    unfold lw_j
    rw [if_neg (by omega), if_neg (by omega), if_neg (by omega), if_neg w0, if_pos (by first | rfl | trivial | decide)]
    exact y5
  · have w0 : w ≠ 0 := hw.resolve_left (by omega)
    obtain ⟨u, K', bk', y1, y2, y3, y4, y5⟩ := m_bd (x := v - v / w * w) (lv := lv) hb
    refine ⟨u, K', bk', by rw [if_neg (by first | decide | exact fun q => absurd (show nI 1 = nI 0 from q) (by decide)), if_neg (by first | decide | exact fun q => absurd (show nI 1 = nI 0 from q) (by decide)), if_neg w0, y1, q_bd], y2, y3, y4, ?_⟩
    unfold lw_j
    rw [if_neg (by omega), if_neg (by omega), if_neg (by omega), if_neg w0, if_neg (by omega)]
    exact y5
theorem m_tj {o : Bool} {rs : ph_Mem → Int32 → Option (Int64 × ph_Mem)} {rc : Int32 → Int64 → ph_Mem → Option (Int64 × ph_Mem)} {K : ph_Mem} {x k : Nat} (hk : (x = 142 ∧ k = 8) ∨ (x = 147 ∧ k = 9) ∨ (x = 137 ∧ k = 10)) {v w : Int64} {lv bk : Bool} (hb : K.1 0 24 = nI bk.toNat) : ∃ (u : Int64) (K' : ph_Mem) (bk' : Bool), (if nI x = nI 142 then (f12_termOf_j121 rs rc (nI lv.toNat) v (nI x) w K) else (if (lg_cmp w (0 : Int64)) = nI 0 then (if (K.1 0 24) = nI 0 then (if nI lv.toNat = nI 0 then (f12_termOf_j115 rs rc (nI lv.toNat) v (nI x) (nI 0) K) else (f12_termOf_j110 rs rc (nI lv.toNat) v (nI x) K)) else (f12_termOf_j110 rs rc (nI lv.toNat) v (nI x) K)) else (f12_termOf_j121 rs rc (nI lv.toNat) v (nI x) w K))) = rc (nI lv.toNat) u K' ∧ K'.1 0 24 = nI bk'.toNat ∧ K'.1 0 22 = K.1 0 22 ∧ mFr o K K' ∧ mR lv bk bk' u (lw_j k v w) := by
  by_cases h8 : x = 142
  · obtain ⟨u, K', bk', y⟩ := m_j121 (rs := rs) (rc := rc) (v := v) (w := w) (lv := lv) hk (by omega) hb
    exact ⟨u, K', bk', by rw [if_pos (by rw [h8])]; exact y.1, y.2⟩
  · have x4 : x < 400 := by omega
    rw [if_neg (by rw [q_eq (by omega) (by omega)]; exact h8)]
    by_cases w0 : w = 0
    · rw [if_pos (show lg_cmp w 0 = nI 0 from (lg_cmp_eq _ _).mpr w0)]
      have jn : lw_j k v w = none := by
        unfold lw_j
        rw [if_neg (by omega), if_neg (by omega), if_neg (by omega), if_pos w0]
      have go : ∀ b1 : Bool, b1 = (bk || lv) → ∃ (u : Int64) (K' : ph_Mem) (bk' : Bool), f12_termOf_j115 rs rc (nI lv.toNat) v (nI x) (nI b1.toNat) K = rc (nI lv.toNat) u K' ∧ K'.1 0 24 = nI bk'.toNat ∧ K'.1 0 22 = K.1 0 22 ∧ mFr o K K' ∧ mR lv bk bk' u (lw_j k v w) := by
        intro b1 hb1
        obtain ⟨u, K', bk', y1, y2, y3, y4, y5⟩ := m_j121 (rs := rs) (rc := rc) (K := ph_wi K 0 24 (nI b1.toNat)) (v := v) (w := 1) (lv := lv) (bk := b1) hk (Or.inr (by decide)) wi_s
        refine ⟨u, K', bk', ?_, y2, y3.trans (wi_o (by omega)), mFr_t (mFr_w (mFr_r K) (Or.inr rfl)) y4, ?_⟩
        · unfold f12_termOf_j115
          rw [q_iszb, q_ct, q_let]
          exact y1
        · rw [jn]
          have e : bk' = (bk || lv) := by
            rw [← hb1]
            apply y5.2
            rw [hb1]
            cases bk <;> cases lv <;> simp
          refine ⟨fun q => ⟨fun _ => by rw [e, q.1, q.2]; rfl, fun x q => absurd q (by simp)⟩, fun q => ?_⟩
          rw [e]
          cases bk <;> cases lv <;> simp at q ⊢
      rw [hb]
      cases bk
      · rw [if_pos (by first | rfl | trivial | decide)]
        cases lv
        · rw [if_pos (by first | rfl | trivial | decide)]; exact go false rfl
        · rw [if_neg (by first | decide | exact fun q => absurd (show nI 1 = nI 0 from q) (by decide))]; exact go true rfl
      · rw [if_neg (by first | decide | exact fun q => absurd (show nI 1 = nI 0 from q) (by decide))]; exact go true rfl
    · rw [if_neg (show ¬ lg_cmp w 0 = nI 0 from fun q => w0 ((lg_cmp_eq _ _).mp q))]
      exact m_j121 hk (Or.inr w0) hb
def mTP (o : Bool) (cd vl : Nat → Nat) (T : Nat) (rs : ph_Mem → Int32 → Option (Int64 × ph_Mem)) (i j : Nat) (F : lwS) : Prop := i < j ∧ j ≤ T ∧ ∀ (K : ph_Mem) (r : lwE) (base : Nat) (lv bk : Bool), txt o cd vl T base K r → K.1 0 22 = nI (base + i) → K.1 0 24 = nI bk.toNat → ∃ (v : Int64) (K' : ph_Mem) (bk' : Bool) (f : Nat), f12_termOf rs K (nI lv.toNat) = f12_termOf_l6 rs f (nI lv.toNat) v K' ∧ 10000 ≤ f + j ∧ K'.1 0 22 = nI (base + j) ∧ K'.1 0 24 = nI bk'.toNat ∧ mFr o K K' ∧ mR lv bk bk' v (F r)
theorem mTP_0 {o : Bool} {cd vl : Nat → Nat} {T : Nat} {rs : ph_Mem → Int32 → Option (Int64 × ph_Mem)} {i j : Nat} {F : lwS} (h : mS o cd vl T (f12_partOf rs) i j F) : mTP o cd vl T rs i j F := by
  refine ⟨h.1, h.2.1, fun K r base lv bk ht hg hb => ?_⟩
  obtain ⟨v, K', bk', x1, x2⟩ := h.2.2 K r base lv bk ht hg hb
  refine ⟨v, K', bk', 10000, ?_, by omega, x2⟩
  unfold f12_termOf
  rw [x1, q_bd]
theorem mTP_s {o : Bool} {cd vl : Nat → Nat} {T : Nat} {rs : ph_Mem → Int32 → Option (Int64 × ph_Mem)} {i m j k : Nat} {F G : lwS} (h : mTP o cd vl T rs i m F) (hk : (cd m = 142 ∧ k = 8) ∨ (cd m = 147 ∧ k = 9) ∨ (cd m = 137 ∧ k = 10)) (hG : mS o cd vl T (f12_partOf rs) (m + 1) j G) : mTP o cd vl T rs i j (lw_J k F G) := by
  have a1 := h.1
  have a2 := hG.1
  have a3 := hG.2.1
  refine ⟨by omega, by omega, fun K r base lv bk ht hg hb => ?_⟩
  have t1 := ht.1.1
  have t2 := ht.1.2.1
  obtain ⟨v, K1, b1, f, x1, x2, x3, x4, x5, x6⟩ := h.2.2 K r base lv bk ht hg hb
  obtain ⟨f, rfl⟩ : ∃ z, f = z + 1 := ⟨f - 1, by omega⟩
  have ht1 := txt_fr ht x5
  have fr2 : mFr o K1 (ph_wi K1 0 22 (nI (base + (m + 1)))) := mFr_w (mFr_r K1) (Or.inl rfl)
  obtain ⟨w, K2, b2, y1, y2, y3, y4, y5⟩ := hG.2.2 (ph_wi K1 0 22 (nI (base + (m + 1)))) r base lv b1 (txt_fr ht1 fr2) wi_s (by rw [wi_o (by omega)]; exact x4)
  obtain ⟨u, K3, b3, z1, z2, z3, z4, z5⟩ := m_tj (rs := rs) (rc := f12_termOf_l6 rs f) (K := K2) (v := v) (w := w) (lv := lv) hk y3
  refine ⟨u, K3, b3, f, ?_, by omega, z3.trans y2, z2, mFr_t (mFr_t x5 (mFr_t fr2 y4)) z4, mR_two x6 y5 z5⟩
  rw [x1, ← z1]
  have cc := m_code ht1 (show m ≤ T by omega)
  have em : base + m + 1 = base + (m + 1) := by omega
  have step : f12_termOf_j54 rs (f12_termOf_l6 rs f) (nI lv.toNat) v K1 = (if nI (cd m) = nI 142 then (f12_termOf_j121 rs (f12_termOf_l6 rs f) (nI lv.toNat) v (nI (cd m)) w K2) else (if (lg_cmp w (0 : Int64)) = nI 0 then (if (K2.1 0 24) = nI 0 then (if nI lv.toNat = nI 0 then (f12_termOf_j115 rs (f12_termOf_l6 rs f) (nI lv.toNat) v (nI (cd m)) (nI 0) K2) else (f12_termOf_j110 rs (f12_termOf_l6 rs f) (nI lv.toNat) v (nI (cd m)) K2)) else (f12_termOf_j110 rs (f12_termOf_l6 rs f) (nI lv.toNat) v (nI (cd m)) K2)) else (f12_termOf_j121 rs (f12_termOf_l6 rs f) (nI lv.toNat) v (nI (cd m)) w K2))) := by
    unfold f12_termOf_j54
    simp only [q_lit, x3, cc, q_bd, q_let, nI_add, em, y1, m_sign]
  rw [← step]
  conv => lhs; unfold f12_termOf_l6
  simp only [q_lit, x3, cc, q_bd, m_sign]
  rcases hk with ⟨hk, _⟩ | ⟨hk, _⟩ | ⟨hk, _⟩
  · rw [if_pos (by rw [hk])]
  · rw [if_neg (by rw [hk]; decide), if_pos (by rw [hk])]
  · rw [if_neg (by rw [hk]; decide), if_neg (by rw [hk]; decide), if_pos (by rw [hk])]
theorem mTP_e {o : Bool} {cd vl : Nat → Nat} {T : Nat} {rs : ph_Mem → Int32 → Option (Int64 × ph_Mem)} {i j : Nat} {F : lwS} (h : mTP o cd vl T rs i j F) (h1 : cd j ≠ 142) (h2 : cd j ≠ 147) (h3 : cd j ≠ 137) : mS o cd vl T (f12_termOf rs) i j F := by
  refine ⟨h.1, h.2.1, fun K r base lv bk ht hg hb => ?_⟩
  have hj := h.2.1
  have t2 := ht.1.2.1
  obtain ⟨v, K1, b1, f, x1, x2, x3, x4, x5, x6⟩ := h.2.2 K r base lv bk ht hg hb
  obtain ⟨f, rfl⟩ : ∃ z, f = z + 1 := ⟨f - 1, by omega⟩
  have ht1 := txt_fr ht x5
  have cc := m_code ht1 (show j ≤ T by omega)
  have cl := (ht.1.2.2.2 j).1
  refine ⟨v, K1, b1, ?_, x3, x4, x5, x6⟩
  rw [x1]
  unfold f12_termOf_l6
  simp only [q_lit, x3, cc, q_bd, m_sign]
  rw [if_neg (by rw [q_eq (by omega) (by omega)]; exact h1), if_neg (by rw [q_eq (by omega) (by omega)]; exact h2), if_neg (by rw [q_eq (by omega) (by omega)]; exact h3)]
def mSP (o : Bool) (cd vl : Nat → Nat) (T : Nat) (rs : ph_Mem → Int32 → Option (Int64 × ph_Mem)) (i j : Nat) (F : lwS) : Prop := i < j ∧ j ≤ T ∧ ∀ (K : ph_Mem) (r : lwE) (base : Nat) (lv bk : Bool), txt o cd vl T base K r → K.1 0 22 = nI (base + i) → K.1 0 24 = nI bk.toNat → ∃ (v : Int64) (K' : ph_Mem) (bk' : Bool) (f : Nat), f12_sumOf_b rs K (nI lv.toNat) = f12_sumOf_l6 rs f (nI lv.toNat) v K' ∧ 10000 ≤ f + j ∧ K'.1 0 22 = nI (base + j) ∧ K'.1 0 24 = nI bk'.toNat ∧ mFr o K K' ∧ mR lv bk bk' v (F r)
theorem mSP_0 {o : Bool} {cd vl : Nat → Nat} {T : Nat} {rs : ph_Mem → Int32 → Option (Int64 × ph_Mem)} {i j : Nat} {F : lwS} (h : mS o cd vl T (f12_termOf rs) i j F) : mSP o cd vl T rs i j F := by
  refine ⟨h.1, h.2.1, fun K r base lv bk ht hg hb => ?_⟩
  obtain ⟨v, K', bk', x1, x2⟩ := h.2.2 K r base lv bk ht hg hb
  refine ⟨v, K', bk', 10000, ?_, by omega, x2⟩
  unfold f12_sumOf_b
  rw [x1, q_bd]
theorem mSP_s {o : Bool} {cd vl : Nat → Nat} {T : Nat} {rs : ph_Mem → Int32 → Option (Int64 × ph_Mem)} {i m j k : Nat} {F G : lwS} (h : mSP o cd vl T rs i m F) (hk : (cd m = 143 ∧ k = 6) ∨ (cd m = 145 ∧ k = 7)) (hG : mS o cd vl T (f12_termOf rs) (m + 1) j G) : mSP o cd vl T rs i j (lw_J k F G) := by
  have a1 := h.1
  have a2 := hG.1
  have a3 := hG.2.1
  refine ⟨by omega, by omega, fun K r base lv bk ht hg hb => ?_⟩
  have t1 := ht.1.1
  have t2 := ht.1.2.1
  obtain ⟨v, K1, b1, f, x1, x2, x3, x4, x5, x6⟩ := h.2.2 K r base lv bk ht hg hb
  obtain ⟨f, rfl⟩ : ∃ z, f = z + 1 := ⟨f - 1, by omega⟩
  have ht1 := txt_fr ht x5
  have fr2 : mFr o K1 (ph_wi K1 0 22 (nI (base + (m + 1)))) := mFr_w (mFr_r K1) (Or.inl rfl)
  obtain ⟨w, K2, b2, y1, y2, y3, y4, y5⟩ := hG.2.2 (ph_wi K1 0 22 (nI (base + (m + 1)))) r base lv b1 (txt_fr ht1 fr2) wi_s (by rw [wi_o (by omega)]; exact x4)
  have cc := m_code ht1 (show m ≤ T by omega)
  have em : base + m + 1 = base + (m + 1) := by omega
  have fin : ∀ x : Int64, lw_j k v w = lw_bd x → (∀ u K3, f12_bounded K2 x (nI lv.toNat) = some (u, K3) → f12_sumOf_l6 rs (f + 1) (nI lv.toNat) v K1 = f12_sumOf_l6 rs f (nI lv.toNat) u K3) → ∃ (v' : Int64) (K' : ph_Mem) (bk' : Bool) (f' : Nat), f12_sumOf_b rs K (nI lv.toNat) = f12_sumOf_l6 rs f' (nI lv.toNat) v' K' ∧ 10000 ≤ f' + j ∧ K'.1 0 22 = nI (base + j) ∧ K'.1 0 24 = nI bk'.toNat ∧ mFr o K K' ∧ mR lv bk bk' v' (lw_J k F G r) := by
    intro x hx hs
    obtain ⟨u, K3, b3, z1, z2, z3, z4, z5⟩ := m_bd (x := x) (lv := lv) y3
    exact ⟨u, K3, b3, f, x1.trans (hs u K3 z1), by omega, z3.trans y2, z2, mFr_t (mFr_t x5 (mFr_t fr2 y4)) z4, mR_two x6 y5 (by rw [hx]; exact z5)⟩
  rcases hk with ⟨hk, rfl⟩ | ⟨hk, rfl⟩
  · refine fin (v + w) (lw_j6 v w) (fun u K3 q => ?_)
    conv => lhs; unfold f12_sumOf_l6
    unfold f12_sumOf_j38 f12_sumOf_j59 f12_sumOf_j95
    simp only [q_lit, x3, cc, q_bd, m_sign, q_let, nI_add, em, y1]
    rw [if_pos (by rw [hk]), if_pos (by rw [hk]), if_neg (by first | decide | exact fun q => absurd (show nI 1 = nI 0 from q) (by decide)), q, q_bd]
  · refine fin (v - w) (lw_j7 v w) (fun u K3 q => ?_)
    conv => lhs; unfold f12_sumOf_l6
    unfold f12_sumOf_j38 f12_sumOf_j59 f12_sumOf_j95
    simp only [q_lit, x3, cc, q_bd, m_sign, q_let, nI_add, em, y1]
    rw [if_neg (by rw [hk]; decide), if_pos (by rw [hk]), if_neg (by rw [hk]; decide), if_pos (by first | rfl | trivial | decide), q, q_bd]
theorem mSP_e {o : Bool} {cd vl : Nat → Nat} {T : Nat} {rs : ph_Mem → Int32 → Option (Int64 × ph_Mem)} {i j : Nat} {F : lwS} (h : mSP o cd vl T rs i j F) (h1 : cd j ≠ 143) (h2 : cd j ≠ 145) : mS o cd vl T (f12_sumOf_b rs) i j F := by
  refine ⟨h.1, h.2.1, fun K r base lv bk ht hg hb => ?_⟩
  have hj := h.2.1
  have t2 := ht.1.2.1
  obtain ⟨v, K1, b1, f, x1, x2, x3, x4, x5, x6⟩ := h.2.2 K r base lv bk ht hg hb
  obtain ⟨f, rfl⟩ : ∃ z, f = z + 1 := ⟨f - 1, by omega⟩
  have ht1 := txt_fr ht x5
  have cc := m_code ht1 (show j ≤ T by omega)
  have cl := (ht.1.2.2.2 j).1
  refine ⟨v, K1, b1, ?_, x3, x4, x5, x6⟩
  rw [x1]
  unfold f12_sumOf_l6
  simp only [q_lit, x3, cc, q_bd, m_sign]
  rw [if_neg (by rw [q_eq (by omega) (by omega)]; exact h1), if_neg (by rw [q_eq (by omega) (by omega)]; exact h2)]
theorem mS_n {o : Bool} {cd vl : Nat → Nat} {T n i j : Nat} {F : lwS} (h : mS o cd vl T (f12_sumOf_b (f12_sumOf_n n)) i j F) : mS o cd vl T (f12_sumOf_n (n + 1)) i j F := h
