/-! PURE HALF: the law's module: the model's tests -/
theorem q_not (b : Bool) : (if nI b.toNat = nI 0 then nI 1 else nI 0) = nI (!b).toNat := by cases b <;> decide
theorem lw_c11 (a b : Int64) : lw_c 11 a b = decide (a < b) := by unfold lw_c; rw [if_pos rfl]
theorem lw_c12 (a b : Int64) : lw_c 12 a b = decide (b < a) := by unfold lw_c; rw [if_neg (by omega), if_pos rfl]
theorem lw_c13 (a b : Int64) : lw_c 13 a b = decide (a = b) := by unfold lw_c; rw [if_neg (by omega), if_neg (by omega)]
theorem mB_cmp {o : Bool} {cd vl : Nat → Nat} {T : Nat} {rs : ph_Mem → Int32 → Option (Int32 × ph_Mem)} {i m j k : Nat} {F G : lwS} (hc : cd i ≠ 140) (hF : mS o cd vl T f12_sumOf i m F) (hk : (cd m = 160 ∧ k = 11) ∨ (cd m = 162 ∧ k = 12) ∨ (cd m = 161 ∧ k = 13)) (hG : mS o cd vl T f12_sumOf (m + 1) j G) : mB o cd vl T (f12_positiveOf rs) i j (lw_C k F G) := by
  have a1 := hF.1
  have a2 := hG.1
  have a3 := hG.2.1
  refine ⟨by omega, by omega, fun K r base lv bk ht hg hb => ?_⟩
  have t1 := ht.1.1
  have t2 := ht.1.2.1
  obtain ⟨v, K1, b1, x1, x3, x4, x5, x6⟩ := hF.2.2 K r base lv bk ht hg hb
  have ht1 := txt_fr ht x5
  have fr2 : mFr o K1 (ph_wi K1 0 22 (nI (base + (m + 1)))) := mFr_w (mFr_r K1) (Or.inl rfl)
  obtain ⟨w, K2, b2, y1, y2, y3, y4, y5⟩ := hG.2.2 (ph_wi K1 0 22 (nI (base + (m + 1)))) r base lv b1 (txt_fr ht1 fr2) wi_s (by rw [wi_o (by omega)]; exact x4)
  have cc := m_code ht1 (show m ≤ T by omega)
  have em : base + m + 1 = base + (m + 1) := by omega
  have pp := m_pass (x := 140) ht (show i ≤ T by omega) (by omega) hg
  rw [if_neg hc] at pp
  have e0 : f12_positiveOf rs K (nI lv.toNat) = if nI lv.toNat = nI 0 then some (nI 0, K2) else (if (K2.1 0 24) = nI 0 then some (nI (lw_c k v w).toNat, K2) else some (nI 0, K2)) := by
    unfold f12_positiveOf
    simp only [q_lit, m_sign, q_bd, pp, x1, x3, cc, q_let, nI_add, em, y1]
    rw [if_pos (by first | rfl | trivial | decide)]
    have cmp : (if nI (cd m) = nI (100 + 60) then (if nI 0 ≤ (lg_cmp v w) then (some (nI 0, K2)) else (some (nI 1, K2))) else (if nI (cd m) = nI (100 + 62) then (if (lg_cmp v w) ≤ nI 0 then (some (nI 0, K2)) else (some (nI 1, K2))) else (if (lg_cmp v w) = nI 0 then (some (nI 1, K2)) else (some (nI 0, K2))))) = some (nI (lw_c k v w).toNat, K2) := by
      rcases hk with ⟨hk, rfl⟩ | ⟨hk, rfl⟩ | ⟨hk, rfl⟩
      · rw [if_pos (by rw [hk]), lw_c11]
        by_cases h : v < w
        · rw [if_neg (show ¬ nI 0 ≤ lg_cmp v w from fun q => absurd h (Int64.not_lt.mpr ((lg_cmp_ge _ _).mp q))), decide_eq_true h]; rfl
        · rw [if_pos (show nI 0 ≤ lg_cmp v w from (lg_cmp_ge _ _).mpr (Int64.not_lt.mp h)), decide_eq_false h]; rfl
      · rw [if_neg (by rw [hk]; decide), if_pos (by rw [hk]), lw_c12]
        by_cases h : w < v
        · rw [if_neg (show ¬ lg_cmp v w ≤ nI 0 from fun q => absurd h (Int64.not_lt.mpr ((lg_cmp_le _ _).mp q))), decide_eq_true h]; rfl
        · rw [if_pos (show lg_cmp v w ≤ nI 0 from (lg_cmp_le _ _).mpr (Int64.not_lt.mp h)), decide_eq_false h]; rfl
      · rw [if_neg (by rw [hk]; decide), if_neg (by rw [hk]; decide), lw_c13]
        by_cases h : v = w
        · rw [if_pos (show lg_cmp v w = nI 0 from (lg_cmp_eq _ _).mpr h), decide_eq_true h]; rfl
        · rw [if_neg (show ¬ lg_cmp v w = nI 0 from fun q => h ((lg_cmp_eq _ _).mp q)), decide_eq_false h]; rfl
    rw [← cmp]
  have frA := mFr_t x5 (mFr_t fr2 y4)
  by_cases hl : lv = true ∧ b2 = false
  · obtain ⟨rfl, rfl⟩ := hl
    refine ⟨lw_c k v w, K2, false, by rw [e0, if_neg (by first | decide | exact fun q => absurd (show nI 1 = nI 0 from q) (by decide)), y3, if_pos (by first | rfl | trivial | decide)], y2, y3, frA, ?_⟩
    exact mR_two (u := lw_c k v w) (b3 := false) (jn := fun x y => some (lw_c k x y)) x6 y5 ⟨fun _ => ⟨fun q => absurd q (by simp), fun x q => by injection q with q; exact ⟨q, rfl⟩⟩, fun _ => rfl⟩
  · refine ⟨false, K2, b2, ?_, y2, y3, frA, ?_⟩
    · rw [e0]
      cases lv
      · rw [if_pos (by first | rfl | trivial | decide)]; rfl
      · rw [if_neg (by first | decide | exact fun q => absurd (show nI 1 = nI 0 from q) (by decide)), y3]
        cases b2
        · exact absurd ⟨rfl, rfl⟩ hl
        · rw [if_neg (by first | decide | exact fun q => absurd (show nI 1 = nI 0 from q) (by decide))]; rfl
    · exact mR_two (u := false) (b3 := b2) (jn := fun x y => some (lw_c k x y)) x6 y5 ⟨fun q => absurd q hl, fun _ => rfl⟩
theorem mB_br {o : Bool} {cd vl : Nat → Nat} {T : Nat} {rs : ph_Mem → Int32 → Option (Int32 × ph_Mem)} {i j : Nat} {F : lwT} (h : mB o cd vl T rs (i + 1) j F) (hc : cd i = 140) (hj : j < T) : mB o cd vl T (f12_positiveOf rs) i (j + 1) F := by
  have h1 := h.1
  refine ⟨by omega, by omega, fun K r base lv bk ht hg hb => ?_⟩
  have t1 := ht.1.1
  have t2 := ht.1.2.1
  have fr0 : mFr o K (ph_wi K 0 22 (nI (base + (i + 1)))) := mFr_w (mFr_r K) (Or.inl rfl)
  obtain ⟨v, K', bk', x1, x2, x3, x4, x5⟩ := h.2.2 (ph_wi K 0 22 (nI (base + (i + 1)))) r base lv bk (txt_fr ht fr0) wi_s (by rw [wi_o (by omega)]; exact hb)
  have pp := m_pass (x := 140) ht (show i ≤ T by omega) (by omega) hg
  rw [if_pos hc] at pp
  refine ⟨v, ph_wi K' 0 22 (nI (base + (j + 1))), bk', ?_, wi_s, by rw [wi_o (by omega)]; exact x3, mFr_w (mFr_t fr0 x4) (Or.inl rfl), x5⟩
  have em : base + j + 1 = base + (j + 1) := by omega
  unfold f12_positiveOf
  simp only [q_lit, m_sign, q_bd, pp]
  rw [if_neg (by first | decide | exact fun q => absurd (show nI 1 = nI 0 from q) (by decide)), x1, q_bd, q_let, q_iszb, q_ct, x2, nI_add, em]
theorem mR_not {lv bk bk' v : Bool} {F : Option Bool} (b : Bool) (h : mR lv bk bk' v F) : mR lv bk bk' (v != b) (F.map fun x => x != b) := by
  refine ⟨fun hl => ?_, h.2⟩
  obtain ⟨a1, a2⟩ := h.1 hl
  cases F with
  | none => exact ⟨fun _ => a1 rfl, fun x q => absurd q (by simp)⟩
  | some y =>
    obtain ⟨rfl, c⟩ := a2 y rfl
    exact ⟨fun q => absurd q (by simp), fun x q => by injection q with q; exact ⟨q, c⟩⟩
theorem m_plain {o : Bool} {cd vl : Nat → Nat} {T : Nat} {rs : ph_Mem → Int32 → Option (Int32 × ph_Mem)} {r : lwE} {base j : Nat} {lv bk : Bool} {F : lwT} : ∀ (n i : Nat) (x : Bool) (f : Nat) (K : ph_Mem), n < f → (∀ t, t < n → cd (i + t) = 7) → cd (i + n) ≠ 7 → mB o cd vl T (f12_positiveOf rs) (i + n) j F → txt o cd vl T base K r → K.1 0 22 = nI (base + i) → K.1 0 24 = nI bk.toNat → ∃ (v : Bool) (K' : ph_Mem) (bk' : Bool), f12_plainOf_l2 rs f (nI lv.toNat) (nI x.toNat) K = some (nI (v != (x != decide (n % 2 = 1))).toNat, K') ∧ K'.1 0 22 = nI (base + j) ∧ K'.1 0 24 = nI bk'.toNat ∧ mFr o K K' ∧ mR lv bk bk' v (F r)
  | n, i, x, 0, K, hf, _, _, _, _, _, _ => absurd hf (by omega)
  | 0, i, x, f + 1, K, _, _, h7, hB, ht, hg, hb => by
    have a1 := hB.1
    have a2 := hB.2.1
    obtain ⟨v, K', bk', x1, x2, x3, x4, x5⟩ := hB.2.2 K r base lv bk ht hg hb
    have pp := m_pass (x := 7) ht (show i ≤ T by omega) (by omega) hg
    rw [if_neg (show ¬ cd i = 7 from h7)] at pp
    refine ⟨v, K', bk', ?_, x2, x3, x4, x5⟩
    unfold f12_plainOf_l2 f12_plainOf_j24
    simp only [q_lit, pp, q_bd]
    rw [if_pos (by first | rfl | trivial | decide), x1, q_bd]
    show (if nI v.toNat = nI x.toNat then some (nI 0, K') else some (nI 1, K')) = _
    cases v <;> cases x <;> first | (rw [if_pos rfl]; rfl) | (rw [if_neg (by decide)]; rfl)
  | n + 1, i, x, f + 1, K, hf, hn, h7, hB, ht, hg, hb => by
    have a1 := hB.1
    have a2 := hB.2.1
    have pp := m_pass (x := 7) ht (show i ≤ T by omega) (by omega) hg
    rw [if_pos (show cd i = 7 from hn 0 (by omega))] at pp
    have fr0 : mFr o K (ph_wi K 0 22 (nI (base + (i + 1)))) := mFr_w (mFr_r K) (Or.inl rfl)
    have ei : i + 1 + n = i + (n + 1) := by omega
    obtain ⟨v, K', bk', x1, x2, x3, x4, x5⟩ := m_plain (rs := rs) (r := r) (lv := lv) (F := F) n (i + 1) (!x) f (ph_wi K 0 22 (nI (base + (i + 1)))) (by omega) (fun t q => by rw [show i + 1 + t = i + (t + 1) by omega]; exact hn (t + 1) (by omega)) (by rw [ei]; exact h7) (by rw [ei]; exact hB) (txt_fr ht fr0) wi_s (by rw [wi_o (by omega)]; exact hb)
    refine ⟨v, K', bk', ?_, x2, x3, mFr_t fr0 x4, x5⟩
    have ex : ((!x) != decide (n % 2 = 1)) = (x != decide ((n + 1) % 2 = 1)) := by
      by_cases q : n % 2 = 1
      · rw [decide_eq_true q, decide_eq_false (by omega)]; cases x <;> rfl
      · rw [decide_eq_false q, decide_eq_true (by omega)]; cases x <;> rfl
    rw [ex] at x1
    rw [← x1]
    conv => lhs; unfold f12_plainOf_l2
    unfold f12_plainOf_j20
    simp only [q_lit, pp, q_bd]
    rw [if_neg (by first | decide | exact fun q => absurd (show nI 1 = nI 0 from q) (by decide))]
    cases x
    · rw [if_pos (by first | rfl | trivial | decide)]; rfl
    · rw [if_neg (by first | decide | exact fun q => absurd (show nI 1 = nI 0 from q) (by decide))]; rfl
def lw_nn (n : Nat) (F : lwT) : lwT := if n % 2 = 1 then lw_not F else F
theorem mB_plain {o : Bool} {cd vl : Nat → Nat} {T : Nat} {rs : ph_Mem → Int32 → Option (Int32 × ph_Mem)} {n i j : Nat} {F : lwT} (hn : ∀ t, t < n → cd (i + t) = 7) (h7 : cd (i + n) ≠ 7) (hB : mB o cd vl T (f12_positiveOf rs) (i + n) j F) : mB o cd vl T (f12_plainOf rs) i j (lw_nn n F) := by
  have a1 := hB.1
  have a2 := hB.2.1
  refine ⟨by omega, a2, fun K r base lv bk ht hg hb => ?_⟩
  have t2 := ht.1.2.1
  obtain ⟨v, K', bk', x1, x2, x3, x4, x5⟩ := m_plain (rs := rs) (r := r) (lv := lv) (F := F) n i false 10000 K (by omega) hn h7 hB ht hg hb
  refine ⟨v != decide (n % 2 = 1), K', bk', ?_, x2, x3, x4, ?_⟩
  · unfold f12_plainOf
    simp only [q_lit]
    have : (v != (false != decide (n % 2 = 1))) = (v != decide (n % 2 = 1)) := by cases decide (n % 2 = 1) <;> rfl
    rw [this] at x1
    exact x1
  · unfold lw_nn
    by_cases q : n % 2 = 1
    · rw [if_pos q, decide_eq_true q]
      have := mR_not true x5
      unfold lw_not
      have e : (fun x : Bool => x != true) = fun b => !b := funext fun b => by cases b <;> rfl
      rw [e] at this
      exact this
    · rw [if_neg q, decide_eq_false q]
      have e : (v != false) = v := by cases v <;> rfl
      rw [e]
      exact x5
theorem mR_and {lv bk b1 b2 v w : Bool} {F G : Option Bool} (h1 : mR lv bk b1 v F) (h2 : mR (lv && v) b1 b2 w G) : mR lv bk b2 (v && w) (F.bind fun a => if a = true then G else some false) := by
  refine ⟨fun hl => ?_, fun hl => ?_⟩
  · obtain ⟨rfl, rfl⟩ := hl
    obtain ⟨a1, a2⟩ := h1.1 ⟨rfl, rfl⟩
    cases eF : F with
    | none =>
      have e1 := a1 eF
      subst e1
      have e2 := h2.2 (by simp)
      subst e2
      exact ⟨fun _ => rfl, fun x q => absurd q (by simp)⟩
    | some x =>
      obtain ⟨rfl, rfl⟩ := a2 x eF
      cases v
      · have e2 := h2.2 (by simp)
        subst e2
        exact ⟨fun q => absurd q (by simp), fun x q => by injection q with q; exact ⟨q, rfl⟩⟩
      · obtain ⟨c1, c2⟩ := h2.1 ⟨rfl, rfl⟩
        exact ⟨fun q => c1 q, fun x q => by
          obtain ⟨z1, z2⟩ := c2 x q
          exact ⟨by rw [z1]; rfl, z2⟩⟩
  · have e1 := h1.2 hl
    subst e1
    exact h2.2 (fun q => hl ⟨by
      have := q.1
      rw [Bool.and_eq_true] at this
      exact this.1, q.2⟩)
theorem mR_or {lv bk b1 b2 v w : Bool} {F G : Option Bool} (h1 : mR lv bk b1 v F) (h2 : mR (lv && !v) b1 b2 w G) : mR lv bk b2 (v || w) (F.bind fun a => if a = true then some true else G) := by
  refine ⟨fun hl => ?_, fun hl => ?_⟩
  · obtain ⟨rfl, rfl⟩ := hl
    obtain ⟨a1, a2⟩ := h1.1 ⟨rfl, rfl⟩
    cases eF : F with
    | none =>
      have e1 := a1 eF
      subst e1
      have e2 := h2.2 (by simp)
      subst e2
      exact ⟨fun _ => rfl, fun x q => absurd q (by simp)⟩
    | some x =>
      obtain ⟨rfl, rfl⟩ := a2 x eF
      cases v
      · obtain ⟨c1, c2⟩ := h2.1 ⟨rfl, rfl⟩
        exact ⟨fun q => c1 q, fun x q => by
          obtain ⟨z1, z2⟩ := c2 x q
          exact ⟨by rw [z1]; rfl, z2⟩⟩
      · have e2 := h2.2 (by simp)
        subst e2
        exact ⟨fun q => absurd q (by simp), fun x q => by injection q with q; exact ⟨q, rfl⟩⟩
  · have e1 := h1.2 hl
    subst e1
    exact h2.2 (fun q => hl ⟨by
      have := q.1
      rw [Bool.and_eq_true] at this
      exact this.1, q.2⟩)
def mBP (o : Bool) (cd vl : Nat → Nat) (T : Nat) (rs : ph_Mem → Int32 → Option (Int32 × ph_Mem)) (i j : Nat) (F : lwT) : Prop := i < j ∧ j ≤ T ∧ ∀ (K : ph_Mem) (r : lwE) (base : Nat) (lv bk : Bool), txt o cd vl T base K r → K.1 0 22 = nI (base + i) → K.1 0 24 = nI bk.toNat → ∃ (v : Bool) (K' : ph_Mem) (bk' : Bool) (f : Nat), f12_bothOf rs K (nI lv.toNat) = f12_bothOf_l6 rs f (nI lv.toNat) (nI v.toNat) K' ∧ 10000 ≤ f + j ∧ K'.1 0 22 = nI (base + j) ∧ K'.1 0 24 = nI bk'.toNat ∧ mFr o K K' ∧ mR lv bk bk' v (F r)
theorem mBP_0 {o : Bool} {cd vl : Nat → Nat} {T : Nat} {rs : ph_Mem → Int32 → Option (Int32 × ph_Mem)} {i j : Nat} {F : lwT} (h : mB o cd vl T (f12_plainOf rs) i j F) : mBP o cd vl T rs i j F := by
  refine ⟨h.1, h.2.1, fun K r base lv bk ht hg hb => ?_⟩
  obtain ⟨v, K', bk', x1, x2⟩ := h.2.2 K r base lv bk ht hg hb
  refine ⟨v, K', bk', 10000, ?_, by omega, x2⟩
  unfold f12_bothOf
  rw [x1, q_bd]
theorem mBP_s {o : Bool} {cd vl : Nat → Nat} {T : Nat} {rs : ph_Mem → Int32 → Option (Int32 × ph_Mem)} {i m j : Nat} {F G : lwT} (h : mBP o cd vl T rs i m F) (hk : cd m = 6) (hG : mB o cd vl T (f12_plainOf rs) (m + 1) j G) : mBP o cd vl T rs i j (lw_and F G) := by
  have a1 := h.1
  have a2 := hG.1
  have a3 := hG.2.1
  refine ⟨by omega, by omega, fun K r base lv bk ht hg hb => ?_⟩
  have t2 := ht.1.2.1
  obtain ⟨v, K1, b1, f, x1, x2, x3, x4, x5, x6⟩ := h.2.2 K r base lv bk ht hg hb
  obtain ⟨f, rfl⟩ : ∃ z, f = z + 1 := ⟨f - 1, by omega⟩
  have ht1 := txt_fr ht x5
  have fr2 : mFr o K1 (ph_wi K1 0 22 (nI (base + (m + 1)))) := mFr_w (mFr_r K1) (Or.inl rfl)
  obtain ⟨w, K2, b2, y1, y2, y3, y4, y5⟩ := hG.2.2 (ph_wi K1 0 22 (nI (base + (m + 1)))) r base (lv && v) b1 (txt_fr ht1 fr2) wi_s (by rw [wi_o (by omega)]; exact x4)
  have pp := m_pass (x := 6) ht1 (show m ≤ T by omega) (by omega) x3
  rw [if_pos hk] at pp
  refine ⟨v && w, K2, b2, f, ?_, by omega, y2, y3, mFr_t x5 (mFr_t fr2 y4), mR_and x6 y5⟩
  rw [x1]
  conv => lhs; unfold f12_bothOf_l6
  unfold f12_bothOf_j28 f12_bothOf_j29 f12_bothOf_j45 f12_bothOf_j46
  simp only [q_lit, pp, q_bd]
  rw [if_neg (by first | decide | exact fun q => absurd (show nI 1 = nI 0 from q) (by decide))]
  cases lv
  · rw [if_pos (by first | rfl | trivial | decide)]
    have y1' : f12_plainOf rs (ph_wi K1 0 22 (nI (base + (m + 1)))) (nI 0) = some (nI w.toNat, K2) := by cases v <;> exact y1
    rw [y1', q_bd]
    cases v
    · rw [if_pos (by first | rfl | trivial | decide)]; rfl
    · rw [if_neg (by first | decide | exact fun q => absurd (show nI 1 = nI 0 from q) (by decide))]
      cases w
      · rw [if_pos (by first | rfl | trivial | decide)]; rfl
      · rw [if_neg (by first | decide | exact fun q => absurd (show nI 1 = nI 0 from q) (by decide))]; rfl
  · rw [if_neg (by first | decide | exact fun q => absurd (show nI 1 = nI 0 from q) (by decide))]
    cases v
    · rw [if_pos (by first | rfl | trivial | decide)]
      have y1' : f12_plainOf rs (ph_wi K1 0 22 (nI (base + (m + 1)))) (nI 0) = some (nI w.toNat, K2) := y1
      rw [y1', q_bd, if_pos (by first | rfl | trivial | decide)]; rfl
    · rw [if_neg (by first | decide | exact fun q => absurd (show nI 1 = nI 0 from q) (by decide))]
      have y1' : f12_plainOf rs (ph_wi K1 0 22 (nI (base + (m + 1)))) (nI 1) = some (nI w.toNat, K2) := y1
      rw [y1', q_bd, if_neg (by first | decide | exact fun q => absurd (show nI 1 = nI 0 from q) (by decide))]
      cases w
      · rw [if_pos (by first | rfl | trivial | decide)]; rfl
      · rw [if_neg (by first | decide | exact fun q => absurd (show nI 1 = nI 0 from q) (by decide))]; rfl
theorem mBP_e {o : Bool} {cd vl : Nat → Nat} {T : Nat} {rs : ph_Mem → Int32 → Option (Int32 × ph_Mem)} {i j : Nat} {F : lwT} (h : mBP o cd vl T rs i j F) (h1 : cd j ≠ 6) : mB o cd vl T (f12_bothOf rs) i j F := by
  refine ⟨h.1, h.2.1, fun K r base lv bk ht hg hb => ?_⟩
  have hj := h.2.1
  have t2 := ht.1.2.1
  obtain ⟨v, K1, b1, f, x1, x2, x3, x4, x5, x6⟩ := h.2.2 K r base lv bk ht hg hb
  obtain ⟨f, rfl⟩ : ∃ z, f = z + 1 := ⟨f - 1, by omega⟩
  have pp := m_pass (x := 6) (txt_fr ht x5) hj (by omega) x3
  rw [if_neg h1] at pp
  refine ⟨v, K1, b1, ?_, x3, x4, x5, x6⟩
  rw [x1]
  unfold f12_bothOf_l6
  simp only [q_lit, pp, q_bd]
  rw [if_pos (by first | rfl | trivial | decide), q_iszb, q_ct]
def mTeP (o : Bool) (cd vl : Nat → Nat) (T : Nat) (rs : ph_Mem → Int32 → Option (Int32 × ph_Mem)) (i j : Nat) (F : lwT) : Prop := i < j ∧ j ≤ T ∧ ∀ (K : ph_Mem) (r : lwE) (base : Nat) (lv bk : Bool), txt o cd vl T base K r → K.1 0 22 = nI (base + i) → K.1 0 24 = nI bk.toNat → ∃ (v : Bool) (K' : ph_Mem) (bk' : Bool) (f : Nat), f12_testOf_b rs K (nI lv.toNat) = f12_testOf_l6 rs f (nI lv.toNat) (nI v.toNat) K' ∧ 10000 ≤ f + j ∧ K'.1 0 22 = nI (base + j) ∧ K'.1 0 24 = nI bk'.toNat ∧ mFr o K K' ∧ mR lv bk bk' v (F r)
theorem mTeP_0 {o : Bool} {cd vl : Nat → Nat} {T : Nat} {rs : ph_Mem → Int32 → Option (Int32 × ph_Mem)} {i j : Nat} {F : lwT} (h : mB o cd vl T (f12_bothOf rs) i j F) : mTeP o cd vl T rs i j F := by
  refine ⟨h.1, h.2.1, fun K r base lv bk ht hg hb => ?_⟩
  obtain ⟨v, K', bk', x1, x2⟩ := h.2.2 K r base lv bk ht hg hb
  refine ⟨v, K', bk', 10000, ?_, by omega, x2⟩
  unfold f12_testOf_b
  rw [x1, q_bd]
theorem mTeP_s {o : Bool} {cd vl : Nat → Nat} {T : Nat} {rs : ph_Mem → Int32 → Option (Int32 × ph_Mem)} {i m j : Nat} {F G : lwT} (h : mTeP o cd vl T rs i m F) (hk : cd m = 5) (hG : mB o cd vl T (f12_bothOf rs) (m + 1) j G) : mTeP o cd vl T rs i j (lw_or F G) := by
  have a1 := h.1
  have a2 := hG.1
  have a3 := hG.2.1
  refine ⟨by omega, by omega, fun K r base lv bk ht hg hb => ?_⟩
  have t2 := ht.1.2.1
  obtain ⟨v, K1, b1, f, x1, x2, x3, x4, x5, x6⟩ := h.2.2 K r base lv bk ht hg hb
  obtain ⟨f, rfl⟩ : ∃ z, f = z + 1 := ⟨f - 1, by omega⟩
  have ht1 := txt_fr ht x5
  have fr2 : mFr o K1 (ph_wi K1 0 22 (nI (base + (m + 1)))) := mFr_w (mFr_r K1) (Or.inl rfl)
  obtain ⟨w, K2, b2, y1, y2, y3, y4, y5⟩ := hG.2.2 (ph_wi K1 0 22 (nI (base + (m + 1)))) r base (lv && !v) b1 (txt_fr ht1 fr2) wi_s (by rw [wi_o (by omega)]; exact x4)
  have pp := m_pass (x := 5) ht1 (show m ≤ T by omega) (by omega) x3
  rw [if_pos hk] at pp
  refine ⟨v || w, K2, b2, f, ?_, by omega, y2, y3, mFr_t x5 (mFr_t fr2 y4), mR_or x6 y5⟩
  rw [x1]
  conv => lhs; unfold f12_testOf_l6
  unfold f12_testOf_j27 f12_testOf_j28 f12_testOf_j40 f12_testOf_j45
  simp only [q_lit, pp, q_bd]
  rw [if_neg (by first | decide | exact fun q => absurd (show nI 1 = nI 0 from q) (by decide))]
  cases lv
  · rw [if_pos (by first | rfl | trivial | decide)]
    have y1' : f12_bothOf rs (ph_wi K1 0 22 (nI (base + (m + 1)))) (nI 0) = some (nI w.toNat, K2) := by cases v <;> exact y1
    rw [y1', q_bd]
    cases v
    · rw [if_pos (by first | rfl | trivial | decide)]
      cases w
      · rw [if_pos (by first | rfl | trivial | decide)]; rfl
      · rw [if_neg (by first | decide | exact fun q => absurd (show nI 1 = nI 0 from q) (by decide))]; rfl
    · rw [if_neg (by first | decide | exact fun q => absurd (show nI 1 = nI 0 from q) (by decide))]; rfl
  · rw [if_neg (by first | decide | exact fun q => absurd (show nI 1 = nI 0 from q) (by decide))]
    cases v
    · rw [if_pos (by first | rfl | trivial | decide)]
      have y1' : f12_bothOf rs (ph_wi K1 0 22 (nI (base + (m + 1)))) (nI 1) = some (nI w.toNat, K2) := y1
      rw [y1', q_bd, if_pos (by first | rfl | trivial | decide)]
      cases w
      · rw [if_pos (by first | rfl | trivial | decide)]; rfl
      · rw [if_neg (by first | decide | exact fun q => absurd (show nI 1 = nI 0 from q) (by decide))]; rfl
    · rw [if_neg (by first | decide | exact fun q => absurd (show nI 1 = nI 0 from q) (by decide))]
      have y1' : f12_bothOf rs (ph_wi K1 0 22 (nI (base + (m + 1)))) (nI 0) = some (nI w.toNat, K2) := y1
      rw [y1', q_bd, if_neg (by first | decide | exact fun q => absurd (show nI 1 = nI 0 from q) (by decide))]; rfl
theorem mTeP_e {o : Bool} {cd vl : Nat → Nat} {T : Nat} {rs : ph_Mem → Int32 → Option (Int32 × ph_Mem)} {i j : Nat} {F : lwT} (h : mTeP o cd vl T rs i j F) (h1 : cd j ≠ 5) : mB o cd vl T (f12_testOf_b rs) i j F := by
  refine ⟨h.1, h.2.1, fun K r base lv bk ht hg hb => ?_⟩
  have hj := h.2.1
  have t2 := ht.1.2.1
  obtain ⟨v, K1, b1, f, x1, x2, x3, x4, x5, x6⟩ := h.2.2 K r base lv bk ht hg hb
  obtain ⟨f, rfl⟩ : ∃ z, f = z + 1 := ⟨f - 1, by omega⟩
  have pp := m_pass (x := 5) (txt_fr ht x5) hj (by omega) x3
  rw [if_neg h1] at pp
  refine ⟨v, K1, b1, ?_, x3, x4, x5, x6⟩
  rw [x1]
  unfold f12_testOf_l6
  simp only [q_lit, pp, q_bd]
  rw [if_pos (by first | rfl | trivial | decide), q_iszb, q_ct]
