/-! PURE HALF: the cheapest way, the model's search over all rows -/
def ch_mg (K K' : ph_Mem) : Prop := (∀ j, K'.1 2 j = K.1 2 j) ∧ ∀ e j, e ≠ 2 → e ≠ 5 → e ≠ 12 → e ≠ 19 → e ≠ 20 → (e ≠ 0 ∨ (j ≠ 8 ∧ j ≠ 22 ∧ j ≠ 23 ∧ j ≠ 24 ∧ j ≠ 36)) → K'.1 e j = K.1 e j
def ch_me (hr : Nat → Nat) (m : Nat) (b : chB) (K : ph_Mem) : Prop := (b = none ∧ K.1 0 36 = nI 1000000000) ∨ ∃ l rw0, b = some (l, rw0) ∧ l ≤ 60000 ∧ rw0.length = m ∧ K.1 0 36 = nI l ∧ ∀ k, k < m → K.1 20 k = nI (hr (rw0.getD k 0))
theorem ch_l_le {C : Nat → Nat → Nat} {inc m : Nat} (hC : ∀ i w, i < m → w ≤ 61 → C i w ≤ 9999) : ∀ (l : List Nat) (w u a : Nat), w ≤ 61 → (∀ x, x ∈ l → x < m) → ∀ w' u' a', l.foldl (fun s i => ch_1 C inc i s) (some (w, u, a)) = some (w', u', a') → a' ≤ a + 9999 * l.length
  | [], w, u, a, _, _, w', u', a', e => by
    rw [List.foldl_nil] at e
    injection e with e
    injection e with e1 e2
    injection e2 with e2 e3
    omega
  | i :: l, w, u, a, hw, hl, w', u', a', e => by
    rw [List.foldl_cons] at e
    have him := hl i (List.mem_cons_self ..)
    rcases ch_f_spec C inc i w u (61 - w) w with ⟨w1, g1, g2, g3, g4⟩ | g3
    · have e1 : ch_1 C inc i (some (w, u, a)) = some (w1, u + (w1 - w) * inc - C i w1, a + C i w1) := by
        unfold ch_1
        simp only [g3]
      rw [e1] at e
      have := ch_l_le hC l w1 _ _ (by omega) (fun x hx => hl x (List.mem_cons_of_mem _ hx)) w' u' a' e
      have := hC i w1 him (by omega)
      rw [List.length_cons]
      omega
    · have e1 : ch_1 C inc i (some (w, u, a)) = none := by
        unfold ch_1
        simp only [g3]
      rw [e1, ch_l_no] at e
      exact absurd e (by simp)
theorem m_l34 {rs : ph_Mem → Int32 → Int32 → Int32 → Option ph_Mem} {m : Nat} (hm : m ≤ 6) : ∀ (r k fuel : Nat) (K : ph_Mem), k + r = m → r < fuel → ∃ K', f12_triesRow_l34 rs fuel (nI m) (nI k) K = some K' ∧ (∀ j, k ≤ j → j < m → K'.1 20 j = K.1 19 j) ∧ ∀ e j, e ≠ 20 ∨ j < k → K'.1 e j = K.1 e j
  | _, _, 0, _, _, hf => absurd hf (by omega)
  | 0, k, f + 1, K, e, _ => by
    have ek : k = m := e
    subst ek
    refine ⟨K, ?_, fun j q1 q2 => absurd q2 (by omega), fun _ _ _ => rfl⟩
    unfold f12_triesRow_l34
    rw [if_pos (Int32.le_refl _)]
  | r + 1, k, f + 1, K, e, hf => by
    obtain ⟨K', r1, r2, r3⟩ := m_l34 (rs := rs) hm r (k + 1) f (ph_wi K 20 k (K.1 19 k)) (by omega) (by omega)
    refine ⟨K', ?_, fun j q1 q2 => ?_, fun e j q => ?_⟩
    · conv => lhs; unfold f12_triesRow_l34
      simp (disch := first | assumption | omega) only [q_lit, Int32.neg_neg, nI_add, pk_mul, q_sub, q_addn, q_nadd, q_lt, q_le, q_eq, q_eqn, q_neq, q_nen, q_ltn, q_nlt, q_len, q_nle, q_nltn, q_nlen, q_cl, q_ib, q_ibn, q_isz0, q_isz1, q_iszb, q_b0, q_b1, q_ng1, q_ng2, q_ng3, q_ng4, q_ng5, q_ng6, Bool.toNat_true, Bool.toNat_false, if_pos, if_neg, q_ct, q_cf, q_let, q_bd, q_it, q_if, Nat.zero_add, Nat.add_zero, true_and, and_true, false_and, and_false, or_false, false_or, or_true, true_or, Bool.true_eq_false, Bool.false_eq_true, wi_s, wi_o, wi_r]
      exact r1
    · by_cases ej : j = k
      · subst ej
        rw [r3 20 j (by omega), wi_s]
      · rw [r2 j (by omega) q2, wi_o (by omega)]
    · rw [r3 e j (by omega), wi_o (by omega)]
theorem m_tries {C : Nat → Nat → Nat} {inc n m p d u : Nat} {hr : Nat → Nat} {K0 : ph_Mem} (hp : p < n) (hn : n ≤ 6) (hinc : inc ≤ 99) (hd : d ≤ 999) (h475 : K0.1 2 475 = nI n) (h471 : K0.1 2 471 = nI inc) (hh : ∀ i, i < m → hr i < 12) (hinj : ∀ i j, i < m → j < m → hr i = hr j → i = j) (hC : ∀ i w, i < m → w ≤ 61 → C i w ≤ 9999) (hV : ∀ i w, i < m → w ≤ 61 → ∀ M : ph_Mem, (∀ j, (72 ≤ j ∧ j < 216) ∨ 223 ≤ j → M.1 2 j = K0.1 2 j) → M.1 2 222 = nI (d + w) → ∃ K', f12_costsFor M (nI p) (nI (hr i)) = some (nI (C i w), K') ∧ kSc M K') (h35 : K0.1 0 35 = nI m) (hm : m ≤ 6) (h222 : K0.1 2 222 = nI d) (hu : u ≤ 99999) (h216 : K0.1 2 (216 + p) = nI u) (hpu : ∀ q, q < n → ∃ v, v ≤ 100100 ∧ K0.1 2 (216 + q) = nI v) (hst : ∀ i, i < m → K0.1 2 (12 * p + hr i) = nI 1) (h18 : ∀ i, i < m → K0.1 18 i = nI (hr i)) : ∀ (r fuel dp used : Nat) (row : List Nat) (b : chB) (K : ph_Mem), dp + r = m → r < fuel → used < 64 → row.length = dp → row.Nodup → (∀ x, x ∈ row → x < m ∧ used.testBit x = true) → ch_mg K0 K → (∀ t x, row[t]? = some x → K.1 19 t = nI (hr x)) → ch_me hr m b K → ∃ K', f12_triesRow_n fuel K (nI p) (nI dp) (nI used) = some K' ∧ ch_mg K0 K' ∧ (∀ t x, row[t]? = some x → K'.1 19 t = nI (hr x)) ∧ ch_me hr m (ch_E C inc m r used row (row.foldl (fun s i => ch_1 C inc i s) (some (0, u, 0))) b) K' := by
  intro r
  induction r with
  | zero =>
    intro fuel dp used row b K e1 hf hu6 hlen hnd hrow hg h19 hb
    obtain ⟨f, rfl⟩ : ∃ f, fuel = f + 1 := ⟨fuel - 1, by omega⟩
    have : dp = m := by omega
    subst this
    have k2 := hg.1
    have k35 : K.1 0 35 = nI dp := (hg.2 0 35 (by omega) (by omega) (by omega) (by omega) (by omega) (by omega)).trans h35
    obtain ⟨K1, r1, r2, r3⟩ := m_pays (C := C) (K := K) (row := row) hp hn hinc hd ((k2 _).trans h475) ((k2 _).trans h471) hh hinj hC (fun i w hi hw M q1 q2 => hV i w hi hw M (fun j hj => (q1 j hj).trans (k2 j)) q2) k35 hm ((k2 _).trans h222) hu ((k2 _).trans h216) (fun q hq => by
      obtain ⟨v, v1, v2⟩ := hpu q hq
      exact ⟨v, v1, (k2 _).trans v2⟩) (fun i hi => (k2 _).trans (hst i hi)) hlen h19 hnd (fun x hx => (hrow x hx).1)
    have hle := ch_l_le (inc := inc) hC row 0 u 0 (by omega) (fun x hx => (hrow x hx).1)
    rw [ch_E]
    generalize row.foldl (fun s i => ch_1 C inc i s) (some (0, u, 0)) = s at *
    have g1 : ch_mg K0 K1 := ⟨fun j => (r2 j).trans (k2 j), fun e j q1 q2 q3 q4 q5 q6 => (r3 e j q1 q2 q3 (by omega)).trans (hg.2 e j q1 q2 q3 q4 q5 q6)⟩
    have g19 : ∀ t x, row[t]? = some x → K1.1 19 t = nI (hr x) := fun t x q => (r3 19 t (by omega) (by omega) (by omega) (by omega)).trans (h19 t x q)
    have e36 : K1.1 0 36 = K.1 0 36 := r3 0 36 (by omega) (by omega) (by omega) (by omega)
    have gb : ch_me hr dp b K1 := by
      rcases hb with ⟨z1, z2⟩ | ⟨l, rw0, z1, z2, z3, z4, z5⟩
      · exact Or.inl ⟨z1, e36.trans z2⟩
      · exact Or.inr ⟨l, rw0, z1, z2, z3, e36.trans z4, fun k hk => (r3 20 k (by omega) (by omega) (by omega) (by omega)).trans (z5 k hk)⟩
    have keep : ¬ nI (chR s) < K1.1 0 36 → ch_b s row b = b → ∃ K', f12_triesRow_n (f + 1) K (nI p) (nI dp) (nI used) = some K' ∧ ch_mg K0 K' ∧ (∀ t x, row[t]? = some x → K'.1 19 t = nI (hr x)) ∧ ch_me hr dp (ch_b s row b) K' := fun q1 q2 => by
      refine ⟨K1, ?_, g1, g19, by rw [q2]; exact gb⟩
      rw [f12_triesRow_n]
      unfold f12_triesRow_b
      rw [k35, if_pos rfl, r1, q_bd, if_neg q1]
    have upd : ∀ a, a ≤ 60000 → chR s = a → nI a < K1.1 0 36 → ch_b s row b = some (a, row) → ∃ K', f12_triesRow_n (f + 1) K (nI p) (nI dp) (nI used) = some K' ∧ ch_mg K0 K' ∧ (∀ t x, row[t]? = some x → K'.1 19 t = nI (hr x)) ∧ ch_me hr dp (ch_b s row b) K' := fun a ha q0 q1 q2 => by
      obtain ⟨K2, y1, y2, y3⟩ := m_l34 (rs := f12_triesRow_n f) hm dp 0 10000 (ph_wi K1 0 36 (nI a)) (by omega) (by omega)
      refine ⟨K2, ?_, ⟨fun j => ?_, fun e j z1 z2 z3 z4 z5 z6 => ?_⟩, fun t x q => ?_, ?_⟩
      · rw [f12_triesRow_n]
        unfold f12_triesRow_b
        rw [k35, if_pos rfl, r1, q_bd, q0, if_pos q1, q_let]
        exact y1
      · rw [y3 2 j (by omega), wi_o (by omega)]; exact g1.1 j
      · rw [y3 e j (by omega), wi_o (by omega)]; exact g1.2 e j z1 z2 z3 z4 z5 z6
      · rw [y3 19 t (by omega), wi_o (by omega)]; exact g19 t x q
      · rw [q2]
        refine Or.inr ⟨a, row, rfl, ha, hlen, by rw [y3 0 36 (by omega), wi_s], fun k hk => ?_⟩
        rw [y2 k (by omega) hk, wi_o (by omega)]
        have hk' : k < row.length := by omega
        rw [g19 k row[k] (List.getElem?_eq_getElem hk'), List.getD_eq_getElem?_getD, List.getElem?_eq_getElem hk']
        rfl
    cases s with
    | none =>
      refine keep ?_ rfl
      show ¬ nI 1000000000 < K1.1 0 36
      rcases gb with ⟨z1, z2⟩ | ⟨l, rw0, z1, z2, z3, z4, z5⟩
      · rw [z2, q_lt (by omega) (by omega)]; omega
      · rw [z4, q_lt (by omega) (by omega)]; omega
    | some x =>
      obtain ⟨w', u', a'⟩ := x
      have ha := hle w' u' a' rfl
      rw [hlen] at ha
      rcases gb with ⟨z1, z2⟩ | ⟨l, rw0, z1, z2, z3, z4, z5⟩
      · subst z1
        exact upd a' (by omega) rfl (by rw [z2, q_lt (by omega) (by omega)]; omega) rfl
      · subst z1
        by_cases hx : a' < l
        · exact upd a' (by omega) rfl (by rw [z4, q_lt (by omega) (by omega)]; exact hx) (by show (if a' < l then _ else _) = _; rw [if_pos hx])
        · exact keep (by show ¬ nI a' < _; rw [z4, q_lt (by omega) (by omega)]; exact hx) (by show (if a' < l then _ else _) = _; rw [if_neg hx])
  | succ r ih =>
    intro fuel dp used row b K e1 hf hu6 hlen hnd hrow hg h19 hb
    obtain ⟨f, rfl⟩ : ∃ f, fuel = f + 1 := ⟨fuel - 1, by omega⟩
    have k35 : ∀ K : ph_Mem, ch_mg K0 K → K.1 0 35 = nI m := fun K hg => (hg.2 0 35 (by omega) (by omega) (by omega) (by omega) (by omega) (by omega)).trans h35
    have loop : ∀ (k i fu : Nat) (b : chB) (K : ph_Mem), i + k = m → k < fu → ch_mg K0 K → (∀ t x, row[t]? = some x → K.1 19 t = nI (hr x)) → ch_me hr m b K → ∃ K', f12_triesRow_l64 (f12_triesRow_n f) fu (nI p) (nI dp) (nI used) (nI i) K = some K' ∧ ch_mg K0 K' ∧ (∀ t x, row[t]? = some x → K'.1 19 t = nI (hr x)) ∧ ch_me hr m ((List.range' i k).foldl (fun b i => if used.testBit i then b else ch_E C inc m r (used ||| 2 ^ i) (row ++ [i]) (ch_1 C inc i (row.foldl (fun s i => ch_1 C inc i s) (some (0, u, 0)))) b) b) K' := by
      intro k
      induction k with
      | zero =>
        intro i fu b K e2 hfu g1 g2 g3
        obtain ⟨fu', rfl⟩ : ∃ f, fu = f + 1 := ⟨fu - 1, by omega⟩
        refine ⟨K, ?_, g1, g2, g3⟩
        have : i = m := e2
        subst this
        unfold f12_triesRow_l64
        rw [k35 K g1, if_pos (Int32.le_refl _)]
      | succ k ihk =>
        intro i fu b K e2 hfu g1 g2 g3
        obtain ⟨fu', rfl⟩ : ∃ f, fu = f + 1 := ⟨fu - 1, by omega⟩
        rw [List.range'_succ, List.foldl_cons]
        have n35 := k35 K g1
        have nle : ¬ nI m ≤ nI i := by rw [q_le (by omega) (by omega)]; omega
        have mb := m_bit (K := K) (w := used) (i := i) (by omega) (by omega)
        cases eb : used.testBit i
        · rw [eb] at mb
          have n18 : K.1 18 i = nI (hr i) := (g1.2 18 i (by omega) (by omega) (by omega) (by omega) (by omega) (by omega)).trans (h18 i (by omega))
          have o64 : used ||| 2 ^ i < 64 := q_or64 hu6 (by omega)
          obtain ⟨K2, a1, a2, a3, a4⟩ := ih f (dp + 1) (used ||| 2 ^ i) (row ++ [i]) b (ph_wi K 19 dp (nI (hr i))) (by omega) (by omega) o64 (by rw [List.length_append, hlen]; rfl) (by
            rw [List.nodup_append]
            refine ⟨hnd, by simp, fun x hx y hy => ?_⟩
            rw [List.mem_singleton] at hy
            subst hy
            intro q
            subst q
            rw [(hrow x hx).2] at eb
            exact absurd eb (by simp)) (fun x hx => by
            rcases List.mem_append.mp hx with q | q
            · exact ⟨(hrow x q).1, by rw [Nat.testBit_or, (hrow x q).2, Bool.true_or]⟩
            · rw [List.mem_singleton] at q
              subst q
              exact ⟨by omega, by rw [Nat.testBit_or, Nat.testBit_two_pow_self, Bool.or_true]⟩) ⟨fun j => by rw [wi_o (by omega)]; exact g1.1 j, fun e j z1 z2 z3 z4 z5 z6 => by rw [wi_o (by omega)]; exact g1.2 e j z1 z2 z3 z4 z5 z6⟩ (fun t x q => by
            by_cases ht : t < row.length
            · rw [List.getElem?_append_left ht] at q
              rw [wi_o (by omega)]
              exact g2 t x q
            · rw [List.getElem?_append_right (by omega)] at q
              have t0 : t = dp := by
                have := (List.getElem?_eq_some_iff.mp q).1
                rw [List.length_singleton] at this
                omega
              subst t0
              rw [hlen, Nat.sub_self] at q
              injection q with q
              have q' : i = x := q
              rw [wi_s, q']) (by
            rcases g3 with ⟨z1, z2⟩ | ⟨l, rw0, z1, z2, z3, z4, z5⟩
            · exact Or.inl ⟨z1, by rw [wi_o (by omega)]; exact z2⟩
            · exact Or.inr ⟨l, rw0, z1, z2, z3, by rw [wi_o (by omega)]; exact z4, fun k hk => by rw [wi_o (by omega)]; exact z5 k hk⟩)
          rw [List.foldl_append, List.foldl_cons, List.foldl_nil] at a4
          obtain ⟨K3, b1, b2⟩ := ihk (i + 1) fu' _ K2 (by omega) (by omega) a2 (fun t x q => a3 t x (by rw [List.getElem?_append_left ((List.getElem?_eq_some_iff.mp q).1)]; exact q)) a4
          refine ⟨K3, ?_, by simp only [Bool.false_eq_true, if_false]; exact b2⟩
          rw [← b1]
          conv => lhs; unfold f12_triesRow_l64
          unfold f12_triesRow_j112
          rw [n35, if_neg nle, mb, q_bd]
          simp (disch := first | assumption | omega) only [q_lit, Int32.neg_neg, nI_add, pk_mul, q_sub, q_addn, q_nadd, q_lt, q_le, q_eq, q_eqn, q_neq, q_nen, q_ltn, q_nlt, q_len, q_nle, q_nltn, q_nlen, q_cl, q_ib, q_ibn, q_isz0, q_isz1, q_iszb, q_b0, q_b1, q_ng1, q_ng2, q_ng3, q_ng4, q_ng5, q_ng6, Bool.toNat_true, Bool.toNat_false, if_pos, if_neg, q_ct, q_cf, q_let, q_bd, q_it, q_if, Nat.zero_add, Nat.add_zero, true_and, and_true, false_and, and_false, or_false, false_or, or_true, true_or, Bool.true_eq_false, Bool.false_eq_true, wi_s, wi_o, wi_r, n18, q_1sl, q_or, a1]
        · rw [eb] at mb
          obtain ⟨K3, b1, b2⟩ := ihk (i + 1) fu' b K (by omega) (by omega) g1 g2 g3
          refine ⟨K3, ?_, by simp only [if_true]; exact b2⟩
          rw [← b1]
          conv => lhs; unfold f12_triesRow_l64
          unfold f12_triesRow_j112
          rw [n35, if_neg nle, mb, q_bd]
          simp (disch := first | assumption | omega) only [q_lit, Int32.neg_neg, nI_add, pk_mul, q_sub, q_addn, q_nadd, q_lt, q_le, q_eq, q_eqn, q_neq, q_nen, q_ltn, q_nlt, q_len, q_nle, q_nltn, q_nlen, q_cl, q_ib, q_ibn, q_isz0, q_isz1, q_iszb, q_b0, q_b1, q_ng1, q_ng2, q_ng3, q_ng4, q_ng5, q_ng6, Bool.toNat_true, Bool.toNat_false, if_pos, if_neg, q_ct, q_cf, q_let, q_bd, q_it, q_if, Nat.zero_add, Nat.add_zero, true_and, and_true, false_and, and_false, or_false, false_or, or_true, true_or, Bool.true_eq_false, Bool.false_eq_true, wi_s, wi_o, wi_r]
    obtain ⟨K', y1, y2⟩ := loop m 0 10000 b K (by omega) (by omega) hg h19 hb
    refine ⟨K', ?_, ?_⟩
    · rw [f12_triesRow_n]
      unfold f12_triesRow_b
      rw [k35 K hg, if_neg (by rw [q_eq (by omega) (by omega)]; omega)]
      exact y1
    · rw [ch_E, List.range_eq_range']
      exact y2
