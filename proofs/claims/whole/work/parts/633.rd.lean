/-! PURE HALF: the law's module: both readers, a token at a time -/
def tkE (o : Bool) (bs cd vl pl : Nat → Nat) (T m : Nat) (M0 K0 : ph_Mem) : Prop := (T ≤ m ∧ m ≤ 400) ∧ (M0.1 63 7 = nI T ∧ K0.1 0 18 = nI T) ∧ (M0.1 63 3 = nI o.toNat ∧ K0.1 0 10 = nI o.toNat ∧ K0.1 0 8 = nI (if o = true then 17 else 8) ∧ K0.1 0 9 = nI (if o = true then 22 else 16)) ∧ (∀ k, k ≤ T → ∃ a e, a ≤ e ∧ e ≤ m ∧ pl k = a ∧ M0.1 65 k = nI a ∧ M0.1 66 k = nI e ∧ K0.1 11 k = nI a ∧ K0.1 9 k = nI (cd k) ∧ K0.1 10 k = nI (vl k) ∧ (∀ s, s < 40 → says bs a e s = decide (cd k = wcs s)) ∧ (cd k = 50 → M0.1 67 k = nI 1 ∧ (∀ j, a ≤ j → j < e → kb (bs j) = 1) ∧ vl k = nFo bs a (e - a) 0) ∧ (cd k ≠ 50 → M0.1 67 k ≠ nI 1)) ∧ (∀ j, j < m → M0.1 64 j = nI (bs j)) ∧ (∀ j, bs j < 256) ∧ cd T = 0 ∧ ∀ k, cd k < 400 ∧ vl k < 2 ^ 30
def xF (M0 M : ph_Mem) : Prop := (∀ c j, c ≠ 68 → c ≠ 69 → (c ≠ 63 ∨ (j ≠ 2 ∧ j ≠ 8 ∧ j ≠ 9 ∧ j ≠ 10 ∧ j ≠ 11 ∧ j ≠ 14)) → M.1 c j = M0.1 c j) ∧ M.2 = M0.2
def kF (K0 K : ph_Mem) : Prop := (∀ c j, (c ≠ 0 ∨ (j ≠ 19 ∧ j ≠ 20 ∧ j ≠ 21)) → K.1 c j = K0.1 c j) ∧ K.2 = K0.2
def xG (M M' : ph_Mem) : Prop := (∀ c j, c ≠ 69 → (c ≠ 63 ∨ (j ≠ 2 ∧ j ≠ 8 ∧ j ≠ 9 ∧ j ≠ 10 ∧ j ≠ 14)) → M'.1 c j = M.1 c j) ∧ M'.2 = M.2
theorem xG_r (M : ph_Mem) : xG M M := ⟨fun _ _ _ _ => rfl, rfl⟩
theorem xG_t {M M' M'' : ph_Mem} (h : xG M M') (h' : xG M' M'') : xG M M'' := ⟨fun c j q1 q2 => (h'.1 c j q1 q2).trans (h.1 c j q1 q2), h'.2.trans h.2⟩
theorem xG_w {M M' : ph_Mem} {c j : Nat} {v : Int32} (h : xG M M') (hc : c = 69 ∨ (c = 63 ∧ (j = 2 ∨ j = 8 ∨ j = 9 ∨ j = 10 ∨ j = 14))) : xG M (ph_wi M' c j v) := ⟨fun d i q1 q2 => (wi_o (by omega)).trans (h.1 d i q1 q2), h.2⟩
theorem xF_G {M0 M M' : ph_Mem} (h : xF M0 M) (h' : xG M M') : xF M0 M' := ⟨fun c j q1 q2 q3 => (h'.1 c j q2 (by omega)).trans (h.1 c j q1 q2 q3), h'.2.trans h.2⟩
theorem kF_w {K0 K : ph_Mem} {j : Nat} {v : Int32} (h : kF K0 K) (hj : j = 19 ∨ j = 20 ∨ j = 21) : kF K0 (ph_wi K 0 j v) := ⟨fun c i q => (wi_o (by omega)).trans (h.1 c i q), h.2⟩
def rOK (T : Nat) (M0 K0 M K : ph_Mem) (k lv dp cl : Nat) : Prop := (xF M0 M ∧ kF K0 K) ∧ (k ≤ T ∧ cl ≤ k ∧ lv ≤ 51) ∧ (M.1 63 2 = -nI 1 ∧ K.1 0 21 = -nI 1) ∧ (M.1 63 8 = nI k ∧ K.1 0 19 = nI k) ∧ (M.1 63 9 = nI lv ∧ K.1 0 20 = nI lv) ∧ M.1 63 10 = nI dp ∧ M.1 63 14 = nI cl
def rFa (T : Nat) (M0 K0 M K : ph_Mem) : Prop := (xF M0 M ∧ kF K0 K) ∧ ∃ p k cl, (p ≤ 400 ∧ k ≤ T ∧ cl ≤ 400) ∧ (M.1 63 2 = nI p ∧ K.1 0 21 = nI p) ∧ M.1 63 8 = nI k ∧ M.1 63 14 = nI cl
section RD
variable {o : Bool} {S : ph_Sh} {bs cd vl pl : Nat → Nat} {T m : Nat} {M0 K0 M K : ph_Mem} {k lv dp cl : Nat}
theorem rd_says (hE : tkE o bs cd vl pl T m M0 K0) (h : rOK T M0 K0 M K k lv dp cl) {s : Nat} (hs : s < 40) : f6_says S M s = some (nI (decide (cd k = wcs s)).toNat) := by
  obtain ⟨⟨e1, e2⟩, _, _, e4, e5, e6, _⟩ := hE
  obtain ⟨⟨f1, _⟩, ⟨g1, g2, g3⟩, ⟨g4, _⟩, ⟨g5, _⟩, _⟩ := h
  obtain ⟨a, e, a1, a2, a3, a4, a5, a6, a7, a8, a9, _⟩ := e4 k g1
  rw [x_says (bs := bs) (a := a) (e := e) hs (fun j _ => e6 j) (by omega) a1 (by omega) g5 g4 ((f1.1 65 k (by omega) (by omega) (by omega)).trans a4) ((f1.1 66 k (by omega) (by omega) (by omega)).trans a5) (fun j hj => (f1.1 64 j (by omega) (by omega) (by omega)).trans (e5 j (by omega))), a9 s hs]
theorem rd_take (hE : tkE o bs cd vl pl T m M0 K0) (h : rOK T M0 K0 M K k lv dp cl) {x : Nat} (hx : x < 400) : f12_takes0 K (nI x) = if cd k = x then some (nI 1, ph_wi K 0 19 (nI (k + 1))) else some (nI 0, K) := by
  obtain ⟨⟨e1, e2⟩, _, _, e4, e5, e6, _, e8⟩ := hE
  obtain ⟨⟨_, f1⟩, ⟨g1, g2, g3⟩, ⟨_, g4⟩, ⟨_, g5⟩, _⟩ := h
  obtain ⟨a, e, a1, a2, a3, a4, a5, a6, a7, a8, a9, _⟩ := e4 k g1
  have c9 : K.1 9 k = nI (cd k) := (f1.1 9 k (by omega)).trans a7
  have := (e8 k).1
  unfold f12_takes0 f12_takes0_j24 f12_takes0_j25 f12_fine
  by_cases q : cd k = x
  · rw [if_pos q]
    subst q
    simp (disch := first | assumption | omega) only [q_lit, Int32.neg_neg, nI_add, pk_mul, q_sub, q_addn, q_nadd, q_lt, q_le, q_eq, q_eqn, q_neq, q_nen, q_ltn, q_nlt, q_len, q_nle, q_nltn, q_nlen, q_cl, q_ib, q_ibn, q_isz0, q_isz1, q_iszb, q_b0, q_b1, q_ng1, q_ng2, q_ng3, q_ng4, q_ng5, q_ng6, Bool.toNat_true, Bool.toNat_false, if_pos, if_neg, q_ct, q_cf, q_let, q_bd, q_it, q_if, Nat.zero_add, Nat.add_zero, true_and, and_true, false_and, and_false, or_false, false_or, or_true, true_or, Bool.true_eq_false, Bool.false_eq_true, wi_s, wi_o, wi_r, g4, g5, c9]
  · rw [if_neg q]
    simp (disch := first | assumption | omega) only [q_lit, Int32.neg_neg, nI_add, pk_mul, q_sub, q_addn, q_nadd, q_lt, q_le, q_eq, q_eqn, q_neq, q_nen, q_ltn, q_nlt, q_len, q_nle, q_nltn, q_nlen, q_cl, q_ib, q_ibn, q_isz0, q_isz1, q_iszb, q_b0, q_b1, q_ng1, q_ng2, q_ng3, q_ng4, q_ng5, q_ng6, Bool.toNat_true, Bool.toNat_false, if_pos, if_neg, q_ct, q_cf, q_let, q_bd, q_it, q_if, Nat.zero_add, Nat.add_zero, true_and, and_true, false_and, and_false, or_false, false_or, or_true, true_or, Bool.true_eq_false, Bool.false_eq_true, wi_s, wi_o, wi_r, g4, g5, c9, q]
theorem rd_fine (h : rOK T M0 K0 M K k lv dp cl) : f12_fine K = some (nI 1) := by
  unfold f12_fine
  rw [h.2.2.1.2]
  rfl
theorem rd_adv (hE : tkE o bs cd vl pl T m M0 K0) (h : rOK T M0 K0 M K k lv dp cl) (hk : k < T) : f6_advance S M = some (ph_wi M 63 8 (nI (k + 1))) := by
  have e7 : M.1 63 7 = nI T := (h.1.1.1 63 7 (by omega) (by omega) (by omega)).trans hE.2.1.1
  have hT := hE.1
  unfold f6_advance
  rw [h.2.2.2.1.1, e7]
  simp only [q_lit]
  rw [nI_add, q_min (by omega) (by omega), q_bd, q_let, Nat.min_eq_left (by omega)]
/-- a token further in both -/
theorem rd_next (h : rOK T M0 K0 M K k lv dp cl) (hk : k < T) : rOK T M0 K0 (ph_wi M 63 8 (nI (k + 1))) (ph_wi K 0 19 (nI (k + 1))) (k + 1) lv dp cl := by
  obtain ⟨⟨f0, f1⟩, ⟨g1, g2, g3⟩, ⟨g4, g5⟩, ⟨g6, g7⟩, ⟨g8, g9⟩, g10, g11⟩ := h
  refine ⟨⟨xF_G f0 (xG_w (xG_r M) (by omega)), kF_w f1 (by omega)⟩, ⟨by omega, by omega, g3⟩, ⟨?_, ?_⟩, ⟨wi_s, wi_s⟩, ⟨?_, ?_⟩, ?_, ?_⟩
  all_goals rw [wi_o (by omega)]; assumption
/-- both fail here -/
theorem rd_fail (hE : tkE o bs cd vl pl T m M0 K0) (h : rOK T M0 K0 M K k lv dp cl) : f6_fail S M = some (ph_wi M 63 2 (nI (pl k))) ∧ f12_faults K = some (ph_wi K 0 21 (nI (pl k))) ∧ rFa T M0 K0 (ph_wi M 63 2 (nI (pl k))) (ph_wi K 0 21 (nI (pl k))) := by
  have fi := rd_fine h
  obtain ⟨⟨e1, e2⟩, _, _, e4, e5, e6, _, e8⟩ := hE
  obtain ⟨⟨f0, f1⟩, ⟨g1, g2, g3⟩, ⟨g4, g5⟩, ⟨g6, g7⟩, ⟨g8, g9⟩, g10, g11⟩ := h
  obtain ⟨a, e, a1, a2, a3, a4, a5, a6, a7, a8, a9, _⟩ := e4 k g1
  have c65 : M.1 65 k = nI (pl k) := by rw [a3]; exact (f0.1 65 k (by omega) (by omega) (by omega)).trans a4
  have c11 : K.1 11 k = nI (pl k) := by rw [a3]; exact (f1.1 11 k (by omega)).trans a6
  refine ⟨?_, ?_, ⟨xF_G f0 (xG_w (xG_r M) (by omega)), kF_w f1 (by omega)⟩, pl k, k, cl, ⟨by omega, g1, by omega⟩, ⟨wi_s, wi_s⟩, by rw [wi_o (by omega)]; exact g6, by rw [wi_o (by omega)]; exact g11⟩
  · unfold f6_fail
    simp (disch := first | assumption | omega) only [q_lit, Int32.neg_neg, nI_add, pk_mul, q_sub, q_addn, q_nadd, q_lt, q_le, q_eq, q_eqn, q_neq, q_nen, q_ltn, q_nlt, q_len, q_nle, q_nltn, q_nlen, q_cl, q_ib, q_ibn, q_isz0, q_isz1, q_iszb, q_b0, q_b1, q_ng1, q_ng2, q_ng3, q_ng4, q_ng5, q_ng6, Bool.toNat_true, Bool.toNat_false, if_pos, if_neg, q_ct, q_cf, q_let, q_bd, q_it, q_if, Nat.zero_add, Nat.add_zero, true_and, and_true, false_and, and_false, or_false, false_or, or_true, true_or, Bool.true_eq_false, Bool.false_eq_true, wi_s, wi_o, wi_r, g4, g6, c65]
  · unfold f12_faults
    rw [fi]
    simp (disch := first | assumption | omega) only [q_lit, Int32.neg_neg, nI_add, pk_mul, q_sub, q_addn, q_nadd, q_lt, q_le, q_eq, q_eqn, q_neq, q_nen, q_ltn, q_nlt, q_len, q_nle, q_nltn, q_nlen, q_cl, q_ib, q_ibn, q_isz0, q_isz1, q_iszb, q_b0, q_b1, q_ng1, q_ng2, q_ng3, q_ng4, q_ng5, q_ng6, Bool.toNat_true, Bool.toNat_false, if_pos, if_neg, q_ct, q_cf, q_let, q_bd, q_it, q_if, Nat.zero_add, Nat.add_zero, true_and, and_true, false_and, and_false, or_false, false_or, or_true, true_or, Bool.true_eq_false, Bool.false_eq_true, wi_s, wi_o, wi_r, g7, c11]
/-- behind a fault the model does nothing -/
theorem kf_fine {K : ph_Mem} {p : Nat} (hp : p ≤ 400) (h : K.1 0 21 = nI p) : f12_fine K = some (nI 0) := by
  unfold f12_fine
  rw [h, if_neg (show ¬ nI p = (-1 : Int32) from fun q => by
    have := (q_eqn (a := p) (b := 1) (by omega) (by omega)).mp q
    omega)]
  rfl
theorem kf_take {K : ph_Mem} {p : Nat} {x : Int32} (hp : p ≤ 400) (h : K.1 0 21 = nI p) : f12_takes0 K x = some (nI 0, K) := by
  unfold f12_takes0 f12_takes0_j24 f12_takes0_j25
  rw [kf_fine hp h]
  simp (disch := first | assumption | omega) only [q_lit, Int32.neg_neg, nI_add, pk_mul, q_sub, q_addn, q_nadd, q_lt, q_le, q_eq, q_eqn, q_neq, q_nen, q_ltn, q_nlt, q_len, q_nle, q_nltn, q_nlen, q_cl, q_ib, q_ibn, q_isz0, q_isz1, q_iszb, q_b0, q_b1, q_ng1, q_ng2, q_ng3, q_ng4, q_ng5, q_ng6, Bool.toNat_true, Bool.toNat_false, if_pos, if_neg, q_ct, q_cf, q_let, q_bd, q_it, q_if, Nat.zero_add, Nat.add_zero, true_and, and_true, false_and, and_false, or_false, false_or, or_true, true_or, Bool.true_eq_false, Bool.false_eq_true, wi_s, wi_o, wi_r]
theorem kf_faults {K : ph_Mem} {p : Nat} (hp : p ≤ 400) (h : K.1 0 21 = nI p) : f12_faults K = some K := by
  unfold f12_faults
  rw [kf_fine hp h]
  simp (disch := first | assumption | omega) only [q_lit, Int32.neg_neg, nI_add, pk_mul, q_sub, q_addn, q_nadd, q_lt, q_le, q_eq, q_eqn, q_neq, q_nen, q_ltn, q_nlt, q_len, q_nle, q_nltn, q_nlen, q_cl, q_ib, q_ibn, q_isz0, q_isz1, q_iszb, q_b0, q_b1, q_ng1, q_ng2, q_ng3, q_ng4, q_ng5, q_ng6, Bool.toNat_true, Bool.toNat_false, if_pos, if_neg, q_ct, q_cf, q_let, q_bd, q_it, q_if, Nat.zero_add, Nat.add_zero, true_and, and_true, false_and, and_false, or_false, false_or, or_true, true_or, Bool.true_eq_false, Bool.false_eq_true, wi_s, wi_o, wi_r]
theorem kf_must {K : ph_Mem} {p : Nat} {x : Int32} (hp : p ≤ 400) (h : K.1 0 21 = nI p) : f12_must K x = some K := by
  unfold f12_must
  rw [kf_take hp h, q_bd, if_pos (by first | rfl | trivial | decide), kf_faults hp h]
  rfl
theorem kf_num {K : ph_Mem} {p : Nat} {x y : Int32} (hp : p ≤ 400) (h : K.1 0 21 = nI p) : f12_mustNumber K x y = some K := by
  unfold f12_mustNumber f12_mustNumber_j42
  rw [kf_fine hp h]
  simp (disch := first | assumption | omega) only [q_lit, Int32.neg_neg, nI_add, pk_mul, q_sub, q_addn, q_nadd, q_lt, q_le, q_eq, q_eqn, q_neq, q_nen, q_ltn, q_nlt, q_len, q_nle, q_nltn, q_nlen, q_cl, q_ib, q_ibn, q_isz0, q_isz1, q_iszb, q_b0, q_b1, q_ng1, q_ng2, q_ng3, q_ng4, q_ng5, q_ng6, Bool.toNat_true, Bool.toNat_false, if_pos, if_neg, q_ct, q_cf, q_let, q_bd, q_it, q_if, Nat.zero_add, Nat.add_zero, true_and, and_true, false_and, and_false, or_false, false_or, or_true, true_or, Bool.true_eq_false, Bool.false_eq_true, wi_s, wi_o, wi_r]
theorem kf_part {K : ph_Mem} {p : Nat} {x : Int32} {rs : ph_Mem → Int32 → Option ph_Mem} (hp : p ≤ 400) (h : K.1 0 21 = nI p) : f12_readPart rs K x = some K := by
  unfold f12_readPart
  rw [kf_fine hp h]
  simp (disch := first | assumption | omega) only [q_lit, Int32.neg_neg, nI_add, pk_mul, q_sub, q_addn, q_nadd, q_lt, q_le, q_eq, q_eqn, q_neq, q_nen, q_ltn, q_nlt, q_len, q_nle, q_nltn, q_nlen, q_cl, q_ib, q_ibn, q_isz0, q_isz1, q_iszb, q_b0, q_b1, q_ng1, q_ng2, q_ng3, q_ng4, q_ng5, q_ng6, Bool.toNat_true, Bool.toNat_false, if_pos, if_neg, q_ct, q_cf, q_let, q_bd, q_it, q_if, Nat.zero_add, Nat.add_zero, true_and, and_true, false_and, and_false, or_false, false_or, or_true, true_or, Bool.true_eq_false, Bool.false_eq_true, wi_s, wi_o, wi_r]
theorem kf_term {K : ph_Mem} {p : Nat} {x : Int32} {rs : ph_Mem → Int32 → Option ph_Mem} (hp : p ≤ 400) (h : K.1 0 21 = nI p) : (∀ f, f12_readTerm_l5 rs (f + 1) x K = some K) ∧ f12_readTerm rs K x = some K := by
  have l : ∀ f, f12_readTerm_l5 rs (f + 1) x K = some K := fun f => by
    unfold f12_readTerm_l5
    simp only [q_lit, m_sign, q_bd, kf_take hp h]
    rfl
  refine ⟨l, ?_⟩
  unfold f12_readTerm
  rw [kf_part hp h, q_bd]
  exact l 9999
theorem kf_sum {K : ph_Mem} {p : Nat} {x : Int32} {rs : ph_Mem → Int32 → Option ph_Mem} (hp : p ≤ 400) (h : K.1 0 21 = nI p) : (∀ f, f12_readSum_l5 rs (f + 1) x K = some K) ∧ f12_readSum_b rs K x = some K := by
  have l : ∀ f, f12_readSum_l5 rs (f + 1) x K = some K := fun f => by
    unfold f12_readSum_l5
    simp only [q_lit, m_sign, q_bd, kf_take hp h]
    rfl
  refine ⟨l, ?_⟩
  unfold f12_readSum_b
  rw [(kf_term hp h).2, q_bd]
  exact l 9999
/-- behind a fault the class goes on to the end -/
def xB (T : Nat) (M : ph_Mem) : Prop := ∃ p k, p ≤ 400 ∧ k ≤ T ∧ M.1 63 2 = nI p ∧ M.1 63 8 = nI k ∧ M.1 63 7 = nI T
theorem xf_2 {M : ph_Mem} {p : Nat} (hp : p ≤ 400) (h : M.1 63 2 = nI p) : M.1 63 2 ≠ -nI 1 := by
  rw [h]
  intro q
  have := (q_eqn (a := p) (b := 1) (by omega) (by omega)).mp q
  omega
theorem xf_says (hT : T ≤ 400) (h : xB T M) (s : Nat) : f6_says S M s = some (nI 0) := by
  obtain ⟨p, k, h1, h2, h3, h4, _⟩ := h
  exact x_saysF (by omega) h4 (xf_2 h1 h3)
theorem xf_fail (h : xB T M) : f6_fail S M = some M := by
  obtain ⟨p, k, h1, h2, h3, h4, _⟩ := h
  unfold f6_fail
  rw [if_neg (show ¬ M.1 63 2 = (-1 : Int32) from xf_2 h1 h3)]
theorem xf_adv (hT : T ≤ 400) (h : xB T M) : ∃ k, k ≤ T ∧ f6_advance S M = some (ph_wi M 63 8 (nI k)) ∧ xB T (ph_wi M 63 8 (nI k)) := by
  obtain ⟨p, k, h1, h2, h3, h4, h5⟩ := h
  refine ⟨min (k + 1) T, Nat.min_le_right _ _, ?_, p, _, h1, Nat.min_le_right _ _, by rw [wi_o (by omega)]; exact h3, wi_s, by rw [wi_o (by omega)]; exact h5⟩
  unfold f6_advance
  rw [h4, h5]
  simp only [q_lit]
  rw [nI_add, q_min (by omega) (by omega), q_bd, q_let]
theorem xf_add (h : xB T M) (x y : Int32) : f6_add S M x y = some M := by
  obtain ⟨p, k, h1, h2, h3, h4, _⟩ := h
  unfold f6_add
  rw [if_neg (show ¬ M.1 63 2 = (-1 : Int32) from xf_2 h1 h3)]
theorem xf_exp (hT : T ≤ 400) (h : xB T M) (s : Nat) : f6_expect S M s = some M := by
  unfold f6_expect
  rw [xf_says hT h, q_bd, if_pos (by first | rfl | trivial | decide), xf_fail h]
  rfl
theorem xf_isn (h : xB T M) : f6_isNumber S M = some (nI 0) := by
  obtain ⟨p, k, h1, h2, h3, h4, _⟩ := h
  unfold f6_isNumber
  rw [if_neg (show ¬ M.1 63 2 = (-1 : Int32) from xf_2 h1 h3)]
  rfl
theorem xf_num (hT : T ≤ 400) (h : xB T M) {a b : Nat} (hab : a < 2 ^ 30) : f6_readNumber S M (nI a) (nI b) = some (nI 0, M) := by
  have hf := xf_fail (S := S) h
  have hi := xf_isn (S := S) h
  obtain ⟨p, k, h1, h2, h3, h4, _⟩ := h
  have j71 : f6_readNumber_j71 S (nI a) (nI b) (-nI 1) M = some (nI 0, M) := by
    unfold f6_readNumber_j71 f6_readNumber_j81
    rw [if_pos (show -nI 1 < nI a by rw [q_nlt (by omega) (by omega)]; omega), hf, q_bd]
    rfl
  unfold f6_readNumber f6_readNumber_j12 f6_readNumber_l24
  simp only [q_lit]
  rw [hi, q_bd, if_pos (by first | rfl | trivial | decide), h4, q_ib (by omega) (show k < 401 by omega), q_ct, q_let, j71]
  by_cases q : M.1 66 (nI k).toNatClampNeg ≤ M.1 65 (nI k).toNatClampNeg
  · rw [q_ct, if_pos q]
  · rw [q_ct, if_neg q, if_pos (by first | rfl | trivial | decide)]
theorem xf_w9 (h : xB T M) (v : Int32) : xB T (ph_wi M 63 9 v) := by
  obtain ⟨p, k, h1, h2, h3, h4, h5⟩ := h
  exact ⟨p, k, h1, h2, by rw [wi_o (by omega)]; exact h3, by rw [wi_o (by omega)]; exact h4, by rw [wi_o (by omega)]; exact h5⟩
theorem xf_part (hT : T ≤ 400) (h : xB T M) {rs : ph_Mem → Option ph_Mem} : f6_readPart S rs M = some (ph_wi M 63 9 (M.1 63 9 + nI 1)) := by
  have h' := xf_w9 h (M.1 63 9 + nI 1)
  have sy := fun s => xf_says (S := S) hT h' s
  have w1 : f6_wordOfLaw S (ph_wi M 63 9 (M.1 63 9 + nI 1)) = some (-nI 1) := by
    unfold f6_wordOfLaw
    simp only [sy, q_bd]
    rfl
  have w2 : f6_wordOfOrders S (ph_wi M 63 9 (M.1 63 9 + nI 1)) = some (-nI 1) := by
    unfold f6_wordOfOrders
    simp only [sy, q_bd]
    rfl
  have j75 : f6_readPart_j75 S rs (nI 0) (-nI 1) (ph_wi M 63 9 (M.1 63 9 + nI 1)) = some (ph_wi M 63 9 (M.1 63 9 + nI 1)) := by
    unfold f6_readPart_j75 f6_readPart_j94
    rw [xf_fail h', q_bd]
    by_cases q : (50 : Int32) < (ph_wi M 63 9 (M.1 63 9 + nI 1)).1 63 9
    · rw [if_pos q]
    · rw [if_neg q, if_pos (by first | rfl | trivial | decide), if_pos (by first | rfl | trivial | decide)]
  unfold f6_readPart
  rw [xf_says hT h, q_bd, if_pos (by first | rfl | trivial | decide)]
  simp only [q_lit]
  rw [q_let, xf_isn h', q_bd, if_pos (by first | rfl | trivial | decide), w1, w2, q_bd, j75, ite_self]
theorem xf_term (hT : T ≤ 400) (h : xB T M) {rs : ph_Mem → Option ph_Mem} : (∀ f x, f6_readTerm_l6 S rs (f + 1) x M = some M) ∧ f6_readTerm S rs M = some (ph_wi M 63 9 (M.1 63 9 + nI 1)) := by
  have l : ∀ {M : ph_Mem}, xB T M → ∀ f x, f6_readTerm_l6 S rs (f + 1) x M = some M := fun {M} h f x => by
    unfold f6_readTerm_l6
    simp only [xf_says (S := S) hT h, q_bd]
    by_cases q : (400 : Int32) ≤ x
    · rw [if_pos q]
    · rw [if_neg q]; rfl
  refine ⟨l h, ?_⟩
  unfold f6_readTerm
  rw [xf_part hT h, q_bd]
  exact l (xf_w9 h _) 9999 _
theorem xf_sum (hT : T ≤ 400) (h : xB T M) {rs : ph_Mem → Option ph_Mem} : (∀ f x, f6_readSum_l6 S rs (f + 1) x M = some M) ∧ f6_readSum_b S rs M = some (ph_wi M 63 9 (M.1 63 9 + nI 1)) := by
  have l : ∀ {M : ph_Mem}, xB T M → ∀ f x, f6_readSum_l6 S rs (f + 1) x M = some M := fun {M} h f x => by
    unfold f6_readSum_l6
    simp only [xf_says (S := S) hT h, q_bd]
    by_cases q : (400 : Int32) ≤ x
    · rw [if_pos q]
    · rw [if_neg q]; rfl
  refine ⟨l h, ?_⟩
  unfold f6_readSum_b
  rw [(xf_term hT h).2, q_bd]
  exact l (xf_w9 h _) 9999 _
theorem rFa_B (hE : tkE o bs cd vl pl T m M0 K0) (h : rFa T M0 K0 M K) : xB T M := by
  obtain ⟨⟨f0, _⟩, p, k, cl, ⟨h1, h2, _⟩, ⟨h3, _⟩, h5, _⟩ := h
  exact ⟨p, k, h1, h2, h3, h5, (f0.1 63 7 (by omega) (by omega) (by omega)).trans hE.2.1.1⟩
/-- a faulted state, changed where it doesn't count -/
theorem rFa_G {M' : ph_Mem} (h : rFa T M0 K0 M K) (hG : xG M M') (h2 : M'.1 63 2 = M.1 63 2) (h8 : ∃ k, k ≤ T ∧ M'.1 63 8 = nI k) (h14 : M'.1 63 14 = M.1 63 14) : rFa T M0 K0 M' K := by
  obtain ⟨⟨f0, f1⟩, p, k, cl, ⟨h1, _, h4⟩, ⟨h5, h6⟩, _, h7⟩ := h
  obtain ⟨k', k1, k2⟩ := h8
  exact ⟨⟨xF_G f0 hG, f1⟩, p, k', cl, ⟨h1, k1, h4⟩, ⟨h2.trans h5, h6⟩, k2, h14.trans h7⟩
end RD
