/-! PURE HALF: the law's module: the model's walk over a text -/
theorem wi_wi {M : ph_Mem} {c k : Nat} {x y : Int32} : ph_wi (ph_wi M c k x) c k y = ph_wi M c k y := by
  unfold ph_wi ph_u2
  refine Prod.ext (funext fun d => funext fun j => ?_) rfl
  by_cases q1 : d = c <;> by_cases q2 : j = k <;> simp [q1, q2]
theorem wi_id {M : ph_Mem} {c k : Nat} {x : Int32} (h : M.1 c k = x) : ph_wi M c k x = M := by
  unfold ph_wi ph_u2
  refine Prod.ext (funext fun d => funext fun j => ?_) rfl
  by_cases q1 : d = c
  · by_cases q2 : j = k
    · subst q1 q2; simp [h]
    · simp [q1, q2]
  · simp [q1]
theorem wi_cm {M : ph_Mem} {c k d j : Nat} {x y : Int32} (h : c ≠ d) : ph_wi (ph_wi M c k x) d j y = ph_wi (ph_wi M d j y) c k x := by
  unfold ph_wi ph_u2
  refine Prod.ext (funext fun a => funext fun i => ?_) rfl
  by_cases q1 : a = c
  · subst q1
    simp [h]
  · simp [q1]
def mE (o : Bool) (K : ph_Mem) (r : lwE) : Prop :=
  if o = true then K.1 0 8 = nI 17 ∧ (∀ k, k < 3 → K.1 12 k = r k) ∧ ∃ n, n ≤ 6 ∧ K.1 2 475 = nI n ∧ (∀ p, p < n → q_fo (K.1 2) p ∧ r (3 + p) = K.1 2 (216 + p) ∧ r (9 + p) = nI (q_pc (q_bs (hP (K.1 2) p 0) 12) 12) ∧ r (15 + p) = nI (q_kn (K.1 2) p (hP (K.1 2) p 0) 12)) ∧ ∀ p, n ≤ p → p < 6 → r (3 + p) = -nI 1 ∧ r (9 + p) = -nI 1 ∧ r (15 + p) = -nI 1
  else K.1 0 8 = nI 8 ∧ ∀ k, k < 9 → K.1 12 k = r k
def mFr (o : Bool) (K K' : ph_Mem) : Prop := (∀ c j, c ≠ 15 → (c ≠ 0 ∨ (j ≠ 22 ∧ j ≠ 24)) → K'.1 c j = K.1 c j) ∧ K'.2 = K.2 ∧ (o = false → ∀ j, K'.1 15 j = K.1 15 j)
theorem mFr_r {o : Bool} (K : ph_Mem) : mFr o K K := ⟨fun _ _ _ _ => rfl, rfl, fun _ _ => rfl⟩
theorem mFr_t {o : Bool} {K K' K'' : ph_Mem} (h : mFr o K K') (h' : mFr o K' K'') : mFr o K K'' := ⟨fun c j q1 q2 => (h'.1 c j q1 q2).trans (h.1 c j q1 q2), h'.2.1.trans h.2.1, fun q j => (h'.2.2 q j).trans (h.2.2 q j)⟩
theorem mFr_w {o : Bool} {K K' : ph_Mem} {j : Nat} {v : Int32} (h : mFr o K K') (hj : j = 22 ∨ j = 24) : mFr o K (ph_wi K' 0 j v) := ⟨fun c i q1 q2 => (wi_o (by omega)).trans (h.1 c i q1 q2), h.2.1, fun q i => (wi_o (by omega)).trans (h.2.2 q i)⟩
theorem mE_fr {o : Bool} {K K' : ph_Mem} {r : lwE} (h : mE o K r) (hf : mFr o K K') : mE o K' r := by
  have e2 : K'.1 2 = K.1 2 := funext fun j => hf.1 2 j (by omega) (by omega)
  have e12 : ∀ k, K'.1 12 k = K.1 12 k := fun k => hf.1 12 k (by omega) (by omega)
  have e8 : K'.1 0 8 = K.1 0 8 := hf.1 0 8 (by omega) (by omega)
  unfold mE at h ⊢
  cases o
  · exact ⟨e8.trans h.1, fun k hk => (e12 k).trans (h.2 k hk)⟩
  · rw [if_pos rfl] at h ⊢
    rw [e2, e8]
    exact ⟨h.1, fun k hk => (e12 k).trans (h.2.1 k hk), h.2.2⟩
def txt (o : Bool) (cd vl : Nat → Nat) (T base : Nat) (K : ph_Mem) (r : lwE) : Prop := (base ≤ 2400 ∧ T ≤ 400 ∧ cd T = 0 ∧ ∀ k, cd k < 400 ∧ vl k < 2 ^ 30) ∧ (∀ k, k < T → K.1 2 (485 + base + k) = nI (cd k) ∧ K.1 2 (3285 + base + k) = nI (vl k)) ∧ K.1 0 23 = nI (base + T) ∧ mE o K r
theorem txt_fr {o : Bool} {cd vl : Nat → Nat} {T base : Nat} {K K' : ph_Mem} {r : lwE} (h : txt o cd vl T base K r) (hf : mFr o K K') : txt o cd vl T base K' r :=
  ⟨h.1, fun k hk => by rw [hf.1 2 _ (by omega) (by omega), hf.1 2 _ (by omega) (by omega)]; exact h.2.1 k hk, (hf.1 0 23 (by omega) (by omega)).trans h.2.2.1, mE_fr h.2.2.2 hf⟩
theorem m_code {o : Bool} {cd vl : Nat → Nat} {T base k : Nat} {K : ph_Mem} {r : lwE} (h : txt o cd vl T base K r) (hk : k ≤ T) : f12_codeAt K (nI (base + k)) = some (nI (cd k)) := by
  obtain ⟨⟨h1, h2, h3, h4⟩, h5, h6, _⟩ := h
  unfold f12_codeAt
  rw [h6]
  by_cases e : k = T
  · subst e
    rw [if_pos (Int32.le_refl _), h3]; rfl
  · rw [if_neg (by rw [q_le (by omega) (by omega)]; omega)]
    simp only [q_lit]
    rw [nI_add, q_ib (by omega) (by omega), q_ct, q_cl (by omega), show 485 + (base + k) = 485 + base + k by omega, (h5 k (by omega)).1]
theorem m_pass {o : Bool} {cd vl : Nat → Nat} {T base k x : Nat} {K : ph_Mem} {r : lwE} (h : txt o cd vl T base K r) (hk : k ≤ T) (hx : x < 400) (hg : K.1 0 22 = nI (base + k)) : f12_passes0 K (nI x) = if cd k = x then some (nI 1, ph_wi K 0 22 (nI (base + (k + 1)))) else some (nI 0, K) := by
  have hc := (h.1.2.2.2 k).1
  have h1 := h.1.1
  have h2 := h.1.2.1
  unfold f12_passes0 f12_passes0_j17
  rw [hg, m_code h hk, q_bd]
  simp only [q_lit]
  by_cases e : cd k = x
  · rw [if_pos (by rw [e]), if_pos e, if_neg (by decide), q_let, q_isz1, q_ct, nI_add]; rfl
  · rw [if_neg (by rw [q_eq (by omega) (by omega)]; exact e), if_neg e, if_pos trivial, q_isz0, q_ct]
/-- how an answer is right, as it is live and not broken -/
def mR {β : Type} (lv bk bk' : Bool) (v : β) (G : Option β) : Prop := ((lv = true ∧ bk = false) → (G = none → bk' = true) ∧ ∀ x, G = some x → v = x ∧ bk' = false) ∧ (¬ (lv = true ∧ bk = false) → bk' = bk)
def mS (o : Bool) (cd vl : Nat → Nat) (T : Nat) (f : ph_Mem → Int32 → Option (Int64 × ph_Mem)) (i j : Nat) (F : lwS) : Prop := i < j ∧ j ≤ T ∧ ∀ (K : ph_Mem) (r : lwE) (base : Nat) (lv bk : Bool), txt o cd vl T base K r → K.1 0 22 = nI (base + i) → K.1 0 24 = nI bk.toNat → ∃ (v : Int64) (K' : ph_Mem) (bk' : Bool), f K (nI lv.toNat) = some (v, K') ∧ K'.1 0 22 = nI (base + j) ∧ K'.1 0 24 = nI bk'.toNat ∧ mFr o K K' ∧ mR lv bk bk' v (F r)
def mB (o : Bool) (cd vl : Nat → Nat) (T : Nat) (f : ph_Mem → Int32 → Option (Int32 × ph_Mem)) (i j : Nat) (F : lwT) : Prop := i < j ∧ j ≤ T ∧ ∀ (K : ph_Mem) (r : lwE) (base : Nat) (lv bk : Bool), txt o cd vl T base K r → K.1 0 22 = nI (base + i) → K.1 0 24 = nI bk.toNat → ∃ (v : Bool) (K' : ph_Mem) (bk' : Bool), f K (nI lv.toNat) = some (nI v.toNat, K') ∧ K'.1 0 22 = nI (base + j) ∧ K'.1 0 24 = nI bk'.toNat ∧ mFr o K K' ∧ mR lv bk bk' v (F r)
theorem m_sign {K : ph_Mem} {n : Nat} : f12_sign K (nI n) = some (nI (100 + n)) := by
  unfold f12_sign
  simp only [q_lit]
  rw [nI_add]
/-- a sum in brackets -/
theorem mS_br {o : Bool} {cd vl : Nat → Nat} {T : Nat} {rs : ph_Mem → Int32 → Option (Int64 × ph_Mem)} {i j : Nat} {F : lwS} (h : mS o cd vl T rs (i + 1) j F) (hc : cd i = 191) (hj : j < T) : mS o cd vl T (f12_partOf rs) i (j + 1) F := by
  have h1 := h.1
  refine ⟨by omega, by omega, fun K r base lv bk ht hg hb => ?_⟩
  have t1 := ht.1.1
  have t2 := ht.1.2.1
  have fr0 : mFr o K (ph_wi K 0 22 (nI (base + (i + 1)))) := mFr_w (mFr_r K) (Or.inl rfl)
  obtain ⟨v, K', bk', x1, x2, x3, x4, x5⟩ := h.2.2 (ph_wi K 0 22 (nI (base + (i + 1)))) r base lv bk (txt_fr ht fr0) wi_s (by rw [wi_o (by omega)]; exact hb)
  refine ⟨v, ph_wi K' 0 22 (nI (base + (j + 1))), bk', ?_, wi_s, by rw [wi_o (by omega)]; exact x3, mFr_w (mFr_t fr0 x4) (Or.inl rfl), x5⟩
  unfold f12_partOf
  simp only [q_lit]
  rw [m_sign, q_bd, m_pass ht (by omega) (by omega) hg, if_pos hc, q_bd, if_neg (fun q => absurd (show nI 1 = nI 0 from q) (by decide)), x1, q_bd, q_let, x2, nI_add]
  rfl
/-- a leaf whose value is read off; its tokens are i to j -/
theorem mS_leaf {o : Bool} {cd vl : Nat → Nat} {T : Nat} {rs : ph_Mem → Int32 → Option (Int64 × ph_Mem)} {i j a b : Nat} {F : lwS} (hi : i < T) (hij : i < j) (hj : j ≤ T) (hc : cd i ≠ 191) (h20 : cd i < 20 → j = i + 1) (h22 : 22 < cd i → j = i + 1) (h2021 : cd i = 20 ∨ cd i = 21 → j = i + 2 ∧ a = vl (i + 1)) (h2222 : cd i = 22 → j = i + 3 ∧ a = vl (i + 1) ∧ b = vl (i + 2)) (h0 : cd i < 20 ∨ 22 < cd i → a = 0) (hb0 : cd i ≠ 22 → b = 0)
    (hv : ∀ (K : ph_Mem) (r : lwE) (base : Nat), txt o cd vl T base K r → K.1 0 22 = nI (base + j) → K.1 0 24 = nI 0 → ∃ v K', f12_partOf_j121 rs (nI 1) (nI (cd i)) (nI a) (nI b) K = some (v, K') ∧ F r = some v ∧ mFr o K K' ∧ K'.1 0 22 = nI (base + j) ∧ K'.1 0 24 = nI 0) : mS o cd vl T (f12_partOf rs) i j F := by
  refine ⟨hij, hj, fun K r base lv bk ht hg hb => ?_⟩
  have t1 := ht.1.1
  have t2 := ht.1.2.1
  have t4 := ht.1.2.2.2
  have tc := (t4 i).1
  generalize eK1 : ph_wi K 0 22 (nI (base + j)) = K1
  have f1 : mFr o K K1 := by rw [← eK1]; exact mFr_w (mFr_r K) (Or.inl rfl)
  have g1 : K1.1 0 22 = nI (base + j) := by rw [← eK1]; exact wi_s
  have b1 : K1.1 0 24 = nI bk.toNat := by rw [← eK1, wi_o (by omega)]; exact hb
  have pre : f12_partOf rs K (nI lv.toNat) = f12_partOf_j121 rs (nI lv.toNat) (nI (cd i)) (nI a) (nI b) K1 := by
    have pp : f12_passes0 K (nI 191) = some (nI 0, K) := by rw [m_pass ht (by omega) (by omega) hg, if_neg hc]
    have cc := m_code ht (show i ≤ T by omega)
    have va : ∀ k, k < T → K.1 2 (3285 + (base + k)) = nI (vl k) := fun k hk => by rw [show 3285 + (base + k) = 3285 + base + k by omega]; exact (ht.2.1 k hk).2
    unfold f12_partOf f12_partOf_j90
    by_cases c1 : cd i < 20
    · simp (disch := first | assumption | omega) only [q_lit, Int32.neg_neg, nI_add, pk_mul, q_sub, q_addn, q_nadd, q_lt, q_le, q_eq, q_eqn, q_neq, q_nen, q_ltn, q_nlt, q_len, q_nle, q_nltn, q_nlen, q_cl, q_ib, q_ibn, q_isz0, q_isz1, q_iszb, q_b0, q_b1, q_ng1, q_ng2, q_ng3, q_ng4, q_ng5, q_ng6, Bool.toNat_true, Bool.toNat_false, if_pos, if_neg, q_ct, q_cf, q_let, q_bd, q_it, q_if, Nat.zero_add, Nat.add_zero, true_and, and_true, false_and, and_false, or_false, false_or, or_true, true_or, Bool.true_eq_false, Bool.false_eq_true, wi_s, wi_o, wi_r, m_sign, pp, hg, cc]
      rw [← eK1, h20 c1, h0 (Or.inl c1), hb0 (by omega)]; rfl
    · by_cases c2 : 22 < cd i
      · simp (disch := first | assumption | omega) only [q_lit, Int32.neg_neg, nI_add, pk_mul, q_sub, q_addn, q_nadd, q_lt, q_le, q_eq, q_eqn, q_neq, q_nen, q_ltn, q_nlt, q_len, q_nle, q_nltn, q_nlen, q_cl, q_ib, q_ibn, q_isz0, q_isz1, q_iszb, q_b0, q_b1, q_ng1, q_ng2, q_ng3, q_ng4, q_ng5, q_ng6, Bool.toNat_true, Bool.toNat_false, if_pos, if_neg, q_ct, q_cf, q_let, q_bd, q_it, q_if, Nat.zero_add, Nat.add_zero, true_and, and_true, false_and, and_false, or_false, false_or, or_true, true_or, Bool.true_eq_false, Bool.false_eq_true, wi_s, wi_o, wi_r, m_sign, pp, hg, cc]
        rw [← eK1, h22 c2, h0 (Or.inr c2), hb0 (by omega)]; rfl
      · by_cases c3 : cd i = 22
        · obtain ⟨z1, z2, z3⟩ := h2222 c3
          have v1 : K.1 2 (3285 + (base + i + 1)) = nI (vl (i + 1)) := va (i + 1) (by omega)
          have v2 : K.1 2 (3285 + (base + i + 1 + 1)) = nI (vl (i + 2)) := va (i + 2) (by omega)
          simp (disch := first | assumption | omega) only [q_lit, Int32.neg_neg, nI_add, pk_mul, q_sub, q_addn, q_nadd, q_lt, q_le, q_eq, q_eqn, q_neq, q_nen, q_ltn, q_nlt, q_len, q_nle, q_nltn, q_nlen, q_cl, q_ib, q_ibn, q_isz0, q_isz1, q_iszb, q_b0, q_b1, q_ng1, q_ng2, q_ng3, q_ng4, q_ng5, q_ng6, Bool.toNat_true, Bool.toNat_false, if_pos, if_neg, q_ct, q_cf, q_let, q_bd, q_it, q_if, Nat.zero_add, Nat.add_zero, true_and, and_true, false_and, and_false, or_false, false_or, or_true, true_or, Bool.true_eq_false, Bool.false_eq_true, wi_s, wi_o, wi_r, m_sign, pp, hg, cc, v1, v2, wi_wi]
          rw [← eK1, z1, z2, z3]; rfl
        · obtain ⟨z1, z2⟩ := h2021 (by omega)
          have v1 : K.1 2 (3285 + (base + i + 1)) = nI (vl (i + 1)) := va (i + 1) (by omega)
          simp (disch := first | assumption | omega) only [q_lit, Int32.neg_neg, nI_add, pk_mul, q_sub, q_addn, q_nadd, q_lt, q_le, q_eq, q_eqn, q_neq, q_nen, q_ltn, q_nlt, q_len, q_nle, q_nltn, q_nlen, q_cl, q_ib, q_ibn, q_isz0, q_isz1, q_iszb, q_b0, q_b1, q_ng1, q_ng2, q_ng3, q_ng4, q_ng5, q_ng6, Bool.toNat_true, Bool.toNat_false, if_pos, if_neg, q_ct, q_cf, q_let, q_bd, q_it, q_if, Nat.zero_add, Nat.add_zero, true_and, and_true, false_and, and_false, or_false, false_or, or_true, true_or, Bool.true_eq_false, Bool.false_eq_true, wi_s, wi_o, wi_r, m_sign, pp, hg, cc, v1, wi_wi]
          rw [← eK1, z1, z2, hb0 c3]; rfl
  rw [pre]
  by_cases hl : lv = true ∧ bk = false
  · obtain ⟨rfl, rfl⟩ := hl
    obtain ⟨v, K', x1, x2, x3, x4, x5⟩ := hv K1 r base (txt_fr ht f1) g1 b1
    exact ⟨v, K', false, x1, x4, x5, mFr_t f1 x3, fun _ => ⟨fun q => by rw [x2] at q; exact absurd q (by simp), fun x q => by rw [x2] at q; injection q with q; exact ⟨q, rfl⟩⟩, fun q => absurd ⟨rfl, rfl⟩ q⟩
  · refine ⟨0, K1, bk, ?_, g1, b1, f1, fun q => absurd q hl, fun _ => rfl⟩
    unfold f12_partOf_j121
    simp only [q_lit]
    cases lv
    · rw [if_pos (by decide)]
    · cases bk
      · exact absurd ⟨rfl, rfl⟩ hl
      · rw [if_neg (by decide), b1, if_neg (by decide)]
theorem mS_num {o : Bool} {cd vl : Nat → Nat} {T : Nat} {rs : ph_Mem → Int32 → Option (Int64 × ph_Mem)} {i : Nat} (hi : i < T) (hc : cd i = 50) : mS o cd vl T (f12_partOf rs) i (i + 1) (fun _ => some (nI (vl i)).toInt64) := by
  refine mS_leaf (a := 0) (b := 0) hi (by omega) hi (by omega) (fun q => rfl) (fun q => rfl) (fun q => absurd q (by omega)) (fun q => absurd q (by omega)) (fun _ => rfl) (fun _ => rfl) (fun K r base ht hg hb => ⟨_, K, ?_, rfl, mFr_r K, hg, hb⟩)
  have t1 := ht.1.1
  have t2 := ht.1.2.1
  unfold f12_partOf_j121
  simp only [q_lit]
  rw [if_neg (by decide), hb, if_pos rfl, hc, if_pos rfl, hg, nI_add, q_sub (by omega), q_ib (by omega) (by omega), q_ct, q_cl (by omega), show 3285 + (base + (i + 1)) - 1 = 3285 + base + i by omega, (ht.2.1 i hi).2]
theorem mS_word {o : Bool} {cd vl : Nat → Nat} {T : Nat} {rs : ph_Mem → Int32 → Option (Int64 × ph_Mem)} {i w : Nat} (hi : i < T) (hc : cd i = (if o = true then 17 else 8) + w) (hw : w < (if o = true then 3 else 9)) : mS o cd vl T (f12_partOf rs) i (i + 1) (fun r => some (r w).toInt64) := by
  have c20 : cd i < 20 := by cases o <;> simp at hc hw <;> omega
  refine mS_leaf (a := 0) (b := 0) hi (by omega) hi (by omega) (fun q => rfl) (fun q => rfl) (fun q => absurd q (by omega)) (fun q => absurd q (by omega)) (fun _ => rfl) (fun _ => rfl) (fun K r base ht hg hb => ⟨_, K, ?_, rfl, mFr_r K, hg, hb⟩)
  have hE := ht.2.2.2
  unfold mE at hE
  have e8 : K.1 0 8 = nI (if o = true then 17 else 8) ∧ K.1 12 w = r w := by
    cases o
    · exact ⟨hE.1, hE.2 w (by simpa using hw)⟩
    · rw [if_pos rfl] at hE
      exact ⟨hE.1, hE.2.1 w (by simpa using hw)⟩
  have w9 : w < 9 := by cases o <;> simp at hw <;> omega
  unfold f12_partOf_j121
  simp only [q_lit]
  rw [if_neg (by decide), hb, if_pos rfl, if_neg (by rw [q_eq (by omega) (by omega)]; omega), if_neg (by rw [q_le (by omega) (by omega)]; omega), e8.1, hc]
  generalize (if o = true then 17 else 8) = z at *
  rw [q_sub (by omega), Nat.add_sub_cancel_left, q_ib (by omega) w9, q_ct, q_cl (by omega), e8.2]
/-- purse, held, knows -/
theorem mS_pers {cd vl : Nat → Nat} {T : Nat} {rs : ph_Mem → Int32 → Option (Int64 × ph_Mem)} {i p : Nat} (hi : i + 1 < T) (hp : vl (i + 1) = p) (p6 : p < 6) : (cd i = 20 → mS true cd vl T (f12_partOf rs) i (i + 2) (fun r => some (r (3 + p)).toInt64)) ∧ (cd i = 21 → mS true cd vl T (f12_partOf rs) i (i + 2) (fun r => some (r (9 + p)).toInt64)) ∧ ∀ f, i + 2 < T → vl (i + 2) = f → f < 8 → cd i = 22 → mS true cd vl T (f12_partOf rs) i (i + 3) (lw_kn p f) := by
  have m1 : (-nI 1).toInt64 = -1 := by decide
  refine ⟨fun hc => ?_, fun hc => ?_, fun f hi2 hf f8 hc => ?_⟩
  · refine mS_leaf (a := p) (b := 0) (by omega) (by omega) (by omega) (by omega) (fun q => absurd q (by omega)) (fun q => absurd q (by omega)) (fun q => ⟨rfl, hp.symm⟩) (fun q => absurd q (by omega)) (fun q => absurd q (by omega)) (fun _ => rfl) (fun K r base ht hg hb => ⟨_, K, ?_, rfl, mFr_r K, hg, hb⟩)
    have hE := ht.2.2.2
    unfold mE at hE
    rw [if_pos rfl] at hE
    obtain ⟨e1, e2, n, n6, e3, e4, e5⟩ := hE
    unfold f12_partOf_j121
    simp only [q_lit]
    rw [if_neg (by decide), hb, if_pos rfl, hc, if_neg (by decide), if_pos (by decide), m_pers e3 n6 (by omega), q_bd]
    by_cases hpn : p < n
    · rw [decide_eq_true hpn, if_neg (by decide), if_pos rfl, nI_add, q_ib (by omega) (by omega), q_ct, q_cl (by omega), (e4 p hpn).2.1]
    · rw [decide_eq_false hpn, if_pos (by decide), (e5 p (by omega) p6).1, m1]
  · refine mS_leaf (a := p) (b := 0) (by omega) (by omega) (by omega) (by omega) (fun q => absurd q (by omega)) (fun q => absurd q (by omega)) (fun q => ⟨rfl, hp.symm⟩) (fun q => absurd q (by omega)) (fun q => absurd q (by omega)) (fun _ => rfl) (fun K r base ht hg hb => ⟨_, K, ?_, rfl, mFr_r K, hg, hb⟩)
    have hE := ht.2.2.2
    unfold mE at hE
    rw [if_pos rfl] at hE
    obtain ⟨e1, e2, n, n6, e3, e4, e5⟩ := hE
    unfold f12_partOf_j121
    simp only [q_lit]
    rw [if_neg (by decide), hb, if_pos rfl, hc, if_neg (by decide), if_pos (by decide), m_pers e3 n6 (by omega), q_bd]
    have := q_bs12 (hP (K.1 2) p 0)
    by_cases hpn : p < n
    · rw [decide_eq_true hpn, if_neg (by decide), if_neg (by decide), if_pos rfl, m_hrs p6, q_bd, m_ones (by omega), q_bd, (e4 p hpn).2.2.1]
    · rw [decide_eq_false hpn, if_pos (by decide), (e5 p (by omega) p6).2.1, m1]
  · refine mS_leaf (a := p) (b := f) (by omega) (by omega) (by omega) (by omega) (fun q => absurd q (by omega)) (fun q => absurd q (by omega)) (fun q => absurd q (by omega)) (fun q => ⟨rfl, hp.symm, hf.symm⟩) (fun q => absurd q (by omega)) (fun q => absurd hc q) (fun K r base ht hg hb => ?_)
    have hE := ht.2.2.2
    unfold mE at hE
    rw [if_pos rfl] at hE
    obtain ⟨e1, e2, n, n6, e3, e4, e5⟩ := hE
    unfold f12_partOf_j121
    simp only [q_lit]
    rw [if_neg (by decide), hb, if_pos rfl, hc, if_neg (by decide), if_pos (by decide), m_pers e3 n6 (by omega), q_bd]
    by_cases hpn : p < n
    · obtain ⟨g1, _, _, g4⟩ := e4 p hpn
      obtain ⟨K', k1, k2, k3, k4⟩ := m_kn0 p6 g1
      have kl := q_kn_lt (H := hP (K.1 2) p 0) g1 12 (by omega)
      rw [decide_eq_true hpn, if_neg (by decide), if_neg (by decide), if_neg (by decide), m_hrs p6, q_bd, k1, q_bd]
      refine ⟨_, K', rfl, ?_, ⟨fun c j q1 q2 => k3 c j (by omega), k4, fun q => nomatch q⟩, by rw [k3 0 22 (by omega)]; exact hg, by rw [k3 0 24 (by omega)]; exact hb⟩
      unfold lw_kn
      rw [g4, if_neg (by rw [q_eqn (by omega) (by omega)]; omega)]
    · rw [decide_eq_false hpn, if_pos (by decide)]
      refine ⟨_, K, rfl, ?_, mFr_r K, hg, hb⟩
      unfold lw_kn
      rw [(e5 p (by omega) p6).2.2, if_pos rfl, m1]
