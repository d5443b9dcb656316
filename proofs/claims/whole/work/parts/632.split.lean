/-! PURE HALF: the law's module: both split a text alike -/
def tkP (bs : Nat → Nat) (m : Nat) (M K : ph_Mem) (t : Nat) : Prop := ∃ a e c v : Nat, a < e ∧ e ≤ m ∧ M.1 65 t = nI a ∧ M.1 66 t = nI e ∧ K.1 11 t = nI a ∧ K.1 9 t = nI c ∧ K.1 10 t = nI v ∧ (((∀ j, a ≤ j → j < e → kb (bs j) = 0) ∧ M.1 67 t = nI 0 ∧ c = wOf bs a e ∧ v = 0) ∨ ((∀ j, a ≤ j → j < e → kb (bs j) = 1) ∧ M.1 67 t = nI 1 ∧ c = 50 ∧ v = nFo bs a (e - a) 0) ∨ (kb (bs a) = 2 ∧ e = a + 1 ∧ M.1 67 t = nI 2 ∧ c = 100 + bs a ∧ v = 0))
theorem tkP_fr {bs : Nat → Nat} {m : Nat} {M K M' K' : ph_Mem} {t : Nat} (h : tkP bs m M K t) (h1 : M'.1 65 t = M.1 65 t) (h2 : M'.1 66 t = M.1 66 t) (h3 : M'.1 67 t = M.1 67 t) (h4 : K'.1 9 t = K.1 9 t) (h5 : K'.1 10 t = K.1 10 t) (h6 : K'.1 11 t = K.1 11 t) : tkP bs m M' K' t := by
  unfold tkP at h ⊢
  rw [h1, h2, h3, h4, h5, h6]
  exact h
theorem run_ex {p : Nat → Prop} [DecidablePred p] {m : Nat} : ∀ (r k : Nat), k + r = m → ∃ e, k ≤ e ∧ e ≤ m ∧ (∀ j, k ≤ j → j < e → p j) ∧ (e < m → ¬ p e)
  | 0, k, h => ⟨k, Nat.le_refl _, by omega, fun j q1 q2 => absurd q2 (by omega), fun q => absurd q (by omega)⟩
  | r + 1, k, h => by
    by_cases hp : p k
    · obtain ⟨e, e1, e2, e3, e4⟩ := run_ex (p := p) (m := m) r (k + 1) (by omega)
      exact ⟨e, by omega, e2, fun j q1 q2 => by
        by_cases ej : j = k
        · subst ej; exact hp
        · exact e3 j (by omega) q2, e4⟩
    · exact ⟨k, Nat.le_refl _, by omega, fun j q1 q2 => absurd q2 (by omega), fun _ => hp⟩
/-- the class: a token begins -/
def xT1 (M : ph_Mem) (t a kd e : Nat) : ph_Mem := ph_wi (ph_wi (ph_wi (ph_wi M 65 t (nI a)) 67 t (nI kd)) 63 7 (nI (t + 1))) 66 t (nI e)
theorem x_tok1 {S : ph_Sh} {M : ph_Mem} {bs : Nat → Nat} {m a t bf f : Nat} (hm : m ≤ 400) (ha : a < m) (ht : t ≤ a) (hb : bs a < 256) (hbf : bf < 3) (h1 : M.1 63 1 = nI m) (h7 : M.1 63 7 = nI t) (h64 : M.1 64 a = nI (bs a)) (h32 : bs a ≠ 32) (hk : kb (bs a) = 2 ∨ kb (bs a) ≠ bf) : f6_findTokens_l14 S (f + 1) (nI bf) (nI a) M = f6_findTokens_l14 S f (nI (kb (bs a))) (nI (a + 1)) (xT1 M t a (kb (bs a)) (a + 1)) := by
  have k3 : kb (bs a) < 3 := by unfold kb; split <;> (try split) <;> omega
  have e53 : f6_findTokens_j53 S (f6_findTokens_l14 S f) (nI a) (nI (kb (bs a))) M = f6_findTokens_l14 S f (nI (kb (bs a))) (nI (a + 1)) (xT1 M t a (kb (bs a)) (a + 1)) := by
    unfold f6_findTokens_j53 f6_findTokens_j83 f6_findTokens_j108 xT1
    generalize kb (bs a) = kd
    simp only [q_lit]
    rw [h7, q_ib (by omega) (by omega), q_ct, q_let, q_cl (by omega), wi_o (by omega), h7, q_ib (by omega) (by omega), q_ct, q_let, q_cl (by omega), wi_o (by omega), wi_o (by omega), h7, nI_add, q_let, q_ib (by omega) (show a < 400 by omega), q_ct, q_cl (by omega), wi_o (by omega), wi_o (by omega), wi_o (by omega), h64, if_neg (by rw [q_eq (by omega) (by omega)]; exact h32), wi_s, q_sub (by omega), Nat.add_sub_cancel, q_ib (by omega) (by omega), q_ct, q_let, q_cl (by omega), nI_add]
  conv => lhs; unfold f6_findTokens_l14
  simp only [q_lit]
  rw [h1, if_neg (by rw [q_le (by omega) (by omega)]; omega), q_ib (by omega) (show a < 400 by omega), q_ct, q_cl (by omega), h64, x_kb hb, q_bd, q_ct, if_neg (by rw [q_eq (by omega) (by omega)]; exact h32), e53]
  by_cases k2 : kb (bs a) = 2
  · rw [if_pos (by rw [k2])]
  · rw [if_neg (by rw [q_eq (by omega) (by omega)]; exact k2), if_neg (by rw [q_eq (by omega) (by omega)]; omega)]
theorem x_run {S : ph_Sh} {bs : Nat → Nat} {m t kd e : Nat} (hm : m ≤ 400) (he : e ≤ m) (hkd : kd < 2) (hb : ∀ j, j < m → bs j < 256) : ∀ (r j f : Nat) (M : ph_Mem), j + r = e → t < j → M.1 63 1 = nI m → M.1 63 7 = nI (t + 1) → M.1 66 t = nI j → (∀ i, i < m → M.1 64 i = nI (bs i)) → (∀ i, j ≤ i → i < e → kb (bs i) = kd) → f6_findTokens_l14 S (f + r) (nI kd) (nI j) M = f6_findTokens_l14 S f (nI kd) (nI e) (ph_wi M 66 t (nI e))
  | 0, j, f, M, ej, _, _, _, h66, _, _ => by
    have : j = e := by omega
    subst this
    rw [wi_id h66]
    rfl
  | r + 1, j, f, M, ej, tj, h1, h7, h66, h64, hk => by
    have kj := hk j (by omega) (by omega)
    have bj := hb j (by omega)
    have n32 : bs j ≠ 32 := fun q => by
      rw [q] at kj
      have : kb 32 = 2 := by decide
      omega
    have ih := x_run (S := S) (t := t) hm he hkd hb r (j + 1) f (ph_wi M 66 t (nI (j + 1))) (by omega) (by omega) (by rw [wi_o (by omega)]; exact h1) (by rw [wi_o (by omega)]; exact h7) wi_s (fun i hi => by rw [wi_o (by omega)]; exact h64 i hi) (fun i q1 q2 => hk i (by omega) q2)
    rw [wi_wi] at ih
    rw [← ih]
    show f6_findTokens_l14 S ((f + r) + 1) (nI kd) (nI j) M = _
    conv => lhs; unfold f6_findTokens_l14
    unfold f6_findTokens_j83 f6_findTokens_j108
    simp only [q_lit]
    rw [h1, if_neg (by rw [q_le (by omega) (by omega)]; omega), q_ib (by omega) (show j < 400 by omega), q_ct, q_cl (by omega), h64 j (by omega), x_kb bj, q_bd, q_ct, if_neg (by rw [q_eq (by omega) (by omega)]; exact n32), kj, if_neg (by rw [q_eq (by omega) (by omega)]; omega), if_pos (by first | rfl | trivial | decide), q_ct, if_neg (by rw [q_eq (by omega) (by omega)]; exact n32), h7, q_sub (by omega), Nat.add_sub_cancel, q_ib (by omega) (by omega), q_ct, q_let, q_cl (by omega), nI_add]
theorem x_sp {S : ph_Sh} {M : ph_Mem} {bs : Nat → Nat} {m a bf f : Nat} (hm : m ≤ 400) (ha : a < m) (h1 : M.1 63 1 = nI m) (h64 : M.1 64 a = nI (bs a)) (h32 : bs a = 32) : f6_findTokens_l14 S (f + 1) (nI bf) (nI a) M = f6_findTokens_l14 S f (nI 2) (nI (a + 1)) M := by
  conv => lhs; unfold f6_findTokens_l14
  unfold f6_findTokens_j83 f6_findTokens_j108
  simp only [q_lit]
  rw [h1, if_neg (by rw [q_le (by omega) (by omega)]; omega), q_ib (by omega) (show a < 400 by omega), q_ct, q_cl (by omega), h64, x_kb (by omega), q_bd, q_ct, h32, if_pos (by first | rfl | trivial | decide), if_pos (by first | rfl | trivial | decide), nI_add]
  rfl
/-- the model: runs -/
theorem m_runL {rc : Int32 → Int32 → ph_Mem → Option ph_Mem} {K : ph_Mem} {bs : Nat → Nat} {m e : Nat} {x2 x3 : Int32} (hm : m ≤ 400) (he : e ≤ m) (hb : ∀ j, j < m → bs j < 256) (h7 : ∀ j, j < m → K.1 7 j = sb8 (bs j)) (hx : e < m → kb (bs e) ≠ 0) : ∀ (r j f : Nat), j + r = e → r < f → (∀ i, j ≤ i → i < e → kb (bs i) = 0) → f12_splits_l43 rc f (nI m) x2 x3 (nI j) K = f12_splits_j68 rc (nI m) x2 x3 (nI e) K
  | r, j, 0, _, h, _ => absurd h (by omega)
  | 0, j, f + 1, ej, _, _ => by
    have : j = e := by omega
    subst this
    unfold f12_splits_l43
    by_cases q : j = m
    · subst q
      rw [if_pos (Int32.le_refl _)]
    · have bj := hb j (by omega)
      rw [if_neg (by rw [q_le (by omega) (by omega)]; omega), q_ib (by omega) (show j < 400 by omega), q_ct, q_cl (by omega), h7 j (by omega), m_small bj, q_bd, decide_eq_false (hx (by omega)), if_pos (by first | rfl | trivial | decide)]
  | r + 1, j, f + 1, ej, hf, hk => by
    have bj := hb j (by omega)
    have ih := m_runL (rc := rc) (x2 := x2) (x3 := x3) hm he hb h7 hx r (j + 1) f (by omega) (by omega) (fun i q1 q2 => hk i (by omega) q2)
    rw [← ih]
    conv => lhs; unfold f12_splits_l43
    simp only [q_lit]
    rw [if_neg (by rw [q_le (by omega) (by omega)]; omega), q_ib (by omega) (show j < 400 by omega), q_ct, q_cl (by omega), h7 j (by omega), m_small bj, q_bd, decide_eq_true (hk j (by omega) (by omega)), if_neg (by first | decide | exact fun q => absurd (show nI 1 = nI 0 from q) (by decide)), nI_add]
theorem m_runD {rc : Int32 → Int32 → ph_Mem → Option ph_Mem} {K : ph_Mem} {bs : Nat → Nat} {m e : Nat} {x2 x3 : Int32} (hm : m ≤ 400) (he : e ≤ m) (hb : ∀ j, j < m → bs j < 256) (h7 : ∀ j, j < m → K.1 7 j = sb8 (bs j)) (hx : e < m → kb (bs e) ≠ 1) : ∀ (r j f : Nat), j + r = e → r < f → (∀ i, j ≤ i → i < e → kb (bs i) = 1) → f12_splits_l75 rc f (nI m) x2 x3 (nI j) K = f12_splits_j100 rc (nI m) x2 x3 (nI e) K
  | r, j, 0, _, h, _ => absurd h (by omega)
  | 0, j, f + 1, ej, _, _ => by
    have : j = e := by omega
    subst this
    unfold f12_splits_l75
    by_cases q : j = m
    · subst q
      rw [if_pos (Int32.le_refl _)]
    · have bj := hb j (by omega)
      rw [if_neg (by rw [q_le (by omega) (by omega)]; omega), q_ib (by omega) (show j < 400 by omega), q_ct, q_cl (by omega), h7 j (by omega), m_digit bj, q_bd, decide_eq_false (hx (by omega)), if_pos (by first | rfl | trivial | decide)]
  | r + 1, j, f + 1, ej, hf, hk => by
    have bj := hb j (by omega)
    have ih := m_runD (rc := rc) (x2 := x2) (x3 := x3) hm he hb h7 hx r (j + 1) f (by omega) (by omega) (fun i q1 q2 => hk i (by omega) q2)
    rw [← ih]
    conv => lhs; unfold f12_splits_l75
    simp only [q_lit]
    rw [if_neg (by rw [q_le (by omega) (by omega)]; omega), q_ib (by omega) (show j < 400 by omega), q_ct, q_cl (by omega), h7 j (by omega), m_digit bj, q_bd, decide_eq_true (hk j (by omega) (by omega)), if_neg (by first | decide | exact fun q => absurd (show nI 1 = nI 0 from q) (by decide)), nI_add]
/-- the model: a token is laid down -/
def mT1 (K : ph_Mem) (t a c v : Nat) : ph_Mem := ph_wi (ph_wi (ph_wi (ph_wi K 11 t (nI a)) 10 t (nI v)) 9 t (nI c)) 0 18 (nI (t + 1))
theorem m_num_l {rc : Int32 → Int32 → ph_Mem → Option ph_Mem} {bs : Nat → Nat} {m t e b : Nat} (ht : t ≤ 400) (he : e ≤ m) (hm : m ≤ 400) (hb : kb b = 1) (hb2 : b < 256) : ∀ (r j v f : Nat) (K : ph_Mem), j + r = e → r < f → v ≤ 20000000 → K.1 0 18 = nI t → K.1 10 t = nI v → (∀ i, i < m → K.1 7 i = sb8 (bs i)) → (∀ i, j ≤ i → i < e → kb (bs i) = 1) → f12_splits_l169 rc f (nI m) (sb8 b) (nI e) (nI j) K = f12_splits_j247 rc (nI m) (nI e) (ph_wi K 10 t (nI (nFo bs j r v)))
  | r, j, v, 0, K, _, h, _, _, _, _, _ => absurd h (by omega)
  | 0, j, v, f + 1, K, ej, _, _, h18, h10, _, _ => by
    have : j = e := by omega
    subst this
    unfold f12_splits_l169
    rw [if_pos (Int32.le_refl _), nFo, wi_id h10]
  | r + 1, j, v, f + 1, K, ej, hf, hv, h18, h10, h7, hk => by
    have kj := hk j (by omega) (by omega)
    obtain ⟨b1, b2⟩ := kb_1 kj
    have vs := nSt_le hv b2
    have ih := m_num_l (rc := rc) ht he hm hb hb2 r (j + 1) (nSt v (bs j)) f (ph_wi K 10 t (nI (nSt v (bs j)))) (by omega) (by omega) vs (by rw [wi_o (by omega)]; exact h18) wi_s (fun i hi => by rw [wi_o (by omega)]; exact h7 i hi) (fun i q1 q2 => hk i (by omega) q2)
    rw [wi_wi] at ih
    rw [nFo, ← ih]
    conv => lhs; unfold f12_splits_l169
    unfold f12_splits_j240
    simp only [q_lit]
    rw [if_neg (by rw [q_le (by omega) (by omega)]; omega), m_digit hb2, q_bd, decide_eq_true hb, if_neg (by first | decide | exact fun q => absurd (show nI 1 = nI 0 from q) (by decide)), h18, q_ib (by omega) (by omega), q_ct, q_cl (by omega), h10]
    unfold nSt
    by_cases hv2 : v ≤ 1000000
    · rw [if_pos (by rw [q_le (by omega) (by omega)]; exact hv2), if_pos hv2, q_ct, q_ib (by omega) (show j < 400 by omega), q_ct, q_cl (by omega), h7 j (by omega), sb8_lt _ (by omega), pk_mul, nI_add, q_sub (by omega), q_let, nI_add, show 10 * v + bs j - 48 = 10 * v + (bs j - 48) by omega]
      rfl
    · rw [if_neg (by rw [q_le (by omega) (by omega)]; exact hv2), if_neg hv2, q_ct, q_let, nI_add]
      rfl
theorem m_lay {rc : Int32 → Int32 → ph_Mem → Option ph_Mem} {K : ph_Mem} {m t a e b c : Nat} (hm : m ≤ 400) (ht : t ≤ 400) (hae : a < e) (he : e ≤ m) (h18 : K.1 0 18 = nI t) (hb : b < 256) (hk : kb b ≠ 1) (hc : f12_splits_j100 rc (nI m) (nI a) (sb8 b) (nI e) K = f12_splits_j165 rc (nI m) (nI a) (sb8 b) (nI e) (nI c) (nI t) (ph_wi (ph_wi K 11 t (nI a)) 10 t (nI 0))) : f12_splits_j100 rc (nI m) (nI a) (sb8 b) (nI e) K = rc (nI m) (nI e) (mT1 K t a c 0) := by
  rw [hc]
  unfold f12_splits_j165 f12_splits_l169 f12_splits_j247 mT1
  simp only [q_lit]
  rw [q_ib (by omega) (by omega), q_ct, q_let, if_neg (by rw [q_le (by omega) (by omega)]; omega), m_digit hb, q_bd, decide_eq_false hk, if_pos (by first | rfl | trivial | decide), q_let, q_cl (by omega), wi_o (by omega), wi_o (by omega), wi_o (by omega), h18, nI_add]
theorem m_tokL {K : ph_Mem} {bs : Nat → Nat} {m t a e f : Nat} (hm : m ≤ 400) (ht : t ≤ a) (hae : a < e) (he : e ≤ m) (hb : ∀ j, j < m → bs j < 256) (h18 : K.1 0 18 = nI t) (h7 : ∀ j, j < m → K.1 7 j = sb8 (bs j)) (h6 : ∀ j, j < 137 → K.1 6 j = rWords j) (hk : ∀ j, a ≤ j → j < e → kb (bs j) = 0) (hx : e < m → kb (bs e) ≠ 0) : f12_splits_l7 (f + 1) (nI m) (nI a) K = f12_splits_l7 f (nI m) (nI e) (mT1 K t a (wOf bs a e) 0) := by
  have ba := hb a (by omega)
  have ka := hk a (Nat.le_refl _) hae
  obtain ⟨z1, z2⟩ := kb_0 ka
  have wd : f12_wordOf (ph_wi (ph_wi K 11 t (nI a)) 10 t (nI 0)) (nI a) (nI e) = some (nI (wOf bs a e)) := m_word (fun j hj => by rw [wi_o (by omega), wi_o (by omega)]; exact h6 j hj) (by omega) (by omega) (fun j q1 q2 => by
    obtain ⟨z1, z2⟩ := kb_0 (hk j q1 q2)
    rw [wi_o (by omega), wi_o (by omega), h7 j (by omega), sb8_lt _ (by omega)]
    exact ⟨rfl, by omega⟩)
  conv => lhs; unfold f12_splits_l7
  simp only [q_lit]
  rw [if_neg (by rw [q_le (by omega) (by omega)]; omega), q_ib (by omega) (show a < 400 by omega), q_ct, q_cl (by omega), h7 a (by omega), if_neg (by rw [sb8_sp _ ba]; omega), m_small ba, q_bd, decide_eq_true ka, if_neg (by first | decide | exact fun q => absurd (show nI 1 = nI 0 from q) (by decide)), nI_add, m_runL hm he hb h7 hx (e - (a + 1)) (a + 1) 10000 (by omega) (by omega) (fun i q1 q2 => hk i (by omega) q2)]
  have j68 : f12_splits_j68 (f12_splits_l7 f) (nI m) (nI a) (sb8 (bs a)) (nI e) K = f12_splits_j100 (f12_splits_l7 f) (nI m) (nI a) (sb8 (bs a)) (nI e) K := by
    unfold f12_splits_j68
    rw [m_digit ba, q_bd, decide_eq_false (by omega), if_pos (by first | rfl | trivial | decide)]
  rw [j68]
  refine m_lay hm (by omega) hae he h18 ba (by omega) ?_
  conv => lhs; unfold f12_splits_j100
  simp only [q_lit]
  rw [h18, q_ib (by omega) (by omega), q_ct, q_let, q_cl (by omega), wi_o (by omega), h18, q_ib (by omega) (by omega), q_ct, q_let, q_cl (by omega), m_small ba, q_bd, decide_eq_true ka, if_neg (by first | decide | exact fun q => absurd (show nI 1 = nI 0 from q) (by decide)), wd, q_bd, wi_o (by omega), wi_o (by omega), h18]
theorem m_tokS {K : ph_Mem} {bs : Nat → Nat} {m t a f : Nat} (hm : m ≤ 400) (ht : t ≤ a) (ha : a < m) (hb : ∀ j, j < m → bs j < 256) (h18 : K.1 0 18 = nI t) (h7 : ∀ j, j < m → K.1 7 j = sb8 (bs j)) (hk : kb (bs a) = 2) (h32 : bs a ≠ 32) : f12_splits_l7 (f + 1) (nI m) (nI a) K = f12_splits_l7 f (nI m) (nI (a + 1)) (mT1 K t a (100 + bs a) 0) := by
  have ba := hb a (by omega)
  conv => lhs; unfold f12_splits_l7
  simp only [q_lit]
  rw [if_neg (by rw [q_le (by omega) (by omega)]; omega), q_ib (by omega) (show a < 400 by omega), q_ct, q_cl (by omega), h7 a (by omega), if_neg (by rw [sb8_sp _ ba]; omega), m_small ba, q_bd, decide_eq_false (by omega), if_pos (by first | rfl | trivial | decide), nI_add]
  have j68 : f12_splits_j68 (f12_splits_l7 f) (nI m) (nI a) (sb8 (bs a)) (nI (a + 1)) K = f12_splits_j100 (f12_splits_l7 f) (nI m) (nI a) (sb8 (bs a)) (nI (a + 1)) K := by
    unfold f12_splits_j68
    rw [m_digit ba, q_bd, decide_eq_false (by omega), if_pos (by first | rfl | trivial | decide)]
  rw [j68]
  refine m_lay hm (by omega) (by omega) (by omega) h18 ba (by omega) ?_
  conv => lhs; unfold f12_splits_j100
  simp only [q_lit]
  rw [h18, q_ib (by omega) (by omega), q_ct, q_let, q_cl (by omega), wi_o (by omega), h18, q_ib (by omega) (by omega), q_ct, q_let, q_cl (by omega), m_small ba, q_bd, decide_eq_false (by omega), if_pos (by first | rfl | trivial | decide), m_digit ba, q_bd, decide_eq_false (by omega), if_pos (by first | rfl | trivial | decide), wi_o (by omega), wi_o (by omega), h18, sb8_255 _ ba]
theorem m_tokD {K : ph_Mem} {bs : Nat → Nat} {m t a e f : Nat} (hm : m ≤ 400) (ht : t ≤ a) (hae : a < e) (he : e ≤ m) (hb : ∀ j, j < m → bs j < 256) (h18 : K.1 0 18 = nI t) (h7 : ∀ j, j < m → K.1 7 j = sb8 (bs j)) (hk : ∀ j, a ≤ j → j < e → kb (bs j) = 1) (hx : e < m → kb (bs e) ≠ 1) : f12_splits_l7 (f + 1) (nI m) (nI a) K = f12_splits_l7 f (nI m) (nI e) (mT1 K t a 50 (nFo bs a (e - a) 0)) := by
  have ba := hb a (by omega)
  have ka := hk a (Nat.le_refl _) hae
  obtain ⟨z1, z2⟩ := kb_1 ka
  conv => lhs; unfold f12_splits_l7
  simp only [q_lit]
  rw [if_neg (by rw [q_le (by omega) (by omega)]; omega), q_ib (by omega) (show a < 400 by omega), q_ct, q_cl (by omega), h7 a (by omega), if_neg (by rw [sb8_sp _ ba]; omega), m_small ba, q_bd, decide_eq_false (by omega), if_pos (by first | rfl | trivial | decide), nI_add]
  have j68 : f12_splits_j68 (f12_splits_l7 f) (nI m) (nI a) (sb8 (bs a)) (nI (a + 1)) K = f12_splits_j100 (f12_splits_l7 f) (nI m) (nI a) (sb8 (bs a)) (nI e) K := by
    unfold f12_splits_j68
    rw [m_digit ba, q_bd, decide_eq_true ka, if_neg (by first | decide | exact fun q => absurd (show nI 1 = nI 0 from q) (by decide)), m_runD hm he hb h7 hx (e - (a + 1)) (a + 1) 10000 (by omega) (by omega) (fun i q1 q2 => hk i (by omega) q2)]
  have nl := m_num_l (rc := f12_splits_l7 f) (bs := bs) (t := t) (b := bs a) (by omega) he hm ka ba (e - a) a 0 10000 (ph_wi (ph_wi (ph_wi K 11 t (nI a)) 10 t (nI 0)) 9 t (nI 50)) (by omega) (by omega) (by omega) (by rw [wi_o (by omega), wi_o (by omega), wi_o (by omega)]; exact h18) (by rw [wi_o (by omega), wi_s]) (fun i hi => by rw [wi_o (by omega), wi_o (by omega), wi_o (by omega)]; exact h7 i hi) hk
  rw [j68]
  conv => lhs; unfold f12_splits_j100
  unfold f12_splits_j165
  simp only [q_lit]
  rw [h18, q_ib (by omega) (by omega), q_ct, q_let, q_cl (by omega), wi_o (by omega), h18, q_ib (by omega) (by omega), q_ct, q_let, q_cl (by omega), m_small ba, q_bd, decide_eq_false (by omega), if_pos (by first | rfl | trivial | decide), m_digit ba, q_bd, decide_eq_true ka, if_neg (by first | decide | exact fun q => absurd (show nI 1 = nI 0 from q) (by decide)), wi_o (by omega), wi_o (by omega), h18, q_ib (by omega) (by omega), q_ct, q_let, q_cl (by omega), nl]
  unfold f12_splits_j247 mT1
  simp only [q_lit]
  rw [q_let, wi_o (by omega), wi_o (by omega), wi_o (by omega), wi_o (by omega), h18, nI_add, wi_cm (c := 9) (d := 10) (by omega), wi_wi]
theorem m_tokB {K : ph_Mem} {bs : Nat → Nat} {m a f : Nat} (hm : m ≤ 400) (ha : a < m) (h7 : ∀ j, j < m → K.1 7 j = sb8 (bs j)) (h32 : bs a = 32) : f12_splits_l7 (f + 1) (nI m) (nI a) K = f12_splits_l7 f (nI m) (nI (a + 1)) K := by
  conv => lhs; unfold f12_splits_l7
  simp only [q_lit]
  rw [if_neg (by rw [q_le (by omega) (by omega)]; omega), q_ib (by omega) (show a < 400 by omega), q_ct, q_cl (by omega), h7 a (by omega), h32, if_pos (by first | rfl | trivial | decide), nI_add]
theorem tk_1 {bs : Nat → Nat} {m : Nat} {M K : ph_Mem} {t a e kd c v : Nat} (h : ∀ i, i < t → tkP bs m M K i) (hae : a < e) (he : e ≤ m) (hd : ((∀ j, a ≤ j → j < e → kb (bs j) = 0) ∧ kd = 0 ∧ c = wOf bs a e ∧ v = 0) ∨ ((∀ j, a ≤ j → j < e → kb (bs j) = 1) ∧ kd = 1 ∧ c = 50 ∧ v = nFo bs a (e - a) 0) ∨ (kb (bs a) = 2 ∧ e = a + 1 ∧ kd = 2 ∧ c = 100 + bs a ∧ v = 0)) : ∀ i, i < t + 1 → tkP bs m (xT1 M t a kd e) (mT1 K t a c v) i := by
  intro i hi
  unfold xT1 mT1
  by_cases e0 : i = t
  · subst e0
    have h67 : (ph_wi (ph_wi (ph_wi (ph_wi M 65 i (nI a)) 67 i (nI kd)) 63 7 (nI (i + 1))) 66 i (nI e)).1 67 i = nI kd := by rw [wi_o (by omega), wi_o (by omega), wi_s]
    refine ⟨a, e, c, v, hae, he, by rw [wi_o (by omega), wi_o (by omega), wi_o (by omega), wi_s], wi_s, by rw [wi_o (by omega), wi_o (by omega), wi_o (by omega), wi_s], by rw [wi_o (by omega), wi_s], by rw [wi_o (by omega), wi_o (by omega), wi_s], ?_⟩
    rw [h67]
    rcases hd with ⟨p1, p2, p3, p4⟩ | ⟨p1, p2, p3, p4⟩ | ⟨p0, p1, p2, p3, p4⟩
    · exact Or.inl ⟨p1, by rw [p2], p3, p4⟩
    · exact Or.inr (Or.inl ⟨p1, by rw [p2], p3, p4⟩)
    · exact Or.inr (Or.inr ⟨p0, p1, by rw [p2], p3, p4⟩)
  · refine tkP_fr (h i (by omega)) ?_ ?_ ?_ ?_ ?_ ?_ <;> rw [wi_o (by omega), wi_o (by omega), wi_o (by omega), wi_o (by omega)]
theorem tk_l {S : ph_Sh} {bs : Nat → Nat} {m : Nat} (hm : m ≤ 400) (hb : ∀ j, j < m → bs j < 256) : ∀ (r k t bf fx fk : Nat) (M K : ph_Mem), k + r = m → r < fx → r < fk → t ≤ k → bf < 3 → (k < m → kb (bs k) = 2 ∨ kb (bs k) ≠ bf) → M.1 63 1 = nI m → M.1 63 7 = nI t → K.1 0 18 = nI t → (∀ i, i < m → M.1 64 i = nI (bs i)) → (∀ i, i < m → K.1 7 i = sb8 (bs i)) → (∀ j, j < 137 → K.1 6 j = rWords j) → (∀ i, i < t → tkP bs m M K i) → ∃ M' K' T, f6_findTokens_l14 S fx (nI bf) (nI k) M = some M' ∧ f12_splits_l7 fk (nI m) (nI k) K = some K' ∧ T ≤ m ∧ M'.1 63 7 = nI T ∧ K'.1 0 18 = nI T ∧ (∀ i, i < T → tkP bs m M' K' i) ∧ M'.1 65 T = nI m ∧ M'.1 66 T = nI m ∧ M'.1 67 T = nI 2 ∧ K'.1 11 T = nI m ∧ K'.1 9 T = nI 0 ∧ K'.1 10 T = nI 0 ∧ (∀ c j, c ≠ 65 → c ≠ 66 → c ≠ 67 → (c ≠ 63 ∨ j ≠ 7) → M'.1 c j = M.1 c j) ∧ M'.2 = M.2 ∧ (∀ c j, c ≠ 9 → c ≠ 10 → c ≠ 11 → (c ≠ 0 ∨ j ≠ 18) → K'.1 c j = K.1 c j) ∧ K'.2 = K.2 := by
  intro r
  induction r using Nat.strongRecOn with
  | ind r ih =>
    intro k t bf fx fk M K ek hfx hfk htk hbf hbd h1 h7 h18 h64 hk7 h6 hT
    obtain ⟨fx, rfl⟩ : ∃ z, fx = z + 1 := ⟨fx - 1, by omega⟩
    obtain ⟨fk, rfl⟩ : ∃ z, fk = z + 1 := ⟨fk - 1, by omega⟩
    by_cases k0 : k = m
    · subst k0
      refine ⟨ph_wi (ph_wi (ph_wi M 65 t (nI k)) 66 t (nI k)) 67 t (nI 2), ph_wi (ph_wi (ph_wi K 11 t (nI k)) 9 t (nI 0)) 10 t (nI 0), t, ?_, ?_, htk, ?_, ?_, fun i hi => ?_, ?_, ?_, ?_, ?_, ?_, ?_, fun c j q1 q2 q3 q4 => ?_, rfl, fun c j q1 q2 q3 q4 => ?_, rfl⟩
      · unfold f6_findTokens_l14 f6_findTokens_j116
        simp only [q_lit]
        rw [h1, if_pos (Int32.le_refl _)]
        simp (disch := first | assumption | omega) only [q_lit, Int32.neg_neg, nI_add, pk_mul, q_sub, q_addn, q_nadd, q_lt, q_le, q_eq, q_eqn, q_neq, q_nen, q_ltn, q_nlt, q_len, q_nle, q_nltn, q_nlen, q_cl, q_ib, q_ibn, q_isz0, q_isz1, q_iszb, q_b0, q_b1, q_ng1, q_ng2, q_ng3, q_ng4, q_ng5, q_ng6, Bool.toNat_true, Bool.toNat_false, if_pos, if_neg, q_ct, q_cf, q_let, q_bd, q_it, q_if, Nat.zero_add, Nat.add_zero, true_and, and_true, false_and, and_false, or_false, false_or, or_true, true_or, Bool.true_eq_false, Bool.false_eq_true, wi_s, wi_o, wi_r, h1, h7]
      · unfold f12_splits_l7 f12_splits_j263
        simp only [q_lit]
        rw [if_pos (Int32.le_refl _)]
        simp (disch := first | assumption | omega) only [q_lit, Int32.neg_neg, nI_add, pk_mul, q_sub, q_addn, q_nadd, q_lt, q_le, q_eq, q_eqn, q_neq, q_nen, q_ltn, q_nlt, q_len, q_nle, q_nltn, q_nlen, q_cl, q_ib, q_ibn, q_isz0, q_isz1, q_iszb, q_b0, q_b1, q_ng1, q_ng2, q_ng3, q_ng4, q_ng5, q_ng6, Bool.toNat_true, Bool.toNat_false, if_pos, if_neg, q_ct, q_cf, q_let, q_bd, q_it, q_if, Nat.zero_add, Nat.add_zero, true_and, and_true, false_and, and_false, or_false, false_or, or_true, true_or, Bool.true_eq_false, Bool.false_eq_true, wi_s, wi_o, wi_r, h18]
      · rw [wi_o (by omega), wi_o (by omega), wi_o (by omega)]; exact h7
      · rw [wi_o (by omega), wi_o (by omega), wi_o (by omega)]; exact h18
      · refine tkP_fr (hT i hi) ?_ ?_ ?_ ?_ ?_ ?_ <;> rw [wi_o (by omega), wi_o (by omega), wi_o (by omega)]
      · rw [wi_o (by omega), wi_o (by omega), wi_s]
      · rw [wi_o (by omega), wi_s]
      · rw [wi_s]
      · rw [wi_o (by omega), wi_o (by omega), wi_s]
      · rw [wi_o (by omega), wi_s]
      · rw [wi_s]
      · rw [wi_o (by omega), wi_o (by omega), wi_o (by omega)]
      · rw [wi_o (by omega), wi_o (by omega), wi_o (by omega)]
    · have km : k < m := by omega
      -- a token was read by both
      have step : ∀ (e kd c v fx' : Nat), k < e → e ≤ m → kd < 3 → (e < m → kb (bs e) = 2 ∨ kb (bs e) ≠ kd) → m - e < fx' → (((∀ j, k ≤ j → j < e → kb (bs j) = 0) ∧ kd = 0 ∧ c = wOf bs k e ∧ v = 0) ∨ ((∀ j, k ≤ j → j < e → kb (bs j) = 1) ∧ kd = 1 ∧ c = 50 ∧ v = nFo bs k (e - k) 0) ∨ (kb (bs k) = 2 ∧ e = k + 1 ∧ kd = 2 ∧ c = 100 + bs k ∧ v = 0)) → f6_findTokens_l14 S (fx + 1) (nI bf) (nI k) M = f6_findTokens_l14 S fx' (nI kd) (nI e) (xT1 M t k kd e) → f12_splits_l7 (fk + 1) (nI m) (nI k) K = f12_splits_l7 fk (nI m) (nI e) (mT1 K t k c v) → ∃ M' K' T, f6_findTokens_l14 S (fx + 1) (nI bf) (nI k) M = some M' ∧ f12_splits_l7 (fk + 1) (nI m) (nI k) K = some K' ∧ T ≤ m ∧ M'.1 63 7 = nI T ∧ K'.1 0 18 = nI T ∧ (∀ i, i < T → tkP bs m M' K' i) ∧ M'.1 65 T = nI m ∧ M'.1 66 T = nI m ∧ M'.1 67 T = nI 2 ∧ K'.1 11 T = nI m ∧ K'.1 9 T = nI 0 ∧ K'.1 10 T = nI 0 ∧ (∀ c j, c ≠ 65 → c ≠ 66 → c ≠ 67 → (c ≠ 63 ∨ j ≠ 7) → M'.1 c j = M.1 c j) ∧ M'.2 = M.2 ∧ (∀ c j, c ≠ 9 → c ≠ 10 → c ≠ 11 → (c ≠ 0 ∨ j ≠ 18) → K'.1 c j = K.1 c j) ∧ K'.2 = K.2 := by
        intro e kd c v fx' e1 e2 e3 e4 e5 e6 e7 e8
        have t1 := tk_1 (kd := kd) (c := c) (v := v) hT e1 e2 e6
        have xo : ∀ c j, c ≠ 65 → c ≠ 66 → c ≠ 67 → (c ≠ 63 ∨ j ≠ 7) → (xT1 M t k kd e).1 c j = M.1 c j := fun c j q1 q2 q3 q4 => by unfold xT1; rw [wi_o (by omega), wi_o (by omega), wi_o (by omega), wi_o (by omega)]
        have ko : ∀ d j, d ≠ 9 → d ≠ 10 → d ≠ 11 → (d ≠ 0 ∨ j ≠ 18) → (mT1 K t k c v).1 d j = K.1 d j := fun d j q1 q2 q3 q4 => by unfold mT1; rw [wi_o (by omega), wi_o (by omega), wi_o (by omega), wi_o (by omega)]
        obtain ⟨M', K', T, g1, g2, g3, g4, g5, g6, g7, g8, g9, g10, g11, g12, g13, g14, g15, g16⟩ := ih (m - e) (by omega) e (t + 1) kd fx' fk (xT1 M t k kd e) (mT1 K t k c v) (by omega) e5 (by omega) (by omega) e3 e4 ((xo 63 1 (by omega) (by omega) (by omega) (by omega)).trans h1) (by unfold xT1; rw [wi_o (by omega), wi_s]) (by unfold mT1; rw [wi_s]) (fun i hi => (xo 64 i (by omega) (by omega) (by omega) (by omega)).trans (h64 i hi)) (fun i hi => (ko 7 i (by omega) (by omega) (by omega) (by omega)).trans (hk7 i hi)) (fun j hj => (ko 6 j (by omega) (by omega) (by omega) (by omega)).trans (h6 j hj)) t1
        exact ⟨M', K', T, e7.trans g1, e8.trans g2, g3, g4, g5, g6, g7, g8, g9, g10, g11, g12, fun c j q1 q2 q3 q4 => (g13 c j q1 q2 q3 q4).trans (xo c j q1 q2 q3 q4), g14, fun d j q1 q2 q3 q4 => (g15 d j q1 q2 q3 q4).trans (ko d j q1 q2 q3 q4), g16⟩
      have bk := hb k km
      by_cases h32 : bs k = 32
      · obtain ⟨M', K', T, g1, g2, g3⟩ := ih (r - 1) (by omega) (k + 1) t 2 fx fk M K (by omega) (by omega) (by omega) (by omega) (by omega) (fun _ => Decidable.em _) h1 h7 h18 h64 hk7 h6 hT
        exact ⟨M', K', T, (x_sp hm km h1 (h64 k km) h32).trans g1, (m_tokB hm km hk7 h32).trans g2, g3⟩
      · have x1 := x_tok1 (S := S) (f := fx) hm km htk bk hbf h1 h7 (h64 k km) h32 (hbd km)
        have runX : ∀ (e kd : Nat), kb (bs k) = kd → kd < 2 → k + 1 ≤ e → e ≤ m → (∀ j, k + 1 ≤ j → j < e → kb (bs j) = kd) → f6_findTokens_l14 S (fx + 1) (nI bf) (nI k) M = f6_findTokens_l14 S (fx - (e - (k + 1))) (nI kd) (nI e) (xT1 M t k kd e) := by
          intro e kd q1 q2 q3 q4 q5
          rw [x1, q1]
          have := x_run (S := S) (bs := bs) (t := t) (kd := kd) (e := e) hm q4 q2 hb (e - (k + 1)) (k + 1) (fx - (e - (k + 1))) (xT1 M t k kd (k + 1)) (by omega) (by omega) (by unfold xT1; rw [wi_o (by omega), wi_o (by omega), wi_o (by omega), wi_o (by omega)]; exact h1) (by unfold xT1; rw [wi_o (by omega), wi_s]) (by unfold xT1; rw [wi_s]) (fun i hi => by unfold xT1; rw [wi_o (by omega), wi_o (by omega), wi_o (by omega), wi_o (by omega)]; exact h64 i hi) q5
          rw [show fx - (e - (k + 1)) + (e - (k + 1)) = fx by omega] at this
          rw [this]
          unfold xT1
          rw [wi_wi]
        by_cases k2 : kb (bs k) = 2
        · rw [k2] at x1
          exact step (k + 1) 2 (100 + bs k) 0 fx (by omega) (by omega) (by omega) (fun _ => Decidable.em _) (by omega) (Or.inr (Or.inr ⟨k2, rfl, rfl, rfl, rfl⟩)) x1 (m_tokS hm htk km hb h18 hk7 k2 h32)
        · by_cases k1 : kb (bs k) = 1
          · obtain ⟨e, e1, e2, e3, e4⟩ := run_ex (p := fun j => kb (bs j) = 1) (m := m) (m - (k + 1)) (k + 1) (by omega)
            have al : ∀ j, k ≤ j → j < e → kb (bs j) = 1 := fun j q1 q2 => by
              by_cases ej : j = k
              · subst ej; exact k1
              · exact e3 j (by omega) q2
            exact step e 1 50 (nFo bs k (e - k) 0) (fx - (e - (k + 1))) (by omega) e2 (by omega) (fun q => Or.inr (e4 q)) (by omega) (Or.inr (Or.inl ⟨al, rfl, rfl, rfl⟩)) (runX e 1 k1 (by omega) e1 e2 e3) (m_tokD hm htk (by omega) e2 hb h18 hk7 al e4)
          · have k3 : kb (bs k) < 3 := by unfold kb; split <;> (try split) <;> omega
            have k0' : kb (bs k) = 0 := by omega
            obtain ⟨e, e1, e2, e3, e4⟩ := run_ex (p := fun j => kb (bs j) = 0) (m := m) (m - (k + 1)) (k + 1) (by omega)
            have al : ∀ j, k ≤ j → j < e → kb (bs j) = 0 := fun j q1 q2 => by
              by_cases ej : j = k
              · subst ej; exact k0'
              · exact e3 j (by omega) q2
            exact step e 0 (wOf bs k e) 0 (fx - (e - (k + 1))) (by omega) e2 (by omega) (fun q => Or.inr (e4 q)) (by omega) (Or.inl ⟨al, rfl, rfl, rfl⟩) (runX e 0 k0' (by omega) e1 e2 e3) (m_tokL hm htk (by omega) e2 hb h18 hk7 h6 al e4)
