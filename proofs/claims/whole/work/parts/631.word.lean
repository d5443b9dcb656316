/-! PURE HALF: the law's module: the model's words, numbers of both -/
def spb : Nat → List (List Nat) → Bool
  | k, [] => decide (k = 137)
  | k, l :: ls => (List.range l.length).all (fun i => decide (rWords (k + i) = nI (l.getD i 0)) && (decide (l.getD i 0 ≠ 32) && decide (l.getD i 0 < 128))) && (decide (rWords (k + l.length) = nI 32) && (decide (k + l.length < 137) && spb (k + l.length + 1) ls))
theorem spb0 : spb 0 wdL = true := by decide +kernel
theorem m_wo18 {K : ph_Mem} {rc : Int32 → Int32 → Int32 → Int32 → Option Int32} {x1 x2 x3 : Int32} {k : Nat} {l : List Nat} (hk : k + l.length < 137) (h1 : ∀ i, i < l.length → K.1 6 (k + i) = nI (l.getD i 0) ∧ l.getD i 0 ≠ 32 ∧ l.getD i 0 < 128) (h2 : K.1 6 (k + l.length) = nI 32) : ∀ (r i f : Nat), i + r = l.length → r < f → f12_wordOf_l18 K rc f x1 x2 x3 (nI k) (nI i) = f12_wordOf_j39 K rc x1 x2 x3 (nI k) (nI l.length)
  | r, i, 0, _, h => absurd h (by omega)
  | 0, i, f + 1, e, _ => by
    have : i = l.length := by omega
    subst this
    unfold f12_wordOf_l18
    simp only [q_lit]
    rw [nI_add, q_ib (by omega) (by omega), q_ct, q_cl (by omega), h2, if_pos (by first | rfl | trivial | decide)]
  | r + 1, i, f + 1, e, hf => by
    obtain ⟨a1, a2, a3⟩ := h1 i (by omega)
    have ih := m_wo18 (rc := rc) (x1 := x1) (x2 := x2) (x3 := x3) hk h1 h2 r (i + 1) f (by omega) (by omega)
    rw [← ih]
    conv => lhs; unfold f12_wordOf_l18
    simp only [q_lit]
    rw [nI_add, q_ib (by omega) (by omega), q_ct, q_cl (by omega), a1, if_neg (by rw [q_eq (by omega) (by omega)]; exact a2), nI_add]
theorem m_wo57 {K : ph_Mem} {rc : Int32 → Int32 → Int32 → Int32 → Option Int32} {x2 x3 : Int32} {a k : Nat} {l : List Nat} {bs : Nat → Nat} (hk : k + l.length < 137) (ha : a + l.length ≤ 400) (h1 : ∀ i, i < l.length → K.1 6 (k + i) = nI (l.getD i 0) ∧ l.getD i 0 ≠ 32 ∧ l.getD i 0 < 128) (h7 : ∀ i, i < l.length → K.1 7 (a + i) = nI (bs (a + i)) ∧ bs (a + i) < 128) : ∀ (r i f : Nat), i + r = l.length → r < f → (∀ t, t < i → l.getD t 0 = bs (a + t)) → f12_wordOf_l57 K rc f (nI a) x2 x3 (nI k) (nI l.length) (nI 1) (nI i) = f12_wordOf_j104 K rc (nI a) x2 x3 (nI k) (nI l.length) (nI (decide (l = bl bs a l.length)).toNat)
  | r, i, 0, _, h, _ => absurd h (by omega)
  | 0, i, f + 1, e, _, h => by
    have : i = l.length := by omega
    subst this
    have eq : l = bl bs a l.length := by
      apply List.ext_getElem?
      intro t
      by_cases ht : t < l.length
      · rw [bl_get bs _ a t ht, ← h t ht, List.getD_eq_getElem?_getD, List.getElem?_eq_getElem ht]
        rfl
      · rw [List.getElem?_eq_none (by omega), List.getElem?_eq_none (by rw [bl_len]; omega)]
    rw [decide_eq_true eq]
    unfold f12_wordOf_l57
    rw [if_pos (Int32.le_refl _)]
    rfl
  | r + 1, i, f + 1, e, hf, h => by
    obtain ⟨a1, a2, a3⟩ := h1 i (by omega)
    obtain ⟨b1, b2⟩ := h7 i (by omega)
    by_cases eq : l.getD i 0 = bs (a + i)
    · have ih := m_wo57 (rc := rc) (x2 := x2) (x3 := x3) (bs := bs) hk ha h1 h7 r (i + 1) f (by omega) (by omega) (fun t ht => by
        by_cases et : t = i
        · subst et; exact eq
        · exact h t (by omega))
      rw [← ih]
      conv => lhs; unfold f12_wordOf_l57
      unfold f12_wordOf_j96
      simp only [q_lit]
      rw [if_neg (by rw [q_le (by omega) (by omega)]; omega), if_neg (by first | decide | exact fun q => absurd (show nI 1 = nI 0 from q) (by decide)), nI_add, q_ib (by omega) (by omega), q_ct, nI_add, q_ib (by omega) (by omega), q_ct, q_cl (by omega), q_cl (by omega), a1, b1, if_pos (by rw [eq]), nI_add]
    · have ne : ¬ l = bl bs a l.length := fun q => eq (by
        have z := bl_get bs l.length a i (by omega)
        rw [← q] at z
        rw [List.getD_eq_getElem?_getD, z]
        rfl)
      rw [decide_eq_false ne]
      conv => lhs; unfold f12_wordOf_l57
      unfold f12_wordOf_j96
      simp only [q_lit]
      rw [if_neg (by rw [q_le (by omega) (by omega)]; omega), if_neg (by first | decide | exact fun q => absurd (show nI 1 = nI 0 from q) (by decide)), nI_add, q_ib (by omega) (by omega), q_ct, nI_add, q_ib (by omega) (by omega), q_ct, q_cl (by omega), q_cl (by omega), a1, b1, if_neg (by rw [q_eq (by omega) (by omega)]; exact eq)]
      obtain ⟨f, rfl⟩ : ∃ z, f = z + 1 := ⟨f - 1, by omega⟩
      unfold f12_wordOf_l57
      by_cases q : nI l.length ≤ nI i + nI 1
      · rw [if_pos q]; rfl
      · rw [if_neg q, if_pos (by first | rfl | trivial | decide)]; rfl
theorem m_wof {K : ph_Mem} {a e : Nat} {bs : Nat → Nat} (h6 : ∀ j, j < 137 → K.1 6 j = rWords j) (hae : a ≤ e) (he : e ≤ 400) (h7 : ∀ j, a ≤ j → j < e → K.1 7 j = nI (bs j) ∧ bs j < 128) : ∀ (ls : List (List Nat)) (w k f : Nat), spb k ls = true → ls.length < f → w + ls.length < 100 → f12_wordOf_l5 K f (nI a) (nI e) (nI w) (nI k) = some (nI (wSc (bl bs a (e - a)) w ls))
  | ls, w, k, 0, _, h, _ => absurd h (by omega)
  | [], w, k, f + 1, hs, _, _ => by
    have : k = 137 := of_decide_eq_true hs
    subst this
    unfold f12_wordOf_l5
    rw [if_pos (by first | rfl | trivial | decide)]
    rfl
  | l :: ls, w, k, f + 1, hs, hf, hw => by
    rw [spb, Bool.and_eq_true, Bool.and_eq_true, Bool.and_eq_true, List.all_eq_true] at hs
    obtain ⟨s1, s2, s3, s4⟩ := hs
    have s2 := of_decide_eq_true s2
    have s3 := of_decide_eq_true s3
    rw [List.length_cons] at hf hw
    have g1 : ∀ i, i < l.length → K.1 6 (k + i) = nI (l.getD i 0) ∧ l.getD i 0 ≠ 32 ∧ l.getD i 0 < 128 := fun i hi => by
      have := s1 i (List.mem_range.mpr hi)
      rw [Bool.and_eq_true, Bool.and_eq_true] at this
      rw [h6 _ (by omega)]
      exact ⟨of_decide_eq_true this.1, of_decide_eq_true this.2.1, of_decide_eq_true this.2.2⟩
    have nx := m_wof (K := K) (bs := bs) h6 hae he h7 ls (w + 1) (k + l.length + 1) f s4 (by omega) (by omega)
    have j0 : f12_wordOf_j104 K (f12_wordOf_l5 K f) (nI a) (nI e) (nI w) (nI k) (nI l.length) (nI 0) = some (nI (wSc (bl bs a (e - a)) (w + 1) ls)) := by
      unfold f12_wordOf_j104
      simp only [q_lit]
      rw [if_pos (by first | rfl | trivial | decide), q_let, nI_add, nI_add, nI_add, show k + (l.length + 1) = k + l.length + 1 by omega]
      exact nx
    rw [wSc]
    conv => lhs; unfold f12_wordOf_l5
    simp only [q_lit]
    rw [if_neg (by rw [q_le (by omega) (by omega)]; omega), m_wo18 s3 g1 ((h6 _ s3).trans s2) l.length 0 10000 (by omega) (by omega)]
    unfold f12_wordOf_j39 f12_wordOf_j52
    simp only [q_lit]
    rw [q_sub hae]
    by_cases hl : l.length = e - a
    · rw [if_pos (by rw [hl]), m_wo57 (bs := bs) s3 (by omega) g1 (fun i hi => h7 (a + i) (by omega) (by omega)) l.length 0 10000 (by omega) (by omega) (fun t ht => absurd ht (by omega))]
      by_cases eq : l = bl bs a (e - a)
      · rw [if_pos eq, decide_eq_true (by rw [hl]; exact eq)]
        unfold f12_wordOf_j104
        rw [if_neg (by first | decide | exact fun q => absurd (show nI 1 = nI 0 from q) (by decide))]
      · rw [if_neg eq, decide_eq_false (by rw [hl]; exact eq)]
        exact j0
    · rw [if_neg (by rw [q_eq (by omega) (by omega)]; exact hl), if_neg (fun q => hl (by rw [q, bl_len]))]
      unfold f12_wordOf_l57
      by_cases q : nI l.length ≤ nI 0
      · rw [if_pos q]; exact j0
      · rw [if_neg q, if_pos (by first | rfl | trivial | decide)]; exact j0
theorem m_word {K : ph_Mem} {a e : Nat} {bs : Nat → Nat} (h6 : ∀ j, j < 137 → K.1 6 j = rWords j) (hae : a ≤ e) (he : e ≤ 400) (h7 : ∀ j, a ≤ j → j < e → K.1 7 j = nI (bs j) ∧ bs j < 128) : f12_wordOf K (nI a) (nI e) = some (nI (wOf bs a e)) := m_wof h6 hae he h7 wdL 1 0 10000 spb0 (by decide) (by decide)
/-- numbers -/
def nSt (v b : Nat) : Nat := if v ≤ 1000000 then 10 * v + (b - 48) else v
def nFo (bs : Nat → Nat) : Nat → Nat → Nat → Nat
  | _, 0, v => v
  | j, r + 1, v => nFo bs (j + 1) r (nSt v (bs j))
theorem nSt_le {v b : Nat} (hv : v ≤ 20000000) (hb : b ≤ 57) : nSt v b ≤ 20000000 := by
  unfold nSt
  split <;> omega
theorem nFo_le {bs : Nat → Nat} : ∀ (r j v : Nat), (∀ i, j ≤ i → i < j + r → kb (bs i) = 1) → v ≤ 20000000 → nFo bs j r v ≤ 20000000
  | 0, _, _, _, h => h
  | r + 1, j, v, hk, h => by
    have := hk j (by omega) (by omega)
    have b57 : bs j ≤ 57 := by
      unfold kb at this
      split at this
      · omega
      · split at this <;> omega
    exact nFo_le r (j + 1) _ (fun i q1 q2 => hk i (by omega) (by omega)) (nSt_le h b57)
theorem kb_1 {b : Nat} (h : kb b = 1) : 48 ≤ b ∧ b ≤ 57 := by
  unfold kb at h
  split at h
  · omega
  · split at h <;> omega
theorem kb_0 {b : Nat} (h : kb b = 0) : 97 ≤ b ∧ b ≤ 122 := by
  unfold kb at h
  split at h
  · assumption
  · split at h <;> omega
theorem x_num_l {S : ph_Sh} {M : ph_Mem} {bs : Nat → Nat} {k e : Nat} {x1 x2 : Int32} (hk : k ≤ 400) (he : e ≤ 400) (h8 : M.1 63 8 = nI k) (h66 : M.1 66 k = nI e) (h64 : ∀ j, j < e → M.1 64 j = nI (bs j)) : ∀ (r j v f : Nat), j + r = e → r < f → (∀ i, j ≤ i → i < e → kb (bs i) = 1) → f6_readNumber_l24 S f x1 x2 (nI (min 1001 v)) (nI j) M = f6_readNumber_j71 S x1 x2 (nI (min 1001 (nFo bs j r v))) M
  | r, j, v, 0, _, h, _ => absurd h (by omega)
  | 0, j, v, f + 1, ej, _, _ => by
    have : j = e := by omega
    subst this
    unfold f6_readNumber_l24
    rw [h8, q_ib (by omega) (by omega), q_ct, q_cl (by omega), h66, if_pos (Int32.le_refl _)]
    rfl
  | r + 1, j, v, f + 1, ej, hf, hb => by
    obtain ⟨b1, b2⟩ := kb_1 (hb j (by omega) (by omega))
    have ih := x_num_l (S := S) (x1 := x1) (x2 := x2) hk he h8 h66 h64 r (j + 1) (nSt v (bs j)) f (by omega) (by omega) (fun i q1 q2 => hb i (by omega) q2)
    have es : min 1001 (min 1001 v * 10 + bs j - 48) = min 1001 (nSt v (bs j)) := by
      unfold nSt
      split <;> omega
    rw [nFo, ← ih]
    conv => lhs; unfold f6_readNumber_l24
    simp only [q_lit]
    rw [h8, q_ib (by omega) (by omega), q_ct, q_cl (by omega), h66, if_neg (by rw [q_le (by omega) (by omega)]; omega), if_neg (by rw [q_eqn (by omega) (by omega)]; omega), q_ib (by omega) (show j < 400 by omega), q_ct, q_cl (by omega), h64 j (by omega), pk_mul, nI_add, q_sub (by omega), q_min (by omega) (by omega), q_bd, es, nI_add]
