/-! PURE HALF: the law's module: tokens and what they say -/
def kb (b : Nat) : Nat := if 97 ≤ b ∧ b ≤ 122 then 0 else if 48 ≤ b ∧ b ≤ 57 then 1 else 2
def sb8 (b : Nat) : Int32 := (nI b).toInt8.toInt32
theorem sb8_lt : ∀ b, b < 128 → sb8 b = nI b := by decide +kernel
theorem sb8_sp : ∀ b, b < 256 → (sb8 b = nI 32) = (b = 32) := by decide +kernel
theorem sb8_255 : ∀ b, b < 256 → nI 100 + (sb8 b &&& nI 255) = nI (100 + b) := by decide +kernel
theorem m_small0 : ∀ b, b < 256 → (if sb8 b < (97 : Int32) then (some (0 : Int32)) else (if (122 : Int32) < sb8 b then (some (0 : Int32)) else (some (1 : Int32)))) = some (nI (decide (kb b = 0)).toNat) := by decide +kernel
theorem m_small {K : ph_Mem} {b : Nat} (h : b < 256) : f12_isSmall K (sb8 b) = some (nI (decide (kb b = 0)).toNat) := m_small0 b h
theorem m_digit0 : ∀ b, b < 256 → (if sb8 b < (48 : Int32) then (some (0 : Int32)) else (if (57 : Int32) < sb8 b then (some (0 : Int32)) else (some (1 : Int32)))) = some (nI (decide (kb b = 1)).toNat) := by decide +kernel
theorem m_digit {K : ph_Mem} {b : Nat} (h : b < 256) : f12_isDigit K (sb8 b) = some (nI (decide (kb b = 1)).toNat) := m_digit0 b h
theorem x_kb {S : ph_Sh} {M : ph_Mem} {b : Nat} (h : b < 256) : f6_kindOfByte S M (nI b) = some (nI (kb b)) := by
  unfold f6_kindOfByte f6_kindOfByte_j14 kb
  by_cases h1 : 97 ≤ b ∧ b ≤ 122
  · rw [if_pos h1]; simp (disch := first | assumption | omega) only [q_lit, Int32.neg_neg, nI_add, pk_mul, q_sub, q_addn, q_nadd, q_lt, q_le, q_eq, q_eqn, q_neq, q_nen, q_ltn, q_nlt, q_len, q_nle, q_nltn, q_nlen, q_cl, q_ib, q_ibn, q_isz0, q_isz1, q_iszb, q_b0, q_b1, q_ng1, q_ng2, q_ng3, q_ng4, q_ng5, q_ng6, Bool.toNat_true, Bool.toNat_false, if_pos, if_neg, q_ct, q_cf, q_let, q_bd, q_it, q_if, Nat.zero_add, Nat.add_zero, true_and, and_true, false_and, and_false, or_false, false_or, or_true, true_or, Bool.true_eq_false, Bool.false_eq_true, wi_s, wi_o, wi_r]
  · rw [if_neg h1]
    by_cases h2 : 48 ≤ b ∧ b ≤ 57
    · rw [if_pos h2]; simp (disch := first | assumption | omega) only [q_lit, Int32.neg_neg, nI_add, pk_mul, q_sub, q_addn, q_nadd, q_lt, q_le, q_eq, q_eqn, q_neq, q_nen, q_ltn, q_nlt, q_len, q_nle, q_nltn, q_nlen, q_cl, q_ib, q_ibn, q_isz0, q_isz1, q_iszb, q_b0, q_b1, q_ng1, q_ng2, q_ng3, q_ng4, q_ng5, q_ng6, Bool.toNat_true, Bool.toNat_false, if_pos, if_neg, q_ct, q_cf, q_let, q_bd, q_it, q_if, Nat.zero_add, Nat.add_zero, true_and, and_true, false_and, and_false, or_false, false_or, or_true, true_or, Bool.true_eq_false, Bool.false_eq_true, wi_s, wi_o, wi_r]
    · rw [if_neg h2]
      by_cases h3 : b < 97
      · by_cases h4 : b < 48
        · simp (disch := first | assumption | omega) only [q_lit, Int32.neg_neg, nI_add, pk_mul, q_sub, q_addn, q_nadd, q_lt, q_le, q_eq, q_eqn, q_neq, q_nen, q_ltn, q_nlt, q_len, q_nle, q_nltn, q_nlen, q_cl, q_ib, q_ibn, q_isz0, q_isz1, q_iszb, q_b0, q_b1, q_ng1, q_ng2, q_ng3, q_ng4, q_ng5, q_ng6, Bool.toNat_true, Bool.toNat_false, if_pos, if_neg, q_ct, q_cf, q_let, q_bd, q_it, q_if, Nat.zero_add, Nat.add_zero, true_and, and_true, false_and, and_false, or_false, false_or, or_true, true_or, Bool.true_eq_false, Bool.false_eq_true, wi_s, wi_o, wi_r]
        · simp (disch := first | assumption | omega) only [q_lit, Int32.neg_neg, nI_add, pk_mul, q_sub, q_addn, q_nadd, q_lt, q_le, q_eq, q_eqn, q_neq, q_nen, q_ltn, q_nlt, q_len, q_nle, q_nltn, q_nlen, q_cl, q_ib, q_ibn, q_isz0, q_isz1, q_iszb, q_b0, q_b1, q_ng1, q_ng2, q_ng3, q_ng4, q_ng5, q_ng6, Bool.toNat_true, Bool.toNat_false, if_pos, if_neg, q_ct, q_cf, q_let, q_bd, q_it, q_if, Nat.zero_add, Nat.add_zero, true_and, and_true, false_and, and_false, or_false, false_or, or_true, true_or, Bool.true_eq_false, Bool.false_eq_true, wi_s, wi_o, wi_r]
      · simp (disch := first | assumption | omega) only [q_lit, Int32.neg_neg, nI_add, pk_mul, q_sub, q_addn, q_nadd, q_lt, q_le, q_eq, q_eqn, q_neq, q_nen, q_ltn, q_nlt, q_len, q_nle, q_nltn, q_nlen, q_cl, q_ib, q_ibn, q_isz0, q_isz1, q_iszb, q_b0, q_b1, q_ng1, q_ng2, q_ng3, q_ng4, q_ng5, q_ng6, Bool.toNat_true, Bool.toNat_false, if_pos, if_neg, q_ct, q_cf, q_let, q_bd, q_it, q_if, Nat.zero_add, Nat.add_zero, true_and, and_true, false_and, and_false, or_false, false_or, or_true, true_or, Bool.true_eq_false, Bool.false_eq_true, wi_s, wi_o, wi_r]
/-- the bytes from a to e -/
def bl (bs : Nat → Nat) (a : Nat) : Nat → List Nat
  | 0 => []
  | n + 1 => bs a :: bl bs (a + 1) n
theorem bl_len (bs : Nat → Nat) : ∀ n a, (bl bs a n).length = n
  | 0, _ => rfl
  | n + 1, a => by rw [bl, List.length_cons, bl_len bs n]
/-- strings of the class -/
def stN (s : Nat) : List Nat := (ph_sb.getD s []).map (fun x => x.toNatClampNeg)
def stA (s i : Nat) : Nat := (stN s).getD i 0
theorem stN_len : ∀ s, s < 40 → (stN s).length = ph_sl.getD s 0 ∧ 0 < (stN s).length ∧ (stN s).length < 7 := by decide +kernel
theorem x_len0 {S : ph_Sh} {M : ph_Mem} {s : Nat} (hs : s < 40) : f0_length_8abf5 S M s = some (nI (stN s).length) := by
  have h : ∀ s, s < 40 → (some ((Int32.ofNat (ph_sl.getD s 0)) >>> ((0 : Int32) &&& 31)) : Option Int32) = some (nI (stN s).length) := by decide +kernel
  unfold f0_length_8abf5 f0_coder_7d493
  rw [if_neg (by first | decide | exact fun q => absurd (show nI 1 = nI 0 from q) (by decide)), q_bd]
  exact h s hs
theorem x_chr0 : ∀ s, s < 40 → ∀ i, i < 7 → i < (stN s).length → (((ph_sb.getD s []).getD i 0) &&& (255 : Int32)) = nI (stA s i) ∧ ph_isc (nI (stA s i)) = true ∧ ((nI (stA s i)).toUInt32 % 65536).toInt32 = nI (stA s i) := by decide +kernel
theorem x_chr {S : ph_Sh} {M : ph_Mem} {s i : Nat} (hs : s < 40) (hi : i < (stN s).length) : f0_charAt_5068e S M s (nI i) = some (nI (stA s i)) := by
  obtain ⟨l1, l2, l3⟩ := stN_len s hs
  obtain ⟨c1, c2, c3⟩ := x_chr0 s hs i (by omega) hi
  have e1 : Int32.ofNat (ph_sl.getD s 0) = nI (stN s).length := by rw [l1]; rfl
  unfold f0_charAt_5068e f0_isLatin1_aae02 f1_charAt_3b067
  rw [if_neg (by first | decide | exact fun q => absurd (show nI 1 = nI 0 from q) (by decide)), if_pos (by first | rfl | trivial | decide), q_bd, if_neg (by first | decide | exact fun q => absurd (show nI 1 = nI 0 from q) (by decide)), e1, ← l1]
  have ck : f0_checkIndex_df160 S M (nI i) (nI (stN s).length) = some (nI 0) := by
    unfold f0_checkIndex_df160 f3_checkIndex_8e157
    rw [if_neg (nI_pos (by omega)), if_pos (by rw [q_lt (by omega) (by omega)]; exact hi), q_bd]
    rfl
  rw [ck, q_bd, q_ib (by omega) hi, q_ct, q_cl (by omega), c1, c3, c2, q_ct, q_bd, c2, q_ct]
/-- the class's tables of tokens: T tokens of m bytes bs -/
def says (bs : Nat → Nat) (a e s : Nat) : Bool := decide (stN s = bl bs a (e - a))
theorem bl_get (bs : Nat → Nat) : ∀ n a i, i < n → (bl bs a n)[i]? = some (bs (a + i))
  | 0, _, _, h => absurd h (by omega)
  | n + 1, a, 0, _ => rfl
  | n + 1, a, i + 1, h => by
    rw [bl, List.getElem?_cons_succ, bl_get bs n (a + 1) i (by omega), show a + 1 + i = a + (i + 1) by omega]
theorem x_says_l {S : ph_Sh} {M : ph_Mem} {bs : Nat → Nat} {a s : Nat} (hs : s < 40) (hb : ∀ j, j < 400 → bs j < 256) (ha : a + (stN s).length ≤ 400) (h64 : ∀ j, j < a + (stN s).length → M.1 64 j = nI (bs j)) : ∀ (r i f : Nat), i + r = (stN s).length → r < f → (∀ t, t < i → stA s t = bs (a + t)) → f6_says_l40 S s M f (nI a) (nI i) = some (nI (decide (stN s = bl bs a (stN s).length)).toNat)
  | r, i, 0, _, h, _ => absurd h (by omega)
  | 0, i, f + 1, e, _, h => by
    obtain ⟨l1, l2, l3⟩ := stN_len s hs
    have ei : i = (stN s).length := by omega
    have : stN s = bl bs a (stN s).length := by
      apply List.ext_getElem?
      intro t
      by_cases ht : t < (stN s).length
      · rw [bl_get bs _ a t ht, ← h t (by omega)]
        unfold stA
        rw [List.getD_eq_getElem?_getD, List.getElem?_eq_getElem ht]
        rfl
      · rw [List.getElem?_eq_none (by omega), List.getElem?_eq_none (by rw [bl_len]; omega)]
    rw [decide_eq_true this]
    unfold f6_says_l40
    rw [x_len0 hs, q_bd, ei, if_pos (Int32.le_refl _)]
    rfl
  | r + 1, i, f + 1, e, hf, h => by
    obtain ⟨l1, l2, l3⟩ := stN_len s hs
    have hc := x_chr (S := S) (M := M) hs (show i < (stN s).length by omega)
    have b1 := hb (a + i) (by omega)
    have sa : stA s i < 2 ^ 31 := by
      obtain ⟨c1, c2, c3⟩ := x_chr0 s hs i (by omega) (by omega)
      have : ∀ s, s < 40 → ∀ i, i < 7 → stA s i < 2 ^ 31 := by decide +kernel
      exact this s hs i (by omega)
    by_cases eq : stA s i = bs (a + i)
    · have ih := x_says_l (S := S) (M := M) hs hb ha h64 r (i + 1) f (by omega) (by omega) (fun t ht => by
        by_cases et : t = i
        · subst et; exact eq
        · exact h t (by omega))
      rw [← ih]
      conv => lhs; unfold f6_says_l40
      rw [x_len0 hs, q_bd, if_neg (by rw [q_le (by omega) (by omega)]; omega), nI_add, q_ib (by omega) (by omega), q_ct, hc, q_bd, q_cl (by omega), h64 _ (by omega), if_pos (by rw [eq])]
      simp only [q_lit, nI_add]
    · have : ¬ stN s = bl bs a (stN s).length := fun q => eq (by
        have z := bl_get bs (stN s).length a i (by omega)
        rw [← q, List.getElem?_eq_getElem (show i < (stN s).length by omega)] at z
        unfold stA
        rw [List.getD_eq_getElem?_getD, List.getElem?_eq_getElem (show i < (stN s).length by omega)]
        injection z)
      rw [decide_eq_false this]
      unfold f6_says_l40
      rw [x_len0 hs, q_bd, if_neg (by rw [q_le (by omega) (by omega)]; omega), nI_add, q_ib (by omega) (by omega), q_ct, hc, q_bd, q_cl (by omega), h64 _ (by omega), if_neg (by rw [q_eq (by omega) sa]; exact fun q => eq q.symm)]
      rfl
/-- what the token at hand says, where there is no fault -/
theorem x_says {S : ph_Sh} {M : ph_Mem} {bs : Nat → Nat} {k a e s : Nat} (hs : s < 40) (hb : ∀ j, j < 400 → bs j < 256) (hk : k ≤ 400) (hae : a ≤ e) (he : e ≤ 400) (h8 : M.1 63 8 = nI k) (h2 : M.1 63 2 = -nI 1) (h65 : M.1 65 k = nI a) (h66 : M.1 66 k = nI e) (h64 : ∀ j, j < e → M.1 64 j = nI (bs j)) : f6_says S M s = some (nI (says bs a e s).toNat) := by
  obtain ⟨l1, l2, l3⟩ := stN_len s hs
  unfold f6_says
  simp only [q_lit]
  rw [h8, q_ib (by omega) (by omega), q_ct, q_let, q_cl (by omega), h2, if_pos (by first | rfl | trivial | decide), q_ct, x_len0 hs, q_bd, h65, h66, q_sub hae]
  unfold says
  by_cases hl : e - a = (stN s).length
  · rw [if_pos (by rw [hl]), hl]
    exact x_says_l (S := S) (M := M) hs hb (by omega) (fun j hj => h64 j (by omega)) (stN s).length 0 10000 (by omega) (by omega) (fun t ht => absurd ht (by omega))
  · rw [if_neg (by rw [q_eq (by omega) (by omega)]; exact hl), decide_eq_false (fun q => hl (by
      have := congrArg List.length q
      rw [bl_len] at this
      exact this.symm))]
    rfl
theorem x_saysF {S : ph_Sh} {M : ph_Mem} {k s : Nat} (hk : k ≤ 400) (h8 : M.1 63 8 = nI k) (h2 : M.1 63 2 ≠ -nI 1) : f6_says S M s = some (nI 0) := by
  unfold f6_says
  simp only [q_lit]
  rw [h8, q_ib (by omega) (by omega), q_ct, q_let, if_neg h2]
/-- the model's words -/
def wdL : List (List Nat) := [[108, 101, 110, 100, 115], [99, 111, 115, 116, 115], [98, 97, 114, 115], [105, 102], [111, 114], [97, 110, 100], [110, 111, 116], [112, 101, 114, 115, 111, 110], [104, 111, 117, 114], [102, 97, 99, 116], [119, 105, 116, 104], [119, 111, 114, 116, 104], [108, 111, 97, 110], [100, 97, 121, 115], [116, 111, 100, 97, 121], [109, 111, 111, 100], [110, 111, 119], [100, 111, 110, 101], [108, 97, 115, 116], [112, 117, 114, 115, 101], [104, 101, 108, 100], [107, 110, 111, 119, 115], [112, 97, 119, 110], [111, 102], [114, 101, 100, 101, 101, 109], [112, 97, 115, 115], [116, 105, 109, 101, 115]]
def wSc (x : List Nat) : Nat → List (List Nat) → Nat
  | _, [] => 0
  | w, l :: ls => if l = x then w else wSc x (w + 1) ls
def wOf (bs : Nat → Nat) (a e : Nat) : Nat := wSc (bl bs a (e - a)) 1 wdL
theorem wSc_sp (x : List Nat) : ∀ (L : List (List Nat)) (w : Nat), (wSc x w L = 0 ∧ x ∉ L) ∨ ∃ i, L[i]? = some x ∧ wSc x w L = w + i
  | [], w => Or.inl ⟨rfl, by simp⟩
  | l :: ls, w => by
    rw [wSc]
    by_cases h : l = x
    · rw [if_pos h]
      exact Or.inr ⟨0, by rw [h]; rfl, rfl⟩
    · rw [if_neg h]
      rcases wSc_sp x ls (w + 1) with ⟨h1, h2⟩ | ⟨i, h1, h2⟩
      · refine Or.inl ⟨h1, fun q => ?_⟩
        rcases List.mem_cons.mp q with q | q
        · exact h q.symm
        · exact h2 q
      · exact Or.inr ⟨i + 1, by rw [List.getElem?_cons_succ]; exact h1, by omega⟩
/-- the model's code of a string of the class -/
def wcs (s : Nat) : Nat := [23, 1, 25, 2, 26, 3, 191, 193, 17, 18, 19, 20, 21, 22, 8, 9, 10, 11, 12, 13, 14, 15, 16, 142, 147, 137, 143, 145, 24, 27, 4, 7, 140, 141, 160, 162, 161, 6, 5, 159].getD s 0
theorem wcs_w : ∀ s, s < 40 → (wcs s ≤ 27 → 0 < wcs s ∧ wdL[wcs s - 1]? = some (stN s) ∧ 1 < (stN s).length) ∧ (27 < wcs s → 100 < wcs s ∧ stN s = [wcs s - 100] ∧ kb (wcs s - 100) = 2 ∧ wcs s < 356) := by decide +kernel
theorem wdL_inj : ∀ i, i < 27 → ∀ j, j < 27 → wdL[i]? = wdL[j]? → i = j := by decide +kernel
theorem wOf_le (bs : Nat → Nat) (a e : Nat) : wOf bs a e ≤ 27 := by
  rcases wSc_sp (bl bs a (e - a)) wdL 1 with ⟨h1, _⟩ | ⟨i, h1, h2⟩
  · unfold wOf; omega
  · have := (List.getElem?_eq_some_iff.mp h1).1
    have l27 : wdL.length = 27 := rfl
    unfold wOf; omega
/-- the code of a token: letters, a number, a sign -/
theorem says_L {bs : Nat → Nat} {a e s : Nat} (hs : s < 40) (hae : a < e) (hk : ∀ j, a ≤ j → j < e → kb (bs j) = 0) : says bs a e s = decide (wOf bs a e = wcs s) := by
  obtain ⟨w1, w2⟩ := wcs_w s hs
  have wl := wOf_le bs a e
  have fst : (bl bs a (e - a))[0]? = some (bs a) := bl_get bs (e - a) a 0 (by omega)
  unfold says
  apply decide_eq_decide.mpr
  by_cases h : wcs s ≤ 27
  · obtain ⟨p0, p1, p2⟩ := w1 h
    rcases wSc_sp (bl bs a (e - a)) wdL 1 with ⟨h1, h2⟩ | ⟨i, h1, h2⟩
    · have : wOf bs a e = 0 := h1
      rw [this]
      refine ⟨fun q => absurd (List.mem_of_getElem? p1) (by rw [q]; exact h2), fun q => by omega⟩
    · have hw : wOf bs a e = 1 + i := h2
      rw [hw]
      have li := (List.getElem?_eq_some_iff.mp h1).1
      have l27 : wdL.length = 27 := rfl
      refine ⟨fun q => ?_, fun q => ?_⟩
      · have := wdL_inj i (by omega) (wcs s - 1) (by omega) (by rw [h1, p1, q])
        omega
      · rw [show wcs s - 1 = i by omega, h1] at p1
        injection p1 with p1
        exact p1.symm
  · obtain ⟨q0, q1, q2, _⟩ := w2 (by omega)
    refine ⟨fun q => ?_, fun q => by omega⟩
    rw [← q, q1] at fst
    injection fst with fst
    have := hk a (Nat.le_refl _) hae
    rw [← fst] at this
    have this : kb (wcs s - 100) = 0 := this
    omega
theorem says_D {bs : Nat → Nat} {a e s : Nat} (hs : s < 40) (hae : a < e) (hk : kb (bs a) = 1) : says bs a e s = decide (50 = wcs s) := by
  obtain ⟨w1, w2⟩ := wcs_w s hs
  have fst : (bl bs a (e - a))[0]? = some (bs a) := bl_get bs (e - a) a 0 (by omega)
  have f0 : ∀ s, s < 40 → kb (stA s 0) ≠ 1 ∧ wcs s ≠ 50 := by decide +kernel
  unfold says
  apply decide_eq_decide.mpr
  refine ⟨fun q => ?_, fun q => absurd q.symm (f0 s hs).2⟩
  rw [← q] at fst
  have : stA s 0 = bs a := by unfold stA; rw [List.getD_eq_getElem?_getD, fst]; rfl
  rw [← this] at hk
  exact absurd hk (f0 s hs).1
theorem says_S {bs : Nat → Nat} {a s : Nat} (hs : s < 40) (hk : kb (bs a) = 2) : says bs a (a + 1) s = decide (100 + bs a = wcs s) := by
  obtain ⟨w1, w2⟩ := wcs_w s hs
  have e1 : bl bs a (a + 1 - a) = [bs a] := by rw [Nat.add_sub_cancel_left]; rfl
  unfold says
  rw [e1]
  apply decide_eq_decide.mpr
  by_cases h : wcs s ≤ 27
  · obtain ⟨p0, p1, p2⟩ := w1 h
    refine ⟨fun q => ?_, fun q => by omega⟩
    rw [q] at p2
    exact absurd p2 (by simp)
  · obtain ⟨q0, q1, q2, _⟩ := w2 (by omega)
    rw [q1]
    refine ⟨fun q => ?_, fun q => ?_⟩
    · injection q with q
      omega
    · rw [show wcs s - 100 = bs a by omega]
theorem says_E {bs : Nat → Nat} {a s : Nat} (hs : s < 40) : says bs a a s = decide (0 = wcs s) := by
  obtain ⟨l1, l2, l3⟩ := stN_len s hs
  have f0 : ∀ s, s < 40 → wcs s ≠ 0 := by decide +kernel
  unfold says
  rw [Nat.sub_self]
  apply decide_eq_decide.mpr
  refine ⟨fun q => ?_, fun q => absurd q.symm (f0 s hs)⟩
  rw [q] at l2
  exact absurd l2 (by simp [bl])
