/-! PURE HALF: the cheapest way, a row tried and all put back -/
/-- what trying rows leaves alone -/
def ch_mf (K K' : ph_Mem) : Prop := (∀ j, K'.1 2 j = K.1 2 j) ∧ ∀ e j, e ≠ 2 → e ≠ 5 → e ≠ 12 → (e ≠ 0 ∨ (j ≠ 8 ∧ j ≠ 22 ∧ j ≠ 23 ∧ j ≠ 24)) → K'.1 e j = K.1 e j
theorem m_pays {C : Nat → Nat → Nat} {inc n m p d u : Nat} {hr : Nat → Nat} {K : ph_Mem} {row : List Nat} (hp : p < n) (hn : n ≤ 6) (hinc : inc ≤ 99) (hd : d ≤ 999) (h475 : K.1 2 475 = nI n) (h471 : K.1 2 471 = nI inc) (hh : ∀ i, i < m → hr i < 12) (hinj : ∀ i j, i < m → j < m → hr i = hr j → i = j) (hC : ∀ i w, i < m → w ≤ 61 → C i w ≤ 9999) (hV : ∀ i w, i < m → w ≤ 61 → ∀ M : ph_Mem, (∀ j, (72 ≤ j ∧ j < 216) ∨ 223 ≤ j → M.1 2 j = K.1 2 j) → M.1 2 222 = nI (d + w) → ∃ K', f12_costsFor M (nI p) (nI (hr i)) = some (nI (C i w), K') ∧ kSc M K') (h35 : K.1 0 35 = nI m) (hm : m ≤ 6) (h222 : K.1 2 222 = nI d) (hu : u ≤ 99999) (h216 : K.1 2 (216 + p) = nI u) (hpu : ∀ q, q < n → ∃ v, v ≤ 100100 ∧ K.1 2 (216 + q) = nI v) (hst : ∀ i, i < m → K.1 2 (12 * p + hr i) = nI 1) (hlen : row.length = m) (h19 : ∀ t x, row[t]? = some x → K.1 19 t = nI (hr x)) (hnd : row.Nodup) (hlt : ∀ x, x ∈ row → x < m) : ∃ K', f12_paysRow K (nI p) = some (nI (chR (row.foldl (fun s i => ch_1 C inc i s) (some (0, u, 0)))), K') ∧ ch_mf K K' := by
  have as := m_aside (K := K) (k := 0) (by omega)
  generalize eK1 : ph_cp K 2 0 5 (223 * 0) 223 = K1 at as
  have o1 : ∀ e j, e ≠ 5 → K1.1 e j = K.1 e j := fun e j q => by rw [← eK1, cp_out (by omega)]
  have o5 : ∀ j, j < 223 → K1.1 5 j = K.1 2 j := fun j hj => by
    rw [← eK1, cp_in (by omega), show 0 + (j - 223 * 0) = j by omega]
  have hI : ch_k K1 K1 hr n m p d 0 u [] := ⟨fun _ _ => rfl, (o1 2 _ (by omega)).trans h222, (o1 2 _ (by omega)).trans h216, fun q hq => by
    obtain ⟨v, v1, v2⟩ := hpu q hq
    exact ⟨v, v1, (o1 2 _ (by omega)).trans v2⟩, fun i hi _ => (o1 2 _ (by omega)).trans (hst i hi), fun _ _ _ _ _ => rfl⟩
  obtain ⟨K2, w', u', dn', r1, r2⟩ := m_ch_l (C := C) (inc := inc) K1 hp hn hinc hd ((o1 2 _ (by omega)).trans h475) ((o1 2 _ (by omega)).trans h471) hh hinj hC (fun i w hi hw M q1 q2 => hV i w hi hw M (fun j hj => (q1 j hj).trans (o1 2 j (by omega))) q2) ((o1 0 _ (by omega)).trans h35) hm row 0 0 u 0 10000 [] K1 (by omega) (by omega) (by omega) hu (by omega) (fun t x hx => by rw [Nat.zero_add, o1 _ _ (by omega)]; exact h19 t x hx) hnd (fun x hx => ⟨hlt x hx, fun q => absurd q (by simp)⟩) hI
  have tb := m_tback (K := K2) (k := 0) (by omega)
  have k222 : K1.1 2 222 = nI d := (o1 2 _ (by omega)).trans h222
  have e60 : nI d + nI 60 = nI (d + 60) := by simp (disch := first | assumption | omega) only [q_lit, Int32.neg_neg, nI_add, pk_mul, q_sub, q_addn, q_nadd, q_lt, q_le, q_eq, q_eqn, q_neq, q_nen, q_ltn, q_nlt, q_len, q_nle, q_nltn, q_nlen, q_cl, q_ib, q_ibn, q_isz0, q_isz1, q_iszb, q_b0, q_b1, q_ng1, q_ng2, q_ng3, q_ng4, q_ng5, q_ng6, Bool.toNat_true, Bool.toNat_false, if_pos, if_neg, q_ct, q_cf, q_let, q_bd, q_it, q_if, Nat.zero_add, Nat.add_zero, true_and, and_true, false_and, and_false, or_false, false_or, or_true, true_or, Bool.true_eq_false, Bool.false_eq_true, wi_s, wi_o, wi_r]
  refine ⟨ph_cp K2 5 (223 * 0) 2 0 223, ?_, fun j => ?_, fun e j q1 q2 q3 q4 => ?_⟩
  · unfold f12_paysRow
    rw [q_lit, q_lit, as, q_bd, q_let, k222, e60, r1]
    unfold f12_paysRow_j105
    rw [q_lit, tb, q_bd]
  · by_cases hj : j < 223
    · rw [cp_in (by omega), show 223 * 0 + (j - 0) = j by omega]
      rw [r2.2.2.2.2.2 5 j (by omega) (by omega) (by omega)]
      exact o5 j hj
    · rw [cp_out (by omega), r2.1 j (by omega)]
      exact o1 2 j (by omega)
  · rw [cp_out (by omega), r2.2.2.2.2.2 e j q1 q3 q4]
    exact o1 e j q2
