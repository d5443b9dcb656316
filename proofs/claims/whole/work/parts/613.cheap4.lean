/-! PURE HALF: the cheapest way, the model's row as a whole -/
def chR (s : chS) : Nat := match s with
  | none => 1000000000
  | some (_, _, a) => a
theorem ch_l_no (C : Nat → Nat → Nat) (inc : Nat) : ∀ (l : List Nat), l.foldl (fun s i => ch_1 C inc i s) none = none
  | [] => rfl
  | i :: l => by
    rw [List.foldl_cons]
    exact ch_l_no C inc l
theorem m_ch_l {C : Nat → Nat → Nat} {inc n m p d : Nat} {hr : Nat → Nat} (K0 : ph_Mem) (hp : p < n) (hn : n ≤ 6) (hinc : inc ≤ 99) (hd : d ≤ 999) (h475 : K0.1 2 475 = nI n) (h471 : K0.1 2 471 = nI inc) (hh : ∀ i, i < m → hr i < 12) (hinj : ∀ i j, i < m → j < m → hr i = hr j → i = j) (hC : ∀ i w, i < m → w ≤ 61 → C i w ≤ 9999) (hV : ∀ i w, i < m → w ≤ 61 → ∀ K : ph_Mem, (∀ j, (72 ≤ j ∧ j < 216) ∨ 223 ≤ j → K.1 2 j = K0.1 2 j) → K.1 2 222 = nI (d + w) → ∃ K', f12_costsFor K (nI p) (nI (hr i)) = some (nI (C i w), K') ∧ kSc K K') (h35 : K0.1 0 35 = nI m) (hm : m ≤ 6) : ∀ (l : List Nat) (k w u a fuel : Nat) (dn : List Nat) (K : ph_Mem), k + l.length = m → l.length < fuel → w ≤ 61 → u ≤ 99999 → a ≤ 9999 * k → (∀ t x, l[t]? = some x → K0.1 19 (k + t) = nI (hr x)) → l.Nodup → (∀ x, x ∈ l → x < m ∧ x ∉ dn) → ch_k K0 K hr n m p d w u dn → ∃ K' w' u' dn', f12_paysRow_l22 fuel (nI p) (nI (d + 60)) (nI a) (nI k) K = f12_paysRow_j105 (nI (chR (l.foldl (fun s i => ch_1 C inc i s) (some (w, u, a))))) K' ∧ ch_k K0 K' hr n m p d w' u' dn'
  | l, k, w, u, a, 0, dn, K, _, hf, _, _, _, _, _, _, _ => absurd hf (by omega)
  | [], k, w, u, a, f + 1, dn, K, e, _, _, _, _, _, _, _, hI => by
    have k35 : K.1 0 35 = nI m := (hI.2.2.2.2.2 0 35 (by omega) (by omega) (by omega)).trans h35
    refine ⟨K, w, u, dn, ?_, hI⟩
    have ek : k = m := e
    subst ek
    unfold f12_paysRow_l22
    rw [k35, if_pos (Int32.le_refl _)]
    rfl
  | i :: l, k, w, u, a, f + 1, dn, K, e, hf, hw, hu, ha, h19, hnd, hl, hI => by
    have k35 : K.1 0 35 = nI m := (hI.2.2.2.2.2 0 35 (by omega) (by omega) (by omega)).trans h35
    rw [List.length_cons] at e hf
    obtain ⟨him, hid⟩ := hl i (List.mem_cons_self ..)
    have eu : u + (w - w) * inc = u := by rw [Nat.sub_self, Nat.zero_mul, Nat.add_zero]
    have hI' : ch_k K0 K hr n m p d w (u + (w - w) * inc) dn := by rw [eu]; exact hI
    obtain ⟨ya, yb⟩ := m_ch_f K0 hp hn hinc hd h475 h471 hh hinj hC hV (f12_paysRow_l22 f) (u0 := u) (w0 := w) him (show k < 6 by omega) (show a ≤ 100000 by omega) (h19 0 i rfl) dn hid (61 - w) w 10000 K (by omega) (by omega) (by omega) (by omega) hI'
    have un : f12_paysRow_l22 (f + 1) (nI p) (nI (d + 60)) (nI a) (nI k) K = f12_paysRow_l31 (f12_paysRow_l22 f) 10000 (nI p) (nI (d + 60)) (nI a) (nI k) K := by
      conv => lhs; unfold f12_paysRow_l22
      simp (disch := first | assumption | omega) only [q_lit, Int32.neg_neg, nI_add, pk_mul, q_sub, q_addn, q_nadd, q_lt, q_le, q_eq, q_eqn, q_neq, q_nen, q_ltn, q_nlt, q_len, q_nle, q_nltn, q_nlen, q_cl, q_ib, q_ibn, q_isz0, q_isz1, q_iszb, q_b0, q_b1, q_ng1, q_ng2, q_ng3, q_ng4, q_ng5, q_ng6, Bool.toNat_true, Bool.toNat_false, if_pos, if_neg, q_ct, q_cf, q_let, q_bd, q_it, q_if, Nat.zero_add, Nat.add_zero, true_and, and_true, false_and, and_false, or_false, false_or, or_true, true_or, Bool.true_eq_false, Bool.false_eq_true, wi_s, wi_o, wi_r, k35]
    rw [un, List.foldl_cons]
    rcases ch_f_spec C inc i w u (61 - w) w with ⟨w', g1, g2, g3, g4⟩ | g3
    · obtain ⟨K', r1, r2, r3⟩ := ya w' g3
      have e1 : ch_1 C inc i (some (w, u, a)) = some (w', u + (w' - w) * inc - C i w', a + C i w') := by
        unfold ch_1
        simp only [g3]
      have hci := hC i w' him (by omega)
      obtain ⟨hn1, hn2⟩ := List.nodup_cons.mp hnd
      rw [e1, r1]
      exact m_ch_l (C := C) (inc := inc) K0 hp hn hinc hd h475 h471 hh hinj hC hV h35 hm l (k + 1) w' (u + (w' - w) * inc - C i w') (a + C i w') f (i :: dn) K' (by omega) (by omega) (by omega) (by omega) (by omega) (fun t x hx => by
        have := h19 (t + 1) x hx
        rw [show k + 1 + t = k + (t + 1) by omega]
        exact this) hn2 (fun x hx => ⟨(hl x (List.mem_cons_of_mem _ hx)).1, fun q => by
          rcases List.mem_cons.mp q with q | q
          · subst q; exact hn1 hx
          · exact (hl x (List.mem_cons_of_mem _ hx)).2 q⟩) r3
    · obtain ⟨K', w', u', r1, r2⟩ := yb g3
      have e1 : ch_1 C inc i (some (w, u, a)) = none := by
        unfold ch_1
        simp only [g3]
      rw [e1, ch_l_no, r1]
      exact ⟨K', w', u', dn, rfl, r2⟩
