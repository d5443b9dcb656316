/-! PURE HALF: the law's module: both read a clause -/
section RD
variable {o : Bool} {S : ph_Sh} {bs cd vl pl : Nat → Nat} {T m : Nat} {M0 K0 M K : ph_Mem} {k lv dp cl : Nat}
def mrest (o : Bool) (K : ph_Mem) : Option ph_Mem := if o = true then f12_readOrder_j43 K else f12_readClause_j29 K
theorem kf_rest {p : Nat} (hp : p ≤ 400) (h : K.1 0 21 = nI p) : mrest o K = some K := by
  unfold mrest f12_readOrder_j43 f12_readOrder_j59 f12_readClause_j29
  simp only [kf_take hp h, q_bd]
  cases o <;> rfl
theorem rd_rest (hE : tkE o bs cd vl pl T m M0 K0) (h : rOK T M0 K0 M K k lv 0 cl) (hl : lv ≤ 50) {n : Nat} (hn : n < 12) (h1 : M.1 68 (6 * n + 1) = nI 1) : ∃ M' K', f6_readClause_j138 S (nI (6 * n)) M = some M' ∧ mrest o K = some K' ∧ (rFa T M0 K0 M' K' ∨ ∃ k' lv' cl' tm e2 ts, rOK T M0 K0 M' K' k' lv' 0 cl' ∧ lv' ≤ 50 ∧ k ≤ e2 ∧ e2 ≤ k' ∧ cl ≤ cl' ∧ (∀ j, j < cl → M'.1 69 j = M.1 69 j) ∧ (∀ j, j ≠ 6 * n + 1 → j ≠ 6 * n + 4 → j ≠ 6 * n + 5 → M'.1 68 j = M.1 68 j) ∧ M'.1 68 (6 * n + 1) = nI tm ∧ tm ≤ 20 ∧ M'.1 68 (6 * n + 4) = nI cl ∧ M'.1 68 (6 * n + 5) = nI cl' ∧ M'.1 63 11 = M.1 63 11 ∧ (o = false → e2 = k) ∧ (o = true → (cd k = 27 ∧ e2 = k + 2 ∧ vl (k + 1) = tm) ∨ (cd k ≠ 27 ∧ e2 = k ∧ tm = 1)) ∧ (ts = none → cl' = cl ∧ k' = e2 ∧ cd e2 ≠ 4) ∧ ∀ t, ts = some t → cd e2 = 4 ∧ lwK o (M'.1 69) cl cl' 20 (lw_v t) ∧ mB o cd vl T f12_testOf (e2 + 1) k' t) := by
  have hT : T ≤ 400 := by have := hE.1; omega
  have m3 : M.1 63 3 = nI o.toNat := (h.1.1.1 63 3 (by omega) (by omega) (by omega)).trans hE.2.2.1.1
  have tl : ∀ K, ((f12_takes0 K (nI 4)).bind fun q4 => if q4.1 = nI 0 then (some q4.2) else ((f12_readTest q4.2 (nI 0)).bind fun q5 => some q5)) = f12_readClause_j29 K := fun K => by
    unfold f12_readClause_j29
    simp only [q_lit]
  have tl2 : ∀ K, ((f12_takes0 K (nI 4)).bind fun q4 => if q4.1 = nI 0 then (some q4.2) else ((f12_readTest q4.2 (nI 0)).bind fun q5 => some q5)) = f12_readOrder_j59 K := fun K => by
    unfold f12_readOrder_j59
    simp only [q_lit]
  -- no times
  have plain : (o = true → cd k ≠ 27) → f6_readClause_j138 S (nI (6 * n)) M = f6_readClause_j173 S (nI (6 * n)) M → mrest o K = ((f12_takes0 K (nI 4)).bind fun q4 => if q4.1 = nI 0 then (some q4.2) else ((f12_readTest q4.2 (nI 0)).bind fun q5 => some q5)) → ∃ M' K', f6_readClause_j138 S (nI (6 * n)) M = some M' ∧ mrest o K = some K' ∧ (rFa T M0 K0 M' K' ∨ ∃ k' lv' cl' tm e2 ts, rOK T M0 K0 M' K' k' lv' 0 cl' ∧ lv' ≤ 50 ∧ k ≤ e2 ∧ e2 ≤ k' ∧ cl ≤ cl' ∧ (∀ j, j < cl → M'.1 69 j = M.1 69 j) ∧ (∀ j, j ≠ 6 * n + 1 → j ≠ 6 * n + 4 → j ≠ 6 * n + 5 → M'.1 68 j = M.1 68 j) ∧ M'.1 68 (6 * n + 1) = nI tm ∧ tm ≤ 20 ∧ M'.1 68 (6 * n + 4) = nI cl ∧ M'.1 68 (6 * n + 5) = nI cl' ∧ M'.1 63 11 = M.1 63 11 ∧ (o = false → e2 = k) ∧ (o = true → (cd k = 27 ∧ e2 = k + 2 ∧ vl (k + 1) = tm) ∨ (cd k ≠ 27 ∧ e2 = k ∧ tm = 1)) ∧ (ts = none → cl' = cl ∧ k' = e2 ∧ cd e2 ≠ 4) ∧ ∀ t, ts = some t → cd e2 = 4 ∧ lwK o (M'.1 69) cl cl' 20 (lw_v t) ∧ mB o cd vl T f12_testOf (e2 + 1) k' t) := by
    intro c27 e1 e2
    obtain ⟨M', K', r1, r2, r3⟩ := rd_tail (S := S) hE h hl hn
    refine ⟨M', K', e1.trans r1, e2.trans r2, r3.imp id ?_⟩
    intro ⟨k', lv', cl', ts, z1, z2, z3, z4, z5, z6, z7, z8, z9, z10, z11⟩
    exact ⟨k', lv', cl', 1, k, ts, z1, z2, Nat.le_refl _, z3, z4, z5, fun j q1 q2 q3 => z6 j q2 q3, by rw [z6 _ (by omega) (by omega)]; exact h1, by omega, z7, z8, z9, fun _ => rfl, fun q => Or.inr ⟨c27 q, rfl, rfl⟩, z10, z11⟩
  cases o
  · refine plain (fun q => nomatch q) ?_ (by rw [tl]; rfl)
    unfold f6_readClause_j138
    rw [m3, if_pos (by first | rfl | trivial | decide)]
  · have s29 : f6_says S M 29 = some (nI (decide (cd k = 27)).toNat) := rd_says hE h (by omega)
    have t27 := rd_take hE h (x := 27) (by omega)
    by_cases c27 : cd k = 27
    · have kt := rd_lt hE h (by omega)
      have hnx := rd_next h kt
      have num := rd_num (S := S) hE hnx (a := 1) (b := 20) (by omega) (by omega)
      have e1 : f6_readClause_j138 S (nI (6 * n)) M = (f6_readNumber S (ph_wi M 63 8 (nI (k + 1))) (nI 1) (nI 20)).bind fun q15 => f6_readClause_j173 S (nI (6 * n)) (ph_wi q15.2 68 (6 * n + 1) q15.1) := by
        unfold f6_readClause_j138
        simp only [q_lit]
        rw [m3, if_neg (by first | decide | exact fun q => absurd (show nI 1 = nI 0 from q) (by decide)), s29, q_bd, decide_eq_true c27, if_neg (by first | decide | exact fun q => absurd (show nI 1 = nI 0 from q) (by decide)), rd_adv hE h kt, q_bd, nI_add, q_ib (by omega) (show 6 * n + 1 < 72 by omega), q_cl (by omega)]
        rfl
      have e2 : mrest true K = (f12_mustNumber (ph_wi K 0 19 (nI (k + 1))) (nI 1) (nI 20)).bind fun q5 => f12_readOrder_j59 q5 := by
        show f12_readOrder_j43 K = _
        unfold f12_readOrder_j43
        simp only [q_lit]
        rw [t27, if_pos c27, q_bd, if_neg (by first | decide | exact fun q => absurd (show nI 1 = nI 0 from q) (by decide))]
      rw [e1, e2]
      by_cases cn : cd (k + 1) = 50 ∧ 1 ≤ vl (k + 1) ∧ vl (k + 1) ≤ 20
      · rw [if_pos cn, if_pos cn] at num
        have k1 := rd_lt hE hnx (by omega)
        have hn2 := rd_next hnx k1
        have hn3 : rOK T M0 K0 (ph_wi (ph_wi (ph_wi M 63 8 (nI (k + 1))) 63 8 (nI (k + 1 + 1))) 68 (6 * n + 1) (nI (vl (k + 1)))) (ph_wi (ph_wi K 0 19 (nI (k + 1))) 0 19 (nI (k + 1 + 1))) (k + 1 + 1) lv 0 cl := rOK_68 hn2 (fun c j q1 q2 => wi_o (by omega)) rfl
        obtain ⟨M', K', r1, r2, r3⟩ := rd_tail (S := S) hE hn3 hl hn
        refine ⟨M', K', by rw [num.1, q_bd]; exact r1, by rw [num.2, q_bd, ← tl2]; exact r2, r3.imp id ?_⟩
        intro ⟨k', lv', cl', ts, z1, z2, z3, z4, z5, z6, z7, z8, z9, z10, z11⟩
        refine ⟨k', lv', cl', vl (k + 1), k + 2, ts, z1, z2, by omega, z3, z4, fun j hj => ?_, fun j q1 q2 q3 => ?_, ?_, by omega, z7, z8, ?_, (fun q => nomatch q), fun _ => Or.inl ⟨c27, rfl, rfl⟩, z10, z11⟩
        · rw [z5 j hj, wi_o (by omega), wi_o (by omega), wi_o (by omega)]
        · rw [z6 j q2 q3, wi_o (by omega), wi_o (by omega), wi_o (by omega)]
        · rw [z6 _ (by omega) (by omega), wi_s]
        · rw [z9, wi_o (by omega), wi_o (by omega), wi_o (by omega)]
      · rw [if_neg cn, if_neg cn] at num
        obtain ⟨_, _, fl3⟩ := rd_fail (S := S) hE hnx
        have hB := rFa_B hE fl3
        have hB2 := xB_68 hB (6 * n + 1) (nI 0)
        obtain ⟨M', x1, x2, x3⟩ := xf_173 (S := S) hT hB2 hn
        obtain ⟨_, p, _, _, y1, y2, _, _⟩ := id fl3
        refine ⟨M', _, by rw [num.1, q_bd]; exact x1, ?_, Or.inl (rFa_68 fl3 (fun c j q1 q2 => (x3.1 c j q1 q2).trans (wi_o (by omega))) x3.2 x2)⟩
        rw [num.2, q_bd, ← tl2, kf_take y1.1 y2.2, q_bd, if_pos (by first | rfl | trivial | decide)]
    · refine plain (fun _ => c27) ?_ ?_
      · unfold f6_readClause_j138
        simp only [q_lit]
        rw [m3, if_neg (by first | decide | exact fun q => absurd (show nI 1 = nI 0 from q) (by decide)), s29, q_bd, decide_eq_false c27, if_pos (by first | rfl | trivial | decide)]
      · show f12_readOrder_j43 K = _
        unfold f12_readOrder_j43
        simp only [q_lit]
        rw [t27, if_neg c27, q_bd, if_pos (by first | rfl | trivial | decide), tl2]
theorem rd_kind (hE : tkE o bs cd vl pl T m M0 K0) (h : rOK T M0 K0 M K k lv dp cl) : f6_kindHere S M = some (if cd k = hdc o 0 then nI 0 else if cd k = hdc o 1 then nI 1 else if cd k = hdc o 2 then nI 2 else -nI 1) := by
  have sy := fun s (hs : s < 40) => rd_says (S := S) hE h hs
  have m3 : M.1 63 3 = nI o.toNat := (h.1.1.1 63 3 (by omega) (by omega) (by omega)).trans hE.2.2.1.1
  unfold f6_kindHere f6_kindHere_j15 f6_kindHere_j49 f6_kindHere_j83
  cases o
  · have s1 : f6_says S M 1 = some (nI (decide (cd k = 1)).toNat) := sy 1 (by omega)
    have s3 : f6_says S M 3 = some (nI (decide (cd k = 2)).toNat) := sy 3 (by omega)
    have s5 : f6_says S M 5 = some (nI (decide (cd k = 3)).toNat) := sy 5 (by omega)
    show _ = some (if cd k = 1 then nI 0 else if cd k = 2 then nI 1 else if cd k = 3 then nI 2 else -nI 1)
    simp only [m3, s1, s3, s5, q_bd]
    rw [if_pos (by first | rfl | trivial | decide), show decide (1 < 40) = true from rfl, q_ct]
    by_cases c1 : cd k = 1
    · rw [if_pos c1, decide_eq_true c1, if_neg (by first | decide | exact fun q => absurd (show nI 1 = nI 0 from q) (by decide)), ite_self]; rfl
    · rw [if_neg c1, decide_eq_false c1, if_pos (by first | rfl | trivial | decide), if_pos (by first | rfl | trivial | decide), show decide (3 < 40) = true from rfl, q_ct]
      by_cases c2 : cd k = 2
      · rw [if_pos c2, decide_eq_true c2, if_neg (by first | decide | exact fun q => absurd (show nI 1 = nI 0 from q) (by decide)), ite_self]; rfl
      · rw [if_neg c2, decide_eq_false c2, if_pos (by first | rfl | trivial | decide), if_pos (by first | rfl | trivial | decide), show decide (5 < 40) = true from rfl, q_ct]
        by_cases c3 : cd k = 3
        · rw [if_pos c3, decide_eq_true c3, if_neg (by first | decide | exact fun q => absurd (show nI 1 = nI 0 from q) (by decide)), ite_self]; rfl
        · rw [if_neg c3, decide_eq_false c3, if_pos (by first | rfl | trivial | decide)]; rfl
  · have s1 : f6_says S M 0 = some (nI (decide (cd k = 23)).toNat) := sy 0 (by omega)
    have s3 : f6_says S M 2 = some (nI (decide (cd k = 25)).toNat) := sy 2 (by omega)
    have s5 : f6_says S M 4 = some (nI (decide (cd k = 26)).toNat) := sy 4 (by omega)
    show _ = some (if cd k = 23 then nI 0 else if cd k = 25 then nI 1 else if cd k = 26 then nI 2 else -nI 1)
    simp only [m3, s1, s3, s5, q_bd]
    rw [if_neg (by first | decide | exact fun q => absurd (show nI 1 = nI 0 from q) (by decide)), show decide (0 < 40) = true from rfl, q_ct]
    by_cases c1 : cd k = 23
    · rw [if_pos c1, decide_eq_true c1, if_neg (by first | decide | exact fun q => absurd (show nI 1 = nI 0 from q) (by decide)), ite_self]; rfl
    · rw [if_neg c1, decide_eq_false c1, if_pos (by first | rfl | trivial | decide), if_neg (by first | decide | exact fun q => absurd (show nI 1 = nI 0 from q) (by decide)), show decide (2 < 40) = true from rfl, q_ct]
      by_cases c2 : cd k = 25
      · rw [if_pos c2, decide_eq_true c2, if_neg (by first | decide | exact fun q => absurd (show nI 1 = nI 0 from q) (by decide)), ite_self]; rfl
      · rw [if_neg c2, decide_eq_false c2, if_pos (by first | rfl | trivial | decide), if_neg (by first | decide | exact fun q => absurd (show nI 1 = nI 0 from q) (by decide)), show decide (4 < 40) = true from rfl, q_ct]
        by_cases c3 : cd k = 26
        · rw [if_pos c3, decide_eq_true c3, if_neg (by first | decide | exact fun q => absurd (show nI 1 = nI 0 from q) (by decide)), ite_self]; rfl
        · rw [if_neg c3, decide_eq_false c3, if_pos (by first | rfl | trivial | decide)]; rfl
end RD
