/-! PURE HALF: the law's module: clauses -/
abbrev lwC : Type := Nat × Nat × lwS × lwS × Option lwT
/-- the class's clause n, by its row of heads and its code -/
def cCl (o : Bool) (hd co : Nat → Int32) (L n : Nat) (c : lwC) : Prop := (c.1 < 3 ∧ hd (6 * n) = nI c.1) ∧ (c.2.1 ≤ 20 ∧ hd (6 * n + 1) = nI c.2.1) ∧ ∃ a0 a1 a2 a3, (a2 ≤ a3 ∧ a3 ≤ L) ∧ (hd (6 * n + 2) = nI a0 ∧ hd (6 * n + 3) = nI a1 ∧ hd (6 * n + 4) = nI a2 ∧ hd (6 * n + 5) = nI a3) ∧ (c.1 ≠ 2 → a1 ≤ L ∧ lwK o co a0 a1 20 c.2.2.1) ∧ (o = true → c.1 ≠ 2 → lwK o co a1 a2 20 c.2.2.2.1) ∧ (c.2.2.2.2 = none → a3 = a2) ∧ ∀ t, c.2.2.2.2 = some t → lwK o co a2 a3 20 (lw_v t)
def hdc (o : Bool) (kd : Nat) : Nat := if o = true then (if kd = 0 then 23 else if kd = 1 then 25 else 26) else (if kd = 0 then 1 else if kd = 1 then 2 else 3)
/-- the model's clause from token k to e -/
def mCl (o : Bool) (cd vl : Nat → Nat) (T k e : Nat) (c : lwC) : Prop := (k < e ∧ e ≤ T) ∧ cd k = hdc o c.1 ∧ ∃ e1 e2, (e2 ≤ e) ∧ (c.1 = 2 → e1 = k + 1) ∧ (c.1 ≠ 2 → o = false → mS o cd vl T f12_sumOf (k + 1) e1 c.2.2.1) ∧ (c.1 ≠ 2 → o = true → ∃ e0, mS o cd vl T f12_sumOf (k + 1) e0 c.2.2.1 ∧ mS o cd vl T f12_sumOf (e0 + 1) e1 c.2.2.2.1) ∧ (o = false → e2 = e1) ∧ (o = true → (cd e1 = 27 ∧ e2 = e1 + 2 ∧ vl (e1 + 1) = c.2.1) ∨ (cd e1 ≠ 27 ∧ e2 = e1 ∧ c.2.1 = 1)) ∧ (c.2.2.2.2 = none → e = e2 ∧ cd e2 ≠ 4) ∧ ∀ t, c.2.2.2.2 = some t → cd e2 = 4 ∧ mB o cd vl T f12_testOf (e2 + 1) e t
section RD
variable {o : Bool} {S : ph_Sh} {bs cd vl pl : Nat → Nat} {T m : Nat} {M0 K0 M K : ph_Mem} {k lv dp cl : Nat}
theorem rOK_68 {M' : ph_Mem} (h : rOK T M0 K0 M K k lv dp cl) (h1 : ∀ c j, c ≠ 68 → (c ≠ 63 ∨ j ≠ 11) → M'.1 c j = M.1 c j) (h2 : M'.2 = M.2) : rOK T M0 K0 M' K k lv dp cl := by
  obtain ⟨⟨f0, f1⟩, g, ⟨g4, g5⟩, ⟨g6, g7⟩, ⟨g8, g9⟩, g10, g11⟩ := h
  refine ⟨⟨⟨fun c j q1 q2 q3 => (h1 c j q1 (by omega)).trans (f0.1 c j q1 q2 q3), h2.trans f0.2⟩, f1⟩, g, ⟨(h1 _ _ (by omega) (by omega)).trans g4, g5⟩, ⟨(h1 _ _ (by omega) (by omega)).trans g6, g7⟩, ⟨(h1 _ _ (by omega) (by omega)).trans g8, g9⟩, (h1 _ _ (by omega) (by omega)).trans g10, (h1 _ _ (by omega) (by omega)).trans g11⟩
theorem rFa_68 {M' : ph_Mem} (h : rFa T M0 K0 M K) (h1 : ∀ c j, c ≠ 68 → (c ≠ 63 ∨ (j ≠ 8 ∧ j ≠ 9 ∧ j ≠ 10 ∧ j ≠ 11)) → M'.1 c j = M.1 c j) (h2 : M'.2 = M.2) (hB : xB T M') : rFa T M0 K0 M' K := by
  obtain ⟨⟨f0, f1⟩, p, k, cl, ⟨a1, a2, a3⟩, ⟨b1, b2⟩, b3, b4⟩ := h
  obtain ⟨_, k', _, k1, _, k2, _⟩ := hB
  exact ⟨⟨⟨fun c j q1 q2 q3 => (h1 c j q1 (by omega)).trans (f0.1 c j q1 q2 q3), h2.trans f0.2⟩, f1⟩, p, k', cl, ⟨a1, k1, a3⟩, ⟨(h1 _ _ (by omega) (by omega)).trans b1, b2⟩, k2, (h1 _ _ (by omega) (by omega)).trans b4⟩
theorem x_sp8 {h p : Nat} (hp : h + 2 + p < 72) : f6_startPiece S M (nI h) (nI p) = some (ph_wi M 68 (h + 2 + p) (M.1 63 14)) := by
  unfold f6_startPiece
  simp only [q_lit]
  rw [nI_add, nI_add, q_ib (by omega) hp, q_ct, q_let, q_cl (by omega)]
theorem xB_68 (h : xB T M) (j : Nat) (v : Int32) : xB T (ph_wi M 68 j v) := by
  obtain ⟨p, k, h1, h2, h3, h4, h5⟩ := h
  exact ⟨p, k, h1, h2, by rw [wi_o (by omega)]; exact h3, by rw [wi_o (by omega)]; exact h4, by rw [wi_o (by omega)]; exact h5⟩
/-- behind a fault: a clause's rest -/
def xC (M M' : ph_Mem) : Prop := (∀ c j, c ≠ 68 → (c ≠ 63 ∨ (j ≠ 8 ∧ j ≠ 9 ∧ j ≠ 10 ∧ j ≠ 11)) → M'.1 c j = M.1 c j) ∧ M'.2 = M.2
theorem xC_r (M : ph_Mem) : xC M M := ⟨fun _ _ _ _ => rfl, rfl⟩
theorem xC_t {M M' M'' : ph_Mem} (h : xC M M') (h' : xC M' M'') : xC M M'' := ⟨fun c j q1 q2 => (h'.1 c j q1 q2).trans (h.1 c j q1 q2), h'.2.trans h.2⟩
theorem xC_w {M M' : ph_Mem} {j : Nat} {v : Int32} (h : xC M M') : xC M (ph_wi M' 68 j v) := ⟨fun c i q1 q2 => (wi_o (by omega)).trans (h.1 c i q1 q2), h.2⟩
theorem xf_173 (hT : T ≤ 400) (h : xB T M) {n : Nat} (hn : n < 12) : ∃ M', f6_readClause_j173 S (nI (6 * n)) M = some M' ∧ xB T M' ∧ xC M M' := by
  have h1 := xB_68 h (6 * n + 2 + 2) (M.1 63 14)
  refine ⟨_, ?_, xB_68 h1 (6 * n + 2 + 3) ((ph_wi M 68 (6 * n + 2 + 2) (M.1 63 14)).1 63 14), xC_w (xC_w (xC_r M))⟩
  unfold f6_readClause_j173 f6_readClause_j196
  simp only [q_lit]
  rw [x_sp8 (by omega), q_bd, xf_says hT h1, q_bd, if_pos (by first | rfl | trivial | decide), x_sp8 (by omega), q_bd]
theorem xf_138 (hT : T ≤ 400) (h : xB T M) {n : Nat} (hn : n < 12) : ∃ M', f6_readClause_j138 S (nI (6 * n)) M = some M' ∧ xB T M' ∧ xC M M' := by
  obtain ⟨M', p1, p2, p3⟩ := xf_173 (S := S) hT h hn
  refine ⟨M', ?_, p2, p3⟩
  unfold f6_readClause_j138
  rw [xf_says hT h, q_bd, p1]
  by_cases q : M.1 63 3 = 0
  · rw [if_pos q]
  · rw [if_neg q, if_pos (by first | rfl | trivial | decide)]
theorem xf_111 (hT : T ≤ 400) (h : xB T M) {n : Nat} (hn : n < 12) (x : Int32) : ∃ M', f6_readClause_j111 S (nI (6 * n)) x M = some M' ∧ xB T M' ∧ xC M M' := by
  have h1 := xB_68 h (6 * n + 2 + 1) (M.1 63 14)
  have e0 : f6_readClause_j111 S (nI (6 * n)) x M = if x = nI 0 then f6_readClause_j138 S (nI (6 * n)) (ph_wi M 68 (6 * n + 2 + 1) (M.1 63 14)) else (if (ph_wi M 68 (6 * n + 2 + 1) (M.1 63 14)).1 63 3 = nI 0 then f6_readClause_j138 S (nI (6 * n)) (ph_wi M 68 (6 * n + 2 + 1) (M.1 63 14)) else ((f6_expect S (ph_wi M 68 (6 * n + 2 + 1) (M.1 63 14)) 28).bind fun q11 => (f6_readSum S q11).bind fun q12 => f6_readClause_j138 S (nI (6 * n)) q12)) := by
    unfold f6_readClause_j111
    simp only [q_lit]
    rw [x_sp8 (by omega), q_bd]
  have g1 : xC M (ph_wi M 68 (6 * n + 2 + 1) (M.1 63 14)) := xC_w (xC_r M)
  rw [e0]
  generalize ph_wi M 68 (6 * n + 2 + 1) (M.1 63 14) = M1 at *
  obtain ⟨M', p1, p2, p3⟩ := xf_138 (S := S) hT h1 hn
  by_cases q : x = nI 0
  · rw [if_pos q]; exact ⟨M', p1, p2, xC_t g1 p3⟩
  · rw [if_neg q]
    by_cases q2 : M1.1 63 3 = nI 0
    · rw [if_pos q2]; exact ⟨M', p1, p2, xC_t g1 p3⟩
    · rw [if_neg q2, xf_exp hT h1, q_bd]
      have rs : f6_readSum S M1 = some (ph_wi M1 63 9 (M1.1 63 9 + nI 1)) := (xf_sum (rs := f6_readSum_n S 19) hT h1).2
      obtain ⟨M2, r1, r2, r3⟩ := xf_138 (S := S) hT (xf_w9 h1 (M1.1 63 9 + nI 1)) hn
      rw [rs, q_bd, r1]
      exact ⟨M2, rfl, r2, xC_t g1 (xC_t ⟨fun c j q1 q2 => wi_o (by omega), rfl⟩ r3)⟩
/-- the test at a clause's end -/
theorem rd_tail (hE : tkE o bs cd vl pl T m M0 K0) (h : rOK T M0 K0 M K k lv 0 cl) (hl : lv ≤ 50) {n : Nat} (hn : n < 12) : ∃ M' K', f6_readClause_j173 S (nI (6 * n)) M = some M' ∧ ((f12_takes0 K (nI 4)).bind fun q4 => if q4.1 = nI 0 then (some q4.2) else ((f12_readTest q4.2 (nI 0)).bind fun q5 => some q5)) = some K' ∧ (rFa T M0 K0 M' K' ∨ ∃ k' lv' cl' ts, rOK T M0 K0 M' K' k' lv' 0 cl' ∧ lv' ≤ 50 ∧ k ≤ k' ∧ cl ≤ cl' ∧ (∀ j, j < cl → M'.1 69 j = M.1 69 j) ∧ (∀ j, j ≠ 6 * n + 4 → j ≠ 6 * n + 5 → M'.1 68 j = M.1 68 j) ∧ M'.1 68 (6 * n + 4) = nI cl ∧ M'.1 68 (6 * n + 5) = nI cl' ∧ M'.1 63 11 = M.1 63 11 ∧ (ts = none → cl' = cl ∧ k' = k ∧ cd k ≠ 4) ∧ ∀ t, ts = some t → cd k = 4 ∧ lwK o (M'.1 69) cl cl' 20 (lw_v t) ∧ mB o cd vl T f12_testOf (k + 1) k' t) := by
  have hT : T ≤ 400 := by have := hE.1; omega
  have g14 := h.2.2.2.2.2.2
  have h1 : rOK T M0 K0 (ph_wi M 68 (6 * n + 4) (nI cl)) K k lv 0 cl := rOK_68 h (fun c j q1 q2 => wi_o (by omega)) rfl
  have o68 : ∀ j, j ≠ 6 * n + 4 → (ph_wi M 68 (6 * n + 4) (nI cl)).1 68 j = M.1 68 j := fun j q => wi_o (by omega)
  have s68 : (ph_wi M 68 (6 * n + 4) (nI cl)).1 68 (6 * n + 4) = nI cl := wi_s
  have o69 : ∀ j, (ph_wi M 68 (6 * n + 4) (nI cl)).1 69 j = M.1 69 j := fun j => wi_o (by omega)
  have o11 : (ph_wi M 68 (6 * n + 4) (nI cl)).1 63 11 = M.1 63 11 := wi_o (by omega)
  have e0 : f6_readClause_j173 S (nI (6 * n)) M = (f6_says S (ph_wi M 68 (6 * n + 4) (nI cl)) 30).bind fun q18 => if q18 = nI 0 then (f6_readClause_j196 S (nI (6 * n)) (ph_wi M 68 (6 * n + 4) (nI cl))) else ((f6_advance S (ph_wi M 68 (6 * n + 4) (nI cl))).bind fun q19 => (f6_readTest S q19).bind fun q20 => f6_readClause_j196 S (nI (6 * n)) q20) := by
    unfold f6_readClause_j173
    simp only [q_lit]
    rw [x_sp8 (by omega), q_bd, g14]
  have j196 : ∀ N : ph_Mem, f6_readClause_j196 S (nI (6 * n)) N = some (ph_wi N 68 (6 * n + 5) (N.1 63 14)) := fun N => by
    unfold f6_readClause_j196
    simp only [q_lit]
    rw [x_sp8 (by omega), q_bd]
  rw [e0]
  generalize ph_wi M 68 (6 * n + 4) (nI cl) = M1 at *
  have s30 : f6_says S M1 30 = some (nI (decide (cd k = 4)).toNat) := rd_says hE h1 (by omega)
  have t4 := rd_take hE h1 (x := 4) (by omega)
  by_cases c4 : cd k = 4
  · have kt := rd_lt hE h1 (by omega)
    have hnx := rd_next h1 kt
    obtain ⟨M3, K3, r1, r2, r3, r4⟩ := rd_test (S := S) hE 8 0 20 20 (by omega) (by omega) (by omega) (by omega) _ _ _ _ _ hnx hl
    have r1' : f6_readTest S (ph_wi M1 63 8 (nI (k + 1))) = some M3 := r1
    have r2' : f12_readTest (ph_wi K 0 19 (nI (k + 1))) (nI 0) = some K3 := r2
    refine ⟨_, K3, by rw [s30, q_bd, decide_eq_true c4, if_neg (by first | decide | exact fun q => absurd (show nI 1 = nI 0 from q) (by decide)), rd_adv hE h1 kt, q_bd, r1', q_bd, j196], by rw [t4, if_pos c4, q_bd, if_neg (by first | decide | exact fun q => absurd (show nI 1 = nI 0 from q) (by decide)), r2', q_bd], ?_⟩
    rcases r4 with r4 | ⟨k', lv', cl', F, z1, z2, z3, z4, z5, z6, z7, z8⟩
    · left
      have hB := rFa_B hE r4
      exact rFa_68 r4 (fun c j q1 q2 => wi_o (by omega)) rfl (xB_68 hB _ _)
    · right
      have z14 := z1.2.2.2.2.2.2
      refine ⟨k', lv', cl', some F, rOK_68 z1 (fun c j q1 q2 => wi_o (by omega)) rfl, z2, by omega, by omega, fun j hj => ?_, fun j q1 q2 => ?_, ?_, ?_, ?_, (fun q => nomatch q), fun t ht => ?_⟩
      · rw [wi_o (by omega), z6 j hj, wi_o (by omega)]; exact o69 j
      · rw [wi_o (by omega), r3.1 68 j (by omega) (by omega), wi_o (by omega)]; exact o68 j q1
      · rw [wi_o (by omega), r3.1 68 _ (by omega) (by omega), wi_o (by omega)]; exact s68
      · rw [wi_s]; exact z14
      · rw [wi_o (by omega), r3.1 63 11 (by omega) (by omega), wi_o (by omega)]; exact o11
      · injection ht with ht
        subst ht
        exact ⟨c4, lwK_cg z7 (fun j _ _ => wi_o (by omega)), z8 20 (by omega)⟩
  · refine ⟨_, K, by rw [s30, q_bd, decide_eq_false c4, if_pos (by first | rfl | trivial | decide), j196], by rw [t4, if_neg c4, q_bd, if_pos (by first | rfl | trivial | decide)], Or.inr ⟨k, lv, cl, none, rOK_68 h1 (fun c j q1 q2 => wi_o (by omega)) rfl, hl, Nat.le_refl _, Nat.le_refl _, fun j hj => ?_, fun j q1 q2 => ?_, ?_, ?_, ?_, fun _ => ⟨rfl, rfl, c4⟩, fun t ht => nomatch ht⟩⟩
    · rw [wi_o (by omega)]; exact o69 j
    · rw [wi_o (by omega)]; exact o68 j q1
    · rw [wi_o (by omega)]; exact s68
    · rw [wi_s]; exact h1.2.2.2.2.2.2
    · rw [wi_o (by omega)]; exact o11
end RD
