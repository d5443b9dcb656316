/-! PURE HALF: the law's module: a ruling, the class's search -/
def clp (hi : Nat) (v : Int64) : Nat := if v < 0 then 0 else min hi v.toInt.toNat
theorem clp_le (hi : Nat) (v : Int64) : clp hi v ≤ hi := by
  unfold clp
  split <;> omega
theorem clp_n {hi k : Nat} (hk : k < 2 ^ 63) : clp hi (lN k) = min hi k := by
  unfold clp
  rw [if_neg (show ¬ lN k < 0 from fun q => by
    have := (pk_lLT (a := k) (b := 0) hk (by omega)).mp q
    omega), pk_lT hk]
  rfl
def mst (kd : Nat) : Nat := if kd = 0 then 999 else if kd = 1 then 9999 else 1
theorem mst_le (kd : Nat) : mst kd ≤ 9999 := by unfold mst; (repeat' split) <;> omega
theorem x_clp {S : ph_Sh} {M : ph_Mem} {c kd : Nat} {v : Int64} (hk : kd < 3) : f9_ruled_j185 S c (nI kd) v M = some (nI (clp (mst kd) v), M) := by
  have tv : ((ph_tv 2).getD kd 0).toInt64 = lN (mst kd) := by
    have : kd = 0 ∨ kd = 1 ∨ kd = 2 := by omega
    rcases this with rfl | rfl | rfl <;> decide
  have ml := mst_le kd
  unfold f9_ruled_j185
  rw [q_ib (by omega) hk, q_ct, q_cl (by omega), tv]
  generalize mst kd = hi at *
  unfold f9_min_f86c9 f9_max_f86c9
  by_cases v0 : v < 0
  · have : clp hi v = 0 := by unfold clp; rw [if_pos v0]
    have lt : v < lN hi := by
      have h0 : (0 : Int64) ≤ lN hi := (pk_lLE (a := 0) (b := hi) (by omega) (by omega)).mpr (by omega)
      exact Int64.lt_of_lt_of_le v0 h0
    rw [if_pos ((lg_cmp_gt _ _).mpr lt), q_bd, if_neg (fun q => Int64.lt_asymm v0 ((lg_cmp_lt _ _).mp q)), q_bd, this]
    rfl
  · obtain ⟨k, k1, rfl⟩ := pk_lOf v0
    rw [clp_n k1]
    by_cases hk2 : k < hi
    · rw [if_pos ((lg_cmp_gt _ _).mpr ((pk_lLT k1 (by omega)).mpr hk2)), q_bd, Nat.min_eq_right (by omega)]
      by_cases k0 : 0 < k
      · rw [if_pos (show lg_cmp 0 (lN k) < 0 from (lg_cmp_lt _ _).mpr ((pk_lLT (a := 0) (by omega) k1).mpr k0)), q_bd, lN_i]
      · have : k = 0 := by omega
        subst this
        rw [if_neg (show ¬ lg_cmp 0 (lN 0) < 0 by decide), q_bd]
        rfl
    · rw [if_neg (fun q => hk2 ((pk_lLT k1 (by omega)).mp ((lg_cmp_gt _ _).mp q))), q_bd, Nat.min_eq_left (by omega)]
      by_cases k0 : 0 < hi
      · rw [if_pos (show lg_cmp 0 (lN hi) < 0 from (lg_cmp_lt _ _).mpr ((pk_lLT (a := 0) (by omega) (by omega)).mpr k0)), q_bd, lN_i]
      · have : hi = 0 := by omega
        subst this
        rw [if_neg (show ¬ lg_cmp 0 (lN 0) < 0 by decide), q_bd]
        rfl
def clF (kd : Nat) (r : lwE) (c : lwC) : Option Int64 := if kd = 2 then some 1 else c.2.2.1 r
def clR (kd : Nat) (r : lwE) (c : lwC) : Option Int64 := if c.1 = kd then (match c.2.2.2.2 with
  | none => clF kd r c
  | some t => if t r = some true then clF kd r c else none) else none
def lst (f : Nat → Option Int64) : Nat → Option Int64
  | 0 => none
  | n + 1 => match f n with
    | some v => some v
    | none => lst f n
/-- a program of the class: its cells in M -/
def cPr (o : Bool) (S : ph_Sh) (M : ph_Mem) (q n cl : Nat) (cs : Nat → lwC) : Prop := (ph_isPb S q = true ∧ n ≤ 12) ∧ M.1 q 0 = nI n ∧ (ph_len S (q + 1) = 6 * n ∧ ph_len S (q + 2) = cl ∧ cl ≤ 400) ∧ ∀ j, j < n → cCl o (M.1 (q + 1)) (M.1 (q + 2)) cl j (cs j)
theorem cPr_k {o : Bool} {S : ph_Sh} {M : ph_Mem} {q n cl i : Nat} {cs : Nat → lwC} (h : cPr o S M q n cl cs) (hi : i < n) : f4_kindOf S M q (nI i) = some (nI (cs i).1) ∧ f4_timesOf S M q (nI i) = some (nI (cs i).2.1) := by
  obtain ⟨⟨_, h1⟩, _, ⟨h2, _⟩, h3⟩ := h
  obtain ⟨⟨a1, a2⟩, ⟨a3, a4⟩, _⟩ := h3 i hi
  refine ⟨?_, ?_⟩
  · unfold f4_kindOf
    simp only [q_lit]
    rw [pk_mul, h2, q_ib (by omega) (by omega), q_ct, q_cl (by omega), Nat.mul_comm i 6, a2]
  · unfold f4_timesOf
    simp only [q_lit]
    rw [pk_mul, nI_add, h2, q_ib (by omega) (by omega), q_ct, q_cl (by omega), Nat.mul_comm i 6, a4]
/-- the test of clause i: none, or what it says -/
theorem cPr_t {o : Bool} {S : ph_Sh} {M : ph_Mem} {q n cl i c : Nat} {cs : Nat → lwC} {r : lwE} (h : cPr o S M q n cl cs) (hi : i < n) (hr : ∀ k, k < lwW o → M.1 (c + 1) k = r k) : ((cs i).2.2.2.2 = none → f4_isEmpty S M q (nI i) (nI 2) = some (nI 1)) ∧ ∀ t, (cs i).2.2.2.2 = some t → f4_isEmpty S M q (nI i) (nI 2) = some (nI 0) ∧ ∃ M', f2_value S M c q (nI i) (nI 2) = some ((lw_v t r).getD lwBr, M') ∧ vSc c M M' := by
  obtain ⟨⟨_, h1⟩, _, ⟨h2, h2', h2''⟩, h3⟩ := h
  obtain ⟨_, _, a0, a1, a2, a3, ⟨b1, b2⟩, ⟨b3, b4, b5, b6⟩, b7, b8, b9, b10⟩ := h3 i hi
  have e1 : f4_startOf S M q (nI i) (nI 2) = some (nI a2) := by
    unfold f4_startOf
    simp only [q_lit, pk_mul, nI_add]
    rw [h2, q_ib (by omega) (by omega), q_ct, q_cl (by omega), show i * 6 + 2 + 2 = 6 * i + 4 by omega, b5]
  have e2 : f4_endOf S M q (nI i) (nI 2) = some (nI a3) := by
    unfold f4_endOf
    simp only [q_lit, pk_mul, nI_add]
    rw [h2, q_ib (by omega) (by omega), q_ct, q_cl (by omega), show i * 6 + 2 + 2 + 1 = 6 * i + 5 by omega, b6]
  have em : f4_isEmpty S M q (nI i) (nI 2) = if nI a2 < nI a3 then some (nI 0) else some (nI 1) := by
    unfold f4_isEmpty
    rw [e1, q_bd, e2, q_bd]
    rfl
  refine ⟨fun hn => ?_, fun t ht => ?_⟩
  · rw [em, b9 hn, if_neg (by rw [q_lt (by omega) (by omega)]; omega)]
  · have k := b10 t ht
    refine ⟨by rw [em, if_pos (by rw [q_lt (by omega) (by omega)]; exact k.1)], ?_⟩
    exact x_val (pc := 2) k (by omega) (by omega) (by omega) (by omega) (by omega) (by omega) b5 b6 (fun _ _ _ => rfl) hr
theorem cPr_s {o : Bool} {S : ph_Sh} {M : ph_Mem} {q n cl i c : Nat} {cs : Nat → lwC} {r : lwE} (h : cPr o S M q n cl cs) (hi : i < n) (hk : (cs i).1 ≠ 2) (hr : ∀ k, k < lwW o → M.1 (c + 1) k = r k) : (∃ M', f2_value S M c q (nI i) (nI 0) = some (((cs i).2.2.1 r).getD lwBr, M') ∧ vSc c M M') ∧ (∀ v, (cs i).2.2.1 r = some v → v ≠ lwBr) ∧ (o = true → (∃ M', f2_value S M c q (nI i) (nI 1) = some (((cs i).2.2.2.1 r).getD lwBr, M') ∧ vSc c M M') ∧ ∀ v, (cs i).2.2.2.1 r = some v → v ≠ lwBr) := by
  obtain ⟨⟨_, h1⟩, _, ⟨h2, h2', h2''⟩, h3⟩ := h
  obtain ⟨_, _, a0, a1, a2, a3, ⟨b1, b2⟩, ⟨b3, b4, b5, b6⟩, b7, b8, b9, b10⟩ := h3 i hi
  obtain ⟨c1, c2⟩ := b7 hk
  exact ⟨x_val (pc := 0) c2 (by omega) (by omega) (by omega) (by omega) (by omega) (by omega) b3 b4 (fun _ _ _ => rfl) hr, c2.2.1.2 r, fun ho => ⟨x_val (pc := 1) (b8 ho hk) (by omega) (by omega) (by omega) (by omega) (by omega) (by omega) b4 b5 (fun _ _ _ => rfl) hr, (b8 ho hk).2.1.2 r⟩⟩
theorem cPr_v {o : Bool} {S : ph_Sh} {M M' : ph_Mem} {q n cl : Nat} {cs : Nat → lwC} (h : cPr o S M q n cl cs) (hv : M'.1 = M.1) : cPr o S M' q n cl cs := by
  unfold cPr at h ⊢
  rw [hv]
  exact h
theorem lw_v1 {T : lwT} {r : lwE} : (lg_cmp ((lw_v T r).getD lwBr) 1 = 0) = (T r = some true) := by
  apply propext
  rw [lg_cmp_eq]
  unfold lw_v
  cases T r with
  | none => exact ⟨fun q => absurd q (by decide), fun q => nomatch q⟩
  | some b =>
    cases b
    · exact ⟨fun q => absurd q (by decide), fun q => absurd q (by decide)⟩
    · exact ⟨fun _ => rfl, fun _ => rfl⟩
theorem x_srch {S : ph_Sh} {c q n cl kd pl : Nat} {x6 : Int32} {cs : Nat → lwC} {r : lwE} (hkd : kd < 3) : ∀ (i f : Nat) (M : ph_Mem), i ≤ n → i < f → cPr false S M q n cl cs → (∀ k, k < 9 → M.1 6 k = r k) → ∃ M', vSc 5 M M' ∧ f9_ruled_l109 S c f (nI kd) (nI pl) x6 (some q) (nI i - nI 1) M = (match lst (fun j => clR kd r (cs j)) i with
    | some v => some (nI (clp (mst kd) v), M')
    | none => f9_ruled_j208 S c (nI kd) (nI pl) x6 M')
  | i, 0, _, _, h, _, _ => absurd h (by omega)
  | 0, f + 1, M, _, _, _, _ => by
    refine ⟨M, vSc_r 5 M, ?_⟩
    unfold f9_ruled_l109
    rw [if_pos (by decide)]
    rfl
  | i + 1, f + 1, M, hi, hf, hP, hr => by
    have ei : nI (i + 1) - nI 1 = nI i := by rw [q_sub (by omega), Nat.add_sub_cancel]
    have em : nI i + -nI 1 = nI i - nI 1 := (Int32.sub_eq_add_neg ..).symm
    have n12 := hP.1.2
    obtain ⟨k1, _⟩ := cPr_k hP (show i < n by omega)
    have kb3 := (hP.2.2.2 i (by omega)).1.1
    obtain ⟨t1, t2⟩ := cPr_t (c := 5) (r := r) hP (show i < n by omega) hr
    have P := hP.1.1
    -- where this clause says nothing
    have skip : ∀ M1, vSc 5 M M1 → clR kd r (cs i) = none → f9_ruled_l109 S c (f + 1) (nI kd) (nI pl) x6 (some q) (nI (i + 1) - nI 1) M = f9_ruled_j202 S c (f9_ruled_l109 S c f) (nI kd) (nI pl) x6 (some q) (nI i) M1 → ∃ M', vSc 5 M M' ∧ f9_ruled_l109 S c (f + 1) (nI kd) (nI pl) x6 (some q) (nI (i + 1) - nI 1) M = (match lst (fun j => clR kd r (cs j)) (i + 1) with
        | some v => some (nI (clp (mst kd) v), M')
        | none => f9_ruled_j208 S c (nI kd) (nI pl) x6 M') := by
      intro M1 v1 hn he
      obtain ⟨M', y1, y2⟩ := x_srch (S := S) (c := c) (q := q) (n := n) (cl := cl) (pl := pl) (x6 := x6) (cs := cs) (r := r) hkd i f M1 (by omega) (by omega) (cPr_v hP v1.1) (fun k hk => by rw [v1.1]; exact hr k hk)
      refine ⟨M', vSc_t v1 y1, ?_⟩
      rw [he, lst, hn]
      unfold f9_ruled_j202
      simp only [q_lit]
      rw [em]
      exact y2
    -- where its test holds
    have body : ∀ M1, vSc 5 M M1 → clR kd r (cs i) = clF kd r (cs i) → (cs i).1 = kd → f9_ruled_l109 S c (f + 1) (nI kd) (nI pl) x6 (some q) (nI (i + 1) - nI 1) M = f9_ruled_j153 S c (f9_ruled_l109 S c f) (nI kd) (nI pl) x6 (some q) (nI i) M1 → ∃ M', vSc 5 M M' ∧ f9_ruled_l109 S c (f + 1) (nI kd) (nI pl) x6 (some q) (nI (i + 1) - nI 1) M = (match lst (fun j => clR kd r (cs j)) (i + 1) with
        | some v => some (nI (clp (mst kd) v), M')
        | none => f9_ruled_j208 S c (nI kd) (nI pl) x6 M') := by
      intro M1 v1 hc hkk he
      by_cases k2 : kd = 2
      · refine ⟨M1, v1, ?_⟩
        have : clF kd r (cs i) = some 1 := by unfold clF; rw [if_pos k2]
        rw [he, lst, hc, this]
        unfold f9_ruled_j153 f9_ruled_j174
        rw [if_pos (show nI kd = (2 : Int32) by rw [k2]; rfl), if_neg (show ¬ lg_cmp 1 (-4000000000000000000) = 0 by decide)]
        exact x_clp hkd
      · have hF : clF kd r (cs i) = (cs i).2.2.1 r := by unfold clF; rw [if_neg k2]
        obtain ⟨⟨M2, u1, u2⟩, u3, _⟩ := cPr_s (c := 5) (r := r) (cPr_v (M' := M1) hP v1.1) (show i < n by omega) (by rw [hkk]; exact k2) (fun k hk => by rw [v1.1]; exact hr k hk)
        have e2 : f9_ruled_l109 S c (f + 1) (nI kd) (nI pl) x6 (some q) (nI (i + 1) - nI 1) M = f9_ruled_j174 S c (f9_ruled_l109 S c f) (nI kd) (nI pl) x6 (some q) (nI i) (((cs i).2.2.1 r).getD lwBr) M2 := by
          rw [he]
          unfold f9_ruled_j153
          simp only [q_lit]
          rw [if_neg (by rw [q_eq (by omega) (by omega)]; exact k2)]
          show (cond (ph_isPb S q) _ none) = _
          rw [P, q_ct, u1, q_bd]
        cases eF : (cs i).2.2.1 r with
        | none =>
          refine skip M2 (vSc_t v1 u2) (by rw [hc, hF]; exact eF) ?_
          rw [e2, eF]
          unfold f9_ruled_j174
          rw [if_pos (show lg_cmp ((none : Option Int64).getD lwBr) (-4000000000000000000) = 0 by decide)]
        | some v =>
          refine ⟨M2, vSc_t v1 u2, ?_⟩
          rw [e2, eF, lst, hc, hF, eF]
          unfold f9_ruled_j174
          rw [if_neg (show ¬ lg_cmp ((some v).getD lwBr) (-4000000000000000000) = 0 from fun q => u3 v eF ((lg_cmp_eq _ _).mp q))]
          exact x_clp hkd
    have e0 : f9_ruled_l109 S c (f + 1) (nI kd) (nI pl) x6 (some q) (nI (i + 1) - nI 1) M = if nI (cs i).1 = nI kd then ((f4_isEmpty S M q (nI i) (nI 2)).bind fun q13 => if q13 = nI 0 then ((f2_value S M 5 q (nI i) (nI 2)).bind fun q17 => if (lg_cmp q17.1 1) = 0 then (f9_ruled_j153 S c (f9_ruled_l109 S c f) (nI kd) (nI pl) x6 (some q) (nI i) q17.2) else (f9_ruled_j202 S c (f9_ruled_l109 S c f) (nI kd) (nI pl) x6 (some q) (nI i) q17.2)) else (f9_ruled_j153 S c (f9_ruled_l109 S c f) (nI kd) (nI pl) x6 (some q) (nI i) M)) else (f9_ruled_j202 S c (f9_ruled_l109 S c f) (nI kd) (nI pl) x6 (some q) (nI i) M) := by
      rw [ei]
      conv => lhs; unfold f9_ruled_l109
      rw [if_neg (nI_pos (by omega))]
      show (cond (ph_isPb S q) _ none) = _
      rw [P, q_ct, k1, q_bd]
      by_cases z : nI (cs i).1 = nI kd
      · rw [if_pos z, if_pos z]
        show (cond (ph_isPb S q) _ none) = _
        rw [P, q_ct]
        simp only [q_lit]
        congr 1
        funext q13
        by_cases z2 : q13 = nI 0
        · rw [if_pos z2, if_pos z2]
          show (cond (ph_isPb S q) _ none) = _
          rw [P, q_ct]
        · rw [if_neg z2, if_neg z2]
      · rw [if_neg z, if_neg z]
    by_cases hk : (cs i).1 = kd
    · have e1 := e0
      rw [if_pos (by rw [hk])] at e1
      cases et : (cs i).2.2.2.2 with
      | none =>
        rw [t1 et, q_bd, if_neg (by decide)] at e1
        exact body M (vSc_r 5 M) (by unfold clR; rw [if_pos hk, et]) hk e1
      | some t =>
        obtain ⟨s1, M1, s2, s3⟩ := t2 t et
        rw [s1, q_bd, if_pos rfl, s2, q_bd] at e1
        by_cases tt : t r = some true
        · rw [if_pos (by rw [lw_v1]; exact tt)] at e1
          exact body M1 s3 (by unfold clR; rw [if_pos hk, et]; exact if_pos tt) hk e1
        · rw [if_neg (by rw [lw_v1]; exact tt)] at e1
          exact skip M1 s3 (by unfold clR; rw [if_pos hk, et]; exact if_neg tt) e1
    · rw [if_neg (by rw [q_eq (by omega) (by omega)]; exact hk)] at e0
      exact skip M (vSc_r 5 M) (by unfold clR; rw [if_neg hk]) e0
