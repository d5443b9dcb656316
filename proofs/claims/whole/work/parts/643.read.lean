/-! PURE HALF: the law's module: both read a text -/
def mC (o : Bool) (cd vl : Nat → Nat) (T n : Nat) (st en : Nat → Nat) (c : Nat → lwC) : Prop := st 0 = 0 ∧ (∀ i, i < n → mCl o cd vl T (st i) (en i) (c i)) ∧ ∀ i, i + 1 < n → st (i + 1) = en i + 1
def kF2 (K0 K : ph_Mem) : Prop := (∀ c j, (c ≠ 0 ∨ (j ≠ 14 ∧ j ≠ 19 ∧ j ≠ 20 ∧ j ≠ 21)) → K.1 c j = K0.1 c j) ∧ K.2 = K0.2
theorem cCl_fr {o : Bool} {hd co hd' co' : Nat → Int32} {L L' n : Nat} {c : lwC} (h : cCl o hd co L n c) (h1 : ∀ j, j < 6 * n + 6 → hd' j = hd j) (h2 : ∀ j, j < L → co' j = co j) (hL : L ≤ L') : cCl o hd' co' L' n c := by
  obtain ⟨⟨a1, a2⟩, ⟨a3, a4⟩, x0, x1, x2, x3, ⟨b1, b2⟩, ⟨b3, b4, b5, b6⟩, b7, b8, b9, b10⟩ := h
  exact ⟨⟨a1, (h1 _ (by omega)).trans a2⟩, ⟨a3, (h1 _ (by omega)).trans a4⟩, x0, x1, x2, x3, ⟨b1, by omega⟩, ⟨(h1 _ (by omega)).trans b3, (h1 _ (by omega)).trans b4, (h1 _ (by omega)).trans b5, (h1 _ (by omega)).trans b6⟩, fun q => ⟨by have := (b7 q).1; omega, lwK_cg (b7 q).2 (fun j _ hj => h2 j (by have := (b7 q).1; omega))⟩, fun q1 q2 => lwK_cg (b8 q1 q2) (fun j _ hj => h2 j (by omega)), b9, fun t q => lwK_cg (b10 t q) (fun j _ hj => h2 j (by omega))⟩
section RD
variable {o : Bool} {S : ph_Sh} {bs cd vl pl : Nat → Nat} {T m : Nat} {M0 K0 M K : ph_Mem} {k lv dp cl : Nat}
def rdO (o : Bool) (cd vl : Nat → Nat) (T : Nat) (S : ph_Sh) (M0 K0 : ph_Mem) (x : Option (Bool × ph_Mem)) (y : Option (Int32 × ph_Mem)) : Prop := ∃ M' K', xF M0 M' ∧ kF2 K0 K' ∧ ((∃ p, p ≤ 400 ∧ x = some (false, M') ∧ y = some (nI 0, K') ∧ M'.1 63 2 = nI p ∧ K'.1 0 14 = nI p) ∨ ∃ n cl st en c, x = (cond (ph_rdk S M') (some (true, M')) none) ∧ y = some (nI 1, K') ∧ M'.1 63 2 = -nI 1 ∧ K'.1 0 14 = -nI 1 ∧ (0 < n ∧ n ≤ 12) ∧ M'.1 63 11 = nI n ∧ cl ≤ 400 ∧ M'.1 63 14 = nI cl ∧ (∀ i, i < n → cCl o (M'.1 68) (M'.1 69) cl i (c i)) ∧ mC o cd vl T n st en c ∧ en (n - 1) = T)
theorem kF_2 {K' : ph_Mem} (h : kF K0 K) (v : Int32) (e : K' = ph_wi K 0 14 v) : kF2 K0 K' := by
  subst e
  exact ⟨fun c j q => (wi_o (by omega)).trans (h.1 c j (by omega)), h.2⟩
theorem rd_endF (hE : tkE o bs cd vl pl T m M0 K0) (h : rFa T M0 K0 M K) : rdO o cd vl T S M0 K0 (f6_read_j69 S M) (f12_reads_j73 K) := by
  have hB := rFa_B hE h
  obtain ⟨⟨f0, f1⟩, p, k, c, y1, ⟨y2, y3⟩, _, _⟩ := id h
  refine ⟨M, ph_wi K 0 14 (nI p), f0, kF_2 f1 _ rfl, Or.inl ⟨p, y1.1, ?_, ?_, y2, wi_s⟩⟩
  · have j84 : f6_read_j84 S M = some (false, M) := by
      unfold f6_read_j84
      rw [if_neg (show ¬ M.1 63 2 = (-1 : Int32) from xf_2 y1.1 y2)]
    unfold f6_read_j69
    rw [xf_fail hB, q_bd, j84, ite_self]
  · unfold f12_reads_j73 f12_reads_j95
    rw [kf_fine y1.1 y3, q_bd, if_pos (by first | rfl | trivial | decide), q_let, y3, kf_fine (p := p) y1.1 (by rw [wi_o (by omega)]; exact y3), q_bd, q_isz0, q_ct]
theorem rd_end (hE : tkE o bs cd vl pl T m M0 K0) (h : rOK T M0 K0 M K k lv 0 cl) {n : Nat} {st en : Nat → Nat} {c : Nat → lwC} (hn : 0 < n ∧ n ≤ 12) (h11 : M.1 63 11 = nI n) (hc : ∀ i, i < n → cCl o (M.1 68) (M.1 69) cl i (c i)) (hm : mC o cd vl T n st en c) (he : en (n - 1) = k) : rdO o cd vl T S M0 K0 (f6_read_j69 S M) (f12_reads_j73 K) := by
  have hT : T ≤ 400 := by have := hE.1; omega
  have m7 : M.1 63 7 = nI T := (h.1.1.1 63 7 (by omega) (by omega) (by omega)).trans hE.2.1.1
  have k18 : K.1 0 18 = nI T := (h.1.2.1 0 18 (by omega)).trans hE.2.1.2
  have fin := rd_fine h
  have kT := h.2.1
  by_cases q : k = T
  · subst q
    refine ⟨M, ph_wi K 0 14 (-nI 1), h.1.1, kF_2 h.1.2 _ rfl, Or.inr ⟨n, cl, st, en, c, ?_, ?_, h.2.2.1.1, wi_s, hn, h11, by omega, h.2.2.2.2.2.2, hc, hm, he⟩⟩
    · unfold f6_read_j69 f6_read_j84
      rw [m7, h.2.2.2.1.1, if_pos (Int32.le_refl _), if_pos (show M.1 63 2 = (-1 : Int32) from h.2.2.1.1)]
    · have f2 : f12_fine (ph_wi K 0 14 (-nI 1)) = some (nI 1) := by
        unfold f12_fine
        rw [wi_o (by omega), h.2.2.1.2]
        rfl
      unfold f12_reads_j73 f12_reads_j95
      rw [fin, q_bd, if_neg (by first | decide | exact fun q => absurd (show nI 1 = nI 0 from q) (by decide)), k18, h.2.2.2.1.2, if_pos (Int32.le_refl _), q_let, h.2.2.1.2, f2, q_bd, q_isz1, q_ct]
  · obtain ⟨fl1, fl2, fl3⟩ := rd_fail (S := S) hE h
    obtain ⟨M', K', r⟩ := rd_endF (S := S) hE fl3
    have hB := rFa_B hE fl3
    obtain ⟨⟨f0, f1⟩, p, k', c', y1, ⟨y2, y3⟩, _, _⟩ := id fl3
    refine ⟨ph_wi M 63 2 (nI (pl k)), ph_wi (ph_wi K 0 21 (nI (pl k))) 0 14 (nI p), f0, kF_2 f1 _ rfl, Or.inl ⟨p, y1.1, ?_, ?_, y2, wi_s⟩⟩
    · unfold f6_read_j69 f6_read_j84
      rw [m7, h.2.2.2.1.1, if_neg (by rw [q_le (by omega) (by omega)]; omega), fl1, q_bd, if_neg (show ¬ (ph_wi M 63 2 (nI (pl k))).1 63 2 = (-1 : Int32) from xf_2 y1.1 y2)]
    · unfold f12_reads_j73 f12_reads_j95
      rw [fin, q_bd, if_neg (by first | decide | exact fun q => absurd (show nI 1 = nI 0 from q) (by decide)), k18, h.2.2.2.1.2, if_neg (by rw [q_le (by omega) (by omega)]; omega), fl2, q_bd, q_let, y3, kf_fine (p := p) y1.1 (by rw [wi_o (by omega)]; exact y3), q_bd, q_isz0, q_ct]
theorem rd_lpF (hE : tkE o bs cd vl pl T m M0 K0) (h : rFa T M0 K0 M K) {fx fk i n : Nat} : rdO o cd vl T S M0 K0 (f6_read_l40 S (fx + 1) (nI i) M) (f12_reads_l34 (fk + 1) (nI n) K) := by
  have hT : T ≤ 400 := by have := hE.1; omega
  have hB := rFa_B hE h
  obtain ⟨_, p, _, _, y1, y2, _, _⟩ := id h
  have e1 : f6_read_l40 S (fx + 1) (nI i) M = f6_read_j69 S M := by
    conv => lhs; unfold f6_read_l40
    rw [xf_says hT hB, q_bd]
    by_cases q : (12 : Int32) < nI i
    · rw [if_pos q]
    · rw [if_neg q, if_pos (by first | rfl | trivial | decide)]
  have e2 : f12_reads_l34 (fk + 1) (nI n) K = f12_reads_j73 K := by
    conv => lhs; unfold f12_reads_l34
    simp only [q_lit, m_sign, q_bd, kf_take y1.1 y2.2]
    rfl
  rw [e1, e2]
  exact rd_endF hE h
theorem rd_lp (hE : tkE o bs cd vl pl T m M0 K0) : ∀ (r n fx fk : Nat) (M K : ph_Mem) (k lv cl : Nat) (st en : Nat → Nat) (c : Nat → lwC), n + r = 12 → r + 1 < fx → r + 1 < fk → 0 < n → rOK T M0 K0 M K k lv 0 cl → lv ≤ 50 → M.1 63 11 = nI n → (∀ i, i < n → cCl o (M.1 68) (M.1 69) cl i (c i)) → mC o cd vl T n st en c → en (n - 1) = k → rdO o cd vl T S M0 K0 (f6_read_l40 S fx (nI n) M) (f12_reads_l34 fk (nI n) K)
  | r, n, 0, fk, _, _, _, _, _, _, _, _, _, h, _, _, _, _, _, _, _, _ => absurd h (by omega)
  | r, n, fx + 1, 0, _, _, _, _, _, _, _, _, _, _, h, _, _, _, _, _, _, _ => absurd h (by omega)
  | r, n, fx + 1, fk + 1, M, K, k, lv, cl, st, en, c, hnr, hfx, hfk, hn, h, hl, h11, hc, hm, he => by
    have hT : T ≤ 400 := by have := hE.1; omega
    have s39 : f6_says S M 39 = some (nI (decide (cd k = 159)).toNat) := rd_says hE h (by omega)
    have t159 := rd_take hE h (x := 159) (by omega)
    have hmk := hm.2.1 (n - 1) (by omega)
    rw [he] at hmk
    by_cases c159 : cd k = 159
    · have kt := rd_lt hE h (by omega)
      have hnx := rd_next h kt
      have ex : f6_read_l40 S (fx + 1) (nI n) M = (f6_readClause S (ph_wi M 63 8 (nI (k + 1)))).bind fun q11 => f6_read_l40 S fx (nI (n + 1)) q11 := by
        conv => lhs; unfold f6_read_l40
        simp only [q_lit]
        rw [if_neg (by rw [q_lt (by omega) (by omega)]; omega), s39, q_bd, decide_eq_true c159, if_neg (by first | decide | exact fun q => absurd (show nI 1 = nI 0 from q) (by decide)), rd_adv hE h kt, q_bd, nI_add]
      have w11 : (ph_wi M 63 8 (nI (k + 1))).1 63 11 = nI n := by rw [wi_o (by omega)]; exact h11
      rw [ex]
      by_cases n12 : n = 12
      · obtain ⟨fl1, fl2, fl3⟩ := rd_fail (S := S) hE hnx
        obtain ⟨_, p, _, _, y1, y2, _, _⟩ := id fl3
        have rc : f6_readClause S (ph_wi M 63 8 (nI (k + 1))) = some (ph_wi (ph_wi M 63 8 (nI (k + 1))) 63 2 (nI (pl (k + 1)))) := by
          unfold f6_readClause f6_readClause_j17
          simp only [q_lit]
          rw [w11, if_pos (by rw [q_le (by omega) (by omega)]; omega), if_pos (by first | rfl | trivial | decide), fl1, q_bd]
        obtain ⟨fx, rfl⟩ : ∃ z, fx = z + 1 := ⟨fx - 1, by omega⟩
        obtain ⟨fk, rfl⟩ : ∃ z, fk = z + 1 := ⟨fk - 1, by omega⟩
        have ey : f12_reads_l34 (fk + 1 + 1) (nI n) K = f12_reads_l34 (fk + 1) (nI (n + 1)) (ph_wi (ph_wi K 0 19 (nI (k + 1))) 0 21 (nI (pl (k + 1)))) := by
          conv => lhs; unfold f12_reads_l34
          unfold f12_reads_j56 f12_reads_j67
          simp only [q_lit, m_sign, q_bd]
          rw [t159, if_pos c159, q_bd, if_neg (by first | decide | exact fun q => absurd (show nI 1 = nI 0 from q) (by decide)), if_pos (by rw [n12]), fl2, q_bd, kf_fine y1.1 y2.2, q_bd, if_pos (by first | rfl | trivial | decide), nI_add]
        rw [rc, q_bd, ey]
        exact rd_lpF hE fl3
      · have ey : f12_reads_l34 (fk + 1) (nI n) K = (f12_readOne (ph_wi K 0 19 (nI (k + 1)))).bind fun q11 => f12_reads_l34 fk (nI (n + 1)) q11 := by
          conv => lhs; unfold f12_reads_l34
          unfold f12_reads_j56 f12_reads_j67
          simp only [q_lit, m_sign, q_bd]
          rw [t159, if_pos c159, q_bd, if_neg (by first | decide | exact fun q => absurd (show nI 1 = nI 0 from q) (by decide)), if_neg (by rw [q_eq (by omega) (by omega)]; exact n12), rd_fine hnx, q_bd, if_neg (by first | decide | exact fun q => absurd (show nI 1 = nI 0 from q) (by decide)), nI_add]
        obtain ⟨M2, K2, r1, r2, r3⟩ := rd_clause (S := S) hE hnx hl (show n < 12 by omega) w11
        rw [r1, q_bd, ey, r2, q_bd]
        rcases r3 with r3 | ⟨k', lv', cl', c', z1, z2, z3, z4, z5, z6, z7, z8, z9⟩
        · obtain ⟨fx, rfl⟩ : ∃ z, fx = z + 1 := ⟨fx - 1, by omega⟩
          obtain ⟨fk, rfl⟩ : ∃ z, fk = z + 1 := ⟨fk - 1, by omega⟩
          exact rd_lpF hE r3
        · refine rd_lp hE (r - 1) (n + 1) fx fk M2 K2 k' lv' cl' (fun i => if i = n then k + 1 else st i) (fun i => if i = n then k' else en i) (fun i => if i = n then c' else c i) (by omega) (by omega) (by omega) (by omega) z1 z2 z5 (fun i hi => ?_) ⟨?_, fun i hi => ?_, fun i hi => ?_⟩ ?_
          · by_cases q : i = n
            · subst q
              simp only [if_pos]
              exact z8
            · simp only [if_neg q]
              exact cCl_fr (hc i (by omega)) (fun j hj => by rw [z7 j (by omega), wi_o (by omega)]) (fun j hj => by rw [z6 j hj, wi_o (by omega)]) z4
          · simp only [if_neg (show ¬ 0 = n by omega)]
            exact hm.1
          · by_cases q : i = n
            · subst q
              simp only [if_pos]
              exact z9
            · simp only [if_neg q]
              exact hm.2.1 i (by omega)
          · by_cases q : i + 1 = n
            · simp only [if_pos q, if_neg (show ¬ i = n by omega)]
              rw [show i = n - 1 by omega, he]
            · simp only [if_neg q, if_neg (show ¬ i = n by omega)]
              exact hm.2.2 i (by omega)
          · simp only [Nat.add_sub_cancel, if_pos]
    · have ex : f6_read_l40 S (fx + 1) (nI n) M = f6_read_j69 S M := by
        conv => lhs; unfold f6_read_l40
        rw [s39, q_bd, decide_eq_false c159]
        by_cases q : (12 : Int32) < nI n
        · rw [if_pos q]
        · rw [if_neg q, if_pos (by first | rfl | trivial | decide)]
      have ey : f12_reads_l34 (fk + 1) (nI n) K = f12_reads_j73 K := by
        conv => lhs; unfold f12_reads_l34
        simp only [q_lit, m_sign, q_bd]
        rw [t159, if_neg c159, q_bd, if_pos (by first | rfl | trivial | decide)]
      rw [ex, ey]
      exact rd_end hE h ⟨hn, by omega⟩ h11 hc hm he
theorem rd_all (hE : tkE o bs cd vl pl T m M0 K0) (h : rOK T M0 K0 M K 0 0 0 0) (h11 : M.1 63 11 = nI 0) : rdO o cd vl T S M0 K0 ((f6_readClause S M).bind fun q8 => f6_read_l40 S 10000 (nI 1) q8) ((f12_readOne K).bind fun q6 => f12_reads_l34 10000 (nI 1) q6) := by
  obtain ⟨M2, K2, r1, r2, r3⟩ := rd_clause (S := S) hE h (by omega) (show 0 < 12 by omega) h11
  rw [r1, r2, q_bd, q_bd]
  rcases r3 with r3 | ⟨k', lv', cl', c', z1, z2, z3, z4, z5, z6, z7, z8, z9⟩
  · exact rd_lpF hE r3
  · exact rd_lp hE 11 1 10000 10000 M2 K2 k' lv' cl' (fun _ => 0) (fun _ => k') (fun _ => c') (by omega) (by omega) (by omega) (by omega) z1 z2 z5 (fun i hi => by
      have : i = 0 := by omega
      subst this
      exact z8) ⟨rfl, fun i hi => z9, fun i hi => absurd hi (by omega)⟩ rfl
end RD
