/-! PURE HALF: the law's module: reading, from the tape on -/
theorem tk_E {o : Bool} {bs : Nat → Nat} {m T : Nat} {M K M0 K0 : ph_Mem} (hT : T ≤ m) (hm : m ≤ 400) (hb : ∀ j, bs j < 256) (h64 : ∀ j, j < m → M0.1 64 j = nI (bs j)) (h7 : M0.1 63 7 = nI T) (h18 : K0.1 0 18 = nI T) (h3 : M0.1 63 3 = nI o.toNat) (h10 : K0.1 0 10 = nI o.toNat) (h8 : K0.1 0 8 = nI (if o = true then 17 else 8)) (h9 : K0.1 0 9 = nI (if o = true then 22 else 16)) (ht : ∀ i, i < T → tkP bs m M K i) (e65 : M.1 65 T = nI m) (e66 : M.1 66 T = nI m) (e67 : M.1 67 T = nI 2) (e11 : K.1 11 T = nI m) (e9 : K.1 9 T = nI 0) (e10 : K.1 10 T = nI 0) (fx : ∀ c j, 65 ≤ c → c ≤ 67 → M0.1 c j = M.1 c j) (fk : ∀ c j, 9 ≤ c → c ≤ 11 → K0.1 c j = K.1 c j) : ∃ cd vl pl, tkE o bs cd vl pl T m M0 K0 := by
  have hx : ∀ k, ∃ p : Nat × Nat × Nat, p.1 < 400 ∧ p.2.1 < 2 ^ 30 ∧ (k = T → p.1 = 0) ∧ (k ≤ T → ∃ a e, a ≤ e ∧ e ≤ m ∧ p.2.2 = a ∧ M0.1 65 k = nI a ∧ M0.1 66 k = nI e ∧ K0.1 11 k = nI a ∧ K0.1 9 k = nI p.1 ∧ K0.1 10 k = nI p.2.1 ∧ (∀ s, s < 40 → says bs a e s = decide (p.1 = wcs s)) ∧ (p.1 = 50 → M0.1 67 k = nI 1 ∧ (∀ j, a ≤ j → j < e → kb (bs j) = 1) ∧ p.2.1 = nFo bs a (e - a) 0) ∧ (p.1 ≠ 50 → M0.1 67 k ≠ nI 1)) := by
    intro k
    by_cases k1 : k < T
    · obtain ⟨a, e, c, v, a1, a2, a3, a4, a5, a6, a7, a8⟩ := ht k k1
      rcases a8 with ⟨p1, p2, p3, p4⟩ | ⟨p1, p2, p3, p4⟩ | ⟨p0, p1, p2, p3, p4⟩
      · have := wOf_le bs a e
        refine ⟨(c, v, a), by show c < 400; omega, by show v < 2 ^ 30; omega, fun q => absurd q (by omega), fun _ => ⟨a, e, by omega, a2, rfl, (fx _ _ (by omega) (by omega)).trans a3, (fx _ _ (by omega) (by omega)).trans a4, (fk _ _ (by omega) (by omega)).trans a5, (fk _ _ (by omega) (by omega)).trans a6, (fk _ _ (by omega) (by omega)).trans a7, fun s hs => ?_, fun q => ?_, fun _ => ?_⟩⟩
        · rw [says_L hs a1 p1, ← p3]
        · have q : c = 50 := q
          omega
        · rw [fx _ _ (by omega) (by omega), p2]; decide
      · have nb := nFo_le (bs := bs) (e - a) a 0 (fun i q1 q2 => p1 i q1 (by omega)) (by omega)
        refine ⟨(c, v, a), by show c < 400; omega, by show v < 2 ^ 30; omega, fun q => absurd q (by omega), fun _ => ⟨a, e, by omega, a2, rfl, (fx _ _ (by omega) (by omega)).trans a3, (fx _ _ (by omega) (by omega)).trans a4, (fk _ _ (by omega) (by omega)).trans a5, (fk _ _ (by omega) (by omega)).trans a6, (fk _ _ (by omega) (by omega)).trans a7, fun s hs => ?_, fun q => ⟨(fx _ _ (by omega) (by omega)).trans p2, p1, p4⟩, fun q => absurd p3 q⟩⟩
        rw [says_D hs a1 (p1 a (Nat.le_refl _) a1), ← p3]
      · have := hb a
        refine ⟨(c, v, a), by show c < 400; omega, by show v < 2 ^ 30; omega, fun q => absurd q (by omega), fun _ => ⟨a, e, by omega, a2, rfl, (fx _ _ (by omega) (by omega)).trans a3, (fx _ _ (by omega) (by omega)).trans a4, (fk _ _ (by omega) (by omega)).trans a5, (fk _ _ (by omega) (by omega)).trans a6, (fk _ _ (by omega) (by omega)).trans a7, fun s hs => ?_, fun q => ?_, fun _ => ?_⟩⟩
        · rw [p1, says_S hs p0, ← p3]
        · have q : c = 50 := q
          omega
        · rw [fx _ _ (by omega) (by omega), p2]; decide
    · refine ⟨(0, 0, m), by show 0 < 400; omega, by show 0 < 2 ^ 30; omega, fun _ => rfl, fun kT => ?_⟩
      have : k = T := by omega
      subst this
      refine ⟨m, m, Nat.le_refl _, Nat.le_refl _, rfl, (fx _ _ (by omega) (by omega)).trans e65, (fx _ _ (by omega) (by omega)).trans e66, (fk _ _ (by omega) (by omega)).trans e11, (fk _ _ (by omega) (by omega)).trans e9, (fk _ _ (by omega) (by omega)).trans e10, fun s hs => says_E hs, (fun q => absurd (show 0 = 50 from q) (by decide)), fun _ => ?_⟩
      rw [fx _ _ (by omega) (by omega), e67]; decide
  obtain ⟨f, hf⟩ := Classical.axiomOfChoice hx
  exact ⟨fun k => (f k).1, fun k => (f k).2.1, fun k => (f k).2.2, ⟨hT, hm⟩, ⟨h7, h18⟩, ⟨h3, h10, h8, h9⟩, fun k hk => (hf k).2.2.2 hk, h64, hb, (hf T).2.2.1 rfl, fun k => ⟨(hf k).1, (hf k).2.1⟩⟩
/-- what reading leaves as it was -/
def rdX (X M : ph_Mem) : Prop := (∀ c j, (c < 65 ∨ 70 ≤ c) → (c ≠ 63 ∨ j = 0 ∨ j = 1) → M.1 c j = X.1 c j) ∧ M.2 = X.2
def rdK (K K' : ph_Mem) : Prop := (∀ c j, (c < 9 ∨ 12 ≤ c) → (c ≠ 0 ∨ (j ≠ 8 ∧ j ≠ 9 ∧ j ≠ 10 ∧ j ≠ 13 ∧ j ≠ 14 ∧ j ≠ 18 ∧ j ≠ 19 ∧ j ≠ 20 ∧ j ≠ 21)) → K'.1 c j = K.1 c j) ∧ K'.2 = K.2 ∧ K'.1 0 13 = nI 0
theorem rd_whole {o : Bool} {S : ph_Sh} {X K : ph_Mem} (ht : rTape X K) (hw : ∀ j, j < 137 → K.1 6 j = rWords j) : ∃ M' K', rdX X M' ∧ rdK K K' ∧ ((∃ p, p ≤ 400 ∧ f6_read S X (nI o.toNat) = some (false, M') ∧ f12_readsAs K (nI o.toNat) = some (nI 0, K') ∧ M'.1 63 2 = nI p ∧ K'.1 0 14 = nI p) ∨ ∃ cd vl T n cl st en c, (T ≤ 400 ∧ cd T = 0 ∧ ∀ k, cd k < 400 ∧ vl k < 2 ^ 30) ∧ K'.1 0 18 = nI T ∧ (∀ k, k ≤ T → K'.1 9 k = nI (cd k) ∧ K'.1 10 k = nI (vl k)) ∧ f6_read S X (nI o.toNat) = (cond (ph_rdk S M') (some (true, M')) none) ∧ f12_readsAs K (nI o.toNat) = some (nI 1, K') ∧ M'.1 63 2 = -nI 1 ∧ K'.1 0 14 = -nI 1 ∧ (0 < n ∧ n ≤ 12) ∧ M'.1 63 11 = nI n ∧ cl ≤ 400 ∧ M'.1 63 14 = nI cl ∧ (∀ i, i < n → cCl o (M'.1 68) (M'.1 69) cl i (c i)) ∧ mC o cd vl T n st en c ∧ en (n - 1) = T) := by
  obtain ⟨m, hm, m1, k13, hb⟩ := ht
  -- the bytes
  generalize ebs : (fun j => if j < m then (X.1 64 j).toNatClampNeg else 0) = bs
  have hbs : ∀ j, bs j < 256 ∧ (j < m → X.1 64 j = nI (bs j) ∧ K.1 7 j = sb8 (bs j)) := fun j => by
    rw [← ebs]
    show (if j < m then (X.1 64 j).toNatClampNeg else 0) < 256 ∧ _
    by_cases q : j < m
    · obtain ⟨b, b1, b2, b3⟩ := hb j q
      have : (if j < m then (X.1 64 j).toNatClampNeg else 0) = b := by rw [if_pos q, b2, q_cl (by omega)]
      refine ⟨by rw [this]; exact b1, fun _ => ?_⟩
      show X.1 64 j = nI (if j < m then (X.1 64 j).toNatClampNeg else 0) ∧ K.1 7 j = sb8 (if j < m then (X.1 64 j).toNatClampNeg else 0)
      rw [this]
      exact ⟨b2, b3⟩
    · rw [if_neg q]
      exact ⟨by omega, fun q' => absurd q' q⟩
  -- the class: up to the tokens
  generalize eX1 : ph_wi (ph_wi (ph_wi (ph_wi (ph_wi (ph_wi X 63 3 (nI o.toNat)) 63 2 (-nI 1)) 63 9 (nI 0)) 63 10 (nI 0)) 63 14 (nI 0)) 63 11 (nI 0) = X1
  have x1o : ∀ c j, (c ≠ 63 ∨ (j ≠ 2 ∧ j ≠ 3 ∧ j ≠ 9 ∧ j ≠ 10 ∧ j ≠ 11 ∧ j ≠ 14)) → X1.1 c j = X.1 c j := fun c j q => by rw [← eX1, wi_o (by omega), wi_o (by omega), wi_o (by omega), wi_o (by omega), wi_o (by omega), wi_o (by omega)]
  have x12 : X1.2 = X.2 := by rw [← eX1]; rfl
  generalize eX2 : ph_wi (ph_wi X1 63 8 (nI 0)) 63 7 (nI 0) = X2
  have x2o : ∀ c j, (c ≠ 63 ∨ (j ≠ 7 ∧ j ≠ 8)) → X2.1 c j = X1.1 c j := fun c j q => by rw [← eX2, wi_o (by omega), wi_o (by omega)]
  -- the model
  generalize eK1 : ph_wi (ph_wi (ph_wi K 0 10 (nI o.toNat)) 0 8 (nI (if o = true then 17 else 8))) 0 9 (nI (if o = true then 22 else 16)) = K1
  have k1o : ∀ c j, (c ≠ 0 ∨ (j ≠ 8 ∧ j ≠ 9 ∧ j ≠ 10)) → K1.1 c j = K.1 c j := fun c j q => by rw [← eK1, wi_o (by omega), wi_o (by omega), wi_o (by omega)]
  generalize eK2 : ph_wi K1 0 18 (nI 0) = K2
  have k2o : ∀ c j, (c ≠ 0 ∨ j ≠ 18) → K2.1 c j = K1.1 c j := fun c j q => by rw [← eK2, wi_o (by omega)]
  obtain ⟨M0, K3, T, g1, g2, g3, g4, g5, g6, g7, g8, g9, g10, g11, g12, g13, g14, g15, g16⟩ := tk_l (S := S) (bs := bs) hm (fun j _ => (hbs j).1) m 0 0 2 10000 10000 X2 K2 (by omega) (by omega) (by omega) (by omega) (by omega) (fun _ => Decidable.em _) (by rw [x2o _ _ (by omega), x1o _ _ (by omega)]; exact m1) (by rw [← eX2, wi_s]) (by rw [← eK2, wi_s]) (fun i hi => by rw [x2o _ _ (by omega), x1o _ _ (by omega)]; exact ((hbs i).2 hi).1) (fun i hi => by rw [k2o _ _ (by omega), k1o _ _ (by omega)]; exact ((hbs i).2 hi).2) (fun j hj => by rw [k2o _ _ (by omega), k1o _ _ (by omega)]; exact hw j hj) (fun i hi => absurd hi (by omega))
  generalize eK5 : ph_wi (ph_wi (ph_wi (ph_wi K3 0 13 (nI 0)) 0 19 (nI 0)) 0 20 (nI 0)) 0 21 (-nI 1) = K5
  have k5o : ∀ c j, (c ≠ 0 ∨ (j ≠ 13 ∧ j ≠ 19 ∧ j ≠ 20 ∧ j ≠ 21)) → K5.1 c j = K3.1 c j := fun c j q => by rw [← eK5, wi_o (by omega), wi_o (by omega), wi_o (by omega), wi_o (by omega)]
  have s8 : M0.1 63 8 = nI 0 := by rw [g13 _ _ (by omega) (by omega) (by omega) (by omega), ← eX2, wi_o (by omega), wi_s]
  have m0o : ∀ j, j ≠ 7 → j ≠ 8 → M0.1 63 j = X1.1 63 j := fun j q1 q2 => by rw [g13 _ _ (by omega) (by omega) (by omega) (by omega), x2o _ _ (by omega)]
  have k3k : ∀ j, j ≠ 18 → K3.1 0 j = K1.1 0 j := fun j q => by rw [g15 _ _ (by omega) (by omega) (by omega) (by omega), k2o _ _ (by omega)]
  obtain ⟨cd, vl, pl, hE⟩ := tk_E (o := o) (M := M0) (K := K3) (M0 := M0) (K0 := K5) g3 hm (fun j => (hbs j).1) (fun j hj => by rw [g13 _ _ (by omega) (by omega) (by omega) (by omega), x2o _ _ (by omega), x1o _ _ (by omega)]; exact ((hbs j).2 hj).1) g4 (by rw [k5o _ _ (by omega)]; exact g5) (by rw [m0o _ (by omega) (by omega), ← eX1]; rw [wi_o (by omega), wi_o (by omega), wi_o (by omega), wi_o (by omega), wi_o (by omega), wi_s]) (by rw [k5o _ _ (by omega), k3k _ (by omega), ← eK1, wi_o (by omega), wi_o (by omega), wi_s]) (by rw [k5o _ _ (by omega), k3k _ (by omega), ← eK1, wi_o (by omega), wi_s]) (by rw [k5o _ _ (by omega), k3k _ (by omega), ← eK1, wi_s]) g6 g7 g8 g9 g10 g11 g12 (fun _ _ _ _ => rfl) (fun c j q1 q2 => k5o c j (by omega))
  have h0 : rOK T M0 K5 M0 K5 0 0 0 0 := ⟨⟨⟨fun _ _ _ _ _ => rfl, rfl⟩, ⟨fun _ _ _ => rfl, rfl⟩⟩, ⟨by omega, by omega, by omega⟩, ⟨by rw [m0o _ (by omega) (by omega), ← eX1]; rw [wi_o (by omega), wi_o (by omega), wi_o (by omega), wi_o (by omega), wi_s], by rw [← eK5, wi_s]⟩, ⟨s8, by rw [← eK5, wi_o (by omega), wi_o (by omega), wi_s]⟩, ⟨by rw [m0o _ (by omega) (by omega), ← eX1]; rw [wi_o (by omega), wi_o (by omega), wi_o (by omega), wi_s], by rw [← eK5, wi_o (by omega), wi_s]⟩, by rw [m0o _ (by omega) (by omega), ← eX1]; rw [wi_o (by omega), wi_o (by omega), wi_s], by rw [m0o _ (by omega) (by omega), ← eX1]; rw [wi_o (by omega), wi_s]⟩
  obtain ⟨M', K', r1, r2, r3⟩ := rd_all (S := S) hE h0 (by rw [m0o _ (by omega) (by omega), ← eX1, wi_s])
  have ex : f6_read S X (nI o.toNat) = (f6_readClause S M0).bind fun q8 => f6_read_l40 S 10000 (nI 1) q8 := by
    have ft : f6_findTokens S X1 = some M0 := by
      unfold f6_findTokens
      simp only [q_lit]
      rw [q_let, q_let, eX2, g1]
    unfold f6_read
    simp only [q_lit]
    rw [q_iszb, q_ct, q_let, q_let, q_let, q_let, q_let, q_let, eX1, ft, q_bd]
  have ey : f12_readsAs K (nI o.toNat) = (f12_readOne K5).bind fun q6 => (f12_reads_l34 10000 (nI 1) q6).bind fun q4 => cond (ph_isz q4.1) (some (q4.1, q4.2)) none := by
    have sp : f12_splits K1 (nI m) = some K3 := by
      unfold f12_splits
      simp only [q_lit]
      rw [q_let, eK2, g2]
    have rd : f12_reads K1 = (f12_readOne K5).bind fun q6 => f12_reads_l34 10000 (nI 1) q6 := by
      have k13' : K1.1 0 13 = nI m := (k1o 0 13 (by omega)).trans k13
      unfold f12_reads
      simp only [q_lit]
      rw [k13', sp, q_bd, q_let, q_let, q_let, q_let, eK5]
    have e0 : f12_readsAs K (nI o.toNat) = (f12_reads K1).bind fun q4 => cond (ph_isz q4.1) (some (q4.1, q4.2)) none := by
      unfold f12_readsAs f12_readsAs_j17 f12_readsAs_j32
      simp only [q_lit]
      rw [← eK1, q_iszb, q_ct, q_let]
      cases o
      · rw [if_pos (by first | rfl | trivial | decide), q_let, if_pos (by first | rfl | trivial | decide), q_let]; rfl
      · rw [if_neg (by first | decide | exact fun q => absurd (show nI 1 = nI 0 from q) (by decide)), q_let, if_neg (by first | decide | exact fun q => absurd (show nI 1 = nI 0 from q) (by decide)), q_let]; rfl
    rw [e0, rd]
    cases f12_readOne K5 with
    | none => rfl
    | some z => rfl
  have fX : rdX X M' := ⟨fun c j q1 q2 => by
    rw [r1.1 c j (by omega) (by omega) (by omega), g13 c j (by omega) (by omega) (by omega) (by omega), x2o c j (by omega), x1o c j (by omega)], by
    rw [r1.2, g14, ← eX2]
    exact x12⟩
  have fK : rdK K K' := ⟨fun c j q1 q2 => by
    rw [r2.1 c j (by omega), k5o c j (by omega), g15 c j (by omega) (by omega) (by omega) (by omega), k2o c j (by omega), k1o c j (by omega)], by
    rw [r2.2, ← eK5]
    show K3.2 = _
    rw [g16, ← eK2, ← eK1]
    rfl, by rw [r2.1 0 13 (by omega), ← eK5, wi_o (by omega), wi_o (by omega), wi_o (by omega), wi_s]⟩
  have yb : ∀ (v : Nat), v ≤ 1 → ((f12_readOne K5).bind fun q6 => f12_reads_l34 10000 (nI 1) q6) = some (nI v, K') → f12_readsAs K (nI o.toNat) = some (nI v, K') := by
    intro v hv hq
    have hz : ph_isz (nI v) = true := by
      have : v = 0 ∨ v = 1 := by omega
      rcases this with rfl | rfl <;> decide
    rw [ey]
    cases e : f12_readOne K5 with
    | none => rw [e] at hq; exact absurd hq (by simp)
    | some z =>
      rw [e, q_bd] at hq
      rw [q_bd, hq, q_bd, hz, q_ct]
  refine ⟨M', K', fX, fK, ?_⟩
  rcases r3 with ⟨p, p1, p2, p3, p4, p5⟩ | ⟨n, cl, st, en, c, p1, p2, p3, p4, p5, p6, p7, p8, p9, p10, p11⟩
  · exact Or.inl ⟨p, p1, ex.trans p2, yb 0 (by omega) p3, p4, p5⟩
  · refine Or.inr ⟨cd, vl, T, n, cl, st, en, c, ⟨by omega, hE.2.2.2.2.2.2.1, hE.2.2.2.2.2.2.2⟩, by rw [r2.1 0 18 (by omega)]; exact hE.2.1.2, fun k hk => ?_, ex.trans p1, yb 1 (by omega) p2, p3, p4, p5, p6, p7, p8, p9, p10, p11⟩
    obtain ⟨a, e, a1, a2, a3, a4, a5, a6, a7, a8, _⟩ := hE.2.2.2.1 k hk
    rw [r2.1 9 k (by omega), r2.1 10 k (by omega)]
    exact ⟨a7, a8⟩
