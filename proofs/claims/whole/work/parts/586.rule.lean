/-! PURE HALF: what a law says of an hour, as both are asked for it; pawn, redeem, a day, an auction on a street -/
/-- the class's scratch of a ruling -/
def xSc (X X' : ph_Mem) : Prop := (∀ d j, d ≠ 6 → X'.1 d j = X.1 d j) ∧ X'.2.2 = X.2.2 ∧ ∀ d j, d ≠ 7 → X'.2.1 d j = X.2.1 d j
/-- the model's -/
def kSc (K K' : ph_Mem) : Prop := (∀ d j, d ≠ 12 → (d ≠ 0 ∨ (j ≠ 8 ∧ j ≠ 22 ∧ j ≠ 23 ∧ j ≠ 24)) → K'.1 d j = K.1 d j) ∧ K'.2 = K.2
/-- one ruling: V kind today; the class's street may only be read, the model's row may differ in states, purses, the day -/
def rRul (RL : rLT) : Prop := ∀ (S : ph_Sh) (X : ph_Mem) (c : Nat) (g : Nat → Int32) (n t p h d : Nat), ph_SX S → ph_isS c → rSt RL S X c g n t → p < n → h < 12 → d ≤ 999 → g 222 = nI d → ∃ V : Nat → Nat → Nat,
  (∀ today, d ≤ today → today ≤ 1060 → V 0 today ≤ 999 ∧ V 2 today ≤ 1 ∧ (g (12 * p + h) = nI 1 → V 1 today ≤ 9999)) ∧
  (∀ (X1 : ph_Mem) (kd today : Nat), (∀ e j, (c ≤ e ∧ e < c + 12) ∨ 88 ≤ e → X1.1 e j = X.1 e j) → (∀ i, X1.2.2 (c + 11) i = X.2.2 (c + 11) i) → kd < 3 → (kd = 1 → g (12 * p + h) = nI 1) → d ≤ today → today ≤ 1060 → ∃ X', f9_ruled S X1 c (nI kd) (nI p) (nI h) (nI today) = some (nI (V kd today), X') ∧ xSc X1 X') ∧
  (∀ (K : ph_Mem) (today : Nat), (∀ j, (72 ≤ j ∧ j < 216) ∨ 223 ≤ j → K.1 2 j = g j) → K.1 2 222 = nI today → d ≤ today → today ≤ 1060 → (∃ K', f12_lendsFor K (nI p) (nI h) = some (nI (V 0 today), K') ∧ kSc K K') ∧ (∃ K', f12_isBarred K (nI p) (nI h) = some (nI (V 2 today), K') ∧ kSc K K') ∧ (g (12 * p + h) = nI 1 → ∃ K', f12_costsFor K (nI p) (nI h) = some (nI (V 1 today), K') ∧ kSc K K'))
/-- one place of the moved part, and purses, changed -/
theorem rMv_pl {n : Nat} {v v' : rV} {g g' : Nat → Int32} {pl : Nat} (h : rMv n v g) (hn : n ≤ 6) (hpl : pl < 12 * n) (hd : v'.2.2.2.2 = v.2.2.2.2) (hd' : g' 222 = g 222)
    (hv : ∀ j, j < 72 → j ≠ pl → v'.1 j = v.1 j ∧ v'.2.1 j = v.2.1 j ∧ v'.2.2.1 j = v.2.2.1 j) (hg : ∀ j, j < 72 → j ≠ pl → g' j = g j ∧ g' (72 + j) = g (72 + j) ∧ g' (144 + j) = g (144 + j))
    (hp : ∀ p, p < 6 → v'.2.2.2.1 p = g' (216 + p) ∧ rNat 99999 (g' (216 + p)) ∧ (n ≤ p → v'.2.2.2.1 p = nI 0))
    (hw : ∀ d, d ≤ 999 → g 222 = nI d → v'.1 pl = g' pl ∧ rNat 2 (g' pl) ∧ (g' pl = nI 1 → v'.2.1 pl = g' (72 + pl) ∧ rNat 999 (g' (72 + pl)) ∧ v'.2.2.1 pl = g' (144 + pl) ∧ rNat d (g' (144 + pl))) ∧ (g' pl ≠ nI 1 → v'.2.1 pl = -nI 1 ∧ v'.2.2.1 pl = -nI 1)) : rMv n v' g' := by
  obtain ⟨⟨d, h1, h2, h3, h4⟩, h5, h6⟩ := h
  refine ⟨⟨d, h1, hd.trans h2, hd'.trans h3, fun j hj => ?_⟩, fun j hj hk => ?_, hp⟩
  · by_cases e : j = pl
    · subst e
      exact hw d h1 h3
    · have a := hv j (by omega) e
      have b := hg j (by omega) e
      rw [a.1, a.2.1, a.2.2, b.1, b.2.1, b.2.2]
      exact h4 j hj
  · have a := hv j hk (by omega)
    have b := hg j hk (by omega)
    rw [a.1, a.2.1, a.2.2, b.1]
    exact h5 j hj hk
theorem x_setst {S : ph_Sh} {X : ph_Mem} {c pl : Nat} {a b d : Int32} (hpl : pl < 72) : f9_setState S X c (nI pl) a b d = some (ph_wi (ph_wi (ph_wi X (c + 5) pl a) (c + 6) pl b) (c + 7) pl d) := by
  unfold f9_setState
  simp (disch := first | assumption | omega) only [q_lit, Int32.neg_neg, nI_add, pk_mul, q_sub, q_addn, q_nadd, q_lt, q_le, q_eq, q_eqn, q_neq, q_nen, q_ltn, q_nlt, q_len, q_nle, q_nltn, q_nlen, q_cl, q_ib, q_ibn, q_isz0, q_isz1, q_iszb, q_b0, q_b1, q_ng1, q_ng2, q_ng3, q_ng4, q_ng5, q_ng6, Bool.toNat_true, Bool.toNat_false, if_pos, if_neg, q_ct, q_cf, q_let, q_bd, q_it, q_if, Nat.zero_add, Nat.add_zero, true_and, and_true, false_and, and_false, or_false, false_or, or_true, true_or, Bool.true_eq_false, Bool.false_eq_true, wi_s, wi_o, wi_r]
theorem m_lesser {K : ph_Mem} {a b : Nat} (ha : a < 2 ^ 31) (hb : b < 2 ^ 31) : f12_lesser K (nI a) (nI b) = some (nI (min a b)) := by
  unfold f12_lesser
  by_cases h : b ≤ a
  · rw [if_pos (by rw [q_le hb ha]; exact h), Nat.min_eq_right h]
  · rw [if_neg (by rw [q_le hb ha]; exact h), Nat.min_eq_left (by omega)]
/-- the street's day -/
theorem rSt_day {RL : rLT} {S : ph_Sh} {X : ph_Mem} {c : Nat} {g : Nat → Int32} {n t : Nat} (hs : rSt RL S X c g n t) : ∃ d, d ≤ 999 ∧ X.1 (c + 10) 0 = nI d ∧ g 222 = nI d := by
  obtain ⟨⟨d, h1, h2, h3, _⟩, _⟩ := hs.2.1
  exact ⟨d, h1, h2, h3⟩
/-- an hour's state, in both -/
theorem rSt_hr {RL : rLT} {S : ph_Sh} {X : ph_Mem} {c : Nat} {g : Nat → Int32} {n t p h : Nat} (hs : rSt RL S X c g n t) (hp : p < n) (hh : h < 12) : ∃ s, s ≤ 2 ∧ X.1 (c + 5) (12 * p + h) = nI s ∧ g (12 * p + h) = nI s := by
  obtain ⟨⟨d, h1, h2, h3, h4⟩, _⟩ := hs.2.1
  obtain ⟨a1, ⟨s, s1, s2⟩, _⟩ := h4 (12 * p + h) (by omega)
  exact ⟨s, s1, Eq.trans a1 s2, s2⟩
theorem rSt_pu {RL : rLT} {S : ph_Sh} {X : ph_Mem} {c : Nat} {g : Nat → Int32} {n t p : Nat} (hs : rSt RL S X c g n t) (hp : p < 6) : ∃ v, v ≤ 99999 ∧ X.1 (c + 1) p = nI v ∧ g (216 + p) = nI v := by
  obtain ⟨_, _, h6⟩ := hs.2.1
  obtain ⟨a1, ⟨s, s1, s2⟩, _⟩ := h6 p hp
  exact ⟨s, s1, Eq.trans a1 s2, s2⟩
/-- a street as it was, but for the moved part -/
theorem rSt_mv {RL : rLT} (hRL : rLoc RL) {S : ph_Sh} {X X' : ph_Mem} {c : Nat} {g g' : Nat → Int32} {n t : Nat} (hs : rSt RL S X c g n t) (h0 : ∀ j, X'.1 c j = X.1 c j) (h1 : ∀ d j, (2 ≤ d ∧ d < 5) ∨ d = 8 ∨ d = 9 → X'.1 (c + d) j = X.1 (c + d) j) (h2 : ∀ j, 1 ≤ j → X'.1 (c + 10) j = X.1 (c + 10) j) (h3 : X'.2.2 = X.2.2) (h88 : ∀ d j, 88 ≤ d → X'.1 d j = X.1 d j) (hg : ∀ j, 223 ≤ j → g' j = g j) (hm : rMv n (rVw X' c) g') : rSt RL S X' c g' n t := by
  obtain ⟨s1, s2, s3, s4, s5, s6, s7⟩ := hs
  exact ⟨rHd_fr s1 (h0 _) (h0 _) (h0 _) (fun j _ _ => hg j (by omega)), hm, rHr_fr s1.1 s3 (fun d j _ _ _ => h1 d j (by omega)) (fun j _ _ => hg j (by omega)), rNd_fr s4 (fun j _ => h1 8 j (by omega)) (fun j _ _ => hg j (by omega)), rBd_fr s5 (fun j _ => h1 9 j (by omega)) (fun j _ _ => hg j (by omega)), rTm_fr s6 (fun j hj _ => h2 j hj) (fun j _ _ => hg j (by omega)), rLw_fr hRL s1.2.1 s7 (fun i _ => by rw [h3]) h88 (fun j _ => hg j (by omega))⟩
/-- what a street's change leaves as it was: all but its cells, its log, the machine's words -/
def xTr (X X' : ph_Mem) (c l : Nat) : Prop := (∀ d j, (d < c ∨ c + 12 ≤ d) → d ≠ 6 → d ≠ l → d ≠ l + 1 → X'.1 d j = X.1 d j) ∧ X'.2.2 = X.2.2 ∧ (∀ j, j ≠ 1 → j ≠ 2 → X'.1 l j = X.1 l j) ∧ ∀ d j, d ≠ 7 → X'.2.1 d j = X.2.1 d j
/-- a log that can take an entry -/
def xLg (X : ph_Mem) (l nx sz : Nat) : Prop := nx < 16 ∧ sz ≤ 16 ∧ X.1 l 1 = nI nx ∧ X.1 l 2 = nI sz
/-- an entry came: of kind k, place pl, the street as in X -/
def xEn (X X' : ph_Mem) (l c nx sz k pl : Nat) : Prop := ∃ M, (∀ d j, (c ≤ d ∧ d < c + 12) ∨ d = l ∨ d = l + 1 → M.1 d j = X.1 d j) ∧ ∃ M1, rAdd M M1 l c nx sz k pl ∧ X'.1 l 1 = M1.1 l 1 ∧ X'.1 l 2 = M1.1 l 2 ∧ (∀ j, X'.1 (l + 1) j = M1.1 (l + 1) j) ∧ ∀ j, j < 72 → j ≠ pl → X'.1 (c + 5) j = X.1 (c + 5) j ∧ X'.1 (c + 6) j = X.1 (c + 6) j ∧ X'.1 (c + 7) j = X.1 (c + 7) j
