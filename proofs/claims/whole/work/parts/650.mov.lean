/-! PURE HALF: orders: one move on the street, in both -/
def oK (K K' : ph_Mem) : Prop := (∀ e j, e ≠ 2 → e ≠ 12 → e ≠ 13 → (e ≠ 0 ∨ (j ≠ 8 ∧ j ≠ 22 ∧ j ≠ 23 ∧ j ≠ 24 ∧ j ≠ 28)) → K'.1 e j = K.1 e j) ∧ K'.2 = K.2
/-- how a move came out -/
def oMv (S : ph_Sh) (X K X' K' : ph_Mem) (n t : Nat) (r : Int32) : Prop := (r = -nI 3 ∧ xSc X X' ∧ kSc K K') ∨ ∃ v, v ≤ 9999 ∧ r = nI v ∧ xTr X X' 11 59 ∧ oK K K' ∧ rSt RLx S X' 11 (K'.1 2) n t ∧ rLog X' K' n ∧ (∀ j, 223 ≤ j → K'.1 2 j = K.1 2 j)
theorem m_ish {K : ph_Mem} {h : Nat} (hh : h < 12) : f12_isHour K (nI h) = some (nI 1) := by
  unfold f12_isHour
  simp only [q_lit]
  rw [m_wi (by omega) (by omega), q_bd, q_isz1, q_ct]
theorem m_why {K : ph_Mem} {n p h : Nat} (hK : K.1 2 475 = nI n) (hn : n ≤ 6) (hp : p < n) (hh : h < 12) : f12_whyNot K (nI p) (nI h) = some (nI 0) := by
  unfold f12_whyNot
  simp only [q_lit]
  rw [m_ish hh, q_bd, if_neg (by first | decide | exact fun q => absurd (show nI 1 = nI 0 from q) (by decide)), m_pers hK hn (by omega), q_bd, decide_eq_true hp, if_neg (by first | decide | exact fun q => absurd (show nI 1 = nI 0 from q) (by decide))]
theorem o_pawn {S : ph_Sh} (hS : ph_SX S) {X K : ph_Mem} {n t p h : Nat} (hs : rSt RLx S X 11 (K.1 2) n t) (hlg : rLog X K n) (hp : p < n) (hh : h < 12) : ∃ r X' K', f9_tryPawn S X 11 (nI p) (nI h) 59 = some (r, X') ∧ f12_pawnsKept K (nI p) (nI h) = some (r, K') ∧ oMv S X K X' K' n t r ∧ ∀ q, q < 6 → q ≠ p → K'.1 2 (216 + q) = K.1 2 (216 + q) ∧ ∀ h, h < 12 → K'.1 2 (12 * q + h) = K.1 2 (12 * q + h) := by
  have hn := hs.1.1
  obtain ⟨d, d1, d2, d3⟩ := rSt_day hs
  obtain ⟨s, s1, s2, s3⟩ := rSt_hr hs hp hh
  obtain ⟨u, u1, u2, u3⟩ := rSt_pu hs (show p < 6 by omega)
  obtain ⟨V, v0, vx, vk⟩ := RLx_rul S X 11 (K.1 2) n t p h d hS (Or.inl rfl) hs hp hh d1 d3
  have v0' := v0 d (Nat.le_refl _) (by omega)
  obtain ⟨nx, sz, l1, l2, l3, l4, l5, l6⟩ := id hlg
  obtain ⟨xa, xb⟩ := x_pawn RLx_loc RLx_rul hS (l := 59) (Or.inl rfl) (by omega) (by omega) hs hp hh d1 d3 ⟨l1, l2, l3, l4⟩ V ⟨v0'.1, v0'.2.1⟩ (fun X1 kd q1 q2 q3 q4 => vx X1 kd d q1 q2 q3 q4 (Nat.le_refl _) (by omega))
  have vkK := vk K d (fun _ _ => rfl) d3 (Nat.le_refl _) (by omega)
  obtain ⟨K1, k1, k2⟩ := m_canPawn (show p < 6 by omega) hh s1 s3 v0'.2.1 vkK.2.1
  have wy := m_why hs.1.2.2.2.1 hn hp hh
  by_cases ok : s = 0 ∧ V 2 d = 0
  · rw [decide_eq_true ok] at k1
    have ok' : K.1 2 (12 * p + h) = nI 0 ∧ V 2 d = 0 := ⟨by rw [s3, ok.1], ok.2⟩
    obtain ⟨X', x1, x2, x3, x4⟩ := xb ok' u u3 u1
    obtain ⟨K2, m1, m2⟩ := m_keeps (K := K1) (k := 0) l2 (by omega) ((k2.1 0 28 (by omega) (by omega)).trans l5)
    have c2 : ∀ j, K2.1 2 j = K.1 2 j := fun j => (m2.2.2.2.2.1 2 j (by omega) (by omega)).trans (k2.1 2 j (by omega) (by omega))
    have vk2 := vk K2 d (fun j _ => c2 j) ((c2 222).trans d3) (Nat.le_refl _) (by omega)
    obtain ⟨K3, n1, n2, n3, n4⟩ := m_pawns (show p < 6 by omega) hh v0'.1 ((c2 222).trans d3) ((c2 _).trans u3) u1 vk2.1
    have eg : ∀ j, K3.1 2 j = gPawn (K.1 2) p (12 * p + h) (V 0 d) d (min 99999 (u + V 0 d)) j := fun j => by
      rw [n2 j]
      unfold gPawn
      rw [c2 j]
    have hl' : rLog X' K3 n := rLog_add (g := K.1 2) hn l1 l2 (show 12 * p + h < 72 by omega) (by omega) hs.2.1 l6 x3 (rKp4_of k2 m2) (n3 0 28 (by omega) (by omega) (by omega)) (fun j => n3 13 j (by omega) (by omega) (by omega))
    have ego : ∀ j, j ≠ 216 + p → j ≠ 144 + (12 * p + h) → j ≠ 72 + (12 * p + h) → j ≠ 12 * p + h → K3.1 2 j = K.1 2 j := fun j z1 z2 z3 z4 => by rw [eg]; unfold gPawn; rw [if_neg z1, if_neg z2, if_neg z3, if_neg z4]
    have v9 := v0'.1
    refine ⟨nI (V 0 d), X', K3, x1, ?_, Or.inr ⟨V 0 d, by omega, rfl, x2, ⟨fun e j q1 q2 q3 q4 => by rw [n3 e j q1 q2 (by omega), m2.2.2.2.2.1 e j q3 (by omega), k2.1 e j q2 (by omega)], by rw [n4, m2.2.2.2.2.2, k2.2]⟩, x4 _ eg, hl', fun j hj => ego j (by omega) (by omega) (by omega) (by omega)⟩, fun q h6 hq => ⟨ego _ (by omega) (by omega) (by omega) (by omega), fun h' hh' => ego _ (by omega) (by omega) (by omega) (by omega)⟩⟩
    unfold f12_pawnsKept
    simp only [q_lit]
    rw [wy, q_bd, if_neg (by decide), k1, q_bd, if_neg (by first | decide | exact fun q => absurd (show nI 1 = nI 0 from q) (by decide)), m1, q_bd, n1, q_bd]
  · rw [decide_eq_false ok] at k1
    obtain ⟨X', x1, x2⟩ := xa (fun q => ok ⟨(nI_eq (by omega) (by omega)).mp (s3.symm.trans q.1), q.2⟩)
    refine ⟨-nI 3, X', K1, x1, ?_, Or.inl ⟨rfl, x2, k2⟩, fun q _ _ => ⟨k2.1 2 _ (by omega) (by omega), fun h' _ => k2.1 2 _ (by omega) (by omega)⟩⟩
    unfold f12_pawnsKept f12_pawnsKept_j20
    simp only [q_lit]
    rw [wy, q_bd, if_neg (by decide), k1, q_bd, if_pos (by first | rfl | trivial | decide), if_pos (by decide)]
theorem o_red {S : ph_Sh} (hS : ph_SX S) {X K : ph_Mem} {n t p h : Nat} (hs : rSt RLx S X 11 (K.1 2) n t) (hlg : rLog X K n) (hp : p < n) (hh : h < 12) : ∃ r X' K', f9_tryRedeem S X 11 (nI p) (nI h) 59 = some (r, X') ∧ f12_redeemsKept K (nI p) (nI h) = some (r, K') ∧ oMv S X K X' K' n t r ∧ ∀ q, q < 6 → q ≠ p → K'.1 2 (216 + q) = K.1 2 (216 + q) ∧ ∀ h, h < 12 → K'.1 2 (12 * q + h) = K.1 2 (12 * q + h) := by
  have hn := hs.1.1
  obtain ⟨d, d1, d2, d3⟩ := rSt_day hs
  obtain ⟨s, s1, s2, s3⟩ := rSt_hr hs hp hh
  obtain ⟨u, u1, u2, u3⟩ := rSt_pu hs (show p < 6 by omega)
  obtain ⟨V, v0, vx, vk⟩ := RLx_rul S X 11 (K.1 2) n t p h d hS (Or.inl rfl) hs hp hh d1 d3
  have v0' := v0 d (Nat.le_refl _) (by omega)
  obtain ⟨nx, sz, l1, l2, l3, l4, l5, l6⟩ := id hlg
  obtain ⟨xa, xb⟩ := x_redeem RLx_loc (S := S) (l := 59) (Or.inl rfl) (by omega) (by omega) hs hp hh d1 d3 ⟨l1, l2, l3, l4⟩ V v0'.2.2 (fun X1 kd q1 q2 q3 q4 => vx X1 kd d q1 q2 q3 q4 (Nat.le_refl _) (by omega)) u3 u1
  have vkK := vk K d (fun _ _ => rfl) d3 (Nat.le_refl _) (by omega)
  have st1 : s = 1 → K.1 2 (12 * p + h) = nI 1 := fun q => by rw [s3, q]
  obtain ⟨K1, k1, k2⟩ := m_canRed (v := V 1 d) (show p < 6 by omega) hh s1 s3 (fun q => v0'.2.2 (st1 q)) u3 u1 (fun q => vkK.2.2 (st1 q))
  have wy := m_why hs.1.2.2.2.1 hn hp hh
  by_cases ok : s = 1 ∧ V 1 d ≤ u
  · rw [decide_eq_true ok] at k1
    have hst := st1 ok.1
    have hv := v0'.2.2 hst
    obtain ⟨X', x1, x2, x3, x4⟩ := xb ⟨hst, ok.2⟩
    obtain ⟨K2, m1, m2⟩ := m_keeps (K := K1) (k := 1) l2 (by omega) ((k2.1 0 28 (by omega) (by omega)).trans l5)
    have c2 : ∀ j, K2.1 2 j = K.1 2 j := fun j => (m2.2.2.2.2.1 2 j (by omega) (by omega)).trans (k2.1 2 j (by omega) (by omega))
    have vk2 := vk K2 d (fun j _ => c2 j) ((c2 222).trans d3) (Nat.le_refl _) (by omega)
    obtain ⟨K3, n1, n2, n3, n4⟩ := m_redeems (show p < 6 by omega) hh hv ok.2 ((c2 _).trans u3) u1 (vk2.2.2 hst)
    have eg : ∀ j, K3.1 2 j = gRed (K.1 2) p (12 * p + h) (u - V 1 d) j := fun j => by
      rw [n2 j]
      unfold gRed
      rw [c2 j]
    have hl' : rLog X' K3 n := rLog_add (g := K.1 2) hn l1 l2 (show 12 * p + h < 72 by omega) (by omega) hs.2.1 l6 x3 (rKp4_of k2 m2) (n3 0 28 (by omega) (by omega) (by omega)) (fun j => n3 13 j (by omega) (by omega) (by omega))
    have ego : ∀ j, j ≠ 216 + p → j ≠ 12 * p + h → K3.1 2 j = K.1 2 j := fun j z1 z2 => by rw [eg]; unfold gRed; rw [if_neg z2, if_neg z1]
    refine ⟨nI (V 1 d), X', K3, x1, ?_, Or.inr ⟨V 1 d, hv, rfl, x2, ⟨fun e j q1 q2 q3 q4 => by rw [n3 e j q1 q2 (by omega), m2.2.2.2.2.1 e j q3 (by omega), k2.1 e j q2 (by omega)], by rw [n4, m2.2.2.2.2.2, k2.2]⟩, x4 _ eg, hl', fun j hj => ego j (by omega) (by omega)⟩, fun q h6 hq => ⟨ego _ (by omega) (by omega), fun h' hh' => ego _ (by omega) (by omega)⟩⟩
    unfold f12_redeemsKept
    simp only [q_lit]
    rw [wy, q_bd, if_neg (by decide), k1, q_bd, if_neg (by first | decide | exact fun q => absurd (show nI 1 = nI 0 from q) (by decide)), m1, q_bd, n1, q_bd]
  · rw [decide_eq_false ok] at k1
    obtain ⟨X', x1, x2⟩ := xa (fun q => ok ⟨(nI_eq (by omega) (by omega)).mp (s3.symm.trans q.1), q.2⟩)
    refine ⟨-nI 3, X', K1, x1, ?_, Or.inl ⟨rfl, x2, k2⟩, fun q _ _ => ⟨k2.1 2 _ (by omega) (by omega), fun h' _ => k2.1 2 _ (by omega) (by omega)⟩⟩
    unfold f12_redeemsKept f12_redeemsKept_j20
    simp only [q_lit]
    rw [wy, q_bd, if_neg (by decide), k1, q_bd, if_pos (by first | rfl | trivial | decide), if_pos (by decide)]
theorem o_day {S : ph_Sh} {X K : ph_Mem} {n t : Nat} (hs : rSt RLx S X 11 (K.1 2) n t) (hlg : rLog X K n) : ∃ r X' K', f9_tryNextDay S X 11 59 = some (r, X') ∧ f12_passesKept K = some (r, K') ∧ oMv S X K X' K' n t r ∧ ∀ q h, q < 6 → h < 12 → K'.1 2 (12 * q + h) = K.1 2 (12 * q + h) := by
  have hn := hs.1.1
  obtain ⟨d, d1, d2, d3⟩ := rSt_day hs
  obtain ⟨⟨t1, ⟨inc, i1, i2⟩⟩, _⟩ := hs.2.2.2.2.2.1
  obtain ⟨nx, sz, l1, l2, l3, l4, l5, l6⟩ := id hlg
  obtain ⟨xa, xb⟩ := x_day RLx_loc (S := S) (l := 59) (Or.inl rfl) (by omega) (by omega) hs d1 d3 i1 i2 ⟨l1, l2, l3, l4⟩
  by_cases e : d = 999
  · refine ⟨-nI 3, X, K, xa e, ?_, Or.inl ⟨rfl, ⟨fun _ _ _ => rfl, rfl, fun _ _ _ => rfl⟩, kSc_r⟩, fun _ _ _ _ => rfl⟩
    unfold f12_passesKept
    rw [d3, e, if_pos (by decide)]
    rfl
  · obtain ⟨X', x1, x2, x3, x4⟩ := xb (by omega)
    obtain ⟨K2, m1, m2⟩ := m_keeps (K := K) (k := 2) l2 (by omega) l5
    have c2 : ∀ j, K2.1 2 j = K.1 2 j := fun j => m2.2.2.2.2.1 2 j (by omega) (by omega)
    obtain ⟨K3, n1, n2, n3, n4⟩ := m_day (K := K2) hn i1 ((c2 _).trans hs.1.2.2.2.1) ((c2 _).trans i2) ((c2 _).trans d3) (fun q hq => by
      obtain ⟨u, u1, u2, u3⟩ := rSt_pu hs (show q < 6 by omega)
      exact ⟨u, by omega, (c2 _).trans u3⟩)
    have eg : ∀ j, K3.1 2 j = gDay (K.1 2) n d inc j := fun j => by
      rw [n2 j]
      unfold gDay
      rw [c2 j]
    have hl' : rLog X' K3 n := rLog_add (g := K.1 2) hn l1 l2 (show 0 < 72 by omega) (by omega) hs.2.1 l6 x3 (rKp4_of kSc_r m2) (n3 0 28 (by omega)) (fun j => n3 13 j (by omega))
    have e222 : K3.1 2 222 = nI (d + 1) := by rw [eg]; unfold gDay; rw [if_pos rfl]
    have ego : ∀ j, j < 216 ∨ 223 ≤ j → K3.1 2 j = K.1 2 j := fun j z => by rw [eg]; unfold gDay; rw [if_neg (by omega), if_neg (by omega)]
    refine ⟨nI (d + 1), X', K3, x1, ?_, Or.inr ⟨d + 1, by omega, rfl, x2, ⟨fun e j q1 q2 q3 q4 => by rw [n3 e j q1, m2.2.2.2.2.1 e j q3 (by omega)], by rw [n4, m2.2.2.2.2.2]⟩, x4 _ eg, hl', fun j hj => ego j (by omega)⟩, fun q h hq hh => ego _ (by omega)⟩
    unfold f12_passesKept
    simp only [q_lit]
    rw [d3, if_neg (by rw [q_eq (by omega) (by omega)]; exact e), m1, q_bd, n1, q_bd, e222]
