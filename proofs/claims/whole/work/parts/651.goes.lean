/-! PURE HALF: orders: the model goes along a clause -/
/-- the persons' words -/
def wdl (w : Nat → Int32) (g : Nat → Int32) (n p : Nat) : Prop := (p < n → w (3 + p) = g (216 + p) ∧ w (9 + p) = nI (q_pc (q_bs (hP g p 0) 12) 12) ∧ w (15 + p) = nI (q_kn g p (hP g p 0) 12)) ∧ (n ≤ p → w (3 + p) = -nI 1 ∧ w (9 + p) = -nI 1 ∧ w (15 + p) = -nI 1)
theorem q_kn_g {g g' : Nat → Int32} {p : Nat} {H : Nat → Bool} (h : ∀ j, 223 ≤ j → g' j = g j) : ∀ n, q_kn g' p H n = q_kn g p H n
  | 0 => rfl
  | n + 1 => by
    have ih := q_kn_g (p := p) (H := H) h n
    have ks : ∀ x, q_ks g' p n x = q_ks g p n x := fun x => by
      unfold q_ks
      rw [h _ (by omega), h _ (by omega)]
    rw [q_kn, q_kn, ih, ks]
theorem wdl_fr {w w' g g' : Nat → Int32} {n p : Nat} (h : wdl w g n p) (h1 : w' (3 + p) = w (3 + p)) (h2 : w' (9 + p) = w (9 + p)) (h3 : w' (15 + p) = w (15 + p)) (g1 : g' (216 + p) = g (216 + p)) (g2 : ∀ h, h < 12 → g' (12 * p + h) = g (12 * p + h)) (g3 : ∀ j, 223 ≤ j → g' j = g j) : wdl w' g' n p := by
  have hh : ∀ i, i < 12 → hP g' p 0 i = hP g p 0 i := fun i hi => by unfold hP; rw [g2 i hi]
  unfold wdl
  rw [h1, h2, h3, g1, q_bs_ext 12 hh, q_kn_g g3, q_kn_ext (g := g) (p := p) 12 hh]
  exact h
/-- the model's text of orders, and its words -/
def oTx (cd vl : Nat → Nat) (T : Nat) (K : ph_Mem) : Prop := (T ≤ 400 ∧ cd T = 0 ∧ ∀ k, cd k < 400 ∧ vl k < 2 ^ 30) ∧ ∀ k, k < T → K.1 2 (2885 + k) = nI (cd k) ∧ K.1 2 (5685 + k) = nI (vl k)
def oFr (K K' : ph_Mem) : Prop := (∀ e j, e ≠ 12 → e ≠ 15 → (e ≠ 0 ∨ (j ≠ 8 ∧ j ≠ 22 ∧ j ≠ 23 ∧ j ≠ 24 ∧ j ≠ 44 ∧ j ≠ 45 ∧ j ≠ 46 ∧ j ≠ 47)) → K'.1 e j = K.1 e j) ∧ K'.2.2 = K.2.2 ∧ ∀ e j, e ≠ 23 → K'.2.1 e j = K.2.1 e j
theorem oFr_t {A B C : ph_Mem} (h1 : oFr A B) (h2 : oFr B C) : oFr A C := ⟨fun e j a b c => (h2.1 e j a b c).trans (h1.1 e j a b c), h2.2.1.trans h1.2.1, fun e j a => (h2.2.2 e j a).trans (h1.2.2 e j a)⟩
theorem oFr_m {K K' : ph_Mem} (h : mFr true K K') : oFr K K' := ⟨fun e j a b c => h.1 e j b (by omega), by rw [h.2.1], fun e j _ => by rw [h.2.1]⟩
theorem oFr_r {K : ph_Mem} : oFr K K := ⟨fun _ _ _ _ _ => rfl, rfl, fun _ _ _ => rfl⟩
theorem oFr_w {K K' : ph_Mem} {j : Nat} {v : Int32} (h : oFr K K') (hj : j = 8 ∨ j = 22 ∨ j = 23 ∨ j = 24 ∨ j = 44 ∨ j = 45 ∨ j = 46 ∨ j = 47) : oFr K (ph_wi K' 0 j v) := ⟨fun e i a b c => (wi_o (by omega)).trans (h.1 e i a b c), h.2.1, h.2.2⟩
theorem mE_o {K K' : ph_Mem} {r : lwE} (h : mE true K r) (h8 : K'.1 0 8 = K.1 0 8) (h12 : ∀ k, k < 3 → K'.1 12 k = K.1 12 k) (h2 : ∀ j, K'.1 2 j = K.1 2 j) : mE true K' r := by
  have e2 : K'.1 2 = K.1 2 := funext h2
  unfold mE at h ⊢
  rw [if_pos rfl] at h ⊢
  rw [e2, h8]
  exact ⟨h.1, fun k hk => (h12 k hk).trans (h.2.1 k hk), h.2.2⟩
theorem txt_o {cd vl : Nat → Nat} {T : Nat} {K K' : ph_Mem} {r : lwE} (h : txt true cd vl T 2400 K r) (h8 : K'.1 0 8 = K.1 0 8) (h23 : K'.1 0 23 = K.1 0 23) (h12 : ∀ k, k < 3 → K'.1 12 k = K.1 12 k) (h2 : ∀ j, K'.1 2 j = K.1 2 j) : txt true cd vl T 2400 K' r :=
  ⟨h.1, fun k hk => by rw [h2, h2]; exact h.2.1 k hk, h23.trans h.2.2.1, mE_o h.2.2.2 h8 h12 h2⟩
def tsB (ts : Option lwT) (r : lwE) : Bool := match ts with
  | none => true
  | some t => decide (t r = some true)
/-- times and test -/
theorem m_goeT {cd vl : Nat → Nat} {T e1 e2 e : Nat} {tm : Nat} {ts : Option lwT} {r : lwE} {K : ph_Mem} {lv : Bool} (he : e ≤ T) (h12 : e1 ≤ e2 ∧ e2 ≤ e) (htm : tm ≤ 20) (hc : (cd e1 = 27 ∧ e2 = e1 + 2 ∧ vl (e1 + 1) = tm) ∨ (cd e1 ≠ 27 ∧ e2 = e1 ∧ tm = 1)) (hn : ts = none → e = e2 ∧ cd e2 ≠ 4) (hs : ∀ t, ts = some t → cd e2 = 4 ∧ mB true cd vl T f12_testOf (e2 + 1) e t) (ht : txt true cd vl T 2400 K r) (hg : K.1 0 22 = nI (2400 + e1)) : ∃ (K' : ph_Mem) (ti : Bool), f12_goesAlong_j165 (nI lv.toNat) K = some K' ∧ K'.1 0 22 = nI (2400 + e + 1) ∧ K'.1 0 44 = nI tm ∧ K'.1 0 47 = nI ti.toNat ∧ (lv = true → ti = tsB ts r) ∧ oFr K K' ∧ (∀ j, j ≠ 22 → j ≠ 24 → j ≠ 44 → j ≠ 47 → K'.1 0 j = K.1 0 j) ∧ K'.2 = K.2 ∧ ∀ k, K'.1 12 k = K.1 12 k := by
  -- the test, from e2 on
  have tst : ∀ N : ph_Mem, txt true cd vl T 2400 N r → N.1 0 22 = nI (2400 + e2) → N.1 0 44 = nI tm → ∃ (K' : ph_Mem) (ti : Bool), f12_goesAlong_j206 (nI lv.toNat) N = some K' ∧ K'.1 0 22 = nI (2400 + e + 1) ∧ K'.1 0 44 = nI tm ∧ K'.1 0 47 = nI ti.toNat ∧ (lv = true → ti = tsB ts r) ∧ (∀ c j, c ≠ 15 → (c ≠ 0 ∨ (j ≠ 22 ∧ j ≠ 24 ∧ j ≠ 47)) → K'.1 c j = N.1 c j) ∧ K'.2 = N.2 := by
    intro N hN g2 h44
    have fr0 : mFr true N (ph_wi N 0 24 (nI 0)) := mFr_w (mFr_r N) (Or.inr rfl)
    have hN0 := txt_fr hN fr0
    have pp := m_pass (x := 4) hN0 (show e2 ≤ T by omega) (by omega) (by rw [wi_o (by omega)]; exact g2)
    -- the end
    have fin : ∀ (s bk : Bool) (P : ph_Mem), P.1 0 22 = nI (2400 + e) → P.1 0 24 = nI bk.toNat → f12_goesAlong_j233 (nI s.toNat) P = some (ph_wi (ph_wi (ph_wi P 0 47 (nI s.toNat)) 0 47 (nI (s && !bk).toNat)) 0 22 (nI (2400 + e + 1))) := by
      intro s bk P p1 p2
      unfold f12_goesAlong_j233 f12_goesAlong_j255 f12_goesAlong_j256
      simp only [q_lit]
      rw [q_iszb, q_ct, q_let, wi_s]
      cases s
      · rw [if_pos (by first | rfl | trivial | decide), q_isz0, q_ct, q_let, q_let, wi_o (by omega), wi_o (by omega), p1, nI_add]
        rfl
      · rw [if_neg (by first | decide | exact fun q => absurd (show nI 1 = nI 0 from q) (by decide)), wi_o (by omega), p2]
        cases bk
        · rw [if_pos (by first | rfl | trivial | decide), q_isz1, q_ct, q_let, q_let, wi_o (by omega), wi_o (by omega), p1, nI_add]
          rfl
        · rw [if_neg (by first | decide | exact fun q => absurd (show nI 1 = nI 0 from q) (by decide)), q_isz0, q_ct, q_let, q_let, wi_o (by omega), wi_o (by omega), p1, nI_add]
          rfl
    have fin2 : ∀ (s bk : Bool) (P : ph_Mem), P.1 0 22 = nI (2400 + e) → P.1 0 24 = nI bk.toNat → ∃ Q, f12_goesAlong_j233 (nI s.toNat) P = some Q ∧ Q.1 0 22 = nI (2400 + e + 1) ∧ Q.1 0 47 = nI (s && !bk).toNat ∧ (∀ c j, (c ≠ 0 ∨ (j ≠ 22 ∧ j ≠ 47)) → Q.1 c j = P.1 c j) ∧ Q.2 = P.2 := fun s bk P p1 p2 => ⟨ph_wi (ph_wi (ph_wi P 0 47 (nI s.toNat)) 0 47 (nI (s && !bk).toNat)) 0 22 (nI (2400 + e + 1)), fin s bk P p1 p2, wi_s, by rw [wi_o (by omega), wi_s], fun c j q => by rw [wi_o (by omega), wi_o (by omega), wi_o (by omega)], rfl⟩
    cases ets : ts with
    | none =>
      obtain ⟨ee, c4⟩ := hn ets
      rw [if_neg c4] at pp
      obtain ⟨Q, f0, f1, f2, f3, f4⟩ := fin2 true false (ph_wi N 0 24 (nI 0)) (by rw [wi_o (by omega), ee]; exact g2) wi_s
      refine ⟨Q, true, ?_, f1, by rw [f3 0 44 (by omega), wi_o (by omega)]; exact h44, f2, fun _ => rfl, fun c j q1 q2 => by rw [f3 c j (by omega), wi_o (by omega)], by rw [f4]; rfl⟩
      rw [← f0]
      unfold f12_goesAlong_j206 f12_goesAlong_j228
      simp only [q_lit]
      rw [q_let, pp, q_bd, if_pos (by first | rfl | trivial | decide)]
      rfl
    | some t =>
      obtain ⟨c4, mt⟩ := hs t ets
      rw [if_pos c4] at pp
      have fr1 : mFr true N (ph_wi (ph_wi N 0 24 (nI 0)) 0 22 (nI (2400 + (e2 + 1)))) := mFr_w fr0 (Or.inl rfl)
      obtain ⟨b, P, bk, y1, y2, y3, y4, y5⟩ := mt.2.2 _ r 2400 lv false (txt_fr hN fr1) wi_s (by rw [wi_o (by omega), wi_s]; rfl)
      obtain ⟨Q, f0, f1, f2, f3, f4⟩ := fin2 b bk P y2 y3
      have fr2 := mFr_t fr1 y4
      refine ⟨Q, b && !bk, ?_, f1, by rw [f3 0 44 (by omega), fr2.1 0 44 (by omega) (by omega)]; exact h44, f2, fun hlv => ?_, fun c j q1 q2 => by rw [f3 c j (by omega), fr2.1 c j q1 (by omega)], by rw [f4]; exact fr2.2.1⟩
      · rw [← f0]
        unfold f12_goesAlong_j206 f12_goesAlong_j228
        simp only [q_lit]
        rw [q_let, pp, q_bd, if_neg (by first | decide | exact fun q => absurd (show nI 1 = nI 0 from q) (by decide)), y1, q_bd]
        cases b
        · rw [if_pos (by first | rfl | trivial | decide)]; rfl
        · rw [if_neg (by first | decide | exact fun q => absurd (show nI 1 = nI 0 from q) (by decide))]; rfl
      · obtain ⟨v1, v2⟩ := y5.1 ⟨hlv, rfl⟩
        show (b && !bk) = decide (t r = some true)
        cases e3 : t r with
        | none =>
          have := v1 e3
          rw [this, decide_eq_false (by simp)]
          cases b <;> rfl
        | some x =>
          obtain ⟨w1, w2⟩ := v2 x e3
          subst w1
          rw [w2]
          cases b
          · rw [decide_eq_false (by simp)]; rfl
          · rw [decide_eq_true rfl]; rfl
  have t1 := ht.1.2.1
  have ht0 : txt true cd vl T 2400 (ph_wi K 0 44 (nI 1)) r := txt_o ht (wi_o (by omega)) (wi_o (by omega)) (fun k _ => wi_o (by omega)) (fun j => wi_o (by omega))
  have pp := m_pass (x := 27) ht0 (show e1 ≤ T by omega) (by omega) (by rw [wi_o (by omega)]; exact hg)
  rcases hc with ⟨c27, ee, vv⟩ | ⟨c27, ee, vv⟩
  · rw [if_pos c27] at pp
    have v1 : K.1 2 (5685 + (e1 + 1)) = nI tm := by rw [← vv]; exact (show K.1 2 (3285 + 2400 + (e1 + 1)) = _ from (ht.2.1 (e1 + 1) (by omega)).2)
    generalize eN : ph_wi (ph_wi (ph_wi (ph_wi K 0 44 (nI 1)) 0 22 (nI (2400 + (e1 + 1)))) 0 44 (nI tm)) 0 22 (nI (2400 + e2)) = N
    have oN : ∀ c j, (c ≠ 0 ∨ (j ≠ 22 ∧ j ≠ 44)) → N.1 c j = K.1 c j := fun c j q => by rw [← eN, wi_o (by omega), wi_o (by omega), wi_o (by omega), wi_o (by omega)]
    obtain ⟨K', ti, z1, z2, z3, z4, z5, z6, z7⟩ := tst N (txt_o ht (oN _ _ (by omega)) (oN _ _ (by omega)) (fun k _ => oN _ _ (by omega)) (fun j => oN _ _ (by omega))) (by rw [← eN, wi_s]) (by rw [← eN, wi_o (by omega), wi_s])
    refine ⟨K', ti, ?_, z2, z3, z4, z5, ⟨fun c j q1 q2 q3 => by rw [z6 c j q2 (by omega), oN c j (by omega)], by rw [z7, ← eN]; rfl, fun c j _ => by rw [z7, ← eN]; rfl⟩, fun j q1 q2 q3 q4 => by rw [z6 0 j (by omega) (by omega), oN 0 j (by omega)], by rw [z7, ← eN]; rfl, fun k => by rw [z6 12 k (by omega) (by omega), oN 12 k (by omega)]⟩
    rw [← z1]
    unfold f12_goesAlong_j165
    simp only [q_lit]
    rw [q_let, pp, q_bd, if_neg (by first | decide | exact fun q => absurd (show nI 1 = nI 0 from q) (by decide))]
    show (cond (ph_ib (nI 3285 + (ph_wi (ph_wi K 0 44 (nI 1)) 0 22 (nI (2400 + (e1 + 1)))).1 0 22) 6085) _ none) = _
    rw [wi_s, nI_add, q_ib (by omega) (by omega), q_ct, q_let, q_cl (by omega), wi_o (by omega), wi_o (by omega), show 3285 + (2400 + (e1 + 1)) = 5685 + (e1 + 1) by omega, v1, q_let, wi_o (by omega), wi_s, nI_add, show 2400 + (e1 + 1) + 1 = 2400 + e2 by omega, eN]
  · rw [if_neg c27] at pp
    obtain ⟨K', ti, z1, z2, z3, z4, z5, z6, z7⟩ := tst (ph_wi K 0 44 (nI 1)) ht0 (by rw [wi_o (by omega), ee]; exact hg) (by rw [wi_s, vv])
    refine ⟨K', ti, ?_, z2, z3, z4, z5, ⟨fun c j q1 q2 q3 => by rw [z6 c j q2 (by omega), wi_o (by omega)], by rw [z7]; rfl, fun c j _ => by rw [z7]; rfl⟩, fun j q1 q2 q3 q4 => by rw [z6 0 j (by omega) (by omega), wi_o (by omega)], by rw [z7]; rfl, fun k => by rw [z6 12 k (by omega) (by omega), wi_o (by omega)]⟩
    rw [← z1]
    unfold f12_goesAlong_j165
    simp only [q_lit]
    rw [q_let, pp, q_bd, if_pos (by first | rfl | trivial | decide)]
