/-! PURE HALF: the law's module: a ruling, the model's walk -/
theorem m_clp {rc : Int32 → Int32 → Int64 → ph_Mem → Option (Int32 × ph_Mem)} {x1 : Int32} {hi : Nat} {v : Int64} {K : ph_Mem} (hh : hi ≤ 9999) : (if nI 0 ≤ (lg_cmp v (0 : Int64)) then (if (lg_cmp v (nI hi).toInt64) ≤ nI 0 then (f12_tells_j202 rc x1 (nI hi) v K) else (f12_tells_j202 rc x1 (nI hi) (nI hi).toInt64 K)) else (f12_tells_j202 rc x1 (nI hi) (0 : Int64) K)) = f12_tells_j204 rc x1 (nI hi) (lN (clp hi v)) K := by
  unfold f12_tells_j202
  rw [nI_l (by omega)]
  by_cases v0 : v < 0
  · have : clp hi v = 0 := by unfold clp; rw [if_pos v0]
    rw [if_neg (show ¬ nI 0 ≤ lg_cmp v 0 from fun q => absurd v0 (Int64.not_lt.mpr ((lg_cmp_ge _ _).mp q))), this]
    rfl
  · rw [if_pos (show nI 0 ≤ lg_cmp v 0 from (lg_cmp_ge _ _).mpr (Int64.not_lt.mp v0))]
    obtain ⟨k, k1, rfl⟩ := pk_lOf v0
    rw [clp_n k1]
    by_cases hk2 : k ≤ hi
    · rw [if_pos (show lg_cmp (lN k) (lN hi) ≤ nI 0 from (lg_cmp_le _ _).mpr ((pk_lLE k1 (by omega)).mpr hk2)), Nat.min_eq_right hk2]
    · rw [if_neg (show ¬ lg_cmp (lN k) (lN hi) ≤ nI 0 from fun q => hk2 ((pk_lLE k1 (by omega)).mp ((lg_cmp_le _ _).mp q))), Nat.min_eq_left (by omega)]
theorem m_tell1 {cd vl : Nat → Nat} {T base k e kd told f : Nat} {c : lwC} {r : lwE} {K : ph_Mem} (hkd : kd < 3) (hc : c.1 < 3) (hm : mCl false cd vl T k e c) (ht : txt false cd vl T base K r) (hg : K.1 0 22 = nI (base + k)) : ∃ K', f12_tells_l66 (f + 1) (nI (kd + 1)) (nI (mst kd)) (lN told) K = f12_tells_l66 f (nI (kd + 1)) (nI (mst kd)) (lN (match clR kd r c with
    | some v => clp (mst kd) v
    | none => told)) K' ∧ K'.1 0 22 = nI (base + e + 1) ∧ mFr false K K' := by
  obtain ⟨⟨a1, a2⟩, a3, e1, e2, a4, a5, a6, _, a7, _, a8, a9⟩ := hm
  have t1 := ht.1.1
  have t2 := ht.1.2.1
  have ml := mst_le kd
  have e21 := (a7 rfl).symm
  subst e21
  have hd : hdc false c.1 = c.1 + 1 := by
    have : c.1 = 0 ∨ c.1 = 1 ∨ c.1 = 2 := by omega
    rcases this with q | q | q <;> rw [q] <;> rfl
  rw [hd] at a3
  have cc := m_code ht (show k ≤ T by omega)
  rw [a3] at cc
  generalize eK1 : ph_wi (ph_wi K 0 24 (nI 0)) 0 22 (nI (base + (k + 1))) = K1
  have f1 : mFr false K K1 := by rw [← eK1]; exact mFr_w (mFr_w (mFr_r K) (Or.inr rfl)) (Or.inl rfl)
  have g1 : K1.1 0 22 = nI (base + (k + 1)) := by rw [← eK1, wi_s]
  have b1 : K1.1 0 24 = nI false.toNat := by rw [← eK1, wi_o (by omega), wi_s]; rfl
  -- behind the sum
  have tail : ∀ (v : Int64) (K2 : ph_Mem) (b2 : Bool), K2.1 0 22 = nI (base + e1) → K2.1 0 24 = nI b2.toNat → mFr false K K2 → mR true false b2 v (clF c.1 r c) → ∃ K', f12_tells_j117 (f12_tells_l66 f) (nI (kd + 1)) (nI (mst kd)) (lN told) (nI (c.1 + 1)) v K2 = f12_tells_l66 f (nI (kd + 1)) (nI (mst kd)) (lN (match clR kd r c with
      | some v => clp (mst kd) v
      | none => told)) K' ∧ K'.1 0 22 = nI (base + e + 1) ∧ mFr false K K' := by
    intro v K2 b2 g2 h2 f2 hv
    have f3 : mFr false K (ph_wi K2 0 24 (nI 0)) := mFr_w f2 (Or.inr rfl)
    have ht3 := txt_fr ht f3
    have pp := m_pass (x := 4) ht3 (show e1 ≤ T by omega) (by omega) (by rw [wi_o (by omega)]; exact g2)
    -- the last step
    have j204 : ∀ (tl : Int64) (K6 : ph_Mem), K6.1 0 22 = nI (base + e) → mFr false K K6 → ∃ K', f12_tells_j204 (f12_tells_l66 f) (nI (kd + 1)) (nI (mst kd)) tl K6 = f12_tells_l66 f (nI (kd + 1)) (nI (mst kd)) tl K' ∧ K'.1 0 22 = nI (base + e + 1) ∧ mFr false K K' := by
      intro tl K6 g6 f6
      refine ⟨ph_wi K6 0 22 (nI (base + e + 1)), ?_, wi_s, mFr_w f6 (Or.inl rfl)⟩
      unfold f12_tells_j204
      simp only [q_lit]
      rw [q_let, g6, nI_add]
    have j151 : ∀ (s b5 : Bool) (K6 : ph_Mem), K6.1 0 22 = nI (base + e) → K6.1 0 24 = nI b5.toNat → mFr false K K6 → (match clR kd r c with
        | some v => clp (mst kd) v
        | none => told) = (if c.1 = kd ∧ s = true ∧ b5 = false ∧ b2 = false then clp (mst kd) v else told) → ∃ K', f12_tells_j151 (f12_tells_l66 f) (nI (kd + 1)) (nI (mst kd)) (lN told) (nI (c.1 + 1)) v (nI b2.toNat) (nI s.toNat) K6 = f12_tells_l66 f (nI (kd + 1)) (nI (mst kd)) (lN (match clR kd r c with
        | some v => clp (mst kd) v
        | none => told)) K' ∧ K'.1 0 22 = nI (base + e + 1) ∧ mFr false K K' := by
      intro s b5 K6 g6 h6 f6 hT
      rw [hT]
      unfold f12_tells_j151
      simp only [q_lit]
      by_cases q1 : c.1 = kd
      · rw [if_pos (by rw [q1])]
        cases s
        · rw [if_pos (by first | rfl | trivial | decide), if_neg (fun z => absurd z.2.1 (by simp))]
          exact j204 _ K6 g6 f6
        · rw [if_neg (by first | decide | exact fun q => absurd (show nI 1 = nI 0 from q) (by decide)), h6]
          cases b5
          · rw [if_pos (by first | rfl | trivial | decide)]
            cases b2
            · rw [if_pos (by first | rfl | trivial | decide), m_clp ml, if_pos ⟨q1, rfl, rfl, rfl⟩]
              exact j204 _ K6 g6 f6
            · rw [if_neg (by first | decide | exact fun q => absurd (show nI 1 = nI 0 from q) (by decide)), if_neg (fun z => absurd z.2.2.2 (by simp))]
              exact j204 _ K6 g6 f6
          · rw [if_neg (by first | decide | exact fun q => absurd (show nI 1 = nI 0 from q) (by decide)), if_neg (fun z => absurd z.2.2.1 (by simp))]
            exact j204 _ K6 g6 f6
      · rw [if_neg (by rw [q_eq (by omega) (by omega)]; omega), if_neg (fun z => q1 z.1)]
        exact j204 _ K6 g6 f6
    -- what the sum means
    have sm : ∀ s b5 : Bool, (c.1 = kd → clR kd r c = if s = true ∧ b5 = false then clF kd r c else none) → (match clR kd r c with
        | some v => clp (mst kd) v
        | none => told) = (if c.1 = kd ∧ s = true ∧ b5 = false ∧ b2 = false then clp (mst kd) v else told) := by
      intro s b5 hcl
      by_cases q1 : c.1 = kd
      · rw [hcl q1]
        by_cases q2 : s = true ∧ b5 = false
        · rw [if_pos q2]
          obtain ⟨v1, v2⟩ := hv.1 ⟨rfl, rfl⟩
          rw [q1] at v1 v2
          cases eF : clF kd r c with
          | none =>
            have := v1 eF
            rw [if_neg (fun z => by rw [this] at z; exact absurd z.2.2.2 (by simp))]
          | some x =>
            obtain ⟨w1, w2⟩ := v2 x eF
            rw [if_pos ⟨q1, q2.1, q2.2, w2⟩, w1]
        · rw [if_neg q2, if_neg (fun z => q2 ⟨z.2.1, z.2.2.1⟩)]
      · have : clR kd r c = none := by unfold clR; rw [if_neg q1]
        rw [this, if_neg (fun z => q1 z.1)]
    cases et : c.2.2.2.2 with
    | none =>
      obtain ⟨ee, c4⟩ := a8 et
      rw [if_neg c4] at pp
      have e0 : f12_tells_j117 (f12_tells_l66 f) (nI (kd + 1)) (nI (mst kd)) (lN told) (nI (c.1 + 1)) v K2 = f12_tells_j151 (f12_tells_l66 f) (nI (kd + 1)) (nI (mst kd)) (lN told) (nI (c.1 + 1)) v (nI b2.toNat) (nI true.toNat) (ph_wi K2 0 24 (nI 0)) := by
        unfold f12_tells_j117 f12_tells_j146
        simp only [q_lit]
        rw [q_let, pp, q_bd, if_pos (by first | rfl | trivial | decide), h2]
        rfl
      rw [e0]
      exact j151 true false (ph_wi K2 0 24 (nI 0)) (by rw [wi_o (by omega), ee]; exact g2) (by rw [wi_s]; rfl) f3 (sm true false (fun q1 => by unfold clR; rw [if_pos q1, et, if_pos ⟨rfl, rfl⟩]))
    | some t =>
      obtain ⟨c4, mt⟩ := a9 t et
      rw [if_pos c4] at pp
      have f4 : mFr false K (ph_wi (ph_wi K2 0 24 (nI 0)) 0 22 (nI (base + (e1 + 1)))) := mFr_w f3 (Or.inl rfl)
      obtain ⟨b, K5, b5, y1, y2, y3, y4, y5⟩ := mt.2.2 _ r base true false (txt_fr ht f4) wi_s (by rw [wi_o (by omega), wi_s]; rfl)
      have y1' : f12_testOf (ph_wi (ph_wi K2 0 24 (nI 0)) 0 22 (nI (base + (e1 + 1)))) (nI 1) = some (nI b.toNat, K5) := y1
      have e0 : f12_tells_j117 (f12_tells_l66 f) (nI (kd + 1)) (nI (mst kd)) (lN told) (nI (c.1 + 1)) v K2 = f12_tells_j151 (f12_tells_l66 f) (nI (kd + 1)) (nI (mst kd)) (lN told) (nI (c.1 + 1)) v (nI b2.toNat) (nI b.toNat) K5 := by
        unfold f12_tells_j117 f12_tells_j146
        simp only [q_lit]
        rw [q_let, pp, q_bd, if_neg (by first | decide | exact fun q => absurd (show nI 1 = nI 0 from q) (by decide)), y1', q_bd, h2]
        cases b
        · rw [if_pos (by first | rfl | trivial | decide)]; rfl
        · rw [if_neg (by first | decide | exact fun q => absurd (show nI 1 = nI 0 from q) (by decide))]; rfl
      rw [e0]
      refine j151 b b5 K5 y2 y3 (mFr_t f4 y4) (sm b b5 (fun q1 => ?_))
      have : clR kd r c = if t r = some true then clF kd r c else none := by unfold clR; rw [if_pos q1, et]
      rw [this]
      obtain ⟨v1, v2⟩ := y5.1 ⟨rfl, rfl⟩
      cases e3 : t r with
      | none =>
        have := v1 e3
        rw [if_neg (by simp), if_neg (fun z => by rw [this] at z; exact absurd z.2 (by simp))]
      | some x =>
        obtain ⟨w1, w2⟩ := v2 x e3
        subst w1
        cases b
        · rw [if_neg (by simp), if_neg (by simp)]
        · rw [if_pos rfl, if_pos ⟨rfl, w2⟩]
  have e0 : f12_tells_l66 (f + 1) (nI (kd + 1)) (nI (mst kd)) (lN told) K = if nI (c.1 + 1) = nI 3 then f12_tells_j117 (f12_tells_l66 f) (nI (kd + 1)) (nI (mst kd)) (lN told) (nI (c.1 + 1)) (1 : Int64) K1 else ((f12_sumOf K1 (nI 1)).bind fun q7 => f12_tells_j117 (f12_tells_l66 f) (nI (kd + 1)) (nI (mst kd)) (lN told) (nI (c.1 + 1)) q7.1 q7.2) := by
    conv => lhs; unfold f12_tells_l66
    simp only [q_lit]
    rw [ht.2.2.1, hg, if_neg (by rw [q_le (by omega) (by omega)]; omega), cc, q_bd, q_let, q_let, wi_o (by omega), hg, nI_add, show base + k + 1 = base + (k + 1) by omega, eK1]
  rw [e0]
  by_cases c2 : c.1 = 2
  · rw [if_pos (by rw [c2])]
    refine tail 1 K1 false (by rw [a5 c2]; exact g1) b1 f1 ⟨fun _ => ⟨fun q => ?_, fun x q => ?_⟩, fun q => absurd ⟨rfl, rfl⟩ q⟩
    · unfold clF at q; rw [if_pos c2] at q; exact absurd q (by simp)
    · unfold clF at q; rw [if_pos c2] at q; injection q with q; exact ⟨q, rfl⟩
  · rw [if_neg (by rw [q_eq (by omega) (by omega)]; omega)]
    obtain ⟨v, K2, b2, y1, y2, y3, y4, y5⟩ := (a6 c2 rfl).2.2 K1 r base true false (txt_fr ht f1) g1 b1
    have y1' : f12_sumOf K1 (nI 1) = some (v, K2) := y1
    rw [y1', q_bd]
    refine tail v K2 b2 y2 y3 (mFr_t f1 y4) ?_
    have : clF c.1 r c = c.2.2.1 r := by unfold clF; rw [if_neg c2]
    rw [this]
    exact y5
def tld (kd : Nat) (r : lwE) (cs : Nat → lwC) (df n : Nat) : Nat := match lst (fun j => clR kd r (cs j)) n with
  | some v => clp (mst kd) v
  | none => df
theorem tld_s (kd : Nat) (r : lwE) (cs : Nat → lwC) (df n : Nat) : tld kd r cs df (n + 1) = (match clR kd r (cs n) with
    | some v => clp (mst kd) v
    | none => tld kd r cs df n) := by
  unfold tld
  rw [lst]
  cases clR kd r (cs n) with
  | none => rfl
  | some v => rfl
theorem m_tells_l {cd vl : Nat → Nat} {T base n kd df : Nat} {st en : Nat → Nat} {cs : Nat → lwC} {r : lwE} (hkd : kd < 3) (h3 : ∀ i, i < n → (cs i).1 < 3) (hn : 0 < n) (hm : mC false cd vl T n st en cs) (he : en (n - 1) = T) : ∀ (j i f : Nat) (K : ph_Mem), i + j = n → j < f → txt false cd vl T base K r → (i < n → K.1 0 22 = nI (base + st i)) → (i = n → K.1 0 22 = nI (base + T + 1)) → ∃ K', f12_tells_l66 f (nI (kd + 1)) (nI (mst kd)) (lN (tld kd r cs df i)) K = some (nI (tld kd r cs df n), K') ∧ mFr false K K'
  | j, i, 0, _, _, h, _, _, _ => absurd h (by omega)
  | 0, i, f + 1, K, e, _, ht, _, hg => by
    have t1 := ht.1.1
    have t2 := ht.1.2.1
    have : i = n := by omega
    subst this
    refine ⟨K, ?_, mFr_r K⟩
    unfold f12_tells_l66
    rw [ht.2.2.1, hg rfl, if_pos (by rw [q_le (by omega) (by omega)]; omega), lN_i]
  | j + 1, i, f + 1, K, e, hf, ht, hg, _ => by
    obtain ⟨K1, p1, p2, p3⟩ := m_tell1 (f := f) (told := tld kd r cs df i) hkd (h3 i (by omega)) (hm.2.1 i (by omega)) ht (hg (by omega))
    obtain ⟨K2, r1, r2⟩ := m_tells_l (df := df) hkd h3 hn hm he j (i + 1) f K1 (by omega) (by omega) (txt_fr ht p3) (fun q => by rw [p2, hm.2.2 i q, Nat.add_assoc]) (fun q => by rw [p2, show i = n - 1 by omega, he])
    refine ⟨K2, ?_, mFr_t p3 r2⟩
    rw [p1, ← tld_s, r1]
