/-! PURE HALF: the law's module: what sums and tests mean, and the class's machine -/
abbrev lwE : Type := Nat → Int32
abbrev lwS : Type := lwE → Option Int64
abbrev lwT : Type := lwE → Option Bool
def lwBr : Int64 := -4000000000000000000
def lw_bd (x : Int64) : Option Int64 := if 1000000000 < x then none else if x < -1000000000 then none else some x
def lw_j (k : Nat) (a b : Int64) : Option Int64 :=
  if k = 6 then lw_bd (a + b) else if k = 7 then lw_bd (a - b) else if k = 8 then lw_bd (a * b) else if b = 0 then none else if k = 9 then lw_bd (a / b) else lw_bd (a - a / b * b)
def lw_c (k : Nat) (a b : Int64) : Bool := if k = 11 then decide (a < b) else if k = 12 then decide (b < a) else decide (a = b)
def lw_b (b : Bool) : Int64 := if b = true then 1 else 0
def lw_J (k : Nat) (F G : lwS) : lwS := fun r => (F r).bind fun a => (G r).bind fun b => lw_j k a b
def lw_C (k : Nat) (F G : lwS) : lwT := fun r => (F r).bind fun a => (G r).bind fun b => some (lw_c k a b)
def lw_v (T : lwT) : lwS := fun r => (T r).map lw_b
def lw_or (T U : lwT) : lwT := fun r => (T r).bind fun a => if a = true then some true else U r
def lw_and (T U : lwT) : lwT := fun r => (T r).bind fun a => if a = true then U r else some false
def lw_not (T : lwT) : lwT := fun r => (T r).map fun b => !b
theorem lw_bd_br {x v : Int64} (h : lw_bd x = some v) : v ≠ lwBr := by
  unfold lw_bd at h
  by_cases h1 : 1000000000 < x
  · rw [if_pos h1] at h; exact absurd h (by simp)
  · by_cases h2 : x < -1000000000
    · rw [if_neg h1, if_pos h2] at h; exact absurd h (by simp)
    · rw [if_neg h1, if_neg h2] at h
      injection h with h
      subst h
      intro e
      subst e
      exact h2 (by decide)
theorem lw_j_br {k : Nat} {a b v : Int64} (h : lw_j k a b = some v) : v ≠ lwBr := by
  unfold lw_j at h
  repeat' split at h
  all_goals first | exact lw_bd_br h | exact absurd h (by simp)
theorem lw_b_br (b : Bool) : lw_b b ≠ lwBr := by cases b <;> decide
theorem x_j149 {S : ph_Sh} {M : ph_Mem} {x : Int64} : f2_join_j149 S M x = some ((lw_bd x).getD lwBr) := by
  unfold f2_join_j149 lw_bd
  by_cases h1 : 1000000000 < x
  · rw [if_pos ((lg_cmp_gt _ _).mpr h1), if_pos h1]; rfl
  · by_cases h2 : x < -1000000000
    · rw [if_neg (fun q => h1 ((lg_cmp_gt _ _).mp q)), if_neg h1, if_pos h2, if_neg (fun q => by
        have := (lg_cmp_ge _ _).mp q
        exact absurd h2 (Int64.not_lt.mpr this))]; rfl
    · rw [if_neg (fun q => h1 ((lg_cmp_gt _ _).mp q)), if_neg h1, if_neg h2, if_pos ((lg_cmp_ge _ _).mpr (Int64.not_lt.mp h2))]; rfl
theorem x_j149b {S : ph_Sh} {M : ph_Mem} (b : Bool) : f2_join_j149 S M (lw_b b) = some (lw_b b) := by
  rw [x_j149]
  cases b <;> decide
theorem x_join {S : ph_Sh} {M : ph_Mem} {k : Nat} {a b : Int64} (hk : 6 ≤ k) (hk2 : k ≤ 10) : f2_join S M (nI k) a b = some ((lw_j k a b).getD lwBr) := by
  have hc : k = 6 ∨ k = 7 ∨ k = 8 ∨ k = 9 ∨ k = 10 := by omega
  unfold f2_join f2_join_j22 lw_j
  by_cases hb : b = 0
  · rw [if_pos ((lg_cmp_eq _ _).mpr hb)]
    rcases hc with rfl | rfl | rfl | rfl | rfl
    · rw [if_neg (by decide), if_neg (by decide), if_pos (by decide), x_j149, if_pos rfl]
    · rw [if_neg (by decide), if_neg (by decide), if_neg (by decide), if_pos (by decide), x_j149, if_neg (by decide), if_pos rfl]
    · rw [if_neg (by decide), if_neg (by decide), if_neg (by decide), if_neg (by decide), if_pos (by decide), x_j149, if_neg (by decide), if_neg (by decide), if_pos rfl]
    · rw [if_pos (by decide), if_neg (by decide), if_neg (by decide), if_neg (by decide), if_pos hb]; rfl
    · rw [if_neg (by decide), if_pos (by decide), if_neg (by decide), if_neg (by decide), if_neg (by decide), if_pos hb]; rfl
  · rw [if_neg (fun q => hb ((lg_cmp_eq _ _).mp q))]
    rcases hc with rfl | rfl | rfl | rfl | rfl
    · rw [if_pos (by decide), x_j149, if_pos rfl]
    · rw [if_neg (by decide), if_pos (by decide), x_j149, if_neg (by decide), if_pos rfl]
    · rw [if_neg (by decide), if_neg (by decide), if_pos (by decide), x_j149, if_neg (by decide), if_neg (by decide), if_pos rfl]
    · rw [if_neg (by decide), if_neg (by decide), if_neg (by decide), if_pos (by decide), if_neg hb, x_j149, if_neg (by decide), if_neg (by decide), if_neg (by decide), if_neg hb, if_pos rfl]
    · rw [if_neg (by decide), if_neg (by decide), if_neg (by decide), if_neg (by decide), if_pos (by decide), if_neg hb, x_j149, if_neg (by decide), if_neg (by decide), if_neg (by decide), if_neg hb, if_neg (by decide)]
theorem x_cmp {S : ph_Sh} {M : ph_Mem} {k : Nat} {a b : Int64} (hk : 11 ≤ k) (hk2 : k ≤ 13) : f2_join S M (nI k) a b = some (lw_b (lw_c k a b)) := by
  have hc : k = 11 ∨ k = 12 ∨ k = 13 := by omega
  have e0 : f2_join S M (nI k) a b = f2_join_j22 S M (nI k) a b := by
    unfold f2_join
    by_cases hb : lg_cmp b 0 = 0
    · rw [if_pos hb, if_neg (by rcases hc with rfl | rfl | rfl <;> decide), if_neg (by rcases hc with rfl | rfl | rfl <;> decide)]
    · rw [if_neg hb]
  rw [e0]
  unfold f2_join_j22 f2_join_j115 f2_join_j131 f2_join_j147 lw_c
  rcases hc with rfl | rfl | rfl
  · rw [if_neg (by decide), if_neg (by decide), if_neg (by decide), if_neg (by decide), if_neg (by decide), if_pos (by decide), if_pos rfl]
    by_cases h : a < b
    · rw [if_neg (fun q => absurd h (Int64.not_lt.mpr ((lg_cmp_ge _ _).mp q))), decide_eq_true h]; exact x_j149b true
    · rw [if_pos ((lg_cmp_ge _ _).mpr (Int64.not_lt.mp h)), decide_eq_false h]; exact x_j149b false
  · rw [if_neg (by decide), if_neg (by decide), if_neg (by decide), if_neg (by decide), if_neg (by decide), if_neg (by decide), if_pos (by decide)]
    show _ = some (lw_b (decide (b < a)))
    by_cases h : b < a
    · rw [if_neg (fun q => absurd h (Int64.not_lt.mpr ((lg_cmp_le _ _).mp q))), decide_eq_true h]; exact x_j149b true
    · rw [if_pos ((lg_cmp_le _ _).mpr (Int64.not_lt.mp h)), decide_eq_false h]; exact x_j149b false
  · rw [if_neg (by decide), if_neg (by decide), if_neg (by decide), if_neg (by decide), if_neg (by decide), if_neg (by decide), if_neg (by decide)]
    show _ = some (lw_b (decide (a = b)))
    by_cases h : a = b
    · rw [if_pos ((lg_cmp_eq _ _).mpr h), decide_eq_true h]; exact x_j149b true
    · rw [if_neg (fun q => h ((lg_cmp_eq _ _).mp q)), decide_eq_false h]; exact x_j149b false
/-- what the machine changes: its stack alone -/
def vSc (c : Nat) (M M' : ph_Mem) : Prop := M'.1 = M.1 ∧ M'.2.2 = M.2.2 ∧ ∀ d j, d ≠ c + 2 → M'.2.1 d j = M.2.1 d j
theorem vSc_r (c : Nat) (M : ph_Mem) : vSc c M M := ⟨rfl, rfl, fun _ _ _ => rfl⟩
theorem vSc_t {c : Nat} {M M' M'' : ph_Mem} (h : vSc c M M') (h' : vSc c M' M'') : vSc c M M'' := ⟨h'.1.trans h.1, h'.2.1.trans h.2.1, fun d j q => (h'.2.2 d j q).trans (h.2.2 d j q)⟩
theorem vSc_w {c k : Nat} {M M' : ph_Mem} {v : Int64} (h : vSc c M M') : vSc c M (ph_wl M' (c + 2) k v) := ⟨h.1, h.2.1, fun d j q => (wl_o (Or.inl q)).trans (h.2.2 d j q)⟩
theorem q_top (s : Nat) : nI s - nI 1 + nI 1 = nI s := by
  rw [Int32.sub_eq_add_neg, Int32.add_assoc, Int32.add_left_neg, Int32.add_zero]
theorem vs_op {S : ph_Sh} {c q : Nat} {M : ph_Mem} {s e a f kd ar : Nat} {v : Int64} (hx : M.1 (q + 2) a = nI (32 * ar + kd)) (hk : kd < 3) (har : ar < 2 ^ 20) (hae : a < e) (he : e ≤ 400) (hl : a < ph_len S (q + 2)) (hs : s < 40) (ho : f2_operand S M c (nI kd) (nI ar) = some v) : f2_value_l27 S c q (f + 1) (nI e) (nI s - nI 1) (nI a) M = f2_value_l27 S c q f (nI e) (nI s) (nI (a + 1)) (ph_wl M (c + 2) s v) := by
  have e3 : (32 * ar + kd) / 32 = ar := by omega
  have e4 : 32 * ar + kd - ar * 32 = kd := by omega
  have e5 : nI (32 * ar + kd) - nI (32 * ar + kd) / nI 32 * nI 32 = nI kd := by rw [q_rem (by omega) (by omega) (by omega)]; congr 1; omega
  have e6 : nI (32 * ar + kd) / nI 32 = nI ar := by rw [q_div (by omega) (by omega) (by omega), e3]
  conv => lhs; unfold f2_value_l27
  unfold f2_value_j281
  simp only [q_lit]
  rw [if_neg (by rw [q_le (by omega) (by omega)]; omega), q_ib (by omega) hl, q_ct, q_let, q_ct, q_let, q_cl (by omega), hx, e5, e6, if_neg (by rw [q_lt (by omega) (by omega)]; omega), q_top, if_pos (by rw [q_lt (by omega) (by omega)]; omega), ho, q_bd, q_ib (by omega) hs, q_ct, q_let, q_cl (by omega), nI_add]
theorem vs_not {S : ph_Sh} {c q : Nat} {M : ph_Mem} {s e a f : Nat} (hx : M.1 (q + 2) a = nI 3) (hae : a < e) (he : e ≤ 400) (hl : a < ph_len S (q + 2)) (hs : s < 40) : f2_value_l27 S c q (f + 1) (nI e) (nI s) (nI a) M = f2_value_l27 S c q f (nI e) (nI s) (nI (a + 1)) (ph_wl M (c + 2) s (1 - M.2.1 (c + 2) s)) := by
  have e5 : nI 3 - nI 3 / nI 32 * nI 32 = nI 3 := by decide
  have e6 : nI 3 / nI 32 = nI 0 := by decide
  conv => lhs; unfold f2_value_l27
  unfold f2_value_j281
  simp only [q_lit]
  rw [if_neg (by rw [q_le (by omega) (by omega)]; omega), q_ib (by omega) hl, q_ct, q_let, q_ct, q_let, q_cl (by omega), hx, e5, e6, if_pos (by decide), if_pos (by rw [q_le (by omega) (by omega)]; omega), if_pos rfl, q_ib (by omega) hs, q_ct, q_ct, q_let, q_cl (by omega), nI_add]
theorem vs_jmp {S : ph_Sh} {c q : Nat} {M : ph_Mem} {s e a f t kd : Nat} {b : Bool} (hx : M.1 (q + 2) a = nI (32 * t + kd)) (hk : kd = 4 ∨ kd = 5) (ht : a < t) (ht2 : t ≤ 400) (hae : a < e) (he : e ≤ 400) (hl : a < ph_len S (q + 2)) (hs : s < 40) (hv : M.2.1 (c + 2) s = lw_b b) : f2_value_l27 S c q (f + 1) (nI e) (nI s) (nI a) M = if (b = true ↔ kd = 4) then f2_value_l27 S c q f (nI e) (nI s) (nI t) M else f2_value_l27 S c q f (nI e) (nI s - nI 1) (nI (a + 1)) M := by
  have kl : kd < 32 := by omega
  have e5 : nI (32 * t + kd) - nI (32 * t + kd) / nI 32 * nI 32 = nI kd := by rw [q_rem (by omega) (by omega) (by omega)]; congr 1; omega
  have e6 : nI (32 * t + kd) / nI 32 = nI t := by rw [q_div (by omega) (by omega) (by omega)]; congr 1; omega
  have e7 : nI t - nI 1 = nI (t - 1) := q_sub (by omega)
  have emx : f9_max_7cf53 S M (nI a) (nI (t - 1)) = some (nI (t - 1)) := by
    unfold f9_max_7cf53
    by_cases h : a < t - 1
    · rw [if_pos (by rw [q_lt (by omega) (by omega)]; exact h)]
    · rw [if_neg (by rw [q_lt (by omega) (by omega)]; exact h), show t - 1 = a by omega]
  have e8 : nI (t - 1) + nI 1 = nI t := by rw [nI_add]; congr 1; omega
  conv => lhs; unfold f2_value_l27
  simp only [q_lit]
  rw [if_neg (by rw [q_le (by omega) (by omega)]; omega), q_ib (by omega) hl, q_ct, q_let, q_ct, q_let, q_cl (by omega), hx, e5, e6, if_pos (by rw [q_lt (by omega) (by omega)]; omega), if_pos (by rw [q_le (by omega) (by omega)]; omega), if_neg (by rw [q_eq (by omega) (by omega)]; omega)]
  have bod : ∀ (z : Nat) (y : Bool), nI z = nI (decide (kd = 4)).toNat → (f2_value_j172 S c q (f2_value_l27 S c q f) (nI e) (nI s) (nI a) (nI t) (nI z) (nI y.toNat) M) = if (y = true ↔ kd = 4) then f2_value_l27 S c q f (nI e) (nI s) (nI t) M else f2_value_l27 S c q f (nI e) (nI s - nI 1) (nI (a + 1)) M := by
    intro z y hz
    unfold f2_value_j172 f2_value_j180 f2_value_j201 f2_value_j217 f2_value_j281
    rw [hz]
    by_cases hy : (y = true ↔ kd = 4)
    · have : y = decide (kd = 4) := by
        rcases hk with rfl | rfl
        · rw [hy.mpr rfl]; rfl
        · cases y
          · rfl
          · exact absurd (hy.mp rfl) (by decide)
      rw [if_pos hy, if_pos (by rw [this])]
      simp only [q_lit]
      rw [if_neg (by decide), e7, emx, q_bd, if_neg (by decide), e8]
    · have : y = !decide (kd = 4) := by
        rcases hk with rfl | rfl
        · cases y
          · rfl
          · exact absurd ⟨fun _ => rfl, fun _ => rfl⟩ hy
        · cases y
          · exact absurd ⟨fun q => absurd q (by decide), fun q => absurd q (by decide)⟩ hy
          · rfl
      rw [if_neg hy, if_neg (by rw [this]; rcases hk with rfl | rfl <;> decide)]
      simp only [q_lit]
      rw [if_pos trivial, if_pos trivial, nI_add]
  have fin : f2_value_j144 S c q (f2_value_l27 S c q f) (nI e) (nI s) (nI a) (nI kd) (nI t) M = if (b = true ↔ kd = 4) then f2_value_l27 S c q f (nI e) (nI s) (nI t) M else f2_value_l27 S c q f (nI e) (nI s - nI 1) (nI (a + 1)) M := by
    unfold f2_value_j144 f2_value_j161
    rw [q_ib (by omega) hs, q_ct, q_cl (by omega), hv]
    simp only [q_lit]
    cases b
    · rw [if_neg (show ¬ lg_cmp (lw_b false) 1 = nI 0 by decide)]
      rcases hk with rfl | rfl
      · rw [if_pos rfl]; exact bod 1 false rfl
      · rw [if_neg (by decide)]; exact bod 0 false rfl
    · rw [if_pos (show lg_cmp (lw_b true) 1 = nI 0 by decide)]
      rcases hk with rfl | rfl
      · rw [if_pos rfl]; exact bod 1 true rfl
      · rw [if_neg (by decide)]; exact bod 0 true rfl
  rcases hk with rfl | rfl
  · rw [if_pos rfl]; exact fin
  · rw [if_neg (by decide), if_pos rfl]; exact fin
theorem vs_join {S : ph_Sh} {c q : Nat} {M : ph_Mem} {s e a f kd : Nat} {r : Int64} (hx : M.1 (q + 2) a = nI kd) (hk : 6 ≤ kd) (hk2 : kd ≤ 13) (hae : a < e) (he : e ≤ 400) (hl : a < ph_len S (q + 2)) (hs : s + 1 < 40) (hr : f2_join S M (nI kd) (M.2.1 (c + 2) s) (M.2.1 (c + 2) (s + 1)) = some r) : f2_value_l27 S c q (f + 1) (nI e) (nI (s + 1)) (nI a) M = if r = lwBr then some (lwBr, ph_wl M (c + 2) s r) else f2_value_l27 S c q f (nI e) (nI s) (nI (a + 1)) (ph_wl M (c + 2) s r) := by
  have e5 : nI kd - nI kd / nI 32 * nI 32 = nI kd := by rw [q_rem (by omega) (by omega) (by omega)]; congr 1; omega
  have e6 : nI kd / nI 32 = nI 0 := by rw [q_div (by omega) (by omega) (by omega)]; congr 1; omega
  have e7 : nI (s + 1) + -nI 1 = nI s := q_m1 s
  conv => lhs; unfold f2_value_l27
  unfold f2_value_j281
  simp only [q_lit]
  rw [if_neg (by rw [q_le (by omega) (by omega)]; omega), q_ib (by omega) hl, q_ct, q_let, q_ct, q_let, q_cl (by omega), hx, e5, e6, if_pos (by rw [q_lt (by omega) (by omega)]; omega), if_pos (by rw [q_le (by omega) (by omega)]; omega), if_neg (by rw [q_eq (by omega) (by omega)]; omega), if_neg (by rw [q_eq (by omega) (by omega)]; omega), if_neg (by rw [q_eq (by omega) (by omega)]; omega), if_pos (by rw [q_le (by omega) (by omega)]; omega), e7, nI_add, q_ib (by omega) (show s < 40 by omega), q_ct, q_ib (by omega) hs, q_ct, q_cl (by omega), q_cl (by omega), hr, q_bd, q_ct, q_let, q_ct, wl_s, nI_add]
  by_cases h : r = lwBr
  · rw [if_pos h, if_pos (show lg_cmp r (-4000000000000000000) = nI 0 from (lg_cmp_eq _ _).mpr h)]; rfl
  · rw [if_neg h, if_neg (show ¬ lg_cmp r (-4000000000000000000) = nI 0 from fun q => h ((lg_cmp_eq _ _).mp q))]
