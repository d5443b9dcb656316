/-! PURE HALF: a sale, as numbers: bids b (person, lot), n people; m lots are left (lot 3 - (m - 1) is the next one) -/
def sl_c (b : Nat → Nat → Nat) (l U p : Nat) : Bool := !U.testBit p && decide (0 < b p l)
/-- the greatest over the first k people, from a start -/
def sl_mx (c : Nat → Bool) (v : Nat → Nat) (s : Nat) : Nat → Nat
  | 0 => s
  | k + 1 => if c k = true ∧ sl_mx c v s k < v k then v k else sl_mx c v s k
def sl_M (b : Nat → Nat → Nat) (n : Nat) : Nat → Nat → Nat
  | 0, _ => 0
  | m + 1, U => sl_mx (sl_c b (3 - m) U) (fun p => b p (3 - m) + sl_M b n m (U ||| 2 ^ p)) (sl_M b n m U) n
/-- the first of the first k people who is so with that value; else n -/
def sl_fb (c : Nat → Bool) (v : Nat → Nat) (x n : Nat) : Nat → Nat → Nat
  | _, 0 => n
  | p, r + 1 => if c p = true ∧ v p = x then p else sl_fb c v x n (p + 1) r
/-- the buyer of the next lot -/
def sl_B (b : Nat → Nat → Nat) (n m U : Nat) : Nat := sl_fb (sl_c b (3 - m) U) (fun p => b p (3 - m) + sl_M b n m (U ||| 2 ^ p)) (sl_M b n (m + 1) U) n 0 n
def sl_U (U d n : Nat) : Nat := if d = n then U else U ||| 2 ^ d
/-- the first row -/
def sl_R (b : Nat → Nat → Nat) (n : Nat) : Nat → Nat → Nat
  | 0, _ => 0
  | m + 1, U => sl_B b n m U * (n + 1) ^ m + sl_R b n m (sl_U U (sl_B b n m U) n)
/-- a row's beginning, l lots of it: who bought, and for how much -/
def sl_P (b : Nat → Nat → Nat) (n U0 : Nat) : Nat → Nat → Option (Nat × Nat)
  | 0, _ => some (U0, 0)
  | l + 1, r => match sl_P b n U0 l (r / (n + 1)) with
    | none => none
    | some (U, A) => if r % (n + 1) = n then some (U, A) else if sl_c b l U (r % (n + 1)) = true then some (U ||| 2 ^ (r % (n + 1)), A + b (r % (n + 1)) l) else none
/-- the best so far: its sum and one, 0 ahead of any; its row -/
def sl_st (b : Nat → Nat → Nat) (n U0 : Nat) (s : Nat × Nat) (r : Nat) : Nat × Nat := match sl_P b n U0 4 r with
  | none => s
  | some (_, A) => if s.1 < A + 1 then (A + 1, r) else s
def sl_F (b : Nat → Nat → Nat) (n U0 : Nat) : Nat → Nat → Nat × Nat → Nat × Nat
  | _, 0, s => s
  | r, k + 1, s => sl_F b n U0 (r + 1) k (sl_st b n U0 s r)
theorem sl_F_add (b : Nat → Nat → Nat) (n U0 : Nat) : ∀ (j r k : Nat) (s : Nat × Nat), sl_F b n U0 r (j + k) s = sl_F b n U0 (r + j) k (sl_F b n U0 r j s)
  | 0, r, k, s => by rw [Nat.zero_add, Nat.add_zero, sl_F]
  | j + 1, r, k, s => by
    rw [Nat.add_right_comm, sl_F, sl_F_add b n U0 j (r + 1) k, sl_F]
    congr 1
    omega
theorem sl_mx_ge (c : Nat → Bool) (v : Nat → Nat) (s : Nat) : ∀ k, s ≤ sl_mx c v s k
  | 0 => Nat.le_refl _
  | k + 1 => by
    have := sl_mx_ge c v s k
    rw [sl_mx]
    split <;> omega
theorem sl_mx_ub (c : Nat → Bool) (v : Nat → Nat) (s : Nat) : ∀ k p, p < k → c p = true → v p ≤ sl_mx c v s k
  | 0, p, h, _ => absurd h (by omega)
  | k + 1, p, h, hc => by
    rw [sl_mx]
    by_cases e : p = k
    · subst e
      split
      · exact Nat.le_refl _
      · rename_i q
        have : ¬ sl_mx c v s p < v p := fun z => q ⟨hc, z⟩
        omega
    · have := sl_mx_ub c v s k p (by omega) hc
      split <;> omega
theorem sl_mx_at (c : Nat → Bool) (v : Nat → Nat) (s : Nat) : ∀ k, sl_mx c v s k = s ∨ ∃ p, p < k ∧ c p = true ∧ v p = sl_mx c v s k
  | 0 => Or.inl rfl
  | k + 1 => by
    rw [sl_mx]
    split
    · rename_i q
      exact Or.inr ⟨k, by omega, q.1, rfl⟩
    · rcases sl_mx_at c v s k with h | ⟨p, h1, h2, h3⟩
      · exact Or.inl h
      · exact Or.inr ⟨p, by omega, h2, h3⟩
theorem sl_fb_spec (c : Nat → Bool) (v : Nat → Nat) (x n : Nat) : ∀ r p, p + r = n → (∃ q, p ≤ q ∧ q < n ∧ sl_fb c v x n p r = q ∧ c q = true ∧ v q = x ∧ ∀ q', p ≤ q' → q' < q → ¬ (c q' = true ∧ v q' = x)) ∨ (sl_fb c v x n p r = n ∧ ∀ q', p ≤ q' → q' < n → ¬ (c q' = true ∧ v q' = x))
  | 0, p, e => Or.inr ⟨rfl, fun q' h1 h2 => absurd h1 (by omega)⟩
  | r + 1, p, e => by
    rw [sl_fb]
    by_cases h : c p = true ∧ v p = x
    · rw [if_pos h]
      exact Or.inl ⟨p, Nat.le_refl _, by omega, rfl, h.1, h.2, fun q' h1 h2 => absurd h1 (by omega)⟩
    · rw [if_neg h]
      rcases sl_fb_spec c v x n r (p + 1) (by omega) with ⟨q, h1, h2, h3, h4, h5, h6⟩ | ⟨h1, h2⟩
      · refine Or.inl ⟨q, by omega, h2, h3, h4, h5, fun q' z1 z2 => ?_⟩
        by_cases e : q' = p
        · subst e; exact h
        · exact h6 q' (by omega) z2
      · refine Or.inr ⟨h1, fun q' z1 z2 => ?_⟩
        by_cases e : q' = p
        · subst e; exact h
        · exact h2 q' (by omega) z2
theorem sl_B_le (b : Nat → Nat → Nat) (n m U : Nat) : sl_B b n m U ≤ n := by
  unfold sl_B
  rcases sl_fb_spec (sl_c b (3 - m) U) (fun p => b p (3 - m) + sl_M b n m (U ||| 2 ^ p)) (sl_M b n (m + 1) U) n n 0 (by omega) with ⟨q, h1, h2, h3, _⟩ | ⟨h1, _⟩
  · omega
  · omega
/-- a beginning that went wrong stays so -/
theorem sl_P_st {b : Nat → Nat → Nat} {n U0 l r d : Nat} (hd : d ≤ n) : sl_P b n U0 (l + 1) (r * (n + 1) + d) = match sl_P b n U0 l r with
    | none => none
    | some (U, A) => if d = n then some (U, A) else if sl_c b l U d = true then some (U ||| 2 ^ d, A + b d l) else none := by
  rw [sl_P]
  have e1 : (r * (n + 1) + d) / (n + 1) = r := by
    rw [Nat.mul_comm, Nat.mul_add_div (by omega), Nat.div_eq_of_lt (by omega), Nat.add_zero]
  have e2 : (r * (n + 1) + d) % (n + 1) = d := by
    rw [Nat.mul_comm, Nat.mul_add_mod, Nat.mod_eq_of_lt (by omega)]
  rw [e1, e2]
/-- a block of rows with the same beginning -/
theorem sl_blk (b : Nat → Nat → Nat) (n U0 : Nat) : ∀ (m l r : Nat) (s : Nat × Nat), l + m = 4 → sl_F b n U0 (r * (n + 1) ^ m) ((n + 1) ^ m) s = match sl_P b n U0 l r with
    | none => s
    | some (U, A) => if s.1 < A + sl_M b n m U + 1 then (A + sl_M b n m U + 1, r * (n + 1) ^ m + sl_R b n m U) else s
  | 0, l, r, s, e => by
    have : l = 4 := by omega
    subst this
    rw [Nat.pow_zero, Nat.mul_one, sl_F, sl_F]
    unfold sl_st
    cases sl_P b n U0 4 r with
    | none => rfl
    | some x =>
      simp only [sl_M, sl_R, Nat.add_zero]
      rfl
  | m + 1, l, r, s, e => by
    have hl : 3 - m = l := by omega
    -- the blocks of the next lot, one behind the other
    have step : ∀ k d (s : Nat × Nat), d + k ≤ n + 1 → sl_F b n U0 ((r * (n + 1) + d) * (n + 1) ^ m) (k * (n + 1) ^ m) s = (List.range' d k).foldl (fun s d => sl_F b n U0 ((r * (n + 1) + d) * (n + 1) ^ m) ((n + 1) ^ m) s) s := by
      intro k
      induction k with
      | zero => intro d s _; rw [Nat.zero_mul]; rfl
      | succ k ih =>
        intro d s hd
        rw [Nat.succ_mul, Nat.add_comm (k * (n + 1) ^ m), sl_F_add, List.range'_succ, List.foldl_cons, ← ih (d + 1) _ (by omega)]
        congr 1
        rw [← Nat.add_assoc, Nat.succ_mul]
    have e0 : r * (n + 1) ^ (m + 1) = (r * (n + 1) + 0) * (n + 1) ^ m := by
      show r * (n + 1) ^ (m + 1) = (r * (n + 1)) * (n + 1) ^ m
      rw [Nat.pow_succ, Nat.mul_comm ((n + 1) ^ m), Nat.mul_assoc]
    have e1 : (n + 1) ^ (m + 1) = (n + 1) * (n + 1) ^ m := by rw [Nat.pow_succ, Nat.mul_comm]
    rw [e0, e1, step (n + 1) 0 s (by omega)]
    have ih : ∀ d s, d ≤ n → sl_F b n U0 ((r * (n + 1) + d) * (n + 1) ^ m) ((n + 1) ^ m) s = match sl_P b n U0 (l + 1) (r * (n + 1) + d) with
        | none => s
        | some (U, A) => if s.1 < A + sl_M b n m U + 1 then (A + sl_M b n m U + 1, (r * (n + 1) + d) * (n + 1) ^ m + sl_R b n m U) else s := fun d s _ => sl_blk b n U0 m (l + 1) (r * (n + 1) + d) s (by omega)
    cases hP : sl_P b n U0 l r with
    | none =>
      have : ∀ k d s, d + k ≤ n + 1 → (List.range' d k).foldl (fun s d => sl_F b n U0 ((r * (n + 1) + d) * (n + 1) ^ m) ((n + 1) ^ m) s) s = s := by
        intro k
        induction k with
        | zero => intro d s _; rfl
        | succ k ihk =>
          intro d s hd
          rw [List.range'_succ, List.foldl_cons, ih d s (by omega), sl_P_st (by omega), hP]
          exact ihk (d + 1) s (by omega)
      exact this (n + 1) 0 s (by omega)
    | some x =>
      obtain ⟨U, A⟩ := x
      show _ = if s.1 < A + sl_M b n (m + 1) U + 1 then (A + sl_M b n (m + 1) U + 1, (r * (n + 1) + 0) * (n + 1) ^ m + sl_R b n (m + 1) U) else s
      -- one digit
      have dg : ∀ d s, d ≤ n → sl_F b n U0 ((r * (n + 1) + d) * (n + 1) ^ m) ((n + 1) ^ m) s = if (d = n ∨ sl_c b l U d = true) ∧ s.1 < A + (if d = n then sl_M b n m U else b d l + sl_M b n m (U ||| 2 ^ d)) + 1 then (A + (if d = n then sl_M b n m U else b d l + sl_M b n m (U ||| 2 ^ d)) + 1, (r * (n + 1) + d) * (n + 1) ^ m + sl_R b n m (sl_U U d n)) else s := by
        intro d s hd
        rw [ih d s hd, sl_P_st hd, hP]
        unfold sl_U
        by_cases h1 : d = n
        · simp only [h1, if_true, true_or, true_and]
        · by_cases h2 : sl_c b l U d = true
          · simp only [h1, h2, if_true, if_false, false_or, true_and, Nat.add_assoc]
          · simp only [h1, h2, if_false, false_or, Bool.not_eq_true] at *
            simp [h2]
      generalize hv : (fun p => b p (3 - m) + sl_M b n m (U ||| 2 ^ p)) = v
      have hvp : ∀ p, b p l + sl_M b n m (U ||| 2 ^ p) = v p := fun p => by rw [← hv, hl]
      have hM : sl_M b n (m + 1) U = sl_mx (sl_c b l U) v (sl_M b n m U) n := by rw [sl_M, hl, ← hv, hl]
      have hB : sl_B b n m U = sl_fb (sl_c b l U) v (sl_M b n (m + 1) U) n 0 n := by unfold sl_B; rw [hl, ← hv, hl]
      have hR : sl_R b n (m + 1) U = sl_B b n m U * (n + 1) ^ m + sl_R b n m (sl_U U (sl_B b n m U) n) := by rw [sl_R]
      have ub : ∀ d, d ≤ n → (d = n ∨ sl_c b l U d = true) → (if d = n then sl_M b n m U else v d) ≤ sl_M b n (m + 1) U := by
        intro d hd hc
        rw [hM]
        by_cases h1 : d = n
        · rw [if_pos h1]; exact sl_mx_ge _ _ _ _
        · rw [if_neg h1]
          exact sl_mx_ub _ _ _ n d (by omega) (hc.resolve_left h1)
      have Bs : (sl_B b n m U = n ∨ sl_c b l U (sl_B b n m U) = true) ∧ (if sl_B b n m U = n then sl_M b n m U else v (sl_B b n m U)) = sl_M b n (m + 1) U ∧ ∀ q, q < sl_B b n m U → sl_c b l U q = true → v q ≠ sl_M b n (m + 1) U := by
        rw [hB]
        rcases sl_fb_spec (sl_c b l U) v (sl_M b n (m + 1) U) n n 0 (by omega) with ⟨q, h1, h2, h3, h4, h5, h6⟩ | ⟨h1, h2⟩
        · rw [h3]
          refine ⟨Or.inr h4, by rw [if_neg (by omega)]; exact h5, fun q' z1 z2 z3 => h6 q' (by omega) z1 ⟨z2, z3⟩⟩
        · rw [h1]
          refine ⟨Or.inl rfl, ?_, fun q' z1 z2 z3 => h2 q' (by omega) z1 ⟨z2, z3⟩⟩
          rw [if_pos rfl, hM]
          rcases sl_mx_at (sl_c b l U) v (sl_M b n m U) n with z | ⟨p, z1, z2, z3⟩
          · exact z.symm
          · exact absurd ⟨z2, by rw [hM]; exact z3⟩ (h2 p (by omega) z1)
      have Ble := sl_B_le b n m U
      generalize sl_B b n m U = B at *
      generalize sl_M b n (m + 1) U = X at *
      -- what the digits from d on come to
      have fo : ∀ k d (s : Nat × Nat), d + k = n + 1 → (∀ q, q < d → q ≤ n → (q = n ∨ sl_c b l U q = true) → A + (if q = n then sl_M b n m U else v q) + 1 ≤ s.1) → (List.range' d k).foldl (fun s d => sl_F b n U0 ((r * (n + 1) + d) * (n + 1) ^ m) ((n + 1) ^ m) s) s = if s.1 < A + X + 1 then (A + X + 1, (r * (n + 1) + B) * (n + 1) ^ m + sl_R b n m (sl_U U B n)) else s := by
        intro k
        induction k with
        | zero =>
          intro d s hd hq
          have := hq B (by omega) Ble Bs.1
          rw [Bs.2.1] at this
          rw [if_neg (by omega)]
          rfl
        | succ k ihk =>
          intro d s hd hq
          rw [List.range'_succ, List.foldl_cons, dg d s (by omega)]
          rw [hvp d]
          have hub := ub d (by omega)
          by_cases hu : (d = n ∨ sl_c b l U d = true) ∧ s.1 < A + (if d = n then sl_M b n m U else v d) + 1
          · rw [if_pos hu, ihk (d + 1) _ (by omega) (fun q h1 h2 h3 => by
              by_cases e : q = d
              · subst e; exact Nat.le_refl _
              · have := hq q (by omega) h2 h3
                show _ ≤ A + (if d = n then sl_M b n m U else v d) + 1
                omega)]
            have hub' := hub hu.1
            by_cases hx : (if d = n then sl_M b n m U else v d) = X
            · -- it is the first
              have hdB : d = B := by
                rcases Nat.lt_trichotomy d B with h | h | h
                · exfalso
                  have hdn : d ≠ n := by omega
                  rw [if_neg hdn] at hx
                  exact Bs.2.2 d h (hu.1.resolve_left hdn) hx
                · exact h
                · exfalso
                  have := hq B h Ble Bs.1
                  rw [Bs.2.1] at this
                  omega
              subst hdB
              rw [hx]
              show (if A + X + 1 < A + X + 1 then _ else _) = _
              rw [if_neg (by omega), if_pos (by rw [hx] at hu; exact hu.2)]
            · show (if A + (if d = n then sl_M b n m U else v d) + 1 < A + X + 1 then _ else _) = _
              rw [if_pos (by omega), if_pos (by omega)]
          · rw [if_neg hu, ihk (d + 1) s (by omega) (fun q h1 h2 h3 => by
              by_cases e : q = d
              · subst e
                have : ¬ s.1 < A + (if q = n then sl_M b n m U else v q) + 1 := fun z => hu ⟨h3, z⟩
                omega
              · exact hq q (by omega) h2 h3)]
      rw [fo (n + 1) 0 s (by omega) (fun q hq => absurd hq (by omega)), hR]
      have e2 : (r * (n + 1) + B) * (n + 1) ^ m + sl_R b n m (sl_U U B n) = (r * (n + 1) + 0) * (n + 1) ^ m + (B * (n + 1) ^ m + sl_R b n m (sl_U U B n)) := by
        show _ = (r * (n + 1)) * (n + 1) ^ m + (B * (n + 1) ^ m + sl_R b n m (sl_U U B n))
        rw [Nat.add_mul, Nat.add_assoc]
      rw [e2]
/-- all rows: the most that can be had, and the first row that has it -/
theorem sl_all (b : Nat → Nat → Nat) (n U0 : Nat) : sl_F b n U0 0 ((n + 1) ^ 4) (0, 0) = (sl_M b n 4 U0 + 1, sl_R b n 4 U0) := by
  have h := sl_blk b n U0 4 0 0 (0, 0) (by omega)
  rw [Nat.zero_mul, sl_P] at h
  rw [h]
  show (if 0 < 0 + sl_M b n 4 U0 + 1 then (0 + sl_M b n 4 U0 + 1, 0 + sl_R b n 4 U0) else (0, 0)) = _
  rw [if_pos (by omega), Nat.zero_add, Nat.zero_add]
/-- a row read from its last lot on, as the model does -/
def sl_V (b : Nat → Nat → Nat) (n U0 : Nat) : Nat → Nat → Nat → Nat → Option Nat
  | 0, _, _, A => some A
  | l + 1, r, used, A => if r % (n + 1) = n then sl_V b n U0 l (r / (n + 1)) used A else if (U0 ||| used).testBit (r % (n + 1)) = false ∧ 0 < b (r % (n + 1)) l then sl_V b n U0 l (r / (n + 1)) (used ||| 2 ^ (r % (n + 1))) (A + b (r % (n + 1)) l) else none
theorem sl_P_mono (b : Nat → Nat → Nat) (n U0 : Nat) : ∀ (l r U B : Nat), sl_P b n U0 l r = some (U, B) → ∀ p, U0.testBit p = true → U.testBit p = true
  | 0, r, U, B, h, p, hp => by
    rw [sl_P] at h
    injection h with h
    injection h with h1 h2
    rw [← h1]
    exact hp
  | l + 1, r, U, B, h, p, hp => by
    rw [sl_P] at h
    cases hP : sl_P b n U0 l (r / (n + 1)) with
    | none => rw [hP] at h; exact absurd h (by simp)
    | some x =>
      obtain ⟨U', B'⟩ := x
      have ih := sl_P_mono b n U0 l (r / (n + 1)) U' B' hP p hp
      rw [hP] at h
      simp only at h
      split at h
      · injection h with h
        injection h with h1 h2
        rw [← h1]; exact ih
      · split at h
        · injection h with h
          injection h with h1 h2
          rw [← h1, Nat.testBit_or, ih, Bool.true_or]
        · exact absurd h (by simp)
def sl_ap (U0 U used : Nat) : Prop := ∀ p, U.testBit p = true → U0.testBit p = false → used.testBit p = false
/-- both readings of a row agree: what is used behind it (used) and ahead of it (U) are apart -/
theorem sl_VP (b : Nat → Nat → Nat) (n U0 : Nat) : ∀ (l r used A : Nat), (sl_P b n U0 l r = none → sl_V b n U0 l r used A = none) ∧ ∀ U B, sl_P b n U0 l r = some (U, B) → (sl_ap U0 U used → sl_V b n U0 l r used A = some (A + B)) ∧ (¬ sl_ap U0 U used → sl_V b n U0 l r used A = none)
  | 0, r, used, A => by
    rw [sl_V, sl_P]
    refine ⟨fun h => absurd h (by simp), fun U B h => ?_⟩
    injection h with h
    injection h with h1 h2
    subst h1 h2
    refine ⟨fun _ => rfl, fun q => absurd (fun p h1 h2 => ?_) q⟩
    rw [h1] at h2
    exact absurd h2 (by simp)
  | l + 1, r, used, A => by
    rw [sl_V, sl_P]
    by_cases h1 : r % (n + 1) = n
    · rw [if_pos h1]
      have ih := sl_VP b n U0 l (r / (n + 1)) used A
      cases hP : sl_P b n U0 l (r / (n + 1)) with
      | none => exact ⟨fun _ => ih.1 hP, fun U B h => absurd h (by simp)⟩
      | some x =>
        obtain ⟨U', B'⟩ := x
        simp only [h1, if_true]
        refine ⟨fun h => absurd h (by simp), fun U B h => ?_⟩
        injection h with h
        injection h with h1 h2
        subst h1 h2
        exact ih.2 _ _ hP
    · rw [if_neg h1]
      have ih := sl_VP b n U0 l (r / (n + 1)) (used ||| 2 ^ (r % (n + 1))) (A + b (r % (n + 1)) l)
      generalize r % (n + 1) = d at *
      cases hP : sl_P b n U0 l (r / (n + 1)) with
      | none =>
        refine ⟨fun _ => ?_, fun U B h => absurd h (by simp)⟩
        rw [ih.1 hP, ite_self]
      | some x =>
        obtain ⟨U', B'⟩ := x
        have mono := sl_P_mono b n U0 l (r / (n + 1)) U' B' hP
        have ih2 := ih.2 U' B' hP
        simp only [h1, if_false]
        unfold sl_c
        by_cases hb : 0 < b d l
        · cases hU : U'.testBit d
          · have hU0 : U0.testBit d = false := by
              cases e : U0.testBit d
              · rfl
              · have := mono d e
                rw [hU] at this
                exact absurd this (by simp)
            simp only [hb, decide_true, Bool.not_false, Bool.and_true, if_true]
            refine ⟨fun h => absurd h (by simp), fun U B h => ?_⟩
            injection h with h
            injection h with h2 h3
            subst h2 h3
            cases hu : used.testBit d
            · rw [if_pos ⟨by rw [Nat.testBit_or, hU0, hu]; rfl, trivial⟩]
              have iff : sl_ap U0 U' (used ||| 2 ^ d) ↔ sl_ap U0 (U' ||| 2 ^ d) used := by
                constructor
                · intro q p z1 z2
                  rw [Nat.testBit_or, Bool.or_eq_true] at z1
                  rcases z1 with z1 | z1
                  · have := q p z1 z2
                    rw [Nat.testBit_or, Bool.or_eq_false_iff] at this
                    exact this.1
                  · rw [Nat.testBit_two_pow] at z1
                    have := of_decide_eq_true z1
                    subst this
                    exact hu
                · intro q p z1 z2
                  rw [Nat.testBit_or, Bool.or_eq_false_iff]
                  refine ⟨q p (by rw [Nat.testBit_or, z1, Bool.true_or]) z2, ?_⟩
                  rw [Nat.testBit_two_pow]
                  apply decide_eq_false
                  intro e
                  subst e
                  rw [hU] at z1
                  exact absurd z1 (by simp)
              refine ⟨fun q => ?_, fun q => ih2.2 (fun z => q (iff.mp z))⟩
              rw [ih2.1 (iff.mpr q)]
              congr 1
              omega
            · rw [if_neg (fun z => by
                have := z.1
                rw [Nat.testBit_or, hu, Bool.or_true] at this
                exact absurd this (by simp))]
              refine ⟨fun q => ?_, fun _ => rfl⟩
              have := q d (by rw [Nat.testBit_or, Nat.testBit_two_pow_self, Bool.or_true]) hU0
              rw [hu] at this
              exact absurd this (by simp)
          · simp only [hb, decide_true, Bool.not_true, Bool.false_and, Bool.false_eq_true, if_false]
            refine ⟨fun _ => ?_, fun U B h => absurd h (by simp)⟩
            by_cases hc : (U0 ||| used).testBit d = false ∧ True
            · rw [if_pos hc]
              refine ih2.2 (fun z => ?_)
              have h0 : U0.testBit d = false := by
                have := hc.1
                rw [Nat.testBit_or, Bool.or_eq_false_iff] at this
                exact this.1
              have := z d hU h0
              rw [Nat.testBit_or, Nat.testBit_two_pow_self, Bool.or_true] at this
              exact absurd this (by simp)
            · rw [if_neg hc]
        · simp only [hb, decide_false, Bool.and_false, Bool.false_eq_true, if_false, and_false]
          exact ⟨fun _ => trivial, fun U B h => absurd h (by simp)⟩
theorem sl_V4 (b : Nat → Nat → Nat) (n U0 r : Nat) : sl_V b n U0 4 r 0 0 = (sl_P b n U0 4 r).map (fun x => x.2) := by
  have h := sl_VP b n U0 4 r 0 0
  cases hP : sl_P b n U0 4 r with
  | none => exact h.1 hP
  | some x =>
    obtain ⟨U, B⟩ := x
    rw [(h.2 U B hP).1 (fun p _ _ => Nat.zero_testBit p), Nat.zero_add]
    rfl
