/-! PURE HALF: raising a sum, as numbers -/
/-- what the hours of a set below k come to -/
def ra_s (f : Nat → Nat) (s : Nat) : Nat → Nat
  | 0 => 0
  | k + 1 => ra_s f s k + (if s.testBit k then f k else 0)
theorem ra_s_le {f : Nat → Nat} {m : Nat} (s : Nat) : ∀ k, (∀ h, h < k → f h ≤ m) → ra_s f s k ≤ m * k
  | 0, _ => by simp [ra_s]
  | k + 1, h => by
    have := ra_s_le (m := m) (f := f) s k (fun i hi => h i (by omega))
    have h2 := h k (by omega)
    rw [ra_s, Nat.mul_succ]
    split <;> omega
theorem ra_s_ext {f f' : Nat → Nat} {s s' : Nat} : ∀ k, (∀ h, h < k → s.testBit h = s'.testBit h ∧ (s.testBit h = true → f h = f' h)) → ra_s f s k = ra_s f' s' k
  | 0, _ => rfl
  | k + 1, h => by
    rw [ra_s, ra_s, ra_s_ext k (fun i hi => h i (by omega))]
    have h2 := h k (by omega)
    rw [← h2.1]
    cases e : s.testBit k
    · rfl
    · simp only [if_true]
      rw [h2.2 e]
theorem ra_s_mono {f : Nat → Nat} {s s' : Nat} (h : ∀ i, s.testBit i = true → s'.testBit i = true) : ∀ k, ra_s f s k ≤ ra_s f s' k
  | 0 => Nat.le_refl _
  | k + 1 => by
    have := ra_s_mono (f := f) h k
    rw [ra_s, ra_s]
    cases e : s.testBit k
    · simp only [Bool.false_eq_true, if_false]
      split <;> omega
    · rw [h k e]
      simp only [if_true]
      omega
/-- what is in a set beside what is in another one, below o -/
theorem ra_s_up {f : Nat → Nat} {s s' full o : Nat} (h : ∀ i, o ≤ i → s'.testBit i = s.testBit i) (hf : ∀ i, i < o → s'.testBit i = true → full.testBit i = true) : ∀ k, ra_s f s' k ≤ ra_s f s k + ra_s f full (min o k)
  | 0 => by simp [ra_s]
  | k + 1 => by
    have ih := ra_s_up (f := f) h hf k
    by_cases ho : k < o
    · rw [show min o (k + 1) = k + 1 by omega, ra_s, ra_s, ra_s]
      rw [show min o k = k by omega] at ih
      cases e : s'.testBit k
      · simp only [Bool.false_eq_true, if_false]
        split <;> split <;> omega
      · rw [hf k ho e]
        simp only [if_true]
        split <;> omega
    · rw [show min o (k + 1) = o by omega, ra_s, ra_s, h k (by omega)]
      rw [show min o k = o by omega] at ih
      split <;> omega
theorem q_ks_sub {g : Nat → Int32} {p h k k' : Nat} (hk : ∀ f, k.testBit f = true → k'.testBit f = true) : ∀ f, (q_ks g p h k).testBit f = true → (q_ks g p h k').testBit f = true := by
  intro f hf
  unfold q_ks at hf ⊢
  by_cases h1 : g (223 + (12 * p + h)) = -nI 1
  · rw [if_pos h1] at hf ⊢; exact hk f hf
  · rw [if_neg h1] at hf ⊢
    by_cases h2 : g (439 + (g (223 + (12 * p + h))).toNatClampNeg) = -nI 1 ∨ k.testBit (g (439 + (g (223 + (12 * p + h))).toNatClampNeg)).toNatClampNeg = true
    · rw [if_pos h2] at hf
      rw [if_pos (h2.imp id (hk _)), Nat.testBit_or]
      rw [Nat.testBit_or, Bool.or_eq_true] at hf
      rcases hf with hf | hf
      · rw [hk f hf, Bool.true_or]
      · rw [hf, Bool.or_true]
    · rw [if_neg h2] at hf
      split
      · rw [Nat.testBit_or, hk f hf, Bool.true_or]
      · exact hk f hf
theorem q_kn_sub {g : Nat → Int32} {p : Nat} {H H' : Nat → Bool} : ∀ n, (∀ h, h < n → H h = true → H' h = true) → ∀ f, (q_kn g p H n).testBit f = true → (q_kn g p H' n).testBit f = true
  | 0, _, f, hf => by simp [q_kn] at hf
  | n + 1, hH, f, hf => by
    have ih := q_kn_sub (g := g) (p := p) n (fun h hh => hH h (by omega))
    rw [q_kn] at hf ⊢
    cases e : H n
    · rw [e] at hf
      simp only [Bool.false_eq_true, if_false] at hf
      cases e' : H' n
      · simp only [Bool.false_eq_true, if_false]; exact ih f hf
      · simp only [if_true]; exact q_ks_mono (ih f hf)
    · rw [e] at hf
      rw [hH n (by omega) e]
      simp only [if_true] at hf ⊢
      exact q_ks_sub ih f hf
/-- an hour in which nothing was learned doesn't matter -/
theorem q_kn_none {g : Nat → Int32} {p x : Nat} {H H' : Nat → Bool} (hx : g (223 + (12 * p + x)) = -nI 1) : ∀ n, (∀ h, h < n → h ≠ x → H h = H' h) → q_kn g p H n = q_kn g p H' n
  | 0, _ => rfl
  | n + 1, hH => by
    have ih := q_kn_none (g := g) (p := p) hx n (fun h hh => hH h (by omega))
    rw [q_kn, q_kn, ih]
    by_cases e : n = x
    · subst e
      have : q_ks g p n (q_kn g p H' n) = q_kn g p H' n := by unfold q_ks; rw [if_pos hx]
      rw [this, ite_self, ite_self]
    · rw [hH n (by omega) e]
/-- a set that can be pawned -/
def ra_ok (g : Nat → Int32) (p may must sum : Nat) (ln : Nat → Nat) (s : Nat) : Prop := (∀ i, s.testBit i = true → may.testBit i = true) ∧ sum ≤ ra_s ln s 12 ∧ ∀ f, must.testBit f = true → (q_kn g p (q_hg g p s) 12).testBit f = true
abbrev raT : Type := Option (Nat × Nat × Nat)
/-- one set more: the better one -/
def ra_up (ln wo : Nat → Nat) (s : Nat) (o o' : raT) (P : Prop) : Prop := (P ∧ (o = none ∨ ∃ b l t, o = some (b, l, t) ∧ ra_s wo s 12 < l) → o' = some (s, ra_s wo s 12, ra_s ln s 12)) ∧ (¬ (P ∧ (o = none ∨ ∃ b l t, o = some (b, l, t) ∧ ra_s wo s 12 < l)) → o' = o)
/-- the sets from r on, k of them -/
def ra_F (g : Nat → Int32) (p may must sum : Nat) (ln wo : Nat → Nat) : Nat → Nat → raT → raT → Prop
  | _, 0, o, o' => o' = o
  | r, k + 1, o, o' => ∃ o1, ra_up ln wo r o o1 (ra_ok g p may must sum ln r) ∧ ra_F g p may must sum ln wo (r + 1) k o1 o'
theorem ra_F_add {g : Nat → Int32} {p may must sum : Nat} {ln wo : Nat → Nat} : ∀ (j r k : Nat) (o o1 o2 : raT), ra_F g p may must sum ln wo r j o o1 → ra_F g p may must sum ln wo (r + j) k o1 o2 → ra_F g p may must sum ln wo r (j + k) o o2
  | 0, r, k, o, o1, o2, h1, h2 => by
    have : o1 = o := h1
    subst this
    rw [Nat.zero_add]
    exact h2
  | j + 1, r, k, o, o1, o2, ⟨o3, h3, h4⟩, h2 => by
    rw [Nat.add_right_comm, ra_F]
    exact ⟨o3, h3, ra_F_add j (r + 1) k o3 o1 o2 h4 (by rw [show r + 1 + j = r + (j + 1) by omega]; exact h2)⟩
/-- none of them does it -/
theorem ra_F_no {g : Nat → Int32} {p may must sum : Nat} {ln wo : Nat → Nat} (o : raT) : ∀ (k r : Nat), (∀ s, r ≤ s → s < r + k → ¬ (ra_ok g p may must sum ln s ∧ (o = none ∨ ∃ b l t, o = some (b, l, t) ∧ ra_s wo s 12 < l))) → ra_F g p may must sum ln wo r k o o
  | 0, _, _ => rfl
  | k + 1, r, h => ⟨o, ⟨fun q => absurd q (h r (Nat.le_refl _) (by omega)), fun _ => rfl⟩, ra_F_no o k (r + 1) (fun s h1 h2 => h s (by omega) (by omega))⟩
theorem ra_F_un {g : Nat → Int32} {p may must sum : Nat} {ln wo : Nat → Nat} : ∀ (k r : Nat) (o a b : raT), ra_F g p may must sum ln wo r k o a → ra_F g p may must sum ln wo r k o b → a = b
  | 0, _, o, a, b, h1, h2 => by
    have e1 : a = o := h1
    have e2 : b = o := h2
    rw [e1, e2]
  | k + 1, r, o, a, b, ⟨x, x1, x2⟩, ⟨y, y1, y2⟩ => by
    have : x = y := by
      by_cases q : ra_ok g p may must sum ln r ∧ (o = none ∨ ∃ b l t, o = some (b, l, t) ∧ ra_s wo r 12 < l)
      · rw [x1.1 q, y1.1 q]
      · rw [x1.2 q, y1.2 q]
    subst this
    exact ra_F_un k (r + 1) x a b x2 y2
/-- a set of a block: its high bits are the block's -/
theorem ra_blk {s o x : Nat} (ho : ∃ q, s = q * 2 ^ o) (h1 : s ≤ x) (h2 : x < s + 2 ^ o) : ∀ i, o ≤ i → x.testBit i = s.testBit i := by
  obtain ⟨q, rfl⟩ := ho
  intro i hi
  obtain ⟨t, rfl⟩ : ∃ t, x = q * 2 ^ o + t := ⟨x - q * 2 ^ o, by omega⟩
  have ht : t < 2 ^ o := by omega
  rw [Nat.mul_comm, Nat.testBit_two_pow_mul_add q ht, Nat.testBit_two_pow_mul]
  simp [Nat.not_lt.mpr hi, hi]
theorem ra_blk0 {s o : Nat} (ho : ∃ q, s = q * 2 ^ o) : ∀ i, i < o → s.testBit i = false := by
  obtain ⟨q, rfl⟩ := ho
  intro i hi
  rw [Nat.mul_comm, Nat.testBit_two_pow_mul]
  simp [Nat.not_le.mpr hi]
