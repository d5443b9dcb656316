/-! PURE HALF: numbers -/
theorem q_lit (n : Nat) : (OfNat.ofNat n : Int32) = nI n := of_eq_true (eq_self (nI n))
theorem q_let {α β : Type} {a : α} {k : α → Option β} : ph_let a k = k a := of_eq_true (eq_self (k a))
theorem q_ct {α : Type} {a b : α} : cond true a b = a := of_eq_true (eq_self a)
theorem q_cf {α : Type} {a b : α} : cond false a b = b := of_eq_true (eq_self b)
theorem q_bd {α β : Type} {a : α} {k : α → Option β} : (some a).bind k = k a := of_eq_true (eq_self (k a))
theorem q_it {α : Type} {a b : α} [d : Decidable True] : (@ite α True d a b) = a := if_pos trivial
theorem q_if {α : Type} {a b : α} [d : Decidable False] : (@ite α False d a b) = b := if_neg id
theorem q_lt {a b : Nat} (ha : a < 2 ^ 31) (hb : b < 2 ^ 31) : (nI a < nI b) = (a < b) := propext (nI_ltI ha hb)
theorem q_le {a b : Nat} (ha : a < 2 ^ 31) (hb : b < 2 ^ 31) : (nI a ≤ nI b) = (a ≤ b) := propext (nI_leI ha hb)
theorem q_eq {a b : Nat} (ha : a < 2 ^ 31) (hb : b < 2 ^ 31) : (nI a = nI b) = (a = b) := propext (nI_eq ha hb)
theorem q_cl {a : Nat} (ha : a < 2 ^ 31) : (nI a).toNatClampNeg = a := nI_clamp ha
theorem q_sub {a b : Nat} (h : b ≤ a) : nI a - nI b = nI (a - b) := pk_sub h
theorem q_ib {a n : Nat} (ha : a < 2 ^ 31) (h : a < n) : ph_ib (nI a) n = true := by
  unfold ph_ib
  have h1 : ¬ nI a < 0 := nI_pos ha
  rw [nI_clamp ha]
  simp [h1]
  omega
theorem q_negT {a : Nat} (h : a < 2 ^ 31) : (-nI a).toInt = -(a : Int) := by
  rw [Int32.toInt_neg, nI_toInt h, Int.bmod_def]
  omega
theorem q_eqn {a b : Nat} (ha : a < 2 ^ 31) (hb : b < 2 ^ 31) : (nI a = -nI b) = (a = 0 ∧ b = 0) := by
  apply propext
  rw [← Int32.toInt_inj, nI_toInt ha, q_negT hb]
  omega
theorem q_neq {a b : Nat} (ha : a < 2 ^ 31) (hb : b < 2 ^ 31) : (-nI b = nI a) = (a = 0 ∧ b = 0) := by
  apply propext
  rw [← Int32.toInt_inj, nI_toInt ha, q_negT hb]
  omega
theorem q_nen {a b : Nat} (ha : a < 2 ^ 31) (hb : b < 2 ^ 31) : (-nI a = -nI b) = (a = b) := by
  apply propext
  rw [← Int32.toInt_inj, q_negT ha, q_negT hb]
  omega
theorem q_ltn {a b : Nat} (ha : a < 2 ^ 31) (hb : b < 2 ^ 31) : (nI a < -nI b) = False := by
  apply propext
  rw [Int32.lt_iff_toInt_lt, nI_toInt ha, q_negT hb, iff_false]
  omega
theorem q_nlt {a b : Nat} (ha : a < 2 ^ 31) (hb : b < 2 ^ 31) : (-nI a < nI b) = (0 < a + b) := by
  apply propext
  rw [Int32.lt_iff_toInt_lt, nI_toInt hb, q_negT ha]
  omega
theorem q_len {a b : Nat} (ha : a < 2 ^ 31) (hb : b < 2 ^ 31) : (nI a ≤ -nI b) = (a + b = 0) := by
  apply propext
  rw [Int32.le_iff_toInt_le, nI_toInt ha, q_negT hb]
  omega
theorem q_nle {a b : Nat} (ha : a < 2 ^ 31) (hb : b < 2 ^ 31) : (-nI a ≤ nI b) = True := by
  apply propext
  rw [Int32.le_iff_toInt_le, nI_toInt hb, q_negT ha, iff_true]
  omega
theorem q_nltn {a b : Nat} (ha : a < 2 ^ 31) (hb : b < 2 ^ 31) : (-nI a < -nI b) = (b < a) := by
  apply propext
  rw [Int32.lt_iff_toInt_lt, q_negT ha, q_negT hb]
  omega
theorem q_nlen {a b : Nat} (ha : a < 2 ^ 31) (hb : b < 2 ^ 31) : (-nI a ≤ -nI b) = (b ≤ a) := by
  apply propext
  rw [Int32.le_iff_toInt_le, q_negT ha, q_negT hb]
  omega
theorem q_ibn {a n : Nat} (h0 : 0 < a) (ha : a < 2 ^ 31) : ph_ib (-nI a) n = false := by
  unfold ph_ib
  have h1 : -nI a < 0 := by
    rw [Int32.lt_iff_toInt_lt, q_negT ha]
    show -(a : Int) < 0
    omega
  simp [h1]
theorem q_addn {a b : Nat} (h : b ≤ a) : nI a + -nI b = nI (a - b) := by
  rw [← Int32.sub_eq_add_neg, q_sub h]
theorem q_nadd {a b : Nat} (h : b ≤ a) : -nI b + nI a = nI (a - b) := by
  rw [Int32.add_comm, q_addn h]
theorem q_isz0 : ph_isz (nI 0) = true := by decide +kernel
theorem q_isz1 : ph_isz (nI 1) = true := by decide +kernel
theorem q_m31 : ∀ k, k < 32 → nI k &&& nI 31 = nI k := by decide +kernel
theorem q_smod : ∀ k, k < 32 → ((nI k).toBitVec.smod 32).toNat = k := by decide +kernel
theorem q_tb (a : Nat) : (nI a).toBitVec = BitVec.ofNat 32 a := by unfold nI; rfl
theorem q_and (a b : Nat) : nI a &&& nI b = nI (a &&& b) := by
  apply Int32.toBitVec_inj.mp
  rw [Int32.toBitVec_and, q_tb, q_tb, q_tb]
  apply BitVec.eq_of_toNat_eq
  simp [BitVec.toNat_and, BitVec.toNat_ofNat, Nat.and_mod_two_pow]
theorem q_or (a b : Nat) : nI a ||| nI b = nI (a ||| b) := by
  apply Int32.toBitVec_inj.mp
  rw [Int32.toBitVec_or, q_tb, q_tb, q_tb]
  apply BitVec.eq_of_toNat_eq
  simp [BitVec.toNat_or, BitVec.toNat_ofNat, Nat.or_mod_two_pow]
theorem q_shl {a k : Nat} (hk : k < 32) (h : a * 2 ^ k < 2 ^ 32) : nI a <<< nI k = nI (a * 2 ^ k) := pk_shlN (nI k) k (q_smod k hk) h
theorem q_1sl {k : Nat} (hk : k < 31) : nI 1 <<< (nI k &&& nI 31) = nI (2 ^ k) := by
  have h2 : 2 ^ k < 2 ^ 32 := Nat.pow_lt_pow_right (by omega) (by omega)
  rw [q_m31 k (by omega), q_shl (by omega) (by omega), Nat.one_mul]
theorem q_shr {a k : Nat} (ha : a < 2 ^ 31) (hk : k < 32) : nI a >>> nI k = nI (a / 2 ^ k) := pk_shrN ha (nI k) k (q_smod k hk)
theorem q_bit {w i : Nat} (hw : w < 2 ^ 31) (hi : i < 32) : (nI w >>> (nI i &&& nI 31)) &&& nI 1 = nI (w.testBit i).toNat := by
  rw [q_m31 i hi, q_shr hw hi, q_and, Nat.and_one_is_mod]
  rw [Nat.testBit_eq_decide_div_mod_eq]
  have h2 : w / 2 ^ i % 2 < 2 := Nat.mod_lt _ (by omega)
  by_cases h : w / 2 ^ i % 2 = 1
  · rw [h]; rfl
  · have h0 : w / 2 ^ i % 2 = 0 := by omega
    rw [h0]; rfl
theorem q_b1 (b : Bool) : (nI b.toNat = nI 1) = (b = true) := by cases b <;> decide +kernel
theorem q_b0 (b : Bool) : (nI b.toNat = nI 0) = (b = false) := by cases b <;> decide +kernel
theorem q_div {a d : Nat} (ha : a < 2 ^ 31) (h0 : 0 < d) (hd : d < 2 ^ 31) : nI a / nI d = nI (a / d) := pk_div ha h0 hd
theorem q_rem {a d : Nat} (ha : a < 2 ^ 31) (h0 : 0 < d) (hd : d < 2 ^ 31) : nI a - nI a / nI d * nI d = nI (a % d) := pk_rem ha h0 hd
theorem q_pos {x : Int32} (h : ¬ x < nI 0) : ∃ j : Nat, j < 2 ^ 31 ∧ x = nI j := nI_of h
/-- a number: below 0, or nI of something -/
theorem q_cas (x : Int32) : (x < nI 0 ∧ ∃ j : Nat, 0 < j ∧ j < 2 ^ 31 + 1 ∧ x.toInt = -(j : Int)) ∨ ∃ j : Nat, j < 2 ^ 31 ∧ x = nI j := by
  by_cases h : x < nI 0
  · left
    refine ⟨h, ?_⟩
    have h1 := Int32.lt_iff_toInt_lt.mp h
    rw [nI_toInt (by omega)] at h1
    have h2 := Int32.le_toInt x
    refine ⟨(-x.toInt).toNat, ?_, ?_, ?_⟩ <;> omega
  · exact Or.inr (q_pos h)
/-- what is below 0 -/
theorem q_ng {x : Int32} (h : x < nI 0) (a : Nat) (ha : a < 2 ^ 31) : ¬ nI a ≤ x ∧ ¬ nI a < x ∧ x < nI a ∧ x ≤ nI a ∧ x ≠ nI a ∧ nI a ≠ x := by
  have h1 := Int32.lt_iff_toInt_lt.mp h
  rw [nI_toInt (by omega)] at h1
  rw [Int32.le_iff_toInt_le, Int32.lt_iff_toInt_lt, Int32.lt_iff_toInt_lt, Int32.le_iff_toInt_le, nI_toInt ha]
  refine ⟨by omega, by omega, by omega, by omega, ?_, ?_⟩
  · intro e
    rw [e, nI_toInt ha] at h1
    omega
  · intro e
    rw [← e, nI_toInt ha] at h1
    omega
/-! memory -/
theorem wi_s {M : ph_Mem} {c k : Nat} {v : Int32} : (ph_wi M c k v).1 c k = v := by simp [ph_wi, ph_u2]
theorem wi_k {M : ph_Mem} {c k d j : Nat} {v : Int32} (h : j ≠ k) : (ph_wi M c k v).1 d j = M.1 d j := by simp [ph_wi, ph_u2, h]
theorem wi_c {M : ph_Mem} {c k d j : Nat} {v : Int32} (h : d ≠ c) : (ph_wi M c k v).1 d j = M.1 d j := by simp [ph_wi, ph_u2, h]
theorem wi_o {M : ph_Mem} {c k d j : Nat} {v : Int32} (h : d ≠ c ∨ j ≠ k) : (ph_wi M c k v).1 d j = M.1 d j := h.elim wi_c wi_k
theorem wi_r {M : ph_Mem} {c k : Nat} {v : Int32} : (ph_wi M c k v).2 = M.2 := rfl
theorem wi_if {M : ph_Mem} {c k d j : Nat} {v : Int32} : (ph_wi M c k v).1 d j = if d = c ∧ j = k then v else M.1 d j := by
  unfold ph_wi ph_u2
  by_cases h : d = c <;> by_cases g : j = k <;> simp [h, g]
/-! folds -/
def q_lp {α : Type} (f : Nat → α → α) : Nat → Nat → α → α
  | _, 0, a => a
  | h, k + 1, a => q_lp f (h + 1) k (f h a)
/-- the set of what is below n and so -/
def q_bs (P : Nat → Bool) : Nat → Nat
  | 0 => 0
  | n + 1 => q_bs P n + (if P n then 2 ^ n else 0)
theorem q_bs_lt (P : Nat → Bool) : ∀ n, q_bs P n < 2 ^ n
  | 0 => by simp [q_bs]
  | n + 1 => by
    have := q_bs_lt P n
    rw [q_bs, Nat.pow_succ]
    split <;> omega
theorem q_bs_or (P : Nat → Bool) (n : Nat) (a : Nat) (ha : a < 2 ^ n) : a ||| 2 ^ n = a + 2 ^ n := by
  have h := Nat.two_pow_add_eq_or_of_lt ha 1
  rw [Nat.mul_one] at h
  rw [Nat.or_comm, ← h, Nat.add_comm]
theorem q_bs_bit (P : Nat → Bool) (i : Nat) : ∀ n, (q_bs P n).testBit i = (decide (i < n) && P i)
  | 0 => by simp [q_bs]
  | n + 1 => by
    have h := q_bs_bit P i n
    have hl := q_bs_lt P n
    rw [q_bs]
    by_cases hp : P n = true
    · rw [if_pos hp]
      rw [← q_bs_or P n _ hl, Nat.testBit_or, h, Nat.testBit_two_pow]
      by_cases e : n = i
      · subst e; simp [hp]
      · have e1 : decide (i < n + 1) = decide (i < n) := by
          apply decide_eq_decide.mpr
          omega
        simp [e, e1]
    · rw [if_neg hp, Nat.add_zero, h]
      by_cases e : n = i
      · subst e; simp [hp]
      · have e1 : decide (i < n + 1) = decide (i < n) := by
          apply decide_eq_decide.mpr
          omega
        rw [e1]
theorem q_bs_ext {P Q : Nat → Bool} : ∀ n, (∀ i, i < n → P i = Q i) → q_bs P n = q_bs Q n
  | 0, _ => rfl
  | n + 1, h => by
    rw [q_bs, q_bs, q_bs_ext n (fun i hi => h i (by omega)), h n (by omega)]
theorem q_iszb (b : Bool) : ph_isz (nI b.toNat) = true := by cases b <;> decide +kernel
theorem q_ng1 {x : Int32} {a : Nat} (h : x < nI 0) (ha : a < 2 ^ 31) : (nI a ≤ x) = False := eq_false (q_ng h a ha).1
theorem q_ng2 {x : Int32} {a : Nat} (h : x < nI 0) (ha : a < 2 ^ 31) : (nI a < x) = False := eq_false (q_ng h a ha).2.1
theorem q_ng3 {x : Int32} {a : Nat} (h : x < nI 0) (ha : a < 2 ^ 31) : (x < nI a) = True := eq_true (q_ng h a ha).2.2.1
theorem q_ng4 {x : Int32} {a : Nat} (h : x < nI 0) (ha : a < 2 ^ 31) : (x ≤ nI a) = True := eq_true (q_ng h a ha).2.2.2.1
theorem q_ng5 {x : Int32} {a : Nat} (h : x < nI 0) (ha : a < 2 ^ 31) : (x = nI a) = False := eq_false (q_ng h a ha).2.2.2.2.1
theorem q_ng6 {x : Int32} {a : Nat} (h : x < nI 0) (ha : a < 2 ^ 31) : (nI a = x) = False := eq_false (q_ng h a ha).2.2.2.2.2
/-- a number within 0 .. b, below 0, above b -/
theorem q_rng (x : Int32) (b : Nat) : (∃ j : Nat, j ≤ b ∧ j < 2 ^ 31 ∧ x = nI j) ∨ x < nI 0 ∨ ∃ j : Nat, b < j ∧ j < 2 ^ 31 ∧ x = nI j := by
  by_cases h : x < nI 0
  · exact Or.inr (Or.inl h)
  · obtain ⟨j, h1, h2⟩ := q_pos h
    by_cases hb : j ≤ b
    · exact Or.inl ⟨j, hb, h1, h2⟩
    · exact Or.inr (Or.inr ⟨j, by omega, h1, h2⟩)
/-- NONE, or below it, or within 0 .. b, or above b -/
theorem q_rnN (x : Int32) (b : Nat) : x = -nI 1 ∨ (∃ j : Nat, j ≤ b ∧ j < 2 ^ 31 ∧ x = nI j) ∨ (x < nI 0 ∧ x < -nI 1) ∨ ∃ j : Nat, b < j ∧ j < 2 ^ 31 ∧ x = nI j := by
  rcases q_rng x b with h | h | h
  · exact Or.inr (Or.inl h)
  · by_cases e : x = -nI 1
    · exact Or.inl e
    · refine Or.inr (Or.inr (Or.inl ⟨h, ?_⟩))
      have h1 := Int32.lt_iff_toInt_lt.mp h
      rw [nI_toInt (by omega)] at h1
      rw [Int32.lt_iff_toInt_lt, q_negT (by omega)]
      have h2 : x.toInt ≠ -1 := by
        intro q
        apply e
        rw [← Int32.toInt_inj, q_negT (by omega)]
        exact q
      omega
  · exact Or.inr (Or.inr (Or.inr h))
theorem q_nn {x : Int32} (h : x < -nI 1) : (x = -nI 1) = False ∧ (-nI 1 ≤ x) = False ∧ (x ≤ -nI 1) = True ∧ (-nI 1 < x) = False ∧ (-nI 1 = x) = False := by
  have h1 := Int32.lt_iff_toInt_lt.mp h
  refine ⟨eq_false fun e => ?_, eq_false fun e => ?_, eq_true (Int32.le_of_lt h), eq_false fun e => ?_, eq_false fun e => ?_⟩
  · rw [e] at h1; omega
  · have := Int32.le_iff_toInt_le.mp e; omega
  · have := Int32.lt_iff_toInt_lt.mp e; omega
  · rw [← e] at h1; omega
