/-! THE CLASS: its cells (programs, three cells each, from 88 on), the statics and texts that are carried beside the world, further rows -/
abbrev ph_Sh : Type := (Nat → ph_Kd) × Nat
def ph_kdX : Nat → ph_Kd := fun c => match c with
  | 0 => .inr (11, [(2, 11), (2, 23), (2, 1), (2, 2), (2, 59), (2, 61), (2, 63), (2, 70), (2, 71), (2, 73), (2, 76), (2, 81), (2, 84), (2, 3), (2, 4), (0, 0), (0, 0), (0, 0), (0, 0)])
  | 1 => .inl (4, 2)
  | 2 => .inl (2, 2)
  | 3 => .inl (0, 7)
  | 4 => .inl (3, 41)
  | 5 => .inr (2, [(2, 6), (2, 7)])
  | 6 => .inl (0, 21)
  | 7 => .inl (3, 40)
  | 8 => .inr (2, [(2, 9), (2, 10)])
  | 9 => .inl (0, 21)
  | 10 => .inl (3, 40)
  | 11 => .inr (9, [(2, 5), (0, 0), (2, 12), (2, 13), (2, 14), (2, 15), (2, 16), (2, 17), (2, 18), (2, 19), (2, 20), (2, 21), (2, 22), (0, 0), (0, 0)])
  | 12 => .inl (0, 6)
  | 13 => .inl (0, 72)
  | 14 => .inl (0, 72)
  | 15 => .inl (0, 72)
  | 16 => .inl (0, 72)
  | 17 => .inl (0, 72)
  | 18 => .inl (0, 72)
  | 19 => .inl (0, 8)
  | 20 => .inl (0, 24)
  | 21 => .inl (0, 5)
  | 22 => .inl (5, 6)
  | 23 => .inr (9, [(2, 5), (0, 0), (2, 24), (2, 25), (2, 26), (2, 27), (2, 28), (2, 29), (2, 30), (2, 31), (2, 32), (2, 33), (2, 34), (0, 0), (0, 0)])
  | 24 => .inl (0, 6)
  | 25 => .inl (0, 72)
  | 26 => .inl (0, 72)
  | 27 => .inl (0, 72)
  | 28 => .inl (0, 72)
  | 29 => .inl (0, 72)
  | 30 => .inl (0, 72)
  | 31 => .inl (0, 8)
  | 32 => .inl (0, 24)
  | 33 => .inl (0, 5)
  | 34 => .inl (5, 6)
  | 35 => .inr (9, [(2, 5), (0, 0), (2, 36), (2, 37), (2, 38), (2, 39), (2, 40), (2, 41), (2, 42), (2, 43), (2, 44), (2, 45), (2, 46), (0, 0), (0, 0)])
  | 36 => .inl (0, 6)
  | 37 => .inl (0, 72)
  | 38 => .inl (0, 72)
  | 39 => .inl (0, 72)
  | 40 => .inl (0, 72)
  | 41 => .inl (0, 72)
  | 42 => .inl (0, 72)
  | 43 => .inl (0, 8)
  | 44 => .inl (0, 24)
  | 45 => .inl (0, 5)
  | 46 => .inl (5, 6)
  | 47 => .inr (9, [(2, 5), (0, 0), (2, 48), (2, 49), (2, 50), (2, 51), (2, 52), (2, 53), (2, 54), (2, 55), (2, 56), (2, 57), (2, 58), (0, 0), (0, 0)])
  | 48 => .inl (0, 6)
  | 49 => .inl (0, 72)
  | 50 => .inl (0, 72)
  | 51 => .inl (0, 72)
  | 52 => .inl (0, 72)
  | 53 => .inl (0, 72)
  | 54 => .inl (0, 72)
  | 55 => .inl (0, 8)
  | 56 => .inl (0, 24)
  | 57 => .inl (0, 5)
  | 58 => .inl (5, 6)
  | 59 => .inr (1, [(2, 60), (0, 0), (0, 0)])
  | 60 => .inl (0, 192)
  | 61 => .inr (1, [(2, 62), (0, 0), (0, 0)])
  | 62 => .inl (0, 192)
  | 63 => .inr (6, [(2, 64), (0, 0), (0, 0), (0, 0), (2, 65), (2, 66), (2, 67), (0, 0), (0, 0), (0, 0), (0, 0), (0, 0), (2, 68), (2, 69), (0, 0)])
  | 64 => .inl (0, 400)
  | 65 => .inl (0, 401)
  | 66 => .inl (0, 401)
  | 67 => .inl (0, 401)
  | 68 => .inl (0, 72)
  | 69 => .inl (0, 400)
  | 70 => .inr (8, [(2, 8), (0, 0)])
  | 71 => .inr (0, [(2, 11), (2, 72)])
  | 72 => .inl (0, 6)
  | 73 => .inr (5, [(2, 11), (2, 74), (2, 75), (0, 0), (0, 0), (0, 0), (0, 0), (0, 0), (0, 0), (0, 0)])
  | 74 => .inl (0, 12)
  | 75 => .inl (0, 13)
  | 76 => .inr (7, [(2, 11), (2, 77), (2, 78), (2, 79), (2, 80), (0, 0), (0, 0), (0, 0), (0, 0)])
  | 77 => .inl (0, 6)
  | 78 => .inl (0, 6)
  | 79 => .inl (0, 6)
  | 80 => .inl (0, 366)
  | 81 => .inr (3, [(2, 11), (2, 82), (2, 83)])
  | 82 => .inl (0, 320)
  | 83 => .inl (0, 4)
  | 84 => .inr (10, [(0, 0), (2, 85), (2, 86), (2, 87), (1, 0)])
  | 85 => .inl (0, 6)
  | 86 => .inl (0, 6)
  | _ => .inl (0, 6)
def ph_SX (S : ph_Sh) : Prop := 88 ≤ S.2 ∧ ∀ c, c < 88 → S.1 c = ph_kdX c
theorem ph_xlt {S : ph_Sh} {c : Nat} (hS : ph_SX S) (h : c < 88) : c < S.2 := Nat.lt_of_lt_of_le h hS.1
def ph_len (S : ph_Sh) (c : Nat) : Nat := match S.1 c with
  | .inl a => a.2
  | .inr _ => 0
abbrev ph_isS (c : Nat) : Prop := c = 11 ∨ c = 23 ∨ c = 35 ∨ c = 47
abbrev ph_isM (c : Nat) : Prop := c = 5 ∨ c = 8
abbrev ph_isL (c : Nat) : Prop := c = 59 ∨ c = 61
def ph_isSb (c : Nat) : Bool := decide (ph_isS c)
theorem ph_isSp {c : Nat} (h : ph_isSb c = true) : ph_isS c := of_decide_eq_true h
def ph_iab (S : ph_Sh) (c : Nat) : Bool := match S.1 c with
  | .inl a => decide (a.1 = 0)
  | .inr _ => false
theorem ph_iabp {S : ph_Sh} {c : Nat} (h : ph_iab S c = true) : S.1 c = .inl (0, ph_len S c) := by
  unfold ph_iab at h
  unfold ph_len
  cases hk : S.1 c with
  | inl a =>
    rw [hk] at h
    obtain ⟨t, n⟩ := a
    have h1 : t = 0 := of_decide_eq_true h
    subst h1
    rfl
  | inr a => rw [hk] at h; cases h
def ph_isPb (S : ph_Sh) (c : Nat) : Bool := decide (c + 2 < S.2) && (decide (S.1 c = .inr (4, [(0, 0), (2, c + 1), (2, c + 2)])) && (ph_iab S (c + 1) && ph_iab S (c + 2)))
def ph_isP (S : ph_Sh) (c : Nat) : Prop := c + 2 < S.2 ∧ S.1 c = .inr (4, [(0, 0), (2, c + 1), (2, c + 2)]) ∧ S.1 (c + 1) = .inl (0, ph_len S (c + 1)) ∧ S.1 (c + 2) = .inl (0, ph_len S (c + 2))
theorem ph_isPp {S : ph_Sh} {c : Nat} (h : ph_isPb S c = true) : ph_isP S c := by
  unfold ph_isPb at h
  simp only [Bool.and_eq_true, decide_eq_true_eq] at h
  exact ⟨h.1, h.2.1, ph_iabp h.2.2.1, ph_iabp h.2.2.2⟩
def ph_dyb (S : ph_Sh) (c n : Nat) : Bool := decide (c < S.2) && decide (S.1 c = .inl (0, n))
theorem ph_dyp {S : ph_Sh} {c n : Nat} (h : ph_dyb S c n = true) : c < S.2 ∧ S.1 c = .inl (0, n) := by
  unfold ph_dyb at h
  simp only [Bool.and_eq_true, decide_eq_true_eq] at h
  exact h
theorem ph_S0 {S : ph_Sh} {c : Nat} (hS : ph_SX S) (hc : ph_isS c) : S.1 c = .inr (9, [(2, 5), (0, 0), (2, c + 1), (2, c + 2), (2, c + 3), (2, c + 4), (2, c + 5), (2, c + 6), (2, c + 7), (2, c + 8), (2, c + 9), (2, c + 10), (2, c + 11), (0, 0), (0, 0)]) := by rcases hc with rfl | rfl | rfl | rfl <;> exact hS.2 _ (by decide)
theorem ph_S0n {S : ph_Sh} {c : Nat} (hS : ph_SX S) (hc : ph_isS c) : c < S.2 := by rcases hc with rfl | rfl | rfl | rfl <;> exact ph_xlt hS (by decide)
theorem ph_S1 {S : ph_Sh} {c : Nat} (hS : ph_SX S) (hc : ph_isS c) : S.1 (c + 1) = .inl (0, 6) := by rcases hc with rfl | rfl | rfl | rfl <;> exact hS.2 _ (by decide)
theorem ph_S1n {S : ph_Sh} {c : Nat} (hS : ph_SX S) (hc : ph_isS c) : c + 1 < S.2 := by rcases hc with rfl | rfl | rfl | rfl <;> exact ph_xlt hS (by decide)
theorem ph_S2 {S : ph_Sh} {c : Nat} (hS : ph_SX S) (hc : ph_isS c) : S.1 (c + 2) = .inl (0, 72) := by rcases hc with rfl | rfl | rfl | rfl <;> exact hS.2 _ (by decide)
theorem ph_S2n {S : ph_Sh} {c : Nat} (hS : ph_SX S) (hc : ph_isS c) : c + 2 < S.2 := by rcases hc with rfl | rfl | rfl | rfl <;> exact ph_xlt hS (by decide)
theorem ph_S3 {S : ph_Sh} {c : Nat} (hS : ph_SX S) (hc : ph_isS c) : S.1 (c + 3) = .inl (0, 72) := by rcases hc with rfl | rfl | rfl | rfl <;> exact hS.2 _ (by decide)
theorem ph_S3n {S : ph_Sh} {c : Nat} (hS : ph_SX S) (hc : ph_isS c) : c + 3 < S.2 := by rcases hc with rfl | rfl | rfl | rfl <;> exact ph_xlt hS (by decide)
theorem ph_S4 {S : ph_Sh} {c : Nat} (hS : ph_SX S) (hc : ph_isS c) : S.1 (c + 4) = .inl (0, 72) := by rcases hc with rfl | rfl | rfl | rfl <;> exact hS.2 _ (by decide)
theorem ph_S4n {S : ph_Sh} {c : Nat} (hS : ph_SX S) (hc : ph_isS c) : c + 4 < S.2 := by rcases hc with rfl | rfl | rfl | rfl <;> exact ph_xlt hS (by decide)
theorem ph_S5 {S : ph_Sh} {c : Nat} (hS : ph_SX S) (hc : ph_isS c) : S.1 (c + 5) = .inl (0, 72) := by rcases hc with rfl | rfl | rfl | rfl <;> exact hS.2 _ (by decide)
theorem ph_S5n {S : ph_Sh} {c : Nat} (hS : ph_SX S) (hc : ph_isS c) : c + 5 < S.2 := by rcases hc with rfl | rfl | rfl | rfl <;> exact ph_xlt hS (by decide)
theorem ph_S6 {S : ph_Sh} {c : Nat} (hS : ph_SX S) (hc : ph_isS c) : S.1 (c + 6) = .inl (0, 72) := by rcases hc with rfl | rfl | rfl | rfl <;> exact hS.2 _ (by decide)
theorem ph_S6n {S : ph_Sh} {c : Nat} (hS : ph_SX S) (hc : ph_isS c) : c + 6 < S.2 := by rcases hc with rfl | rfl | rfl | rfl <;> exact ph_xlt hS (by decide)
theorem ph_S7 {S : ph_Sh} {c : Nat} (hS : ph_SX S) (hc : ph_isS c) : S.1 (c + 7) = .inl (0, 72) := by rcases hc with rfl | rfl | rfl | rfl <;> exact hS.2 _ (by decide)
theorem ph_S7n {S : ph_Sh} {c : Nat} (hS : ph_SX S) (hc : ph_isS c) : c + 7 < S.2 := by rcases hc with rfl | rfl | rfl | rfl <;> exact ph_xlt hS (by decide)
theorem ph_S8 {S : ph_Sh} {c : Nat} (hS : ph_SX S) (hc : ph_isS c) : S.1 (c + 8) = .inl (0, 8) := by rcases hc with rfl | rfl | rfl | rfl <;> exact hS.2 _ (by decide)
theorem ph_S8n {S : ph_Sh} {c : Nat} (hS : ph_SX S) (hc : ph_isS c) : c + 8 < S.2 := by rcases hc with rfl | rfl | rfl | rfl <;> exact ph_xlt hS (by decide)
theorem ph_S9 {S : ph_Sh} {c : Nat} (hS : ph_SX S) (hc : ph_isS c) : S.1 (c + 9) = .inl (0, 24) := by rcases hc with rfl | rfl | rfl | rfl <;> exact hS.2 _ (by decide)
theorem ph_S9n {S : ph_Sh} {c : Nat} (hS : ph_SX S) (hc : ph_isS c) : c + 9 < S.2 := by rcases hc with rfl | rfl | rfl | rfl <;> exact ph_xlt hS (by decide)
theorem ph_S10 {S : ph_Sh} {c : Nat} (hS : ph_SX S) (hc : ph_isS c) : S.1 (c + 10) = .inl (0, 5) := by rcases hc with rfl | rfl | rfl | rfl <;> exact hS.2 _ (by decide)
theorem ph_S10n {S : ph_Sh} {c : Nat} (hS : ph_SX S) (hc : ph_isS c) : c + 10 < S.2 := by rcases hc with rfl | rfl | rfl | rfl <;> exact ph_xlt hS (by decide)
theorem ph_S11 {S : ph_Sh} {c : Nat} (hS : ph_SX S) (hc : ph_isS c) : S.1 (c + 11) = .inl (5, 6) := by rcases hc with rfl | rfl | rfl | rfl <;> exact hS.2 _ (by decide)
theorem ph_S11n {S : ph_Sh} {c : Nat} (hS : ph_SX S) (hc : ph_isS c) : c + 11 < S.2 := by rcases hc with rfl | rfl | rfl | rfl <;> exact ph_xlt hS (by decide)
theorem ph_M0 {S : ph_Sh} {c : Nat} (hS : ph_SX S) (hc : ph_isM c) : S.1 c = .inr (2, [(2, c + 1), (2, c + 2)]) := by rcases hc with rfl | rfl <;> exact hS.2 _ (by decide)
theorem ph_M0n {S : ph_Sh} {c : Nat} (hS : ph_SX S) (hc : ph_isM c) : c < S.2 := by rcases hc with rfl | rfl <;> exact ph_xlt hS (by decide)
theorem ph_M1 {S : ph_Sh} {c : Nat} (hS : ph_SX S) (hc : ph_isM c) : S.1 (c + 1) = .inl (0, 21) := by rcases hc with rfl | rfl <;> exact hS.2 _ (by decide)
theorem ph_M1n {S : ph_Sh} {c : Nat} (hS : ph_SX S) (hc : ph_isM c) : c + 1 < S.2 := by rcases hc with rfl | rfl <;> exact ph_xlt hS (by decide)
theorem ph_M2 {S : ph_Sh} {c : Nat} (hS : ph_SX S) (hc : ph_isM c) : S.1 (c + 2) = .inl (3, 40) := by rcases hc with rfl | rfl <;> exact hS.2 _ (by decide)
theorem ph_M2n {S : ph_Sh} {c : Nat} (hS : ph_SX S) (hc : ph_isM c) : c + 2 < S.2 := by rcases hc with rfl | rfl <;> exact ph_xlt hS (by decide)
theorem ph_L0 {S : ph_Sh} {c : Nat} (hS : ph_SX S) (hc : ph_isL c) : S.1 c = .inr (1, [(2, c + 1), (0, 0), (0, 0)]) := by rcases hc with rfl | rfl <;> exact hS.2 _ (by decide)
theorem ph_L0n {S : ph_Sh} {c : Nat} (hS : ph_SX S) (hc : ph_isL c) : c < S.2 := by rcases hc with rfl | rfl <;> exact ph_xlt hS (by decide)
theorem ph_L1 {S : ph_Sh} {c : Nat} (hS : ph_SX S) (hc : ph_isL c) : S.1 (c + 1) = .inl (0, 192) := by rcases hc with rfl | rfl <;> exact hS.2 _ (by decide)
theorem ph_L1n {S : ph_Sh} {c : Nat} (hS : ph_SX S) (hc : ph_isL c) : c + 1 < S.2 := by rcases hc with rfl | rfl <;> exact ph_xlt hS (by decide)
theorem ph_P0 {S : ph_Sh} {c : Nat} (_ : ph_SX S) (h : ph_isP S c) : S.1 c = .inr (4, [(0, 0), (2, c + 1), (2, c + 2)]) := h.2.1
theorem ph_P0n {S : ph_Sh} {c : Nat} (_ : ph_SX S) (h : ph_isP S c) : c < S.2 := by have := h.1; omega
theorem ph_P1 {S : ph_Sh} {c : Nat} (_ : ph_SX S) (h : ph_isP S c) : S.1 (c + 1) = .inl (0, ph_len S (c + 1)) := h.2.2.1
theorem ph_P1n {S : ph_Sh} {c : Nat} (_ : ph_SX S) (h : ph_isP S c) : (c + 1) < S.2 := by have := h.1; omega
theorem ph_P2 {S : ph_Sh} {c : Nat} (_ : ph_SX S) (h : ph_isP S c) : S.1 (c + 2) = .inl (0, ph_len S (c + 2)) := h.2.2.2
theorem ph_P2n {S : ph_Sh} {c : Nat} (_ : ph_SX S) (h : ph_isP S c) : (c + 2) < S.2 := by have := h.1; omega
def ph_tn (k : Nat) : String := match k with
  | 0 => "LEAST_TERM"
  | 1 => "MOST_TERM"
  | 2 => "MOST_TOLD"
  | _ => "FIRST_TERM"
def ph_tv (k : Nat) : List Int32 := match k with
  | 0 => [0, 0, 1, 0, 0]
  | 1 => [999, 99, 99, 10, 9]
  | 2 => [999, 9999, 1]
  | _ => [0, 5, 9, 3, 0]
def ph_si : List Nat := [137, 139, 141, 143, 145, 147, 205, 207, 235, 237, 239, 241, 243, 245, 217, 219, 221, 223, 225, 227, 229, 231, 233, 199, 201, 203, 192, 194, 121, 127, 132, 168, 170, 175, 183, 185, 187, 166, 152, 61]
def ph_st : List String := ["pawn", "lends", "redeem", "costs", "pass", "bars", "[", "]", "now", "done", "last", "purse", "held", "knows", "person", "hour", "fact", "with", "worth", "loan", "days", "today", "mood", "*", "/", "%", "+", "-", "of", "times", "if", "not", "(", ")", "<", ">", "=", "and", "or", ";"]
def ph_sb : List (List Int32) := [[112, 97, 119, 110], [108, 101, 110, 100, 115], [114, 101, 100, 101, 101, 109], [99, 111, 115, 116, 115], [112, 97, 115, 115], [98, 97, 114, 115], [91], [93], [110, 111, 119], [100, 111, 110, 101], [108, 97, 115, 116], [112, 117, 114, 115, 101], [104, 101, 108, 100], [107, 110, 111, 119, 115], [112, 101, 114, 115, 111, 110], [104, 111, 117, 114], [102, 97, 99, 116], [119, 105, 116, 104], [119, 111, 114, 116, 104], [108, 111, 97, 110], [100, 97, 121, 115], [116, 111, 100, 97, 121], [109, 111, 111, 100], [42], [47], [37], [43], [45], [111, 102], [116, 105, 109, 101, 115], [105, 102], [110, 111, 116], [40], [41], [60], [62], [61], [97, 110, 100], [111, 114], [59]]
def ph_sl : List Nat := [4, 5, 6, 5, 4, 4, 1, 1, 3, 4, 4, 5, 4, 5, 6, 4, 4, 4, 5, 4, 4, 5, 4, 1, 1, 1, 1, 1, 2, 5, 2, 3, 1, 1, 1, 1, 1, 3, 2, 1]
def ph_nF : List (String × Nat × String) := [("PawnedHours$Street", 58, "FIRST_TERM"), ("PawnedHours$Street", 137, "MOST_TOLD")]
def ph_nM : List (String × Nat × MethodName) := [("PawnedHours", 9, yX2_init), ("PawnedHours", 34, yX1_init), ("PawnedHours", 44, yX6_init), ("PawnedHours", 51, yX8_init), ("PawnedHours$Runner", 13, yX2_init), ("PawnedHours", 88, yX10_init), ("PawnedHours$Street", 77, yX11_isFact), ("PawnedHours$Street", 88, yX11_placeOf), ("PawnedHours$Raising", 66, yX11_placeOf)]
def ph_ZX (tb adK adV : Nat → Nat) (A : Nat → Prop) (U : State) : Prop :=
  (∀ q ∈ ph_nF, va_Nw (.fieldLinkNest q.1 q.2.1 "PawnedHours" q.2.2 "[I" "PawnedHours") U) ∧ (∀ q ∈ ph_nM, va_Nw (.methodLinkNest q.1 q.2.1 q.2.2 "PawnedHours") U) ∧
  (∀ k, k < 4 → va_Z "PawnedHours" (ph_tn k) "[I" (.ref (tb k)) A U U.heap ∧ va_T .int (tb k) (ph_tv k).length (fun j => .int ((ph_tv k).getD j 0)) A U U.heap) ∧
  va_Z "java/lang/String" "COMPACT_STRINGS" "Z" (.int 1) A U U.heap ∧ va_Zq "jdk/internal/util/Preconditions" "SIOOBE_FORMATTER" "Ljava/util/function/BiFunction;" A U U.heap ∧ (va_Nw (.castable "[I" "java/lang/Cloneable") U ∧ va_AO RX4 U ∧ va_AO RX9 U) ∧
  (∀ i, i < 40 → vk_R RX6 (ph_si.getD i 0) (ph_st.getD i "") (adK i) U ∧ va_O "java/lang/String" (adK i) A U U.heap ∧ va_OF "java/lang/String" "coder" "B" (.int 0) (adK i) A U U.heap ∧ va_OF "java/lang/String" "value" "[B" (.ref (adV i)) (adK i) A U U.heap ∧ va_T .byte (adV i) (ph_sl.getD i 0) (fun j => .int ((ph_sb.getD i []).getD j 0)) A U U.heap)
theorem ph_ZX_ok {tb adK adV : Nat → Nat} : ph_Zok (ph_ZX tb adK adV) := by
  refine ⟨fun A s U hW hk h => ?_, fun A U V hv hh h => ?_⟩
  · obtain ⟨h1, h2, h3, h4, h5, h7, h6⟩ := h
    exact ⟨fun q hq => va_Nw.warmF hW (h1 q hq), fun q hq => va_Nw.warmM hW (h2 q hq), fun k hk4 => ⟨((h3 k hk4).1.moved hW.alike).kept hk, ((h3 k hk4).2.moved hW.alike).kept hk⟩, (h4.moved hW.alike).kept hk, (h5.moved hW.alike).kept hk, ⟨va_Nw.warmC hW h7.1, h7.2.1.moved hW.alike, h7.2.2.moved hW.alike⟩, fun i hi => ⟨(h6 i hi).1.warm hW, ((h6 i hi).2.1.moved hW.alike).kept hk, ((h6 i hi).2.2.1.moved hW.alike).kept hk, ((h6 i hi).2.2.2.1.moved hW.alike).kept hk, ((h6 i hi).2.2.2.2.moved hW.alike).kept hk⟩⟩
  · obtain ⟨h1, h2, h3, h4, h5, h8, h6⟩ := h
    have ha : U.vm.Alike V.vm := by rw [hv]; exact Vm.Alike.refl V.vm
    rw [hh] at h3 h4 h5
    refine ⟨fun q hq => va_Nw.same rfl hv (h1 q hq), fun q hq => va_Nw.same rfl hv (h2 q hq), fun k hk4 => ⟨(h3 k hk4).1.moved ha, (h3 k hk4).2.moved ha⟩, h4.moved ha, h5.moved ha, ⟨va_Nw.same rfl hv h8.1, h8.2.1.moved ha, h8.2.2.moved ha⟩, fun i hi => ?_⟩
    have h7 := h6 i hi
    rw [hh] at h7
    exact ⟨h7.1.same hv.symm, h7.2.1.moved ha, h7.2.2.1.moved ha, h7.2.2.2.1.moved ha, h7.2.2.2.2.moved ha⟩
section PHX
variable {tb adK adV : Nat → Nat} {X : ph_X} {cc : ByteArray} {own : String} {ret : Option FieldType} {nL d N : Nat} {ad : Nat → Nat} {kd : Nat → ph_Kd} {α : Type} {o : α} {pc : Nat} {lv : List (Nat × Value)} {st : List Value} {M : ph_Mem} {e : Option α}
theorem j_gets (h : ph_ok (ph_ZX tb adK adV) X cc own ret nL d N ad) (k : Nat) {index : Nat} (hk : k < 4) (hlink : Cond.fieldLink own index "PawnedHours" (ph_tn k) "[I" ∈ ph_T) (hdg : decode cc pc = .ok (.getstatic index, 3)) (kk : ph_J X kd N ad o (pc + 3) lv (.ref (tb k) :: st) M e) : ph_J X kd N ad o pc lv st M e := by
  obtain ⟨hx, hb, hml, hnl, hR, hown, hts, hK, hinj, hA, hB, hlk, hr, hZ, hZ0⟩ := h
  intro he H locs ls hP hS hl
  exact va_gets hx hb (hZ0.2.2.1 k hk).1 hS hown (hts _ hlink) (fun _ h9 => h9) hdg (kk he H locs ls hP hS hl)
theorem j_getsN (h : ph_ok (ph_ZX tb adK adV) X cc own ret nL d N ad) (k : Nat) {index : Nat} (hk : k < 4) (hn : (own, index, ph_tn k) ∈ ph_nF) (hdg : decode cc pc = .ok (.getstatic index, 3)) (kk : ph_J X kd N ad o (pc + 3) lv (.ref (tb k) :: st) M e) : ph_J X kd N ad o pc lv st M e := by
  obtain ⟨hx, hb, hml, hnl, hR, hown, hts, hK, hinj, hA, hB, hlk, hr, hZ, hZ0⟩ := h
  intro he H locs ls hP hS hl
  exact va_getsN hx hb (hZ0.2.2.1 k hk).1 hS hown (va_Nw.use rfl (hZ0.1 _ hn)) (fun _ h9 => h9) hdg (kk he H locs ls hP hS hl)
theorem j_tald (h : ph_ok (ph_ZX tb adK adV) X cc own ret nL d N ad) (k n : Nat) {i : Int32} (hk : k < 4) (hn : (ph_tv k).length = n) (hdg : decode cc pc = .ok (.iaload, 1)) (kk : ph_J X kd N ad o (pc + 1) lv (.int ((ph_tv k).getD i.toNatClampNeg 0) :: st) M e) : ph_J X kd N ad o pc lv (.int i :: .ref (tb k) :: st) M (cond (ph_ib i n) e none) := by
  obtain ⟨hx, hb, hml, hnl, hR, hown, hts, hK, hinj, hA, hB, hlk, hr, hZ, hZ0⟩ := h
  subst hn
  refine j_chk (fun hib => ?_)
  intro he H locs ls hP hS hl
  exact va_ti hx hb (hZ0.2.2.1 k hk).2 hS (ph_ib_in hib) rfl hdg (kk he H locs ls hP hS hl)
theorem j_ldcs (h : ph_ok (ph_ZX tb adK adV) X cc own ret nL d N ad) (i : Nat) {index : Nat} (hi : i < 40) (ho : own = RX6) (hix : ph_si.getD i 0 = index) (hdg : decode cc pc = .ok (.ldc index, 2)) (kk : ph_J X kd N ad o (pc + 2) lv (.ref (adK i) :: st) M e) : ph_J X kd N ad o pc lv st M e := by
  obtain ⟨hx, hb, hml, hnl, hR, hown, hts, hK, hinj, hA, hB, hlk, hr, hZ, hZ0⟩ := h
  intro he H locs ls hP hS hl
  subst ho
  subst hix
  exact va_ldcS hx hb hown (hZ0.2.2.2.2.2.2 i hi).1 hdg (kk he H locs ls hP hS hl)
def ph_opt {β : Type} (x : Option Nat) (e1 : Option β) (k : Nat → Option β) : Option β := match x with
  | none => e1
  | some c => k c
theorem j_opt {x : Option Nat} {e1 : Option α} {kf : Nat → Option α} (k1 : x = none → ph_J X kd N ad o pc lv st M e1) (k2 : ∀ c, x = some c → ph_J X kd N ad o pc lv st M (kf c)) : ph_J X kd N ad o pc lv st M (ph_opt x e1 kf) := by
  cases x with
  | none => exact k1 rfl
  | some c => exact k2 c rfl
theorem j_aload_nO (h : ph_ok (ph_ZX tb adK adV) X cc own ret nL d N ad) {k : Fin 4} {i : Nat} {x : Option Nat} (hdg : decode cc pc = .ok (.aload_n k, 1)) (hi : (k : Nat) = i) (j : Nat) (hj : lv[j]? = some (i, va_rf (x.map ad))) (kk : ph_J X kd N ad o (pc + 1) lv (va_rf (x.map ad) :: st) M e) : ph_J X kd N ad o pc lv st M e := by
  obtain ⟨hx, hb, hml, hnl, hR, hown, hts, hK, hinj, hA, hB, hlk, hr, hZ, hZ0⟩ := h
  intro he H locs ls hP hS hl
  cases x with
  | none => exact lv_aload_nN hx hb hdg hi (lv_at hl j hj) (kk he H locs ls hP hS hl)
  | some c => exact lv_aload_n hx hb hdg hi (lv_at hl j hj) (kk he H locs ls hP hS hl)
theorem j_aloadO (h : ph_ok (ph_ZX tb adK adV) X cc own ret nL d N ad) {i : Nat} {x : Option Nat} (hdg : decode cc pc = .ok (.aload i, 2)) (j : Nat) (hj : lv[j]? = some (i, va_rf (x.map ad))) (kk : ph_J X kd N ad o (pc + 2) lv (va_rf (x.map ad) :: st) M e) : ph_J X kd N ad o pc lv st M e := by
  obtain ⟨hx, hb, hml, hnl, hR, hown, hts, hK, hinj, hA, hB, hlk, hr, hZ, hZ0⟩ := h
  intro he H locs ls hP hS hl
  cases x with
  | none => exact lv_aloadN hx hb hdg (lv_at hl j hj) (kk he H locs ls hP hS hl)
  | some c => exact lv_aload hx hb hdg (lv_at hl j hj) (kk he H locs ls hP hS hl)
theorem j_rf {x : Option Nat} {c : Nat} (hxc : x = some c) (kk : ph_J X kd N ad o pc lv (.ref (ad c) :: st) M e) : ph_J X kd N ad o pc lv (va_rf (x.map ad) :: st) M e := by
  subst hxc
  exact kk
theorem j_astore_nO (h : ph_ok (ph_ZX tb adK adV) X cc own ret nL d N ad) {k : Fin 4} {i : Nat} {x : Option Nat} (lv' : List (Nat × Value)) (hdg : decode cc pc = .ok (.astore_n k, 1)) (hi : (k : Nat) = i) (hn : i < nL) (hl' : (i, va_rf (x.map ad)) :: lv.filter (fun q => !(q.1 == i) && !(q.1 + 1 == i && q.2.category == 2)) = lv') (kk : ph_J X kd N ad o (pc + 1) lv' st M e) : ph_J X kd N ad o pc lv (va_rf (x.map ad) :: st) M e := by
  obtain ⟨hx, hb, hml, hnl, hR, hown, hts, hK, hinj, hA, hB, hlk, hr, hZ, hZ0⟩ := h
  intro he H locs ls hP hS hl
  cases x with
  | none => exact lv_astore_nN hx hb hdg hi hl (by rw [hnl]; exact hn) hl' (fun ls' hls => kk he H locs ls' hP hS hls)
  | some c => exact lv_astore_n hx hb hdg hi hl (by rw [hnl]; exact hn) hl' (fun ls' hls => kk he H locs ls' hP hS hls)
theorem j_astoreO (h : ph_ok (ph_ZX tb adK adV) X cc own ret nL d N ad) {i : Nat} {x : Option Nat} (lv' : List (Nat × Value)) (hdg : decode cc pc = .ok (.astore i, 2)) (hn : i < nL) (hl' : (i, va_rf (x.map ad)) :: lv.filter (fun q => !(q.1 == i) && !(q.1 + 1 == i && q.2.category == 2)) = lv') (kk : ph_J X kd N ad o (pc + 2) lv' st M e) : ph_J X kd N ad o pc lv (va_rf (x.map ad) :: st) M e := by
  obtain ⟨hx, hb, hml, hnl, hR, hown, hts, hK, hinj, hA, hB, hlk, hr, hZ, hZ0⟩ := h
  intro he H locs ls hP hS hl
  cases x with
  | none => exact lv_astoreN hx hb hdg hl (by rw [hnl]; exact hn) hl' (fun ls' hls => kk he H locs ls' hP hS hls)
  | some c => exact lv_astore hx hb hdg hl (by rw [hnl]; exact hn) hl' (fun ls' hls => kk he H locs ls' hP hS hls)
theorem j_ifnonnull (h : ph_ok (ph_ZX tb adK adV) X cc own ret nL d N ad) {x : Option Nat} {off : Int} (tgt : Nat) {e1 : Option α} {kf : Nat → Option α} (hdg : decode cc pc = .ok (.ifnonnull off, 3)) (ht : (pc : Int) + off = (tgt : Int)) (k1 : x = none → ph_J X kd N ad o (pc + 3) lv st M e1) (k2 : ∀ c, x = some c → ph_J X kd N ad o tgt lv st M (kf c)) : ph_J X kd N ad o pc lv (va_rf (x.map ad) :: st) M (ph_opt x e1 kf) := by
  obtain ⟨hx, hb, hml, hnl, hR, hown, hts, hK, hinj, hA, hB, hlk, hr, hZ, hZ0⟩ := h
  cases x with
  | none =>
    intro he H locs ls hP hS hl
    exact lv_ifnonnullN hx hb hdg (k1 rfl he H locs ls hP hS hl)
  | some c =>
    intro he H locs ls hP hS hl
    exact lv_ifnonnull hx hb hdg ht (k2 c rfl he H locs ls hP hS hl)
/-- an array of references -/
theorem j_aald (h : ph_ok (ph_ZX tb adK adV) X cc own ret nL d N ad) {c n tn : Nat} {i : Int32} {C : String} (hc : c < N) (hk : kd c = .inl (tn, n)) (htn : tn = 4 ∧ C = RX9 ∨ tn = 5 ∧ C = RX4) (hdg : decode cc pc = .ok (.aaload, 1)) (kk : ph_J X kd N ad o (pc + 1) lv (va_rf ((M.2.2 c i.toNatClampNeg).map ad) :: st) M e) : ph_J X kd N ad o pc lv (.int i :: .ref (ad c) :: st) M (cond (ph_ib i n) e none) := by
  obtain ⟨hx, hb, hml, hnl, hR, hown, hts, hK, hinj, hA, hB, hlk, hr, hZ, hZ0⟩ := h
  refine j_chk (fun hib => ?_)
  intro he H locs ls hP hS hl
  rcases htn with ⟨rfl, rfl⟩ | ⟨rfl, rfl⟩
  · exact va_aldq (C := RX9) (f := fun j => (M.2.2 c j).map ad) hx hb hK hP c 4 (by rw [ph_ws_at hc, hk]; rfl) rfl (ph_ib_in hib) hdg (kk he H locs ls hP hS hl)
  · exact va_aldq (C := RX4) (f := fun j => (M.2.2 c j).map ad) hx hb hK hP c 5 (by rw [ph_ws_at hc, hk]; rfl) rfl (ph_ib_in hib) hdg (kk he H locs ls hP hS hl)
theorem ph_wr_self {M : ph_Mem} {c k : Nat} {v : Option Nat} {ad : Nat → Nat} : (fun j => ((ph_wr M c k v).2.2 c j).map ad) = va_up (fun j => (M.2.2 c j).map ad) k (v.map ad) := by
  funext j
  by_cases hj : j = k <;> simp [ph_wr, ph_u2, va_up, hj]
/-- a program, or null, into an array of programs -/
theorem j_aastP (h : ph_ok (ph_ZX tb adK adV) X cc own ret nL d N ad) {c n : Nat} {i : Int32} {x : Option Nat} {sl : Nat → List (Nat × Nat)} (hc : c < N) (hk : kd c = .inl (5, n)) (hxp : ∀ p, x = some p → p < N ∧ kd p = .inr (4, sl p)) (hdg : decode cc pc = .ok (.aastore, 1)) (kk : ph_J X kd N ad o (pc + 1) lv st (ph_wr M c i.toNatClampNeg x) e) : ph_J X kd N ad o pc lv (va_rf (x.map ad) :: .int i :: .ref (ad c) :: st) M (cond (ph_ib i n) e none) := by
  obtain ⟨hx, hb, hml, hnl, hR, hown, hts, hK, hinj, hA, hB, hlk, hr, hZ, hZ0⟩ := h
  refine j_chk (fun hib => ?_)
  intro he H locs ls hP hS hl
  have key : ∀ (H1 : Heap), va_P (ph_d X) ph_cl ((ph_ws (ph_cA X) kd N ad M).set c (ad c, .inl (ph_cA X 5, n, .inr (.inr (.inr (.inr (va_up (fun j => (M.2.2 c j).map ad) i.toNatClampNeg (x.map ad)))))))) H1 → va_P (ph_d X) ph_cl (ph_ws (ph_cA X) kd N ad (ph_wr M c i.toNatClampNeg x)) H1 := by
    intro H1 hP1
    rw [← ph_ws_set hc (fun c' hc' => ph_wr_ne hc'), hk]
    rw [← ph_wr_self] at hP1
    exact hP1
  cases x with
  | none => exact va_astqN (C := RX4) (f := fun j => (M.2.2 c j).map ad) hx hb hK hP (ph_D hinj hA) hS c 5 (by rw [ph_ws_at hc, hk]; rfl) rfl (ph_ib_in hib) hdg (fun H1 locs1 hP1 _ hS1 => kk he H1 locs1 ls (key H1 hP1) hS1 hl)
  | some p =>
    obtain ⟨hp1, hp2⟩ := hxp p rfl
    exact va_astq (r := (RX4, TX4, 3)) (ci := 4) (vs := ph_F ad M p 0 (sl p)) (f := fun j => (M.2.2 c j).map ad) hx hb hK hP (ph_D hinj hA) hS c 5 p (by rw [ph_ws_at hc, hk]; rfl) rfl (by rw [ph_ws_at hp1, hp2]; rfl) rfl (ph_ib_in hib) hdg (fun H1 locs1 hP1 _ hS1 => kk he H1 locs1 ls (key H1 hP1) hS1 hl)
/-- System.arraycopy of ints -/
def ph_cp (M : ph_Mem) (a0 sp a1 dp n : Nat) : ph_Mem := (fun c j => if c = a1 then va_cpy (M.1 a0) (M.1 a1) sp dp n j else M.1 c j, M.2)
def ph_cpk (sp dp n : Int32) (n0 n1 : Nat) : Bool := !decide (sp < 0) && (!decide (dp < 0) && (!decide (n < 0) && (decide (sp.toNatClampNeg + n.toNatClampNeg ≤ n0) && decide (dp.toNatClampNeg + n.toNatClampNeg ≤ n1))))
theorem ph_cp_ne {cA : Nat → ClassId} {ad : Nat → Nat} {k : ph_Kd} {M : ph_Mem} {a0 sp a1 dp n c' : Nat} (h : c' ≠ a1) : ph_E cA ad k (ph_cp M a0 sp a1 dp n) c' = ph_E cA ad k M c' := ph_E_ne (by funext i; simp [ph_cp, h]) rfl rfl
theorem j_copy (h : ph_ok (ph_ZX tb adK adV) X cc own ret nL d N ad) {a0 a1 n0 n1 index : Nat} {sp dp n : Int32} (hd : 1 ≤ d) (hm : Cond.methodLink own index arraycopyName ∈ ph_T) (hnt : Cond.native arraycopyName ∈ ph_T) (hst : Cond.static arraycopyName ∈ ph_T) (hin : Cond.initialized "java/lang/System" ∈ ph_T) (hc0 : a0 < N) (hk0 : kd a0 = .inl (0, n0)) (hc1 : a1 < N) (hk1 : kd a1 = .inl (0, n1)) (hrs : (st.map fun v => v.category).sum ≤ 8) (hdg : decode cc pc = .ok (.invokestatic index, 3)) (kk : ph_J X kd N ad o (pc + 3) lv st (ph_cp M a0 sp.toNatClampNeg a1 dp.toNatClampNeg n.toNatClampNeg) e) : ph_J X kd N ad o pc lv (.int n :: .int dp :: .ref (ad a1) :: .int sp :: .ref (ad a0) :: st) M (cond (ph_cpk sp dp n n0 n1) e none) := by
  obtain ⟨hx, hb, hml, hnl, hR, hown, hts, hK, hinj, hA, hB, hlk, hr, hZ, hZ0⟩ := h
  refine j_chk (fun hib => ?_)
  unfold ph_cpk at hib
  simp only [Bool.and_eq_true, Bool.not_eq_true', decide_eq_true_eq, decide_eq_false_iff_not] at hib
  intro he H locs ls hP hS hl
  have h9 : nativeFrameWords "java/lang/System" "arraycopy" 5 ≤ 40 := by decide +kernel
  have hfr : 1 ≤ (ph_R X).frames := by rw [hR.1]; exact hd
  have hlo : (st.map fun v => v.category).sum + (nativeFrameWords "java/lang/System" "arraycopy" 5 + 11) ≤ (ph_R X).locals := by rw [hR.2.1]; omega
  refine va_copyi (f := M.1 a0) (g := M.1 a1) (ty := .int) hx hb (by rw [hml, hl.1, hnl]) hown (hts _ hm) (hts _ hnt) (hts _ hst) (hts _ hin) hK hP (ph_D hinj hA) hS a0 a1 0 0 (by rw [ph_ws_at hc0, hk0]; rfl) (by rw [ph_ws_at hc1, hk1]; rfl) rfl rfl rfl hib.1 hib.2.1 hib.2.2.1 hib.2.2.2.1 hib.2.2.2.2 (fun _ _ => rfl) hfr hlo hdg (fun H1 locs1 hP1 _ hS1 => kk he H1 locs1 ls ?_ hS1 hl)
  rw [← ph_ws_set hc1 (fun c' hc' => ph_cp_ne hc'), hk1]
  have e1 : (ph_cp M a0 sp.toNatClampNeg a1 dp.toNatClampNeg n.toNatClampNeg).1 a1 = va_cpy (M.1 a0) (M.1 a1) sp.toNatClampNeg dp.toNatClampNeg n.toNatClampNeg := by funext j; simp [ph_cp]
  rw [← e1] at hP1
  exact hP1
theorem g_callN (h : ph_ok (ph_ZX tb adK adV) X cc own ret nL d N ad) {y : MethodName} {b : ByteArray} {nL' d' n index : Nat} {ret' : Option FieldType} (hm : (own, index, y) ∈ ph_nM) (hs : Cond.static y ∈ ph_T) (hn : Cond.initialized y.cls ∈ ph_T) (hcd : Cond.code y b nL' ret' ∈ ph_T) (hyd : ph_yd y n) (hd' : d' + 1 ≤ d) (hnl' : nL' ≤ 45) {As rest : List Value} {v : Option Value} {M' : ph_Mem} (hC : ph_CX (ph_ZX tb adK adV) X d' y b nL' ret' kd N ad As M v M') (hlen : As.length = n) (hW : (rest.map fun v => v.category).sum ≤ 8) (hst : st = As.reverse ++ rest) (hdg : decode cc pc = .ok (.invokestatic index, 3)) (k : ph_G X kd N ad (pc + 3) lv (v.toList ++ rest) M') : ph_G X kd N ad pc lv st M := by
  obtain ⟨hx, hb, hml, hnl, hR, hown, hts, hK, hinj, hA, hB, hlk, hr, hZ, hZ0⟩ := h
  intro H locs ls hP hS hl
  subst hst
  have hroom : (ph_rm d').frames + 1 ≤ (ph_R X).frames ∧ 8 + (nL' + 11) + (ph_rm d').locals ≤ (ph_R X).locals := by
    rw [hR.1, hR.2.1]
    exact ⟨hd', by show 8 + (nL' + 11) + 64 * d' ≤ 64 * d; omega⟩
  have hrun := va_runSN (l := ph_l X) (e := ph_e X) (below := ph_b X) (meth := ph_me X) (locs := locs) (cells := ph_kc X) (slots := ph_ks X) (As := As) (rest := rest) (g := F0 (ph_m X) pc ls (As.reverse ++ rest)) (n := n) ⟨hx, hb, hml, hown, hts⟩ (hC (ph_A X) H.size hA (fun q hq => hB q (Nat.le_trans hS.1 hq))) ⟨va_cnB n hts (ph_goodc hcd) rfl rfl rfl (hZ0.2.1 _ hm) (hts _ hn) hyd hroom, hts _ hs, trivial⟩ (H := H) ⟨fun a U g mk q => ?_, fun U hU hW => ⟨rfl, by rw [hU], by rw [hU]; exact hP, va_K.moved hW.alike hK, hZ.1 _ _ _ hW (fun a h1 h2 => by rw [hU]; exact hS.2.1 a h1 h2) hZ0⟩⟩ rfl hlen (by rw [hl.1, hnl]) rfl (lv_room hW) hdg ⟨hR.2.2.1, hR.2.2.2.1⟩
  · intro T hT SX
    obtain ⟨v', st₀, t, T', L, h0, X', hL, e1, e2, ⟨⟨hv, hP1⟩, hz, hk⟩, stp⟩ := hrun T hT SX
    cases hv
    rw [h0] at hz hk
    obtain ⟨t2, a1, b1⟩ := k T'.heap (locs ++ L) ls (by rw [e1]; exact hP1) ⟨Nat.le_trans hS.1 (by rw [e1]; exact hz), fun q h1 h2 => by rw [e1, hk q (Nat.lt_of_lt_of_le h1 hS.1) h2]; exact hS.2.1 q h1 h2, fun q hq => by
      rcases List.mem_append.mp hq with h | h
      · exact hS.2.2 q h
      · exact hL q h⟩ hl T' rfl X'
    exact ⟨t2, stp t2 a1, b1⟩
  · obtain ⟨q0, q1, qP, qK, qZ⟩ := q
    exact ⟨q0, q1, qP, va_K.moved (u := U) (U := U.calling g mk a) (Vm.Alike.refl U.vm) qK, hZ.2 _ U _ rfl rfl qZ⟩
theorem j_callNiP (h : ph_ok (ph_ZX tb adK adV) X cc own ret nL d N ad) {y : MethodName} {b : ByteArray} {nL' d' n index : Nat} {ret' : Option FieldType} (hm : (own, index, y) ∈ ph_nM) (hs : Cond.static y ∈ ph_T) (hn : Cond.initialized y.cls ∈ ph_T) (hcd : Cond.code y b nL' ret' ∈ ph_T) (hyd : ph_yd y n) (hd' : d' + 1 ≤ d) (hnl' : nL' ≤ 45) {As rest : List Value} {ge : Option Int32} {kf : Int32 → Option α} (hC : ∀ q, ge = some q → ph_CX (ph_ZX tb adK adV) X d' y b nL' ret' kd N ad As M (some (.int q)) M) (hlen : As.length = n) (hW : (rest.map fun v => v.category).sum ≤ 8) (hst : st = As.reverse ++ rest) (hdg : decode cc pc = .ok (.invokestatic index, 3)) (k : ∀ q, ph_J X kd N ad o (pc + 3) lv (.int q :: rest) M (kf q)) : ph_J X kd N ad o pc lv st M (ge.bind kf) := by
  intro he
  cases hg : ge with
  | none => rw [hg] at he; cases he
  | some q =>
    rw [hg] at he
    exact g_callN h hm hs hn hcd hyd hd' hnl' (hC q hg) hlen hW hst hdg (k q he)
end PHX
