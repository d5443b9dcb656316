/-! words of the tables that the class's methods use -/
theorem ph_kc0 {S : ph_Sh} (hS : ph_SX S) : S.1 0 = .inr (11, [(2, 11), (2, 23), (2, 1), (2, 2), (2, 59), (2, 61), (2, 63), (2, 70), (2, 71), (2, 73), (2, 76), (2, 81), (2, 84), (2, 3), (2, 4), (0, 0), (0, 0), (0, 0), (0, 0)]) := hS.2 0 (by decide)
theorem ph_kc1 {S : ph_Sh} (hS : ph_SX S) : S.1 1 = .inl (4, 2) := hS.2 1 (by decide)
theorem ph_kc2 {S : ph_Sh} (hS : ph_SX S) : S.1 2 = .inl (2, 2) := hS.2 2 (by decide)
theorem ph_kc3 {S : ph_Sh} (hS : ph_SX S) : S.1 3 = .inl (0, 7) := hS.2 3 (by decide)
theorem ph_kc4 {S : ph_Sh} (hS : ph_SX S) : S.1 4 = .inl (3, 41) := hS.2 4 (by decide)
theorem ph_kc5 {S : ph_Sh} (hS : ph_SX S) : S.1 5 = .inr (2, [(2, 6), (2, 7)]) := hS.2 5 (by decide)
theorem ph_kc6 {S : ph_Sh} (hS : ph_SX S) : S.1 6 = .inl (0, 21) := hS.2 6 (by decide)
theorem ph_kc7 {S : ph_Sh} (hS : ph_SX S) : S.1 7 = .inl (3, 40) := hS.2 7 (by decide)
theorem ph_kc8 {S : ph_Sh} (hS : ph_SX S) : S.1 8 = .inr (2, [(2, 9), (2, 10)]) := hS.2 8 (by decide)
theorem ph_kc9 {S : ph_Sh} (hS : ph_SX S) : S.1 9 = .inl (0, 21) := hS.2 9 (by decide)
theorem ph_kc10 {S : ph_Sh} (hS : ph_SX S) : S.1 10 = .inl (3, 40) := hS.2 10 (by decide)
theorem ph_kc11 {S : ph_Sh} (hS : ph_SX S) : S.1 11 = .inr (9, [(2, 5), (0, 0), (2, 12), (2, 13), (2, 14), (2, 15), (2, 16), (2, 17), (2, 18), (2, 19), (2, 20), (2, 21), (2, 22), (0, 0), (0, 0)]) := hS.2 11 (by decide)
theorem ph_kc12 {S : ph_Sh} (hS : ph_SX S) : S.1 12 = .inl (0, 6) := hS.2 12 (by decide)
theorem ph_kc13 {S : ph_Sh} (hS : ph_SX S) : S.1 13 = .inl (0, 72) := hS.2 13 (by decide)
theorem ph_kc14 {S : ph_Sh} (hS : ph_SX S) : S.1 14 = .inl (0, 72) := hS.2 14 (by decide)
theorem ph_kc15 {S : ph_Sh} (hS : ph_SX S) : S.1 15 = .inl (0, 72) := hS.2 15 (by decide)
theorem ph_kc16 {S : ph_Sh} (hS : ph_SX S) : S.1 16 = .inl (0, 72) := hS.2 16 (by decide)
theorem ph_kc17 {S : ph_Sh} (hS : ph_SX S) : S.1 17 = .inl (0, 72) := hS.2 17 (by decide)
theorem ph_kc18 {S : ph_Sh} (hS : ph_SX S) : S.1 18 = .inl (0, 72) := hS.2 18 (by decide)
theorem ph_kc19 {S : ph_Sh} (hS : ph_SX S) : S.1 19 = .inl (0, 8) := hS.2 19 (by decide)
theorem ph_kc20 {S : ph_Sh} (hS : ph_SX S) : S.1 20 = .inl (0, 24) := hS.2 20 (by decide)
theorem ph_kc21 {S : ph_Sh} (hS : ph_SX S) : S.1 21 = .inl (0, 5) := hS.2 21 (by decide)
theorem ph_kc22 {S : ph_Sh} (hS : ph_SX S) : S.1 22 = .inl (5, 6) := hS.2 22 (by decide)
theorem ph_kc23 {S : ph_Sh} (hS : ph_SX S) : S.1 23 = .inr (9, [(2, 5), (0, 0), (2, 24), (2, 25), (2, 26), (2, 27), (2, 28), (2, 29), (2, 30), (2, 31), (2, 32), (2, 33), (2, 34), (0, 0), (0, 0)]) := hS.2 23 (by decide)
theorem ph_kc24 {S : ph_Sh} (hS : ph_SX S) : S.1 24 = .inl (0, 6) := hS.2 24 (by decide)
theorem ph_kc25 {S : ph_Sh} (hS : ph_SX S) : S.1 25 = .inl (0, 72) := hS.2 25 (by decide)
theorem ph_kc26 {S : ph_Sh} (hS : ph_SX S) : S.1 26 = .inl (0, 72) := hS.2 26 (by decide)
theorem ph_kc27 {S : ph_Sh} (hS : ph_SX S) : S.1 27 = .inl (0, 72) := hS.2 27 (by decide)
theorem ph_kc28 {S : ph_Sh} (hS : ph_SX S) : S.1 28 = .inl (0, 72) := hS.2 28 (by decide)
theorem ph_kc29 {S : ph_Sh} (hS : ph_SX S) : S.1 29 = .inl (0, 72) := hS.2 29 (by decide)
theorem ph_kc30 {S : ph_Sh} (hS : ph_SX S) : S.1 30 = .inl (0, 72) := hS.2 30 (by decide)
theorem ph_kc31 {S : ph_Sh} (hS : ph_SX S) : S.1 31 = .inl (0, 8) := hS.2 31 (by decide)
theorem ph_kc32 {S : ph_Sh} (hS : ph_SX S) : S.1 32 = .inl (0, 24) := hS.2 32 (by decide)
theorem ph_kc33 {S : ph_Sh} (hS : ph_SX S) : S.1 33 = .inl (0, 5) := hS.2 33 (by decide)
theorem ph_kc34 {S : ph_Sh} (hS : ph_SX S) : S.1 34 = .inl (5, 6) := hS.2 34 (by decide)
theorem ph_kc35 {S : ph_Sh} (hS : ph_SX S) : S.1 35 = .inr (9, [(2, 5), (0, 0), (2, 36), (2, 37), (2, 38), (2, 39), (2, 40), (2, 41), (2, 42), (2, 43), (2, 44), (2, 45), (2, 46), (0, 0), (0, 0)]) := hS.2 35 (by decide)
theorem ph_kc36 {S : ph_Sh} (hS : ph_SX S) : S.1 36 = .inl (0, 6) := hS.2 36 (by decide)
theorem ph_kc37 {S : ph_Sh} (hS : ph_SX S) : S.1 37 = .inl (0, 72) := hS.2 37 (by decide)
theorem ph_kc38 {S : ph_Sh} (hS : ph_SX S) : S.1 38 = .inl (0, 72) := hS.2 38 (by decide)
theorem ph_kc39 {S : ph_Sh} (hS : ph_SX S) : S.1 39 = .inl (0, 72) := hS.2 39 (by decide)
theorem ph_kc40 {S : ph_Sh} (hS : ph_SX S) : S.1 40 = .inl (0, 72) := hS.2 40 (by decide)
theorem ph_kc41 {S : ph_Sh} (hS : ph_SX S) : S.1 41 = .inl (0, 72) := hS.2 41 (by decide)
theorem ph_kc42 {S : ph_Sh} (hS : ph_SX S) : S.1 42 = .inl (0, 72) := hS.2 42 (by decide)
theorem ph_kc43 {S : ph_Sh} (hS : ph_SX S) : S.1 43 = .inl (0, 8) := hS.2 43 (by decide)
theorem ph_kc44 {S : ph_Sh} (hS : ph_SX S) : S.1 44 = .inl (0, 24) := hS.2 44 (by decide)
theorem ph_kc45 {S : ph_Sh} (hS : ph_SX S) : S.1 45 = .inl (0, 5) := hS.2 45 (by decide)
theorem ph_kc46 {S : ph_Sh} (hS : ph_SX S) : S.1 46 = .inl (5, 6) := hS.2 46 (by decide)
theorem ph_kc47 {S : ph_Sh} (hS : ph_SX S) : S.1 47 = .inr (9, [(2, 5), (0, 0), (2, 48), (2, 49), (2, 50), (2, 51), (2, 52), (2, 53), (2, 54), (2, 55), (2, 56), (2, 57), (2, 58), (0, 0), (0, 0)]) := hS.2 47 (by decide)
theorem ph_kc48 {S : ph_Sh} (hS : ph_SX S) : S.1 48 = .inl (0, 6) := hS.2 48 (by decide)
theorem ph_kc49 {S : ph_Sh} (hS : ph_SX S) : S.1 49 = .inl (0, 72) := hS.2 49 (by decide)
theorem ph_kc50 {S : ph_Sh} (hS : ph_SX S) : S.1 50 = .inl (0, 72) := hS.2 50 (by decide)
theorem ph_kc51 {S : ph_Sh} (hS : ph_SX S) : S.1 51 = .inl (0, 72) := hS.2 51 (by decide)
theorem ph_kc52 {S : ph_Sh} (hS : ph_SX S) : S.1 52 = .inl (0, 72) := hS.2 52 (by decide)
theorem ph_kc53 {S : ph_Sh} (hS : ph_SX S) : S.1 53 = .inl (0, 72) := hS.2 53 (by decide)
theorem ph_kc54 {S : ph_Sh} (hS : ph_SX S) : S.1 54 = .inl (0, 72) := hS.2 54 (by decide)
theorem ph_kc55 {S : ph_Sh} (hS : ph_SX S) : S.1 55 = .inl (0, 8) := hS.2 55 (by decide)
theorem ph_kc56 {S : ph_Sh} (hS : ph_SX S) : S.1 56 = .inl (0, 24) := hS.2 56 (by decide)
theorem ph_kc57 {S : ph_Sh} (hS : ph_SX S) : S.1 57 = .inl (0, 5) := hS.2 57 (by decide)
theorem ph_kc58 {S : ph_Sh} (hS : ph_SX S) : S.1 58 = .inl (5, 6) := hS.2 58 (by decide)
theorem ph_kc59 {S : ph_Sh} (hS : ph_SX S) : S.1 59 = .inr (1, [(2, 60), (0, 0), (0, 0)]) := hS.2 59 (by decide)
theorem ph_kc60 {S : ph_Sh} (hS : ph_SX S) : S.1 60 = .inl (0, 192) := hS.2 60 (by decide)
theorem ph_kc61 {S : ph_Sh} (hS : ph_SX S) : S.1 61 = .inr (1, [(2, 62), (0, 0), (0, 0)]) := hS.2 61 (by decide)
theorem ph_kc62 {S : ph_Sh} (hS : ph_SX S) : S.1 62 = .inl (0, 192) := hS.2 62 (by decide)
theorem ph_kc63 {S : ph_Sh} (hS : ph_SX S) : S.1 63 = .inr (6, [(2, 64), (0, 0), (0, 0), (0, 0), (2, 65), (2, 66), (2, 67), (0, 0), (0, 0), (0, 0), (0, 0), (0, 0), (2, 68), (2, 69), (0, 0)]) := hS.2 63 (by decide)
theorem ph_kc64 {S : ph_Sh} (hS : ph_SX S) : S.1 64 = .inl (0, 400) := hS.2 64 (by decide)
theorem ph_kc65 {S : ph_Sh} (hS : ph_SX S) : S.1 65 = .inl (0, 401) := hS.2 65 (by decide)
theorem ph_kc66 {S : ph_Sh} (hS : ph_SX S) : S.1 66 = .inl (0, 401) := hS.2 66 (by decide)
theorem ph_kc67 {S : ph_Sh} (hS : ph_SX S) : S.1 67 = .inl (0, 401) := hS.2 67 (by decide)
theorem ph_kc68 {S : ph_Sh} (hS : ph_SX S) : S.1 68 = .inl (0, 72) := hS.2 68 (by decide)
theorem ph_kc69 {S : ph_Sh} (hS : ph_SX S) : S.1 69 = .inl (0, 400) := hS.2 69 (by decide)
theorem ph_kc70 {S : ph_Sh} (hS : ph_SX S) : S.1 70 = .inr (8, [(2, 8), (0, 0)]) := hS.2 70 (by decide)
theorem ph_kc71 {S : ph_Sh} (hS : ph_SX S) : S.1 71 = .inr (0, [(2, 11), (2, 72)]) := hS.2 71 (by decide)
theorem ph_kc72 {S : ph_Sh} (hS : ph_SX S) : S.1 72 = .inl (0, 6) := hS.2 72 (by decide)
theorem ph_kc73 {S : ph_Sh} (hS : ph_SX S) : S.1 73 = .inr (5, [(2, 11), (2, 74), (2, 75), (0, 0), (0, 0), (0, 0), (0, 0), (0, 0), (0, 0), (0, 0)]) := hS.2 73 (by decide)
theorem ph_kc74 {S : ph_Sh} (hS : ph_SX S) : S.1 74 = .inl (0, 12) := hS.2 74 (by decide)
theorem ph_kc75 {S : ph_Sh} (hS : ph_SX S) : S.1 75 = .inl (0, 13) := hS.2 75 (by decide)
theorem ph_kc76 {S : ph_Sh} (hS : ph_SX S) : S.1 76 = .inr (7, [(2, 11), (2, 77), (2, 78), (2, 79), (2, 80), (0, 0), (0, 0), (0, 0), (0, 0)]) := hS.2 76 (by decide)
theorem ph_kc77 {S : ph_Sh} (hS : ph_SX S) : S.1 77 = .inl (0, 6) := hS.2 77 (by decide)
theorem ph_kc78 {S : ph_Sh} (hS : ph_SX S) : S.1 78 = .inl (0, 6) := hS.2 78 (by decide)
theorem ph_kc79 {S : ph_Sh} (hS : ph_SX S) : S.1 79 = .inl (0, 6) := hS.2 79 (by decide)
theorem ph_kc80 {S : ph_Sh} (hS : ph_SX S) : S.1 80 = .inl (0, 366) := hS.2 80 (by decide)
theorem ph_kc81 {S : ph_Sh} (hS : ph_SX S) : S.1 81 = .inr (3, [(2, 11), (2, 82), (2, 83)]) := hS.2 81 (by decide)
theorem ph_kc82 {S : ph_Sh} (hS : ph_SX S) : S.1 82 = .inl (0, 320) := hS.2 82 (by decide)
theorem ph_kc83 {S : ph_Sh} (hS : ph_SX S) : S.1 83 = .inl (0, 4) := hS.2 83 (by decide)
theorem ph_kc84 {S : ph_Sh} (hS : ph_SX S) : S.1 84 = .inr (10, [(0, 0), (2, 85), (2, 86), (2, 87), (1, 0)]) := hS.2 84 (by decide)
theorem ph_kc85 {S : ph_Sh} (hS : ph_SX S) : S.1 85 = .inl (0, 6) := hS.2 85 (by decide)
theorem ph_kc86 {S : ph_Sh} (hS : ph_SX S) : S.1 86 = .inl (0, 6) := hS.2 86 (by decide)
theorem ph_kc87 {S : ph_Sh} (hS : ph_SX S) : S.1 87 = .inl (0, 6) := hS.2 87 (by decide)
theorem ph_kl4 {S : ph_Sh} (hS : ph_SX S) : S.1 4 = .inl (3, ph_len S 4) := by
  have e : ph_len S 4 = 41 := by unfold ph_len; rw [ph_kc4 hS]
  rw [e]
  exact ph_kc4 hS
theorem ph_kl72 {S : ph_Sh} (hS : ph_SX S) : S.1 72 = .inl (0, ph_len S 72) := by
  have e : ph_len S 72 = 6 := by unfold ph_len; rw [ph_kc72 hS]
  rw [e]
  exact ph_kc72 hS
theorem ph_kl80 {S : ph_Sh} (hS : ph_SX S) : S.1 80 = .inl (0, ph_len S 80) := by
  have e : ph_len S 80 = 366 := by unfold ph_len; rw [ph_kc80 hS]
  rw [e]
  exact ph_kc80 hS
def ph_okN (S : ph_Sh) (x : Option Nat) : Bool := match x with
  | none => true
  | some p => ph_isPb S p
theorem ph_okNp {S : ph_Sh} {x : Option Nat} (h : ph_okN S x = true) : ∀ p, x = some p → p < S.2 ∧ S.1 p = .inr (4, [(0, 0), (2, p + 1), (2, p + 2)]) := by
  intro p hp
  subst hp
  have h1 := ph_isPp (S := S) (c := p) h
  exact ⟨by have := h1.1; omega, h1.2.1⟩
theorem ydf5_search : ph_yd yX5_search 4 := ⟨by decide, by decide, by decide +kernel⟩
theorem ydf6_readSum : ph_yd yX6_readSum 0 := ⟨by decide, by decide, by decide +kernel⟩
theorem ydf6_readTest : ph_yd yX6_readTest 0 := ⟨by decide, by decide, by decide +kernel⟩
theorem ydf7_search : ph_yd yX7_search 4 := ⟨by decide, by decide, by decide +kernel⟩
set_option maxRecDepth 100000 in
theorem tw_1 : Cond.initialized yX11_refused.cls ∈ ph_T := ph_T_t 1 (by decide +kernel) rfl
set_option maxRecDepth 100000 in
theorem tw_2 : Cond.initialized yX2_value.cls ∈ ph_T := ph_T_t 2 (by decide +kernel) rfl
set_option maxRecDepth 100000 in
theorem tw_3 : Cond.initialized yX9_countAll.cls ∈ ph_T := ph_T_t 3 (by decide +kernel) rfl
set_option maxRecDepth 100000 in
theorem tw_4 : Cond.initialized yJ7_fill_d0a16.cls ∈ ph_T := ph_T_t 4 (by decide +kernel) rfl
set_option maxRecDepth 100000 in
theorem tw_5 : Cond.initialized "java/lang/System" ∈ ph_T := ph_T_t 5 (by decide +kernel) rfl
set_option maxRecDepth 100000 in
theorem tw_6 : Cond.initialized yX1_forget.cls ∈ ph_T := ph_T_t 6 (by decide +kernel) rfl
set_option maxRecDepth 100000 in
theorem tw_7 : Cond.initialized yX6_addFour.cls ∈ ph_T := ph_T_t 7 (by decide +kernel) rfl
set_option maxRecDepth 100000 in
theorem tw_8 : Cond.initialized yX8_runOnce.cls ∈ ph_T := ph_T_t 8 (by decide +kernel) rfl
set_option maxRecDepth 100000 in
theorem tw_9 : Cond.initialized yX0_ownersOfStray.cls ∈ ph_T := ph_T_t 9 (by decide +kernel) rfl
set_option maxRecDepth 100000 in
theorem tw_10 : Cond.initialized yX5_plan.cls ∈ ph_T := ph_T_t 10 (by decide +kernel) rfl
set_option maxRecDepth 100000 in
theorem tw_11 : Cond.initialized yX7_hourAt.cls ∈ ph_T := ph_T_t 11 (by decide +kernel) rfl
set_option maxRecDepth 100000 in
theorem tw_12 : Cond.initialized yX3_total.cls ∈ ph_T := ph_T_t 12 (by decide +kernel) rfl
set_option maxRecDepth 100000 in
theorem tw_13 : Cond.initialized yX10_live.cls ∈ ph_T := ph_T_t 13 (by decide +kernel) rfl
set_option maxRecDepth 100000 in
theorem tw_15 : Cond.initialized yJ6_bitCount_0f7a4.cls ∈ ph_T := ph_T_t 15 (by decide +kernel) rfl
set_option maxRecDepth 100000 in
theorem tw_16 : Cond.initialized yJ9_max_7cf53.cls ∈ ph_T := ph_T_t 16 (by decide +kernel) rfl
set_option maxRecDepth 100000 in
theorem tw_17 : Cond.initialized yJ0_charAt_5068e.cls ∈ ph_T := ph_T_t 17 (by decide +kernel) rfl
set_option maxRecDepth 100000 in
theorem tw_18 : Cond.initialized yJ1_charAt_3b067.cls ∈ ph_T := ph_T_t 18 (by decide +kernel) rfl
set_option maxRecDepth 100000 in
theorem tw_19 : Cond.initialized yJ3_checkIndex_8e157.cls ∈ ph_T := ph_T_t 19 (by decide +kernel) rfl
set_option maxRecDepth 100000 in
theorem tw_21 : Cond.initialized yX4_isEmpty.cls ∈ ph_T := ph_T_t 21 (by decide +kernel) rfl
set_option maxRecDepth 100000 in
theorem tw_36 : Cond.fieldLink RX2 11 "PawnedHours$Machine" "words" "[I" ∈ ph_T := ph_T_t 36 (by decide +kernel) rfl
set_option maxRecDepth 100000 in
theorem tw_37 : Cond.fieldLink RX8 22 "PawnedHours$Machine" "words" "[I" ∈ ph_T := ph_T_t 37 (by decide +kernel) rfl
set_option maxRecDepth 100000 in
theorem tw_38 : Cond.fieldLink RX9 146 "PawnedHours$Machine" "words" "[I" ∈ ph_T := ph_T_t 38 (by decide +kernel) rfl
set_option maxRecDepth 100000 in
theorem tw_39 : Cond.fieldLink RX2 17 "PawnedHours$Machine" "stack" "[J" ∈ ph_T := ph_T_t 39 (by decide +kernel) rfl
set_option maxRecDepth 100000 in
theorem tw_56 : Cond.static yJ7_fill_53178 ∈ ph_T := ph_T_t 56 (by decide +kernel) rfl
set_option maxRecDepth 100000 in
theorem tw_57 : Cond.code yJ7_fill_53178 cJ7_fill_53178 4 none ∈ ph_T := ph_T_t 57 (by rfl) rfl
set_option maxRecDepth 100000 in
theorem tw_60 : Cond.methodLink RX9 61 arraycopyName ∈ ph_T := ph_T_t 60 (by decide +kernel) rfl
set_option maxRecDepth 100000 in
theorem tw_61 : Cond.static arraycopyName ∈ ph_T := ph_T_t 61 (by decide +kernel) rfl
set_option maxRecDepth 100000 in
theorem tw_62 : Cond.native arraycopyName ∈ ph_T := ph_T_t 62 (by decide +kernel) rfl
set_option maxRecDepth 100000 in
theorem tw_63 : Cond.fieldLink RX9 48 "PawnedHours$Street" "machine" "LPawnedHours$Machine;" ∈ ph_T := ph_T_t 63 (by decide +kernel) rfl
set_option maxRecDepth 100000 in
theorem tw_64 : Cond.fieldLink RX9 71 "PawnedHours$Street" "people" "I" ∈ ph_T := ph_T_t 64 (by decide +kernel) rfl
set_option maxRecDepth 100000 in
theorem tw_65 : Cond.fieldLink RX11 114 "PawnedHours$Street" "people" "I" ∈ ph_T := ph_T_t 65 (by decide +kernel) rfl
set_option maxRecDepth 100000 in
theorem tw_66 : Cond.fieldLink RX3 22 "PawnedHours$Street" "people" "I" ∈ ph_T := ph_T_t 66 (by decide +kernel) rfl
set_option maxRecDepth 100000 in
theorem tw_67 : Cond.fieldLink RX10 25 "PawnedHours$Street" "people" "I" ∈ ph_T := ph_T_t 67 (by decide +kernel) rfl
set_option maxRecDepth 100000 in
theorem tw_68 : Cond.fieldLink RX8 66 "PawnedHours$Street" "people" "I" ∈ ph_T := ph_T_t 68 (by decide +kernel) rfl
set_option maxRecDepth 100000 in
theorem tw_69 : Cond.fieldLink RX0 29 "PawnedHours$Street" "people" "I" ∈ ph_T := ph_T_t 69 (by decide +kernel) rfl
set_option maxRecDepth 100000 in
theorem tw_70 : Cond.fieldLink RX9 9 "PawnedHours$Street" "purses" "[I" ∈ ph_T := ph_T_t 70 (by decide +kernel) rfl
set_option maxRecDepth 100000 in
theorem tw_71 : Cond.fieldLink RX1 33 "PawnedHours$Street" "purses" "[I" ∈ ph_T := ph_T_t 71 (by decide +kernel) rfl
set_option maxRecDepth 100000 in
theorem tw_72 : Cond.fieldLink RX7 64 "PawnedHours$Street" "purses" "[I" ∈ ph_T := ph_T_t 72 (by decide +kernel) rfl
set_option maxRecDepth 100000 in
theorem tw_73 : Cond.fieldLink RX8 63 "PawnedHours$Street" "purses" "[I" ∈ ph_T := ph_T_t 73 (by decide +kernel) rfl
set_option maxRecDepth 100000 in
theorem tw_74 : Cond.fieldLink RX10 61 "PawnedHours$Street" "purses" "[I" ∈ ph_T := ph_T_t 74 (by decide +kernel) rfl
set_option maxRecDepth 100000 in
theorem tw_75 : Cond.fieldLink RX11 172 "PawnedHours$Street" "purses" "[I" ∈ ph_T := ph_T_t 75 (by decide +kernel) rfl
set_option maxRecDepth 100000 in
theorem tw_76 : Cond.fieldLink RX9 15 "PawnedHours$Street" "facts" "[I" ∈ ph_T := ph_T_t 76 (by decide +kernel) rfl
set_option maxRecDepth 100000 in
theorem tw_77 : Cond.fieldLink RX5 72 "PawnedHours$Street" "facts" "[I" ∈ ph_T := ph_T_t 77 (by decide +kernel) rfl
set_option maxRecDepth 100000 in
theorem tw_78 : Cond.fieldLink RX11 146 "PawnedHours$Street" "facts" "[I" ∈ ph_T := ph_T_t 78 (by decide +kernel) rfl
set_option maxRecDepth 100000 in
theorem tw_79 : Cond.fieldLink RX9 18 "PawnedHours$Street" "withs" "[I" ∈ ph_T := ph_T_t 79 (by decide +kernel) rfl
set_option maxRecDepth 100000 in
theorem tw_80 : Cond.fieldLink RX11 149 "PawnedHours$Street" "withs" "[I" ∈ ph_T := ph_T_t 80 (by decide +kernel) rfl
set_option maxRecDepth 100000 in
theorem tw_81 : Cond.fieldLink RX9 21 "PawnedHours$Street" "worths" "[I" ∈ ph_T := ph_T_t 81 (by decide +kernel) rfl
set_option maxRecDepth 100000 in
theorem tw_82 : Cond.fieldLink RX5 79 "PawnedHours$Street" "worths" "[I" ∈ ph_T := ph_T_t 82 (by decide +kernel) rfl
set_option maxRecDepth 100000 in
theorem tw_83 : Cond.fieldLink RX11 152 "PawnedHours$Street" "worths" "[I" ∈ ph_T := ph_T_t 83 (by decide +kernel) rfl
set_option maxRecDepth 100000 in
theorem tw_84 : Cond.fieldLink RX9 24 "PawnedHours$Street" "states" "[I" ∈ ph_T := ph_T_t 84 (by decide +kernel) rfl
set_option maxRecDepth 100000 in
theorem tw_85 : Cond.fieldLink RX1 19 "PawnedHours$Street" "states" "[I" ∈ ph_T := ph_T_t 85 (by decide +kernel) rfl
set_option maxRecDepth 100000 in
theorem tw_86 : Cond.fieldLink RX11 155 "PawnedHours$Street" "states" "[I" ∈ ph_T := ph_T_t 86 (by decide +kernel) rfl
set_option maxRecDepth 100000 in
theorem tw_87 : Cond.fieldLink RX9 27 "PawnedHours$Street" "loans" "[I" ∈ ph_T := ph_T_t 87 (by decide +kernel) rfl
set_option maxRecDepth 100000 in
theorem tw_88 : Cond.fieldLink RX1 24 "PawnedHours$Street" "loans" "[I" ∈ ph_T := ph_T_t 88 (by decide +kernel) rfl
set_option maxRecDepth 100000 in
theorem tw_89 : Cond.fieldLink RX11 158 "PawnedHours$Street" "loans" "[I" ∈ ph_T := ph_T_t 89 (by decide +kernel) rfl
set_option maxRecDepth 100000 in
theorem tw_90 : Cond.fieldLink RX9 30 "PawnedHours$Street" "days" "[I" ∈ ph_T := ph_T_t 90 (by decide +kernel) rfl
set_option maxRecDepth 100000 in
theorem tw_91 : Cond.fieldLink RX1 27 "PawnedHours$Street" "days" "[I" ∈ ph_T := ph_T_t 91 (by decide +kernel) rfl
set_option maxRecDepth 100000 in
theorem tw_92 : Cond.fieldLink RX11 164 "PawnedHours$Street" "days" "[I" ∈ ph_T := ph_T_t 92 (by decide +kernel) rfl
set_option maxRecDepth 100000 in
theorem tw_93 : Cond.fieldLink RX9 33 "PawnedHours$Street" "needed" "[I" ∈ ph_T := ph_T_t 93 (by decide +kernel) rfl
set_option maxRecDepth 100000 in
theorem tw_94 : Cond.fieldLink RX11 189 "PawnedHours$Street" "needed" "[I" ∈ ph_T := ph_T_t 94 (by decide +kernel) rfl
set_option maxRecDepth 100000 in
theorem tw_95 : Cond.fieldLink RX9 36 "PawnedHours$Street" "bids" "[I" ∈ ph_T := ph_T_t 95 (by decide +kernel) rfl
set_option maxRecDepth 100000 in
theorem tw_96 : Cond.fieldLink RX3 44 "PawnedHours$Street" "bids" "[I" ∈ ph_T := ph_T_t 96 (by decide +kernel) rfl
set_option maxRecDepth 100000 in
theorem tw_97 : Cond.fieldLink RX11 314 "PawnedHours$Street" "bids" "[I" ∈ ph_T := ph_T_t 97 (by decide +kernel) rfl
set_option maxRecDepth 100000 in
theorem tw_98 : Cond.fieldLink RX9 39 "PawnedHours$Street" "terms" "[I" ∈ ph_T := ph_T_t 98 (by decide +kernel) rfl
set_option maxRecDepth 100000 in
theorem tw_99 : Cond.fieldLink RX5 45 "PawnedHours$Street" "terms" "[I" ∈ ph_T := ph_T_t 99 (by decide +kernel) rfl
set_option maxRecDepth 100000 in
theorem tw_100 : Cond.fieldLink RX8 39 "PawnedHours$Street" "terms" "[I" ∈ ph_T := ph_T_t 100 (by decide +kernel) rfl
set_option maxRecDepth 100000 in
theorem tw_101 : Cond.fieldLink RX1 30 "PawnedHours$Street" "terms" "[I" ∈ ph_T := ph_T_t 101 (by decide +kernel) rfl
set_option maxRecDepth 100000 in
theorem tw_102 : Cond.fieldLink RX11 161 "PawnedHours$Street" "terms" "[I" ∈ ph_T := ph_T_t 102 (by decide +kernel) rfl
set_option maxRecDepth 100000 in
theorem tw_103 : Cond.fieldLink RX7 84 "PawnedHours$Street" "terms" "[I" ∈ ph_T := ph_T_t 103 (by decide +kernel) rfl
set_option maxRecDepth 100000 in
theorem tw_104 : Cond.fieldLink RX9 44 "PawnedHours$Street" "laws" "[LPawnedHours$Program;" ∈ ph_T := ph_T_t 104 (by decide +kernel) rfl
set_option maxRecDepth 100000 in
theorem tw_106 : Cond.fieldLink RX9 74 "PawnedHours$Street" "lawCount" "I" ∈ ph_T := ph_T_t 106 (by decide +kernel) rfl
set_option maxRecDepth 100000 in
theorem tw_107 : Cond.fieldLink RX11 213 "PawnedHours$Street" "lawCount" "I" ∈ ph_T := ph_T_t 107 (by decide +kernel) rfl
set_option maxRecDepth 100000 in
theorem tw_108 : Cond.fieldLink RX9 67 "PawnedHours$Street" "inForce" "I" ∈ ph_T := ph_T_t 108 (by decide +kernel) rfl
set_option maxRecDepth 100000 in
theorem tw_109 : Cond.fieldLink RX11 240 "PawnedHours$Street" "inForce" "I" ∈ ph_T := ph_T_t 109 (by decide +kernel) rfl
set_option maxRecDepth 100000 in
theorem tw_148 : Cond.fieldLink RX1 11 "PawnedHours$Log" "entries" "[I" ∈ ph_T := ph_T_t 148 (by decide +kernel) rfl
set_option maxRecDepth 100000 in
theorem tw_149 : Cond.fieldLink RX1 15 "PawnedHours$Log" "next" "I" ∈ ph_T := ph_T_t 149 (by decide +kernel) rfl
set_option maxRecDepth 100000 in
theorem tw_150 : Cond.fieldLink RX1 42 "PawnedHours$Log" "size" "I" ∈ ph_T := ph_T_t 150 (by decide +kernel) rfl
set_option maxRecDepth 100000 in
theorem tw_151 : Cond.fieldLink RX11 351 "PawnedHours$Log" "size" "I" ∈ ph_T := ph_T_t 151 (by decide +kernel) rfl
set_option maxRecDepth 100000 in
theorem tw_166 : Cond.fieldLink RX6 9 "PawnedHours$Reader" "bytes" "[I" ∈ ph_T := ph_T_t 166 (by decide +kernel) rfl
set_option maxRecDepth 100000 in
theorem tw_167 : Cond.fieldLink RX11 354 "PawnedHours$Reader" "bytes" "[I" ∈ ph_T := ph_T_t 167 (by decide +kernel) rfl
set_option maxRecDepth 100000 in
theorem tw_168 : Cond.fieldLink RX6 32 "PawnedHours$Reader" "length" "I" ∈ ph_T := ph_T_t 168 (by decide +kernel) rfl
set_option maxRecDepth 100000 in
theorem tw_169 : Cond.fieldLink RX11 202 "PawnedHours$Reader" "length" "I" ∈ ph_T := ph_T_t 169 (by decide +kernel) rfl
set_option maxRecDepth 100000 in
theorem tw_170 : Cond.fieldLink RX6 40 "PawnedHours$Reader" "fault" "I" ∈ ph_T := ph_T_t 170 (by decide +kernel) rfl
set_option maxRecDepth 100000 in
theorem tw_172 : Cond.fieldLink RX6 36 "PawnedHours$Reader" "readsOrders" "Z" ∈ ph_T := ph_T_t 172 (by decide +kernel) rfl
set_option maxRecDepth 100000 in
theorem tw_173 : Cond.fieldLink RX6 15 "PawnedHours$Reader" "starts" "[I" ∈ ph_T := ph_T_t 173 (by decide +kernel) rfl
set_option maxRecDepth 100000 in
theorem tw_174 : Cond.fieldLink RX6 18 "PawnedHours$Reader" "ends" "[I" ∈ ph_T := ph_T_t 174 (by decide +kernel) rfl
set_option maxRecDepth 100000 in
theorem tw_175 : Cond.fieldLink RX6 21 "PawnedHours$Reader" "kinds" "[I" ∈ ph_T := ph_T_t 175 (by decide +kernel) rfl
set_option maxRecDepth 100000 in
theorem tw_176 : Cond.fieldLink RX6 73 "PawnedHours$Reader" "lastToken" "I" ∈ ph_T := ph_T_t 176 (by decide +kernel) rfl
set_option maxRecDepth 100000 in
theorem tw_177 : Cond.fieldLink RX6 70 "PawnedHours$Reader" "token" "I" ∈ ph_T := ph_T_t 177 (by decide +kernel) rfl
set_option maxRecDepth 100000 in
theorem tw_178 : Cond.fieldLink RX6 43 "PawnedHours$Reader" "parts" "I" ∈ ph_T := ph_T_t 178 (by decide +kernel) rfl
set_option maxRecDepth 100000 in
theorem tw_179 : Cond.fieldLink RX6 46 "PawnedHours$Reader" "brackets" "I" ∈ ph_T := ph_T_t 179 (by decide +kernel) rfl
set_option maxRecDepth 100000 in
theorem tw_180 : Cond.fieldLink RX6 52 "PawnedHours$Reader" "clauses" "I" ∈ ph_T := ph_T_t 180 (by decide +kernel) rfl
set_option maxRecDepth 100000 in
theorem tw_181 : Cond.fieldLink RX6 26 "PawnedHours$Reader" "heads" "[I" ∈ ph_T := ph_T_t 181 (by decide +kernel) rfl
set_option maxRecDepth 100000 in
theorem tw_182 : Cond.fieldLink RX6 29 "PawnedHours$Reader" "code" "[I" ∈ ph_T := ph_T_t 182 (by decide +kernel) rfl
set_option maxRecDepth 100000 in
theorem tw_183 : Cond.fieldLink RX6 49 "PawnedHours$Reader" "codeLength" "I" ∈ ph_T := ph_T_t 183 (by decide +kernel) rfl
set_option maxRecDepth 100000 in
theorem tw_223 : Cond.fieldLink RX8 14 "PawnedHours$Runner" "machine" "LPawnedHours$Machine;" ∈ ph_T := ph_T_t 223 (by decide +kernel) rfl
set_option maxRecDepth 100000 in
theorem tw_224 : Cond.fieldLink RX8 18 "PawnedHours$Runner" "done" "I" ∈ ph_T := ph_T_t 224 (by decide +kernel) rfl
set_option maxRecDepth 100000 in
theorem tw_237 : Cond.fieldLink RX0 15 "PawnedHours$Company" "street" "LPawnedHours$Street;" ∈ ph_T := ph_T_t 237 (by decide +kernel) rfl
set_option maxRecDepth 100000 in
theorem tw_238 : Cond.fieldLink RX0 9 "PawnedHours$Company" "against" "[I" ∈ ph_T := ph_T_t 238 (by decide +kernel) rfl
set_option maxRecDepth 100000 in
theorem tw_250 : Cond.fieldLink RX5 18 "PawnedHours$Raising" "street" "LPawnedHours$Street;" ∈ ph_T := ph_T_t 250 (by decide +kernel) rfl
set_option maxRecDepth 100000 in
theorem tw_251 : Cond.fieldLink RX5 9 "PawnedHours$Raising" "lent" "[I" ∈ ph_T := ph_T_t 251 (by decide +kernel) rfl
set_option maxRecDepth 100000 in
theorem tw_252 : Cond.fieldLink RX5 15 "PawnedHours$Raising" "lentBelow" "[I" ∈ ph_T := ph_T_t 252 (by decide +kernel) rfl
set_option maxRecDepth 100000 in
theorem tw_253 : Cond.fieldLink RX5 22 "PawnedHours$Raising" "person" "I" ∈ ph_T := ph_T_t 253 (by decide +kernel) rfl
set_option maxRecDepth 100000 in
theorem tw_254 : Cond.fieldLink RX5 26 "PawnedHours$Raising" "sum" "I" ∈ ph_T := ph_T_t 254 (by decide +kernel) rfl
set_option maxRecDepth 100000 in
theorem tw_255 : Cond.fieldLink RX5 35 "PawnedHours$Raising" "mustKnow" "I" ∈ ph_T := ph_T_t 255 (by decide +kernel) rfl
set_option maxRecDepth 100000 in
theorem tw_256 : Cond.fieldLink RX5 38 "PawnedHours$Raising" "allowed" "I" ∈ ph_T := ph_T_t 256 (by decide +kernel) rfl
set_option maxRecDepth 100000 in
theorem tw_257 : Cond.fieldLink RX5 53 "PawnedHours$Raising" "leastWorth" "I" ∈ ph_T := ph_T_t 257 (by decide +kernel) rfl
set_option maxRecDepth 100000 in
theorem tw_258 : Cond.fieldLink RX11 297 "PawnedHours$Raising" "leastWorth" "I" ∈ ph_T := ph_T_t 258 (by decide +kernel) rfl
set_option maxRecDepth 100000 in
theorem tw_259 : Cond.fieldLink RX5 60 "PawnedHours$Raising" "bestHours" "I" ∈ ph_T := ph_T_t 259 (by decide +kernel) rfl
set_option maxRecDepth 100000 in
theorem tw_260 : Cond.fieldLink RX11 300 "PawnedHours$Raising" "bestHours" "I" ∈ ph_T := ph_T_t 260 (by decide +kernel) rfl
set_option maxRecDepth 100000 in
theorem tw_261 : Cond.fieldLink RX5 63 "PawnedHours$Raising" "bestLent" "I" ∈ ph_T := ph_T_t 261 (by decide +kernel) rfl
set_option maxRecDepth 100000 in
theorem tw_262 : Cond.fieldLink RX11 303 "PawnedHours$Raising" "bestLent" "I" ∈ ph_T := ph_T_t 262 (by decide +kernel) rfl
set_option maxRecDepth 100000 in
theorem tw_290 : Cond.fieldLink RX7 24 "PawnedHours$Redeeming" "street" "LPawnedHours$Street;" ∈ ph_T := ph_T_t 290 (by decide +kernel) rfl
set_option maxRecDepth 100000 in
theorem tw_291 : Cond.fieldLink RX7 11 "PawnedHours$Redeeming" "hours" "[I" ∈ ph_T := ph_T_t 291 (by decide +kernel) rfl
set_option maxRecDepth 100000 in
theorem tw_292 : Cond.fieldLink RX7 15 "PawnedHours$Redeeming" "row" "[I" ∈ ph_T := ph_T_t 292 (by decide +kernel) rfl
set_option maxRecDepth 100000 in
theorem tw_293 : Cond.fieldLink RX7 18 "PawnedHours$Redeeming" "bestRow" "[I" ∈ ph_T := ph_T_t 293 (by decide +kernel) rfl
set_option maxRecDepth 100000 in
theorem tw_294 : Cond.fieldLink RX7 21 "PawnedHours$Redeeming" "costs" "[I" ∈ ph_T := ph_T_t 294 (by decide +kernel) rfl
set_option maxRecDepth 100000 in
theorem tw_295 : Cond.fieldLink RX7 28 "PawnedHours$Redeeming" "person" "I" ∈ ph_T := ph_T_t 295 (by decide +kernel) rfl
set_option maxRecDepth 100000 in
theorem tw_296 : Cond.fieldLink RX7 35 "PawnedHours$Redeeming" "size" "I" ∈ ph_T := ph_T_t 296 (by decide +kernel) rfl
set_option maxRecDepth 100000 in
theorem tw_297 : Cond.fieldLink RX7 32 "PawnedHours$Redeeming" "redeemed" "I" ∈ ph_T := ph_T_t 297 (by decide +kernel) rfl
set_option maxRecDepth 100000 in
theorem tw_298 : Cond.fieldLink RX7 61 "PawnedHours$Redeeming" "leastPaid" "I" ∈ ph_T := ph_T_t 298 (by decide +kernel) rfl
set_option maxRecDepth 100000 in
theorem tw_299 : Cond.fieldLink RX11 308 "PawnedHours$Redeeming" "leastPaid" "I" ∈ ph_T := ph_T_t 299 (by decide +kernel) rfl
set_option maxRecDepth 100000 in
theorem tw_325 : Cond.fieldLink RX3 18 "PawnedHours$Market" "street" "LPawnedHours$Street;" ∈ ph_T := ph_T_t 325 (by decide +kernel) rfl
set_option maxRecDepth 100000 in
theorem tw_326 : Cond.fieldLink RX3 11 "PawnedHours$Market" "most" "[I" ∈ ph_T := ph_T_t 326 (by decide +kernel) rfl
set_option maxRecDepth 100000 in
theorem tw_327 : Cond.fieldLink RX3 15 "PawnedHours$Market" "buyers" "[I" ∈ ph_T := ph_T_t 327 (by decide +kernel) rfl
set_option maxRecDepth 100000 in
theorem tw_341 : Cond.fieldLink RX10 60 "PawnedHours$Years" "people" "I" ∈ ph_T := ph_T_t 341 (by decide +kernel) rfl
set_option maxRecDepth 100000 in
theorem tw_342 : Cond.fieldLink RX11 340 "PawnedHours$Years" "people" "I" ∈ ph_T := ph_T_t 342 (by decide +kernel) rfl
set_option maxRecDepth 100000 in
theorem tw_343 : Cond.fieldLink RX10 9 "PawnedHours$Years" "purses" "[I" ∈ ph_T := ph_T_t 343 (by decide +kernel) rfl
set_option maxRecDepth 100000 in
theorem tw_344 : Cond.fieldLink RX11 341 "PawnedHours$Years" "purses" "[I" ∈ ph_T := ph_T_t 344 (by decide +kernel) rfl
set_option maxRecDepth 100000 in
theorem tw_345 : Cond.fieldLink RX10 15 "PawnedHours$Years" "known" "[I" ∈ ph_T := ph_T_t 345 (by decide +kernel) rfl
set_option maxRecDepth 100000 in
theorem tw_346 : Cond.fieldLink RX11 342 "PawnedHours$Years" "known" "[I" ∈ ph_T := ph_T_t 346 (by decide +kernel) rfl
set_option maxRecDepth 100000 in
theorem tw_347 : Cond.fieldLink RX10 18 "PawnedHours$Years" "held" "[I" ∈ ph_T := ph_T_t 347 (by decide +kernel) rfl
set_option maxRecDepth 100000 in
theorem tw_348 : Cond.fieldLink RX11 345 "PawnedHours$Years" "held" "[I" ∈ ph_T := ph_T_t 348 (by decide +kernel) rfl
set_option maxRecDepth 100000 in
theorem tw_349 : Cond.fieldLink RX10 21 "PawnedHours$Years" "drawState" "J" ∈ ph_T := ph_T_t 349 (by decide +kernel) rfl
set_option maxRecDepth 100000 in
theorem tw_361 : Cond.fieldLink RX11 15 "PawnedHours" "street" "LPawnedHours$Street;" ∈ ph_T := ph_T_t 361 (by decide +kernel) rfl
set_option maxRecDepth 100000 in
theorem tw_362 : Cond.fieldLink RX11 21 "PawnedHours" "spare" "LPawnedHours$Street;" ∈ ph_T := ph_T_t 362 (by decide +kernel) rfl
set_option maxRecDepth 100000 in
theorem tw_363 : Cond.fieldLink RX11 24 "PawnedHours" "images" "[LPawnedHours$Street;" ∈ ph_T := ph_T_t 363 (by decide +kernel) rfl
set_option maxRecDepth 100000 in
theorem tw_364 : Cond.fieldLink RX11 28 "PawnedHours" "imageKept" "[Z" ∈ ph_T := ph_T_t 364 (by decide +kernel) rfl
set_option maxRecDepth 100000 in
theorem tw_365 : Cond.fieldLink RX11 35 "PawnedHours" "log" "LPawnedHours$Log;" ∈ ph_T := ph_T_t 365 (by decide +kernel) rfl
set_option maxRecDepth 100000 in
theorem tw_366 : Cond.fieldLink RX11 39 "PawnedHours" "spareLog" "LPawnedHours$Log;" ∈ ph_T := ph_T_t 366 (by decide +kernel) rfl
set_option maxRecDepth 100000 in
theorem tw_367 : Cond.fieldLink RX11 45 "PawnedHours" "reader" "LPawnedHours$Reader;" ∈ ph_T := ph_T_t 367 (by decide +kernel) rfl
set_option maxRecDepth 100000 in
theorem tw_369 : Cond.fieldLink RX11 61 "PawnedHours" "company" "LPawnedHours$Company;" ∈ ph_T := ph_T_t 369 (by decide +kernel) rfl
set_option maxRecDepth 100000 in
theorem tw_370 : Cond.fieldLink RX11 68 "PawnedHours" "raising" "LPawnedHours$Raising;" ∈ ph_T := ph_T_t 370 (by decide +kernel) rfl
set_option maxRecDepth 100000 in
theorem tw_371 : Cond.fieldLink RX11 75 "PawnedHours" "redeeming" "LPawnedHours$Redeeming;" ∈ ph_T := ph_T_t 371 (by decide +kernel) rfl
set_option maxRecDepth 100000 in
theorem tw_372 : Cond.fieldLink RX11 82 "PawnedHours" "market" "LPawnedHours$Market;" ∈ ph_T := ph_T_t 372 (by decide +kernel) rfl
set_option maxRecDepth 100000 in
theorem tw_373 : Cond.fieldLink RX11 89 "PawnedHours" "latestYears" "LPawnedHours$Years;" ∈ ph_T := ph_T_t 373 (by decide +kernel) rfl
set_option maxRecDepth 100000 in
theorem tw_374 : Cond.fieldLink RX11 93 "PawnedHours" "refusals" "[I" ∈ ph_T := ph_T_t 374 (by decide +kernel) rfl
set_option maxRecDepth 100000 in
theorem tw_375 : Cond.fieldLink RX11 97 "PawnedHours" "lastingParts" "[J" ∈ ph_T := ph_T_t 375 (by decide +kernel) rfl
set_option maxRecDepth 100000 in
theorem tw_376 : Cond.fieldLink RX11 101 "PawnedHours" "latestRain" "I" ∈ ph_T := ph_T_t 376 (by decide +kernel) rfl
set_option maxRecDepth 100000 in
theorem tw_377 : Cond.fieldLink RX11 105 "PawnedHours" "latestFault" "I" ∈ ph_T := ph_T_t 377 (by decide +kernel) rfl
set_option maxRecDepth 100000 in
theorem tw_378 : Cond.fieldLink RX11 108 "PawnedHours" "latestStop" "I" ∈ ph_T := ph_T_t 378 (by decide +kernel) rfl
set_option maxRecDepth 100000 in
theorem tw_379 : Cond.fieldLink RX11 111 "PawnedHours" "latestStatus" "I" ∈ ph_T := ph_T_t 379 (by decide +kernel) rfl
set_option maxRecDepth 100000 in
theorem tw_423 : Cond.methodLink RX11 117 yX11_refused ∈ ph_T := ph_T_t 423 (by decide +kernel) rfl
set_option maxRecDepth 100000 in
theorem tw_425 : Cond.instanceMethod yX11_refused ∈ ph_T := ph_T_t 425 (by decide +kernel) rfl
set_option maxRecDepth 100000 in
theorem tw_426 : Cond.code yX11_refused cX11_refused 2 (some .int) ∈ ph_T := ph_T_t 426 (by rfl) rfl
set_option maxRecDepth 100000 in
theorem tw_427 : Cond.methodLink RX11 121 yX1_forget ∈ ph_T := ph_T_t 427 (by decide +kernel) rfl
set_option maxRecDepth 100000 in
theorem tw_428 : Cond.instanceMethod yX1_forget ∈ ph_T := ph_T_t 428 (by decide +kernel) rfl
set_option maxRecDepth 100000 in
theorem tw_429 : Cond.selects yX1_forget.cls yX1_forget yX1_forget ∈ ph_T := ph_T_t 429 (by decide +kernel) rfl
set_option maxRecDepth 100000 in
theorem tw_430 : Cond.code yX1_forget cX1_forget 1 none ∈ ph_T := ph_T_t 430 (by rfl) rfl
set_option maxRecDepth 100000 in
theorem tw_431 : Cond.methodLink RX11 124 yX11_accepted ∈ ph_T := ph_T_t 431 (by decide +kernel) rfl
set_option maxRecDepth 100000 in
theorem tw_433 : Cond.instanceMethod yX11_accepted ∈ ph_T := ph_T_t 433 (by decide +kernel) rfl
set_option maxRecDepth 100000 in
theorem tw_434 : Cond.code yX11_accepted cX11_accepted 2 (some .int) ∈ ph_T := ph_T_t 434 (by rfl) rfl
set_option maxRecDepth 100000 in
theorem tw_439 : Cond.methodLink RX11 127 yX11_isHour ∈ ph_T := ph_T_t 439 (by decide +kernel) rfl
set_option maxRecDepth 100000 in
theorem tw_440 : Cond.static yX11_isHour ∈ ph_T := ph_T_t 440 (by decide +kernel) rfl
set_option maxRecDepth 100000 in
theorem tw_441 : Cond.code yX11_isHour cX11_isHour 1 (some .boolean) ∈ ph_T := ph_T_t 441 (by rfl) rfl
set_option maxRecDepth 100000 in
theorem tw_442 : Cond.methodLink RX11 131 yX9_canBeTold ∈ ph_T := ph_T_t 442 (by decide +kernel) rfl
set_option maxRecDepth 100000 in
theorem tw_443 : Cond.instanceMethod yX9_canBeTold ∈ ph_T := ph_T_t 443 (by decide +kernel) rfl
set_option maxRecDepth 100000 in
theorem tw_444 : Cond.selects yX9_canBeTold.cls yX9_canBeTold yX9_canBeTold ∈ ph_T := ph_T_t 444 (by decide +kernel) rfl
set_option maxRecDepth 100000 in
theorem tw_445 : Cond.code yX9_canBeTold cX9_canBeTold 4 (some .boolean) ∈ ph_T := ph_T_t 445 (by rfl) rfl
set_option maxRecDepth 100000 in
theorem tw_447 : Cond.static yX11_isFact ∈ ph_T := ph_T_t 447 (by decide +kernel) rfl
set_option maxRecDepth 100000 in
theorem tw_448 : Cond.code yX11_isFact cX11_isFact 1 (some .boolean) ∈ ph_T := ph_T_t 448 (by rfl) rfl
set_option maxRecDepth 100000 in
theorem tw_449 : Cond.methodLink RX9 81 yX9_arePeople ∈ ph_T := ph_T_t 449 (by decide +kernel) rfl
set_option maxRecDepth 100000 in
theorem tw_450 : Cond.instanceMethod yX9_arePeople ∈ ph_T := ph_T_t 450 (by decide +kernel) rfl
set_option maxRecDepth 100000 in
theorem tw_451 : Cond.selects yX9_arePeople.cls yX9_arePeople yX9_arePeople ∈ ph_T := ph_T_t 451 (by decide +kernel) rfl
set_option maxRecDepth 100000 in
theorem tw_452 : Cond.code yX9_arePeople cX9_arePeople 2 (some .boolean) ∈ ph_T := ph_T_t 452 (by rfl) rfl
set_option maxRecDepth 100000 in
theorem tw_453 : Cond.methodLink RX9 84 yX9_hasBit ∈ ph_T := ph_T_t 453 (by decide +kernel) rfl
set_option maxRecDepth 100000 in
theorem tw_454 : Cond.static yX9_hasBit ∈ ph_T := ph_T_t 454 (by decide +kernel) rfl
set_option maxRecDepth 100000 in
theorem tw_455 : Cond.code yX9_hasBit cX9_hasBit 2 (some .boolean) ∈ ph_T := ph_T_t 455 (by rfl) rfl
set_option maxRecDepth 100000 in
theorem tw_456 : Cond.methodLink RX11 135 yX9_isPerson ∈ ph_T := ph_T_t 456 (by decide +kernel) rfl
set_option maxRecDepth 100000 in
theorem tw_457 : Cond.instanceMethod yX9_isPerson ∈ ph_T := ph_T_t 457 (by decide +kernel) rfl
set_option maxRecDepth 100000 in
theorem tw_458 : Cond.selects yX9_isPerson.cls yX9_isPerson yX9_isPerson ∈ ph_T := ph_T_t 458 (by decide +kernel) rfl
set_option maxRecDepth 100000 in
theorem tw_459 : Cond.code yX9_isPerson cX9_isPerson 2 (some .boolean) ∈ ph_T := ph_T_t 459 (by rfl) rfl
set_option maxRecDepth 100000 in
theorem tw_460 : Cond.methodLink RX11 138 yX11_placeOf ∈ ph_T := ph_T_t 460 (by decide +kernel) rfl
set_option maxRecDepth 100000 in
theorem tw_461 : Cond.static yX11_placeOf ∈ ph_T := ph_T_t 461 (by decide +kernel) rfl
set_option maxRecDepth 100000 in
theorem tw_462 : Cond.code yX11_placeOf cX11_placeOf 2 (some .int) ∈ ph_T := ph_T_t 462 (by rfl) rfl
set_option maxRecDepth 100000 in
theorem tw_463 : Cond.methodLink RX11 142 yX9_tell ∈ ph_T := ph_T_t 463 (by decide +kernel) rfl
set_option maxRecDepth 100000 in
theorem tw_464 : Cond.instanceMethod yX9_tell ∈ ph_T := ph_T_t 464 (by decide +kernel) rfl
set_option maxRecDepth 100000 in
theorem tw_465 : Cond.selects yX9_tell.cls yX9_tell yX9_tell ∈ ph_T := ph_T_t 465 (by decide +kernel) rfl
set_option maxRecDepth 100000 in
theorem tw_466 : Cond.code yX9_tell cX9_tell 6 (some .int) ∈ ph_T := ph_T_t 466 (by rfl) rfl
set_option maxRecDepth 100000 in
theorem tw_471 : Cond.methodLink RX11 167 yX9_ruled ∈ ph_T := ph_T_t 471 (by decide +kernel) rfl
set_option maxRecDepth 100000 in
theorem tw_472 : Cond.instanceMethod yX9_ruled ∈ ph_T := ph_T_t 472 (by decide +kernel) rfl
set_option maxRecDepth 100000 in
theorem tw_473 : Cond.selects yX9_ruled.cls yX9_ruled yX9_ruled ∈ ph_T := ph_T_t 473 (by decide +kernel) rfl
set_option maxRecDepth 100000 in
theorem tw_474 : Cond.code yX9_ruled cX9_ruled 12 (some .int) ∈ ph_T := ph_T_t 474 (by rfl) rfl
set_option maxRecDepth 100000 in
theorem tw_476 : Cond.methodLink RX9 116 yX9_describe ∈ ph_T := ph_T_t 476 (by decide +kernel) rfl
set_option maxRecDepth 100000 in
theorem tw_478 : Cond.instanceMethod yX9_describe ∈ ph_T := ph_T_t 478 (by decide +kernel) rfl
set_option maxRecDepth 100000 in
theorem tw_479 : Cond.code yX9_describe cX9_describe 8 none ∈ ph_T := ph_T_t 479 (by rfl) rfl
set_option maxRecDepth 100000 in
theorem tw_480 : Cond.methodLink RX9 95 yJ6_bitCount_0f7a4 ∈ ph_T := ph_T_t 480 (by decide +kernel) rfl
set_option maxRecDepth 100000 in
theorem tw_481 : Cond.static yJ6_bitCount_0f7a4 ∈ ph_T := ph_T_t 481 (by decide +kernel) rfl
set_option maxRecDepth 100000 in
theorem tw_482 : Cond.code yJ6_bitCount_0f7a4 cJ6_bitCount_0f7a4 1 (some .int) ∈ ph_T := ph_T_t 482 (by rfl) rfl
set_option maxRecDepth 100000 in
theorem tw_483 : Cond.constant RJ6 265 (1431655765 : Int32) ∈ ph_T := ph_T_t 483 (by decide +kernel) rfl
set_option maxRecDepth 100000 in
theorem tw_484 : Cond.constant RJ6 266 (858993459 : Int32) ∈ ph_T := ph_T_t 484 (by decide +kernel) rfl
set_option maxRecDepth 100000 in
theorem tw_485 : Cond.constant RJ6 267 (252645135 : Int32) ∈ ph_T := ph_T_t 485 (by decide +kernel) rfl
set_option maxRecDepth 100000 in
theorem tw_486 : Cond.methodLink RX9 123 yX4_kindOf ∈ ph_T := ph_T_t 486 (by decide +kernel) rfl
set_option maxRecDepth 100000 in
theorem tw_487 : Cond.instanceMethod yX4_kindOf ∈ ph_T := ph_T_t 487 (by decide +kernel) rfl
set_option maxRecDepth 100000 in
theorem tw_488 : Cond.selects yX4_kindOf.cls yX4_kindOf yX4_kindOf ∈ ph_T := ph_T_t 488 (by decide +kernel) rfl
set_option maxRecDepth 100000 in
theorem tw_489 : Cond.code yX4_kindOf cX4_kindOf 2 (some .int) ∈ ph_T := ph_T_t 489 (by rfl) rfl
set_option maxRecDepth 100000 in
theorem tw_490 : Cond.methodLink RX9 126 yX4_isEmpty ∈ ph_T := ph_T_t 490 (by decide +kernel) rfl
set_option maxRecDepth 100000 in
theorem tw_491 : Cond.instanceMethod yX4_isEmpty ∈ ph_T := ph_T_t 491 (by decide +kernel) rfl
set_option maxRecDepth 100000 in
theorem tw_492 : Cond.selects yX4_isEmpty.cls yX4_isEmpty yX4_isEmpty ∈ ph_T := ph_T_t 492 (by decide +kernel) rfl
set_option maxRecDepth 100000 in
theorem tw_493 : Cond.code yX4_isEmpty cX4_isEmpty 3 (some .boolean) ∈ ph_T := ph_T_t 493 (by rfl) rfl
set_option maxRecDepth 100000 in
theorem tw_494 : Cond.methodLink RX4 20 yX4_startOf ∈ ph_T := ph_T_t 494 (by decide +kernel) rfl
set_option maxRecDepth 100000 in
theorem tw_495 : Cond.instanceMethod yX4_startOf ∈ ph_T := ph_T_t 495 (by decide +kernel) rfl
set_option maxRecDepth 100000 in
theorem tw_496 : Cond.selects yX4_startOf.cls yX4_startOf yX4_startOf ∈ ph_T := ph_T_t 496 (by decide +kernel) rfl
set_option maxRecDepth 100000 in
theorem tw_497 : Cond.code yX4_startOf cX4_startOf 3 (some .int) ∈ ph_T := ph_T_t 497 (by rfl) rfl
set_option maxRecDepth 100000 in
theorem tw_498 : Cond.methodLink RX4 24 yX4_endOf ∈ ph_T := ph_T_t 498 (by decide +kernel) rfl
set_option maxRecDepth 100000 in
theorem tw_499 : Cond.instanceMethod yX4_endOf ∈ ph_T := ph_T_t 499 (by decide +kernel) rfl
set_option maxRecDepth 100000 in
theorem tw_500 : Cond.selects yX4_endOf.cls yX4_endOf yX4_endOf ∈ ph_T := ph_T_t 500 (by decide +kernel) rfl
set_option maxRecDepth 100000 in
theorem tw_501 : Cond.code yX4_endOf cX4_endOf 3 (some .int) ∈ ph_T := ph_T_t 501 (by rfl) rfl
set_option maxRecDepth 100000 in
theorem tw_502 : Cond.methodLink RX9 129 yX2_value ∈ ph_T := ph_T_t 502 (by decide +kernel) rfl
set_option maxRecDepth 100000 in
theorem tw_503 : Cond.instanceMethod yX2_value ∈ ph_T := ph_T_t 503 (by decide +kernel) rfl
set_option maxRecDepth 100000 in
theorem tw_504 : Cond.selects yX2_value.cls yX2_value yX2_value ∈ ph_T := ph_T_t 504 (by decide +kernel) rfl
set_option maxRecDepth 100000 in
theorem tw_505 : Cond.code yX2_value cX2_value 10 (some .long) ∈ ph_T := ph_T_t 505 (by rfl) rfl
set_option maxRecDepth 100000 in
theorem tw_506 : Cond.methodLink RX2 21 yX4_endOf ∈ ph_T := ph_T_t 506 (by decide +kernel) rfl
set_option maxRecDepth 100000 in
theorem tw_507 : Cond.methodLink RX2 30 yJ9_min_7cf53 ∈ ph_T := ph_T_t 507 (by decide +kernel) rfl
set_option maxRecDepth 100000 in
theorem tw_508 : Cond.static yJ9_min_7cf53 ∈ ph_T := ph_T_t 508 (by decide +kernel) rfl
set_option maxRecDepth 100000 in
theorem tw_509 : Cond.code yJ9_min_7cf53 cJ9_min_7cf53 2 (some .int) ∈ ph_T := ph_T_t 509 (by rfl) rfl
set_option maxRecDepth 100000 in
theorem tw_510 : Cond.methodLink RX2 35 yX4_startOf ∈ ph_T := ph_T_t 510 (by decide +kernel) rfl
set_option maxRecDepth 100000 in
theorem tw_511 : Cond.constantLong RX2 38 (-4000000000000000000 : Int64) ∈ ph_T := ph_T_t 511 (by decide +kernel) rfl
set_option maxRecDepth 100000 in
theorem tw_512 : Cond.methodLink RX2 40 yX2_operand ∈ ph_T := ph_T_t 512 (by decide +kernel) rfl
set_option maxRecDepth 100000 in
theorem tw_514 : Cond.instanceMethod yX2_operand ∈ ph_T := ph_T_t 514 (by decide +kernel) rfl
set_option maxRecDepth 100000 in
theorem tw_515 : Cond.code yX2_operand cX2_operand 5 (some .long) ∈ ph_T := ph_T_t 515 (by rfl) rfl
set_option maxRecDepth 100000 in
theorem tw_516 : Cond.methodLink RX2 44 yJ9_max_7cf53 ∈ ph_T := ph_T_t 516 (by decide +kernel) rfl
set_option maxRecDepth 100000 in
theorem tw_517 : Cond.static yJ9_max_7cf53 ∈ ph_T := ph_T_t 517 (by decide +kernel) rfl
set_option maxRecDepth 100000 in
theorem tw_518 : Cond.code yJ9_max_7cf53 cJ9_max_7cf53 2 (some .int) ∈ ph_T := ph_T_t 518 (by rfl) rfl
set_option maxRecDepth 100000 in
theorem tw_519 : Cond.methodLink RX2 47 yX2_join ∈ ph_T := ph_T_t 519 (by decide +kernel) rfl
set_option maxRecDepth 100000 in
theorem tw_520 : Cond.static yX2_join ∈ ph_T := ph_T_t 520 (by decide +kernel) rfl
set_option maxRecDepth 100000 in
theorem tw_521 : Cond.code yX2_join cX2_join 7 (some .long) ∈ ph_T := ph_T_t 521 (by rfl) rfl
set_option maxRecDepth 100000 in
theorem tw_522 : Cond.constantLong RX2 51 (1000000000 : Int64) ∈ ph_T := ph_T_t 522 (by decide +kernel) rfl
set_option maxRecDepth 100000 in
theorem tw_523 : Cond.constantLong RX2 53 (-1000000000 : Int64) ∈ ph_T := ph_T_t 523 (by decide +kernel) rfl
set_option maxRecDepth 100000 in
theorem tw_524 : Cond.constantLong RX9 135 (-4000000000000000000 : Int64) ∈ ph_T := ph_T_t 524 (by decide +kernel) rfl
set_option maxRecDepth 100000 in
theorem tw_527 : Cond.methodLink RX9 140 yJ9_min_f86c9 ∈ ph_T := ph_T_t 527 (by decide +kernel) rfl
set_option maxRecDepth 100000 in
theorem tw_528 : Cond.static yJ9_min_f86c9 ∈ ph_T := ph_T_t 528 (by decide +kernel) rfl
set_option maxRecDepth 100000 in
theorem tw_529 : Cond.code yJ9_min_f86c9 cJ9_min_f86c9 4 (some .long) ∈ ph_T := ph_T_t 529 (by rfl) rfl
set_option maxRecDepth 100000 in
theorem tw_530 : Cond.methodLink RX9 144 yJ9_max_f86c9 ∈ ph_T := ph_T_t 530 (by decide +kernel) rfl
set_option maxRecDepth 100000 in
theorem tw_531 : Cond.static yJ9_max_f86c9 ∈ ph_T := ph_T_t 531 (by decide +kernel) rfl
set_option maxRecDepth 100000 in
theorem tw_532 : Cond.code yJ9_max_f86c9 cJ9_max_f86c9 4 (some .long) ∈ ph_T := ph_T_t 532 (by rfl) rfl
set_option maxRecDepth 100000 in
theorem tw_537 : Cond.constant RX11 171 (99999 : Int32) ∈ ph_T := ph_T_t 537 (by decide +kernel) rfl
set_option maxRecDepth 100000 in
theorem tw_542 : Cond.methodLink RX11 175 yX9_hoursThatAre ∈ ph_T := ph_T_t 542 (by decide +kernel) rfl
set_option maxRecDepth 100000 in
theorem tw_543 : Cond.instanceMethod yX9_hoursThatAre ∈ ph_T := ph_T_t 543 (by decide +kernel) rfl
set_option maxRecDepth 100000 in
theorem tw_544 : Cond.selects yX9_hoursThatAre.cls yX9_hoursThatAre yX9_hoursThatAre ∈ ph_T := ph_T_t 544 (by decide +kernel) rfl
set_option maxRecDepth 100000 in
theorem tw_545 : Cond.code yX9_hoursThatAre cX9_hoursThatAre 5 (some .int) ∈ ph_T := ph_T_t 545 (by rfl) rfl
set_option maxRecDepth 100000 in
theorem tw_546 : Cond.methodLink RX11 178 yJ6_bitCount_0f7a4 ∈ ph_T := ph_T_t 546 (by decide +kernel) rfl
set_option maxRecDepth 100000 in
theorem tw_547 : Cond.methodLink RX11 183 yX9_knownWithout ∈ ph_T := ph_T_t 547 (by decide +kernel) rfl
set_option maxRecDepth 100000 in
theorem tw_548 : Cond.instanceMethod yX9_knownWithout ∈ ph_T := ph_T_t 548 (by decide +kernel) rfl
set_option maxRecDepth 100000 in
theorem tw_549 : Cond.selects yX9_knownWithout.cls yX9_knownWithout yX9_knownWithout ∈ ph_T := ph_T_t 549 (by decide +kernel) rfl
set_option maxRecDepth 100000 in
theorem tw_550 : Cond.code yX9_knownWithout cX9_knownWithout 5 (some .int) ∈ ph_T := ph_T_t 550 (by rfl) rfl
set_option maxRecDepth 100000 in
theorem tw_551 : Cond.methodLink RX9 106 yX9_holds ∈ ph_T := ph_T_t 551 (by decide +kernel) rfl
set_option maxRecDepth 100000 in
theorem tw_552 : Cond.instanceMethod yX9_holds ∈ ph_T := ph_T_t 552 (by decide +kernel) rfl
set_option maxRecDepth 100000 in
theorem tw_553 : Cond.selects yX9_holds.cls yX9_holds yX9_holds ∈ ph_T := ph_T_t 553 (by decide +kernel) rfl
set_option maxRecDepth 100000 in
theorem tw_554 : Cond.code yX9_holds cX9_holds 3 (some .boolean) ∈ ph_T := ph_T_t 554 (by rfl) rfl
set_option maxRecDepth 100000 in
theorem tw_555 : Cond.methodLink RX9 113 yX9_learnable ∈ ph_T := ph_T_t 555 (by decide +kernel) rfl
set_option maxRecDepth 100000 in
theorem tw_557 : Cond.instanceMethod yX9_learnable ∈ ph_T := ph_T_t 557 (by decide +kernel) rfl
set_option maxRecDepth 100000 in
theorem tw_558 : Cond.code yX9_learnable cX9_learnable 3 (some .int) ∈ ph_T := ph_T_t 558 (by rfl) rfl
set_option maxRecDepth 100000 in
theorem tw_563 : Cond.methodLink RX11 186 yX11_isFact ∈ ph_T := ph_T_t 563 (by decide +kernel) rfl
set_option maxRecDepth 100000 in
theorem tw_568 : Cond.fieldLink RX11 192 "PawnedHours" (ph_tn 0) "[I" ∈ ph_T := ph_T_t 568 (by decide +kernel) rfl
set_option maxRecDepth 100000 in
theorem tw_570 : Cond.fieldLink RX11 195 "PawnedHours" (ph_tn 1) "[I" ∈ ph_T := ph_T_t 570 (by decide +kernel) rfl
set_option maxRecDepth 100000 in
theorem tw_572 : Cond.methodLink RX11 198 yX9_latestPawnDay ∈ ph_T := ph_T_t 572 (by decide +kernel) rfl
set_option maxRecDepth 100000 in
theorem tw_573 : Cond.instanceMethod yX9_latestPawnDay ∈ ph_T := ph_T_t 573 (by decide +kernel) rfl
set_option maxRecDepth 100000 in
theorem tw_574 : Cond.selects yX9_latestPawnDay.cls yX9_latestPawnDay yX9_latestPawnDay ∈ ph_T := ph_T_t 574 (by decide +kernel) rfl
set_option maxRecDepth 100000 in
theorem tw_575 : Cond.code yX9_latestPawnDay cX9_latestPawnDay 3 (some .int) ∈ ph_T := ph_T_t 575 (by rfl) rfl
set_option maxRecDepth 100000 in
theorem tw_576 : Cond.methodLink RX9 101 yJ9_max_7cf53 ∈ ph_T := ph_T_t 576 (by decide +kernel) rfl
set_option maxRecDepth 100000 in
theorem tw_581 : Cond.methodLink RX11 205 yX6_addFour ∈ ph_T := ph_T_t 581 (by decide +kernel) rfl
set_option maxRecDepth 100000 in
theorem tw_582 : Cond.instanceMethod yX6_addFour ∈ ph_T := ph_T_t 582 (by decide +kernel) rfl
set_option maxRecDepth 100000 in
theorem tw_583 : Cond.selects yX6_addFour.cls yX6_addFour yX6_addFour ∈ ph_T := ph_T_t 583 (by decide +kernel) rfl
set_option maxRecDepth 100000 in
theorem tw_584 : Cond.code yX6_addFour cX6_addFour 3 none ∈ ph_T := ph_T_t 584 (by rfl) rfl
set_option maxRecDepth 100000 in
theorem tw_593 : Cond.methodLink RX11 209 yX11_tellFromTape ∈ ph_T := ph_T_t 593 (by decide +kernel) rfl
set_option maxRecDepth 100000 in
theorem tw_595 : Cond.instanceMethod yX11_tellFromTape ∈ ph_T := ph_T_t 595 (by decide +kernel) rfl
set_option maxRecDepth 100000 in
theorem tw_596 : Cond.code yX11_tellFromTape cX11_tellFromTape 8 (some .boolean) ∈ ph_T := ph_T_t 596 (by rfl) rfl
set_option maxRecDepth 100000 in
theorem tw_613 : Cond.methodLink RX6 88 yX6_kindOfByte ∈ ph_T := ph_T_t 613 (by decide +kernel) rfl
set_option maxRecDepth 100000 in
theorem tw_614 : Cond.static yX6_kindOfByte ∈ ph_T := ph_T_t 614 (by decide +kernel) rfl
set_option maxRecDepth 100000 in
theorem tw_615 : Cond.code yX6_kindOfByte cX6_kindOfByte 1 (some .int) ∈ ph_T := ph_T_t 615 (by rfl) rfl
set_option maxRecDepth 100000 in
theorem tw_620 : Cond.methodLink RX6 111 yX6_kindHere ∈ ph_T := ph_T_t 620 (by decide +kernel) rfl
set_option maxRecDepth 100000 in
theorem tw_622 : Cond.instanceMethod yX6_kindHere ∈ ph_T := ph_T_t 622 (by decide +kernel) rfl
set_option maxRecDepth 100000 in
theorem tw_623 : Cond.code yX6_kindHere cX6_kindHere 1 (some .int) ∈ ph_T := ph_T_t 623 (by rfl) rfl
set_option maxRecDepth 100000 in
theorem tw_626 : Cond.methodLink RX6 63 yX6_says ∈ ph_T := ph_T_t 626 (by decide +kernel) rfl
set_option maxRecDepth 100000 in
theorem tw_628 : Cond.instanceMethod yX6_says ∈ ph_T := ph_T_t 628 (by decide +kernel) rfl
set_option maxRecDepth 100000 in
theorem tw_629 : Cond.code yX6_says cX6_says 4 (some .boolean) ∈ ph_T := ph_T_t 629 (by rfl) rfl
set_option maxRecDepth 100000 in
theorem tw_630 : Cond.methodLink RX6 98 yJ0_length_8abf5 ∈ ph_T := ph_T_t 630 (by decide +kernel) rfl
set_option maxRecDepth 100000 in
theorem tw_631 : Cond.instanceMethod yJ0_length_8abf5 ∈ ph_T := ph_T_t 631 (by decide +kernel) rfl
set_option maxRecDepth 100000 in
theorem tw_632 : Cond.selects yJ0_length_8abf5.cls yJ0_length_8abf5 yJ0_length_8abf5 ∈ ph_T := ph_T_t 632 (by decide +kernel) rfl
set_option maxRecDepth 100000 in
theorem tw_633 : Cond.code yJ0_length_8abf5 cJ0_length_8abf5 1 (some .int) ∈ ph_T := ph_T_t 633 (by rfl) rfl
set_option maxRecDepth 100000 in
theorem tw_634 : Cond.methodLink RJ0 335 yJ0_coder_7d493 ∈ ph_T := ph_T_t 634 (by decide +kernel) rfl
set_option maxRecDepth 100000 in
theorem tw_635 : Cond.instanceMethod yJ0_coder_7d493 ∈ ph_T := ph_T_t 635 (by decide +kernel) rfl
set_option maxRecDepth 100000 in
theorem tw_636 : Cond.selects yJ0_coder_7d493.cls yJ0_coder_7d493 yJ0_coder_7d493 ∈ ph_T := ph_T_t 636 (by decide +kernel) rfl
set_option maxRecDepth 100000 in
theorem tw_637 : Cond.code yJ0_coder_7d493 cJ0_coder_7d493 1 (some .byte) ∈ ph_T := ph_T_t 637 (by rfl) rfl
set_option maxRecDepth 100000 in
theorem tw_638 : Cond.fieldLink RJ0 38 "java/lang/String" "COMPACT_STRINGS" "Z" ∈ ph_T := ph_T_t 638 (by decide +kernel) rfl
set_option maxRecDepth 100000 in
theorem tw_640 : Cond.methodLink RX6 103 yJ0_charAt_5068e ∈ ph_T := ph_T_t 640 (by decide +kernel) rfl
set_option maxRecDepth 100000 in
theorem tw_641 : Cond.instanceMethod yJ0_charAt_5068e ∈ ph_T := ph_T_t 641 (by decide +kernel) rfl
set_option maxRecDepth 100000 in
theorem tw_642 : Cond.selects yJ0_charAt_5068e.cls yJ0_charAt_5068e yJ0_charAt_5068e ∈ ph_T := ph_T_t 642 (by decide +kernel) rfl
set_option maxRecDepth 100000 in
theorem tw_643 : Cond.code yJ0_charAt_5068e cJ0_charAt_5068e 2 (some .char) ∈ ph_T := ph_T_t 643 (by rfl) rfl
set_option maxRecDepth 100000 in
theorem tw_644 : Cond.methodLink RJ0 492 yJ0_isLatin1_aae02 ∈ ph_T := ph_T_t 644 (by decide +kernel) rfl
set_option maxRecDepth 100000 in
theorem tw_645 : Cond.instanceMethod yJ0_isLatin1_aae02 ∈ ph_T := ph_T_t 645 (by decide +kernel) rfl
set_option maxRecDepth 100000 in
theorem tw_646 : Cond.selects yJ0_isLatin1_aae02.cls yJ0_isLatin1_aae02 yJ0_isLatin1_aae02 ∈ ph_T := ph_T_t 646 (by decide +kernel) rfl
set_option maxRecDepth 100000 in
theorem tw_647 : Cond.code yJ0_isLatin1_aae02 cJ0_isLatin1_aae02 1 (some .boolean) ∈ ph_T := ph_T_t 647 (by rfl) rfl
set_option maxRecDepth 100000 in
theorem tw_648 : Cond.methodLink RJ0 495 yJ1_charAt_3b067 ∈ ph_T := ph_T_t 648 (by decide +kernel) rfl
set_option maxRecDepth 100000 in
theorem tw_649 : Cond.static yJ1_charAt_3b067 ∈ ph_T := ph_T_t 649 (by decide +kernel) rfl
set_option maxRecDepth 100000 in
theorem tw_650 : Cond.code yJ1_charAt_3b067 cJ1_charAt_3b067 2 (some .char) ∈ ph_T := ph_T_t 650 (by rfl) rfl
set_option maxRecDepth 100000 in
theorem tw_651 : Cond.methodLink RJ1 9 yJ0_checkIndex_df160 ∈ ph_T := ph_T_t 651 (by decide +kernel) rfl
set_option maxRecDepth 100000 in
theorem tw_652 : Cond.static yJ0_checkIndex_df160 ∈ ph_T := ph_T_t 652 (by decide +kernel) rfl
set_option maxRecDepth 100000 in
theorem tw_653 : Cond.code yJ0_checkIndex_df160 cJ0_checkIndex_df160 2 none ∈ ph_T := ph_T_t 653 (by rfl) rfl
set_option maxRecDepth 100000 in
theorem tw_654 : Cond.fieldLink RJ0 1053 "jdk/internal/util/Preconditions" "SIOOBE_FORMATTER" "Ljava/util/function/BiFunction;" ∈ ph_T := ph_T_t 654 (by decide +kernel) rfl
set_option maxRecDepth 100000 in
theorem tw_656 : Cond.methodLink RJ0 1059 yJ3_checkIndex_8e157 ∈ ph_T := ph_T_t 656 (by decide +kernel) rfl
set_option maxRecDepth 100000 in
theorem tw_657 : Cond.static yJ3_checkIndex_8e157 ∈ ph_T := ph_T_t 657 (by decide +kernel) rfl
set_option maxRecDepth 100000 in
theorem tw_658 : Cond.code yJ3_checkIndex_8e157 cJ3_checkIndex_8e157 3 (some .int) ∈ ph_T := ph_T_t 658 (by rfl) rfl
set_option maxRecDepth 100000 in
theorem tw_682 : Cond.methodLink RX6 76 yX6_fail ∈ ph_T := ph_T_t 682 (by decide +kernel) rfl
set_option maxRecDepth 100000 in
theorem tw_684 : Cond.instanceMethod yX6_fail ∈ ph_T := ph_T_t 684 (by decide +kernel) rfl
set_option maxRecDepth 100000 in
theorem tw_685 : Cond.code yX6_fail cX6_fail 1 none ∈ ph_T := ph_T_t 685 (by rfl) rfl
set_option maxRecDepth 100000 in
theorem tw_686 : Cond.methodLink RX6 67 yX6_advance ∈ ph_T := ph_T_t 686 (by decide +kernel) rfl
set_option maxRecDepth 100000 in
theorem tw_688 : Cond.instanceMethod yX6_advance ∈ ph_T := ph_T_t 688 (by decide +kernel) rfl
set_option maxRecDepth 100000 in
theorem tw_689 : Cond.code yX6_advance cX6_advance 1 none ∈ ph_T := ph_T_t 689 (by rfl) rfl
set_option maxRecDepth 100000 in
theorem tw_690 : Cond.methodLink RX6 92 yJ9_min_7cf53 ∈ ph_T := ph_T_t 690 (by decide +kernel) rfl
set_option maxRecDepth 100000 in
theorem tw_691 : Cond.methodLink RX6 114 yX6_startPiece ∈ ph_T := ph_T_t 691 (by decide +kernel) rfl
set_option maxRecDepth 100000 in
theorem tw_693 : Cond.instanceMethod yX6_startPiece ∈ ph_T := ph_T_t 693 (by decide +kernel) rfl
set_option maxRecDepth 100000 in
theorem tw_694 : Cond.code yX6_startPiece cX6_startPiece 3 none ∈ ph_T := ph_T_t 694 (by rfl) rfl
set_option maxRecDepth 100000 in
theorem tw_695 : Cond.methodLink RX6 118 yX6_readSum ∈ ph_T := ph_T_t 695 (by decide +kernel) rfl
set_option maxRecDepth 100000 in
theorem tw_697 : Cond.instanceMethod yX6_readSum ∈ ph_T := ph_T_t 697 (by decide +kernel) rfl
set_option maxRecDepth 100000 in
theorem tw_698 : Cond.code yX6_readSum cX6_readSum 3 none ∈ ph_T := ph_T_t 698 (by rfl) rfl
set_option maxRecDepth 100000 in
theorem tw_699 : Cond.methodLink RX6 189 yX6_readTerm ∈ ph_T := ph_T_t 699 (by decide +kernel) rfl
set_option maxRecDepth 100000 in
theorem tw_701 : Cond.instanceMethod yX6_readTerm ∈ ph_T := ph_T_t 701 (by decide +kernel) rfl
set_option maxRecDepth 100000 in
theorem tw_702 : Cond.code yX6_readTerm cX6_readTerm 3 none ∈ ph_T := ph_T_t 702 (by rfl) rfl
set_option maxRecDepth 100000 in
theorem tw_703 : Cond.methodLink RX6 196 yX6_readPart ∈ ph_T := ph_T_t 703 (by decide +kernel) rfl
set_option maxRecDepth 100000 in
theorem tw_705 : Cond.instanceMethod yX6_readPart ∈ ph_T := ph_T_t 705 (by decide +kernel) rfl
set_option maxRecDepth 100000 in
theorem tw_706 : Cond.code yX6_readPart cX6_readPart 4 none ∈ ph_T := ph_T_t 706 (by rfl) rfl
set_option maxRecDepth 100000 in
theorem tw_708 : Cond.methodLink RX6 172 yX6_open ∈ ph_T := ph_T_t 708 (by decide +kernel) rfl
set_option maxRecDepth 100000 in
theorem tw_710 : Cond.instanceMethod yX6_open ∈ ph_T := ph_T_t 710 (by decide +kernel) rfl
set_option maxRecDepth 100000 in
theorem tw_711 : Cond.code yX6_open cX6_open 1 none ∈ ph_T := ph_T_t 711 (by rfl) rfl
set_option maxRecDepth 100000 in
theorem tw_713 : Cond.methodLink RX6 123 yX6_expect ∈ ph_T := ph_T_t 713 (by decide +kernel) rfl
set_option maxRecDepth 100000 in
theorem tw_715 : Cond.instanceMethod yX6_expect ∈ ph_T := ph_T_t 715 (by decide +kernel) rfl
set_option maxRecDepth 100000 in
theorem tw_716 : Cond.code yX6_expect cX6_expect 2 none ∈ ph_T := ph_T_t 716 (by rfl) rfl
set_option maxRecDepth 100000 in
theorem tw_717 : Cond.methodLink RX6 107 yX6_isNumber ∈ ph_T := ph_T_t 717 (by decide +kernel) rfl
set_option maxRecDepth 100000 in
theorem tw_719 : Cond.instanceMethod yX6_isNumber ∈ ph_T := ph_T_t 719 (by decide +kernel) rfl
set_option maxRecDepth 100000 in
theorem tw_720 : Cond.code yX6_isNumber cX6_isNumber 1 (some .boolean) ∈ ph_T := ph_T_t 720 (by rfl) rfl
set_option maxRecDepth 100000 in
theorem tw_721 : Cond.methodLink RX6 209 yX6_wordOfOrders ∈ ph_T := ph_T_t 721 (by decide +kernel) rfl
set_option maxRecDepth 100000 in
theorem tw_723 : Cond.instanceMethod yX6_wordOfOrders ∈ ph_T := ph_T_t 723 (by decide +kernel) rfl
set_option maxRecDepth 100000 in
theorem tw_724 : Cond.code yX6_wordOfOrders cX6_wordOfOrders 1 (some .int) ∈ ph_T := ph_T_t 724 (by rfl) rfl
set_option maxRecDepth 100000 in
theorem tw_731 : Cond.methodLink RX6 212 yX6_wordOfLaw ∈ ph_T := ph_T_t 731 (by decide +kernel) rfl
set_option maxRecDepth 100000 in
theorem tw_733 : Cond.instanceMethod yX6_wordOfLaw ∈ ph_T := ph_T_t 733 (by decide +kernel) rfl
set_option maxRecDepth 100000 in
theorem tw_734 : Cond.code yX6_wordOfLaw cX6_wordOfLaw 1 (some .int) ∈ ph_T := ph_T_t 734 (by rfl) rfl
set_option maxRecDepth 100000 in
theorem tw_744 : Cond.methodLink RX6 129 yX6_readNumber ∈ ph_T := ph_T_t 744 (by decide +kernel) rfl
set_option maxRecDepth 100000 in
theorem tw_746 : Cond.instanceMethod yX6_readNumber ∈ ph_T := ph_T_t 746 (by decide +kernel) rfl
set_option maxRecDepth 100000 in
theorem tw_747 : Cond.code yX6_readNumber cX6_readNumber 5 (some .int) ∈ ph_T := ph_T_t 747 (by rfl) rfl
set_option maxRecDepth 100000 in
theorem tw_748 : Cond.methodLink RX6 180 yX6_add ∈ ph_T := ph_T_t 748 (by decide +kernel) rfl
set_option maxRecDepth 100000 in
theorem tw_750 : Cond.instanceMethod yX6_add ∈ ph_T := ph_T_t 750 (by decide +kernel) rfl
set_option maxRecDepth 100000 in
theorem tw_751 : Cond.code yX6_add cX6_add 3 none ∈ ph_T := ph_T_t 751 (by rfl) rfl
set_option maxRecDepth 100000 in
theorem tw_760 : Cond.methodLink RX6 134 yX6_readTest ∈ ph_T := ph_T_t 760 (by decide +kernel) rfl
set_option maxRecDepth 100000 in
theorem tw_762 : Cond.instanceMethod yX6_readTest ∈ ph_T := ph_T_t 762 (by decide +kernel) rfl
set_option maxRecDepth 100000 in
theorem tw_763 : Cond.code yX6_readTest cX6_readTest 3 none ∈ ph_T := ph_T_t 763 (by rfl) rfl
set_option maxRecDepth 100000 in
theorem tw_764 : Cond.methodLink RX6 149 yX6_readBoth ∈ ph_T := ph_T_t 764 (by decide +kernel) rfl
set_option maxRecDepth 100000 in
theorem tw_766 : Cond.instanceMethod yX6_readBoth ∈ ph_T := ph_T_t 766 (by decide +kernel) rfl
set_option maxRecDepth 100000 in
theorem tw_767 : Cond.code yX6_readBoth cX6_readBoth 3 none ∈ ph_T := ph_T_t 767 (by rfl) rfl
set_option maxRecDepth 100000 in
theorem tw_768 : Cond.methodLink RX6 163 yX6_readPlain ∈ ph_T := ph_T_t 768 (by decide +kernel) rfl
set_option maxRecDepth 100000 in
theorem tw_770 : Cond.instanceMethod yX6_readPlain ∈ ph_T := ph_T_t 770 (by decide +kernel) rfl
set_option maxRecDepth 100000 in
theorem tw_771 : Cond.code yX6_readPlain cX6_readPlain 3 none ∈ ph_T := ph_T_t 771 (by rfl) rfl
set_option maxRecDepth 100000 in
theorem tw_775 : Cond.methodLink RX6 177 yX6_comparisonHere ∈ ph_T := ph_T_t 775 (by decide +kernel) rfl
set_option maxRecDepth 100000 in
theorem tw_777 : Cond.instanceMethod yX6_comparisonHere ∈ ph_T := ph_T_t 777 (by decide +kernel) rfl
set_option maxRecDepth 100000 in
theorem tw_778 : Cond.code yX6_comparisonHere cX6_comparisonHere 1 (some .int) ∈ ph_T := ph_T_t 778 (by rfl) rfl
set_option maxRecDepth 100000 in
theorem tw_783 : Cond.methodLink RX6 156 yX6_addJump ∈ ph_T := ph_T_t 783 (by decide +kernel) rfl
set_option maxRecDepth 100000 in
theorem tw_785 : Cond.instanceMethod yX6_addJump ∈ ph_T := ph_T_t 785 (by decide +kernel) rfl
set_option maxRecDepth 100000 in
theorem tw_786 : Cond.code yX6_addJump cX6_addJump 3 (some .int) ∈ ph_T := ph_T_t 786 (by rfl) rfl
set_option maxRecDepth 100000 in
theorem tw_787 : Cond.methodLink RX6 159 yX6_land ∈ ph_T := ph_T_t 787 (by decide +kernel) rfl
set_option maxRecDepth 100000 in
theorem tw_789 : Cond.instanceMethod yX6_land ∈ ph_T := ph_T_t 789 (by decide +kernel) rfl
set_option maxRecDepth 100000 in
theorem tw_790 : Cond.code yX6_land cX6_land 2 none ∈ ph_T := ph_T_t 790 (by rfl) rfl
set_option maxRecDepth 100000 in
theorem tw_812 : Cond.fieldLink RX8 30 "PawnedHours$Program" "clauses" "I" ∈ ph_T := ph_T_t 812 (by decide +kernel) rfl
set_option maxRecDepth 100000 in
theorem tw_813 : Cond.fieldLink RX9 120 "PawnedHours$Program" "clauses" "I" ∈ ph_T := ph_T_t 813 (by decide +kernel) rfl
set_option maxRecDepth 100000 in
theorem tw_814 : Cond.fieldLink RX4 13 "PawnedHours$Program" "heads" "[I" ∈ ph_T := ph_T_t 814 (by decide +kernel) rfl
set_option maxRecDepth 100000 in
theorem tw_816 : Cond.fieldLink RX2 27 "PawnedHours$Program" "code" "[I" ∈ ph_T := ph_T_t 816 (by decide +kernel) rfl
set_option maxRecDepth 100000 in
theorem tw_829 : Cond.methodLink RX11 227 yX9_copyFrom ∈ ph_T := ph_T_t 829 (by decide +kernel) rfl
set_option maxRecDepth 100000 in
theorem tw_830 : Cond.instanceMethod yX9_copyFrom ∈ ph_T := ph_T_t 830 (by decide +kernel) rfl
set_option maxRecDepth 100000 in
theorem tw_831 : Cond.selects yX9_copyFrom.cls yX9_copyFrom yX9_copyFrom ∈ ph_T := ph_T_t 831 (by decide +kernel) rfl
set_option maxRecDepth 100000 in
theorem tw_832 : Cond.code yX9_copyFrom cX9_copyFrom 3 none ∈ ph_T := ph_T_t 832 (by rfl) rfl
set_option maxRecDepth 100000 in
theorem tw_837 : Cond.methodLink RX1 36 arraycopyName ∈ ph_T := ph_T_t 837 (by decide +kernel) rfl
set_option maxRecDepth 100000 in
theorem tw_842 : Cond.methodLink RX8 26 yX8_look ∈ ph_T := ph_T_t 842 (by decide +kernel) rfl
set_option maxRecDepth 100000 in
theorem tw_844 : Cond.instanceMethod yX8_look ∈ ph_T := ph_T_t 844 (by decide +kernel) rfl
set_option maxRecDepth 100000 in
theorem tw_845 : Cond.code yX8_look cX8_look 4 none ∈ ph_T := ph_T_t 845 (by rfl) rfl
set_option maxRecDepth 100000 in
theorem tw_846 : Cond.methodLink RX8 84 yX9_isPerson ∈ ph_T := ph_T_t 846 (by decide +kernel) rfl
set_option maxRecDepth 100000 in
theorem tw_847 : Cond.methodLink RX8 88 yX9_hoursThatAre ∈ ph_T := ph_T_t 847 (by decide +kernel) rfl
set_option maxRecDepth 100000 in
theorem tw_848 : Cond.methodLink RX8 92 yJ6_bitCount_0f7a4 ∈ ph_T := ph_T_t 848 (by decide +kernel) rfl
set_option maxRecDepth 100000 in
theorem tw_849 : Cond.methodLink RX8 97 yX9_knownWithout ∈ ph_T := ph_T_t 849 (by decide +kernel) rfl
set_option maxRecDepth 100000 in
theorem tw_850 : Cond.methodLink RX8 35 yX4_timesOf ∈ ph_T := ph_T_t 850 (by decide +kernel) rfl
set_option maxRecDepth 100000 in
theorem tw_851 : Cond.instanceMethod yX4_timesOf ∈ ph_T := ph_T_t 851 (by decide +kernel) rfl
set_option maxRecDepth 100000 in
theorem tw_852 : Cond.selects yX4_timesOf.cls yX4_timesOf yX4_timesOf ∈ ph_T := ph_T_t 852 (by decide +kernel) rfl
set_option maxRecDepth 100000 in
theorem tw_853 : Cond.code yX4_timesOf cX4_timesOf 2 (some .int) ∈ ph_T := ph_T_t 853 (by rfl) rfl
set_option maxRecDepth 100000 in
theorem tw_854 : Cond.methodLink RX8 44 yX4_isEmpty ∈ ph_T := ph_T_t 854 (by decide +kernel) rfl
set_option maxRecDepth 100000 in
theorem tw_855 : Cond.methodLink RX8 48 yX2_value ∈ ph_T := ph_T_t 855 (by decide +kernel) rfl
set_option maxRecDepth 100000 in
theorem tw_856 : Cond.methodLink RX8 52 yX8_runOnce ∈ ph_T := ph_T_t 856 (by decide +kernel) rfl
set_option maxRecDepth 100000 in
theorem tw_858 : Cond.instanceMethod yX8_runOnce ∈ ph_T := ph_T_t 858 (by decide +kernel) rfl
set_option maxRecDepth 100000 in
theorem tw_859 : Cond.code yX8_runOnce cX8_runOnce 11 (some .boolean) ∈ ph_T := ph_T_t 859 (by rfl) rfl
set_option maxRecDepth 100000 in
theorem tw_860 : Cond.methodLink RX8 56 yX4_kindOf ∈ ph_T := ph_T_t 860 (by decide +kernel) rfl
set_option maxRecDepth 100000 in
theorem tw_861 : Cond.methodLink RX8 59 yX9_tryNextDay ∈ ph_T := ph_T_t 861 (by decide +kernel) rfl
set_option maxRecDepth 100000 in
theorem tw_862 : Cond.instanceMethod yX9_tryNextDay ∈ ph_T := ph_T_t 862 (by decide +kernel) rfl
set_option maxRecDepth 100000 in
theorem tw_863 : Cond.selects yX9_tryNextDay.cls yX9_tryNextDay yX9_tryNextDay ∈ ph_T := ph_T_t 863 (by decide +kernel) rfl
set_option maxRecDepth 100000 in
theorem tw_864 : Cond.code yX9_tryNextDay cX9_tryNextDay 3 (some .int) ∈ ph_T := ph_T_t 864 (by rfl) rfl
set_option maxRecDepth 100000 in
theorem tw_865 : Cond.methodLink RX9 153 yX1_add ∈ ph_T := ph_T_t 865 (by decide +kernel) rfl
set_option maxRecDepth 100000 in
theorem tw_866 : Cond.instanceMethod yX1_add ∈ ph_T := ph_T_t 866 (by decide +kernel) rfl
set_option maxRecDepth 100000 in
theorem tw_867 : Cond.selects yX1_add.cls yX1_add yX1_add ∈ ph_T := ph_T_t 867 (by decide +kernel) rfl
set_option maxRecDepth 100000 in
theorem tw_868 : Cond.code yX1_add cX1_add 5 none ∈ ph_T := ph_T_t 868 (by rfl) rfl
set_option maxRecDepth 100000 in
theorem tw_869 : Cond.methodLink RX1 45 yJ9_min_7cf53 ∈ ph_T := ph_T_t 869 (by decide +kernel) rfl
set_option maxRecDepth 100000 in
theorem tw_870 : Cond.constant RX9 159 (99999 : Int32) ∈ ph_T := ph_T_t 870 (by decide +kernel) rfl
set_option maxRecDepth 100000 in
theorem tw_871 : Cond.methodLink RX9 160 yJ9_min_7cf53 ∈ ph_T := ph_T_t 871 (by decide +kernel) rfl
set_option maxRecDepth 100000 in
theorem tw_872 : Cond.methodLink RX8 69 arraycopyName ∈ ph_T := ph_T_t 872 (by decide +kernel) rfl
set_option maxRecDepth 100000 in
theorem tw_873 : Cond.constantLong RX8 75 (12 : Int64) ∈ ph_T := ph_T_t 873 (by decide +kernel) rfl
set_option maxRecDepth 100000 in
theorem tw_874 : Cond.methodLink RX8 77 yX9_tryPawn ∈ ph_T := ph_T_t 874 (by decide +kernel) rfl
set_option maxRecDepth 100000 in
theorem tw_875 : Cond.instanceMethod yX9_tryPawn ∈ ph_T := ph_T_t 875 (by decide +kernel) rfl
set_option maxRecDepth 100000 in
theorem tw_876 : Cond.selects yX9_tryPawn.cls yX9_tryPawn yX9_tryPawn ∈ ph_T := ph_T_t 876 (by decide +kernel) rfl
set_option maxRecDepth 100000 in
theorem tw_877 : Cond.code yX9_tryPawn cX9_tryPawn 6 (some .int) ∈ ph_T := ph_T_t 877 (by rfl) rfl
set_option maxRecDepth 100000 in
theorem tw_878 : Cond.methodLink RX9 149 yX9_ruled ∈ ph_T := ph_T_t 878 (by decide +kernel) rfl
set_option maxRecDepth 100000 in
theorem tw_879 : Cond.methodLink RX9 162 yX9_setState ∈ ph_T := ph_T_t 879 (by decide +kernel) rfl
set_option maxRecDepth 100000 in
theorem tw_880 : Cond.instanceMethod yX9_setState ∈ ph_T := ph_T_t 880 (by decide +kernel) rfl
set_option maxRecDepth 100000 in
theorem tw_881 : Cond.selects yX9_setState.cls yX9_setState yX9_setState ∈ ph_T := ph_T_t 881 (by decide +kernel) rfl
set_option maxRecDepth 100000 in
theorem tw_882 : Cond.code yX9_setState cX9_setState 5 none ∈ ph_T := ph_T_t 882 (by rfl) rfl
set_option maxRecDepth 100000 in
theorem tw_883 : Cond.methodLink RX8 81 yX9_tryRedeem ∈ ph_T := ph_T_t 883 (by decide +kernel) rfl
set_option maxRecDepth 100000 in
theorem tw_884 : Cond.instanceMethod yX9_tryRedeem ∈ ph_T := ph_T_t 884 (by decide +kernel) rfl
set_option maxRecDepth 100000 in
theorem tw_885 : Cond.selects yX9_tryRedeem.cls yX9_tryRedeem yX9_tryRedeem ∈ ph_T := ph_T_t 885 (by decide +kernel) rfl
set_option maxRecDepth 100000 in
theorem tw_886 : Cond.code yX9_tryRedeem cX9_tryRedeem 6 (some .int) ∈ ph_T := ph_T_t 886 (by rfl) rfl
set_option maxRecDepth 100000 in
theorem tw_903 : Cond.methodLink RX11 243 yX9_tryPawn ∈ ph_T := ph_T_t 903 (by decide +kernel) rfl
set_option maxRecDepth 100000 in
theorem tw_904 : Cond.methodLink RX11 247 yX11_acceptedUnlessCannot ∈ ph_T := ph_T_t 904 (by decide +kernel) rfl
set_option maxRecDepth 100000 in
theorem tw_906 : Cond.instanceMethod yX11_acceptedUnlessCannot ∈ ph_T := ph_T_t 906 (by decide +kernel) rfl
set_option maxRecDepth 100000 in
theorem tw_907 : Cond.code yX11_acceptedUnlessCannot cX11_acceptedUnlessCannot 2 (some .int) ∈ ph_T := ph_T_t 907 (by rfl) rfl
set_option maxRecDepth 100000 in
theorem tw_912 : Cond.methodLink RX11 250 yX9_tryRedeem ∈ ph_T := ph_T_t 912 (by decide +kernel) rfl
set_option maxRecDepth 100000 in
theorem tw_917 : Cond.methodLink RX11 253 yX9_tryNextDay ∈ ph_T := ph_T_t 917 (by decide +kernel) rfl
set_option maxRecDepth 100000 in
theorem tw_922 : Cond.methodLink RX11 257 yX9_tryAuction ∈ ph_T := ph_T_t 922 (by decide +kernel) rfl
set_option maxRecDepth 100000 in
theorem tw_923 : Cond.instanceMethod yX9_tryAuction ∈ ph_T := ph_T_t 923 (by decide +kernel) rfl
set_option maxRecDepth 100000 in
theorem tw_924 : Cond.selects yX9_tryAuction.cls yX9_tryAuction yX9_tryAuction ∈ ph_T := ph_T_t 924 (by decide +kernel) rfl
set_option maxRecDepth 100000 in
theorem tw_925 : Cond.code yX9_tryAuction cX9_tryAuction 6 (some .int) ∈ ph_T := ph_T_t 925 (by rfl) rfl
set_option maxRecDepth 100000 in
theorem tw_930 : Cond.methodLink RX11 260 yX1_takeBack ∈ ph_T := ph_T_t 930 (by decide +kernel) rfl
set_option maxRecDepth 100000 in
theorem tw_931 : Cond.instanceMethod yX1_takeBack ∈ ph_T := ph_T_t 931 (by decide +kernel) rfl
set_option maxRecDepth 100000 in
theorem tw_932 : Cond.selects yX1_takeBack.cls yX1_takeBack yX1_takeBack ∈ ph_T := ph_T_t 932 (by decide +kernel) rfl
set_option maxRecDepth 100000 in
theorem tw_933 : Cond.code yX1_takeBack cX1_takeBack 3 (some .int) ∈ ph_T := ph_T_t 933 (by rfl) rfl
set_option maxRecDepth 100000 in
theorem tw_934 : Cond.methodLink RX1 51 yX9_setState ∈ ph_T := ph_T_t 934 (by decide +kernel) rfl
set_option maxRecDepth 100000 in
theorem tw_939 : Cond.methodLink RX11 264 yX0_hoursTogether ∈ ph_T := ph_T_t 939 (by decide +kernel) rfl
set_option maxRecDepth 100000 in
theorem tw_940 : Cond.instanceMethod yX0_hoursTogether ∈ ph_T := ph_T_t 940 (by decide +kernel) rfl
set_option maxRecDepth 100000 in
theorem tw_941 : Cond.selects yX0_hoursTogether.cls yX0_hoursTogether yX0_hoursTogether ∈ ph_T := ph_T_t 941 (by decide +kernel) rfl
set_option maxRecDepth 100000 in
theorem tw_942 : Cond.code yX0_hoursTogether cX0_hoursTogether 5 (some .int) ∈ ph_T := ph_T_t 942 (by rfl) rfl
set_option maxRecDepth 100000 in
theorem tw_943 : Cond.methodLink RX0 19 yX9_metIn ∈ ph_T := ph_T_t 943 (by decide +kernel) rfl
set_option maxRecDepth 100000 in
theorem tw_944 : Cond.instanceMethod yX9_metIn ∈ ph_T := ph_T_t 944 (by decide +kernel) rfl
set_option maxRecDepth 100000 in
theorem tw_945 : Cond.selects yX9_metIn.cls yX9_metIn yX9_metIn ∈ ph_T := ph_T_t 945 (by decide +kernel) rfl
set_option maxRecDepth 100000 in
theorem tw_946 : Cond.code yX9_metIn cX9_metIn 4 (some .boolean) ∈ ph_T := ph_T_t 946 (by rfl) rfl
set_option maxRecDepth 100000 in
theorem tw_947 : Cond.methodLink RX9 109 yX9_wasWith ∈ ph_T := ph_T_t 947 (by decide +kernel) rfl
set_option maxRecDepth 100000 in
theorem tw_948 : Cond.instanceMethod yX9_wasWith ∈ ph_T := ph_T_t 948 (by decide +kernel) rfl
set_option maxRecDepth 100000 in
theorem tw_949 : Cond.selects yX9_wasWith.cls yX9_wasWith yX9_wasWith ∈ ph_T := ph_T_t 949 (by decide +kernel) rfl
set_option maxRecDepth 100000 in
theorem tw_950 : Cond.code yX9_wasWith cX9_wasWith 4 (some .boolean) ∈ ph_T := ph_T_t 950 (by rfl) rfl
set_option maxRecDepth 100000 in
theorem tw_951 : Cond.methodLink RX11 267 yX0_knowsOf ∈ ph_T := ph_T_t 951 (by decide +kernel) rfl
set_option maxRecDepth 100000 in
theorem tw_952 : Cond.instanceMethod yX0_knowsOf ∈ ph_T := ph_T_t 952 (by decide +kernel) rfl
set_option maxRecDepth 100000 in
theorem tw_953 : Cond.selects yX0_knowsOf.cls yX0_knowsOf yX0_knowsOf ∈ ph_T := ph_T_t 953 (by decide +kernel) rfl
set_option maxRecDepth 100000 in
theorem tw_954 : Cond.code yX0_knowsOf cX0_knowsOf 5 (some .boolean) ∈ ph_T := ph_T_t 954 (by rfl) rfl
set_option maxRecDepth 100000 in
theorem tw_955 : Cond.methodLink RX0 25 yX9_hourOfLearning ∈ ph_T := ph_T_t 955 (by decide +kernel) rfl
set_option maxRecDepth 100000 in
theorem tw_956 : Cond.instanceMethod yX9_hourOfLearning ∈ ph_T := ph_T_t 956 (by decide +kernel) rfl
set_option maxRecDepth 100000 in
theorem tw_957 : Cond.selects yX9_hourOfLearning.cls yX9_hourOfLearning yX9_hourOfLearning ∈ ph_T := ph_T_t 957 (by decide +kernel) rfl
set_option maxRecDepth 100000 in
theorem tw_958 : Cond.code yX9_hourOfLearning cX9_hourOfLearning 5 (some .int) ∈ ph_T := ph_T_t 958 (by rfl) rfl
set_option maxRecDepth 100000 in
theorem tw_963 : Cond.methodLink RX11 270 yX9_hourOfLearning ∈ ph_T := ph_T_t 963 (by decide +kernel) rfl
set_option maxRecDepth 100000 in
theorem tw_968 : Cond.methodLink RX11 273 yX0_factsKnownDeep ∈ ph_T := ph_T_t 968 (by decide +kernel) rfl
set_option maxRecDepth 100000 in
theorem tw_969 : Cond.instanceMethod yX0_factsKnownDeep ∈ ph_T := ph_T_t 969 (by decide +kernel) rfl
set_option maxRecDepth 100000 in
theorem tw_970 : Cond.selects yX0_factsKnownDeep.cls yX0_factsKnownDeep yX0_factsKnownDeep ∈ ph_T := ph_T_t 970 (by decide +kernel) rfl
set_option maxRecDepth 100000 in
theorem tw_971 : Cond.code yX0_factsKnownDeep cX0_factsKnownDeep 5 (some .int) ∈ ph_T := ph_T_t 971 (by rfl) rfl
set_option maxRecDepth 100000 in
theorem tw_972 : Cond.methodLink RX0 33 yX9_knownWithout ∈ ph_T := ph_T_t 972 (by decide +kernel) rfl
set_option maxRecDepth 100000 in
theorem tw_973 : Cond.methodLink RX0 36 yX9_hasBit ∈ ph_T := ph_T_t 973 (by decide +kernel) rfl
set_option maxRecDepth 100000 in
theorem tw_974 : Cond.methodLink RX0 40 yX0_isKnownOf ∈ ph_T := ph_T_t 974 (by decide +kernel) rfl
set_option maxRecDepth 100000 in
theorem tw_976 : Cond.instanceMethod yX0_isKnownOf ∈ ph_T := ph_T_t 976 (by decide +kernel) rfl
set_option maxRecDepth 100000 in
theorem tw_977 : Cond.code yX0_isKnownOf cX0_isKnownOf 8 (some .boolean) ∈ ph_T := ph_T_t 977 (by rfl) rfl
set_option maxRecDepth 100000 in
theorem tw_982 : Cond.methodLink RX11 276 yX0_countLies ∈ ph_T := ph_T_t 982 (by decide +kernel) rfl
set_option maxRecDepth 100000 in
theorem tw_983 : Cond.instanceMethod yX0_countLies ∈ ph_T := ph_T_t 983 (by decide +kernel) rfl
set_option maxRecDepth 100000 in
theorem tw_984 : Cond.selects yX0_countLies.cls yX0_countLies yX0_countLies ∈ ph_T := ph_T_t 984 (by decide +kernel) rfl
set_option maxRecDepth 100000 in
theorem tw_985 : Cond.code yX0_countLies cX0_countLies 4 (some .int) ∈ ph_T := ph_T_t 985 (by rfl) rfl
set_option maxRecDepth 100000 in
theorem tw_986 : Cond.methodLink RX0 49 yX0_isLieOfPair ∈ ph_T := ph_T_t 986 (by decide +kernel) rfl
set_option maxRecDepth 100000 in
theorem tw_988 : Cond.instanceMethod yX0_isLieOfPair ∈ ph_T := ph_T_t 988 (by decide +kernel) rfl
set_option maxRecDepth 100000 in
theorem tw_989 : Cond.code yX0_isLieOfPair cX0_isLieOfPair 5 (some .boolean) ∈ ph_T := ph_T_t 989 (by rfl) rfl
set_option maxRecDepth 100000 in
theorem tw_990 : Cond.methodLink RX0 52 yX9_isPerson ∈ ph_T := ph_T_t 990 (by decide +kernel) rfl
set_option maxRecDepth 100000 in
theorem tw_991 : Cond.methodLink RX0 56 yX0_isLie ∈ ph_T := ph_T_t 991 (by decide +kernel) rfl
set_option maxRecDepth 100000 in
theorem tw_993 : Cond.instanceMethod yX0_isLie ∈ ph_T := ph_T_t 993 (by decide +kernel) rfl
set_option maxRecDepth 100000 in
theorem tw_994 : Cond.code yX0_isLie cX0_isLie 4 (some .boolean) ∈ ph_T := ph_T_t 994 (by rfl) rfl
set_option maxRecDepth 100000 in
theorem tw_995 : Cond.methodLink RX0 43 yX9_holds ∈ ph_T := ph_T_t 995 (by decide +kernel) rfl
set_option maxRecDepth 100000 in
theorem tw_996 : Cond.methodLink RX0 46 yX9_wasWith ∈ ph_T := ph_T_t 996 (by decide +kernel) rfl
set_option maxRecDepth 100000 in
theorem tw_997 : Cond.methodLink RX11 279 yX0_lieAt ∈ ph_T := ph_T_t 997 (by decide +kernel) rfl
set_option maxRecDepth 100000 in
theorem tw_998 : Cond.instanceMethod yX0_lieAt ∈ ph_T := ph_T_t 998 (by decide +kernel) rfl
set_option maxRecDepth 100000 in
theorem tw_999 : Cond.selects yX0_lieAt.cls yX0_lieAt yX0_lieAt ∈ ph_T := ph_T_t 999 (by decide +kernel) rfl
set_option maxRecDepth 100000 in
theorem tw_1000 : Cond.code yX0_lieAt cX0_lieAt 5 (some .int) ∈ ph_T := ph_T_t 1000 (by rfl) rfl
set_option maxRecDepth 100000 in
theorem tw_1005 : Cond.methodLink RX11 282 yX0_countForged ∈ ph_T := ph_T_t 1005 (by decide +kernel) rfl
set_option maxRecDepth 100000 in
theorem tw_1006 : Cond.instanceMethod yX0_countForged ∈ ph_T := ph_T_t 1006 (by decide +kernel) rfl
set_option maxRecDepth 100000 in
theorem tw_1007 : Cond.selects yX0_countForged.cls yX0_countForged yX0_countForged ∈ ph_T := ph_T_t 1007 (by decide +kernel) rfl
set_option maxRecDepth 100000 in
theorem tw_1008 : Cond.code yX0_countForged cX0_countForged 3 (some .int) ∈ ph_T := ph_T_t 1008 (by rfl) rfl
set_option maxRecDepth 100000 in
theorem tw_1009 : Cond.methodLink RX0 59 yX0_forgersOf ∈ ph_T := ph_T_t 1009 (by decide +kernel) rfl
set_option maxRecDepth 100000 in
theorem tw_1010 : Cond.instanceMethod yX0_forgersOf ∈ ph_T := ph_T_t 1010 (by decide +kernel) rfl
set_option maxRecDepth 100000 in
theorem tw_1011 : Cond.selects yX0_forgersOf.cls yX0_forgersOf yX0_forgersOf ∈ ph_T := ph_T_t 1011 (by decide +kernel) rfl
set_option maxRecDepth 100000 in
theorem tw_1012 : Cond.code yX0_forgersOf cX0_forgersOf 4 (some .int) ∈ ph_T := ph_T_t 1012 (by rfl) rfl
set_option maxRecDepth 100000 in
theorem tw_1013 : Cond.methodLink RX0 68 yX0_findLies ∈ ph_T := ph_T_t 1013 (by decide +kernel) rfl
set_option maxRecDepth 100000 in
theorem tw_1015 : Cond.instanceMethod yX0_findLies ∈ ph_T := ph_T_t 1015 (by decide +kernel) rfl
set_option maxRecDepth 100000 in
theorem tw_1016 : Cond.code yX0_findLies cX0_findLies 4 none ∈ ph_T := ph_T_t 1016 (by rfl) rfl
set_option maxRecDepth 100000 in
theorem tw_1017 : Cond.methodLink RX0 75 yJ7_fill_53178 ∈ ph_T := ph_T_t 1017 (by decide +kernel) rfl
set_option maxRecDepth 100000 in
theorem tw_1018 : Cond.methodLink RX0 63 yJ6_bitCount_0f7a4 ∈ ph_T := ph_T_t 1018 (by decide +kernel) rfl
set_option maxRecDepth 100000 in
theorem tw_1019 : Cond.methodLink RX0 72 yX0_leavesNoLie ∈ ph_T := ph_T_t 1019 (by decide +kernel) rfl
set_option maxRecDepth 100000 in
theorem tw_1021 : Cond.instanceMethod yX0_leavesNoLie ∈ ph_T := ph_T_t 1021 (by decide +kernel) rfl
set_option maxRecDepth 100000 in
theorem tw_1022 : Cond.code yX0_leavesNoLie cX0_leavesNoLie 3 (some .boolean) ∈ ph_T := ph_T_t 1022 (by rfl) rfl
set_option maxRecDepth 100000 in
theorem tw_1023 : Cond.methodLink RX11 285 yX0_forgersOf ∈ ph_T := ph_T_t 1023 (by decide +kernel) rfl
set_option maxRecDepth 100000 in
theorem tw_1028 : Cond.methodLink RX11 288 yX9_arePeople ∈ ph_T := ph_T_t 1028 (by decide +kernel) rfl
set_option maxRecDepth 100000 in
theorem tw_1029 : Cond.methodLink RX11 291 yX0_ownersOfStray ∈ ph_T := ph_T_t 1029 (by decide +kernel) rfl
set_option maxRecDepth 100000 in
theorem tw_1030 : Cond.instanceMethod yX0_ownersOfStray ∈ ph_T := ph_T_t 1030 (by decide +kernel) rfl
set_option maxRecDepth 100000 in
theorem tw_1031 : Cond.selects yX0_ownersOfStray.cls yX0_ownersOfStray yX0_ownersOfStray ∈ ph_T := ph_T_t 1031 (by decide +kernel) rfl
set_option maxRecDepth 100000 in
theorem tw_1032 : Cond.code yX0_ownersOfStray cX0_ownersOfStray 5 (some .int) ∈ ph_T := ph_T_t 1032 (by rfl) rfl
set_option maxRecDepth 100000 in
theorem tw_1033 : Cond.methodLink RX0 81 yX0_fitsHolders ∈ ph_T := ph_T_t 1033 (by decide +kernel) rfl
set_option maxRecDepth 100000 in
theorem tw_1035 : Cond.instanceMethod yX0_fitsHolders ∈ ph_T := ph_T_t 1035 (by decide +kernel) rfl
set_option maxRecDepth 100000 in
theorem tw_1036 : Cond.code yX0_fitsHolders cX0_fitsHolders 5 (some .boolean) ∈ ph_T := ph_T_t 1036 (by rfl) rfl
set_option maxRecDepth 100000 in
theorem tw_1041 : Cond.methodLink RX11 294 yX5_plan ∈ ph_T := ph_T_t 1041 (by decide +kernel) rfl
set_option maxRecDepth 100000 in
theorem tw_1042 : Cond.instanceMethod yX5_plan ∈ ph_T := ph_T_t 1042 (by decide +kernel) rfl
set_option maxRecDepth 100000 in
theorem tw_1043 : Cond.selects yX5_plan.cls yX5_plan yX5_plan ∈ ph_T := ph_T_t 1043 (by decide +kernel) rfl
set_option maxRecDepth 100000 in
theorem tw_1044 : Cond.code yX5_plan cX5_plan 6 (some .boolean) ∈ ph_T := ph_T_t 1044 (by rfl) rfl
set_option maxRecDepth 100000 in
theorem tw_1045 : Cond.methodLink RX5 29 yX9_knownWithout ∈ ph_T := ph_T_t 1045 (by decide +kernel) rfl
set_option maxRecDepth 100000 in
theorem tw_1046 : Cond.methodLink RX5 41 yX9_holds ∈ ph_T := ph_T_t 1046 (by decide +kernel) rfl
set_option maxRecDepth 100000 in
theorem tw_1047 : Cond.methodLink RX5 48 yX9_ruled ∈ ph_T := ph_T_t 1047 (by decide +kernel) rfl
set_option maxRecDepth 100000 in
theorem tw_1048 : Cond.constant RX5 52 (1000000 : Int32) ∈ ph_T := ph_T_t 1048 (by decide +kernel) rfl
set_option maxRecDepth 100000 in
theorem tw_1049 : Cond.methodLink RX5 56 yX5_search ∈ ph_T := ph_T_t 1049 (by decide +kernel) rfl
set_option maxRecDepth 100000 in
theorem tw_1051 : Cond.instanceMethod yX5_search ∈ ph_T := ph_T_t 1051 (by decide +kernel) rfl
set_option maxRecDepth 100000 in
theorem tw_1052 : Cond.code yX5_search cX5_search 8 none ∈ ph_T := ph_T_t 1052 (by rfl) rfl
set_option maxRecDepth 100000 in
theorem tw_1054 : Cond.methodLink RX5 69 yX9_hasBit ∈ ph_T := ph_T_t 1054 (by decide +kernel) rfl
set_option maxRecDepth 100000 in
theorem tw_1055 : Cond.methodLink RX5 75 yX5_leavesKnown ∈ ph_T := ph_T_t 1055 (by decide +kernel) rfl
set_option maxRecDepth 100000 in
theorem tw_1057 : Cond.instanceMethod yX5_leavesKnown ∈ ph_T := ph_T_t 1057 (by decide +kernel) rfl
set_option maxRecDepth 100000 in
theorem tw_1058 : Cond.code yX5_leavesKnown cX5_leavesKnown 2 (some .boolean) ∈ ph_T := ph_T_t 1058 (by rfl) rfl
set_option maxRecDepth 100000 in
theorem tw_1063 : Cond.methodLink RX11 306 yX7_plan ∈ ph_T := ph_T_t 1063 (by decide +kernel) rfl
set_option maxRecDepth 100000 in
theorem tw_1064 : Cond.instanceMethod yX7_plan ∈ ph_T := ph_T_t 1064 (by decide +kernel) rfl
set_option maxRecDepth 100000 in
theorem tw_1065 : Cond.selects yX7_plan.cls yX7_plan yX7_plan ∈ ph_T := ph_T_t 1065 (by decide +kernel) rfl
set_option maxRecDepth 100000 in
theorem tw_1066 : Cond.code yX7_plan cX7_plan 4 (some .boolean) ∈ ph_T := ph_T_t 1066 (by rfl) rfl
set_option maxRecDepth 100000 in
theorem tw_1067 : Cond.methodLink RX7 38 yX9_hoursThatAre ∈ ph_T := ph_T_t 1067 (by decide +kernel) rfl
set_option maxRecDepth 100000 in
theorem tw_1068 : Cond.methodLink RX7 44 yJ6_bitCount_0f7a4 ∈ ph_T := ph_T_t 1068 (by decide +kernel) rfl
set_option maxRecDepth 100000 in
theorem tw_1069 : Cond.methodLink RX7 50 yX9_hasBit ∈ ph_T := ph_T_t 1069 (by decide +kernel) rfl
set_option maxRecDepth 100000 in
theorem tw_1070 : Cond.methodLink RX7 54 yJ7_fill_53178 ∈ ph_T := ph_T_t 1070 (by decide +kernel) rfl
set_option maxRecDepth 100000 in
theorem tw_1071 : Cond.constant RX7 60 (1000000 : Int32) ∈ ph_T := ph_T_t 1071 (by decide +kernel) rfl
set_option maxRecDepth 100000 in
theorem tw_1072 : Cond.methodLink RX7 67 yX7_search ∈ ph_T := ph_T_t 1072 (by decide +kernel) rfl
set_option maxRecDepth 100000 in
theorem tw_1074 : Cond.instanceMethod yX7_search ∈ ph_T := ph_T_t 1074 (by decide +kernel) rfl
set_option maxRecDepth 100000 in
theorem tw_1075 : Cond.code yX7_search cX7_search 8 none ∈ ph_T := ph_T_t 1075 (by rfl) rfl
set_option maxRecDepth 100000 in
theorem tw_1076 : Cond.methodLink RX7 71 arraycopyName ∈ ph_T := ph_T_t 1076 (by decide +kernel) rfl
set_option maxRecDepth 100000 in
theorem tw_1077 : Cond.methodLink RX7 77 yX7_firstDayFor ∈ ph_T := ph_T_t 1077 (by decide +kernel) rfl
set_option maxRecDepth 100000 in
theorem tw_1079 : Cond.instanceMethod yX7_firstDayFor ∈ ph_T := ph_T_t 1079 (by decide +kernel) rfl
set_option maxRecDepth 100000 in
theorem tw_1080 : Cond.code yX7_firstDayFor cX7_firstDayFor 6 (some .int) ∈ ph_T := ph_T_t 1080 (by rfl) rfl
set_option maxRecDepth 100000 in
theorem tw_1081 : Cond.methodLink RX7 87 yX9_ruled ∈ ph_T := ph_T_t 1081 (by decide +kernel) rfl
set_option maxRecDepth 100000 in
theorem tw_1082 : Cond.methodLink RX7 81 yX7_purseOn ∈ ph_T := ph_T_t 1082 (by decide +kernel) rfl
set_option maxRecDepth 100000 in
theorem tw_1084 : Cond.instanceMethod yX7_purseOn ∈ ph_T := ph_T_t 1084 (by decide +kernel) rfl
set_option maxRecDepth 100000 in
theorem tw_1085 : Cond.code yX7_purseOn cX7_purseOn 4 (some .int) ∈ ph_T := ph_T_t 1085 (by rfl) rfl
set_option maxRecDepth 100000 in
theorem tw_1086 : Cond.methodLink RX11 311 yX7_hourAt ∈ ph_T := ph_T_t 1086 (by decide +kernel) rfl
set_option maxRecDepth 100000 in
theorem tw_1087 : Cond.instanceMethod yX7_hourAt ∈ ph_T := ph_T_t 1087 (by decide +kernel) rfl
set_option maxRecDepth 100000 in
theorem tw_1088 : Cond.selects yX7_hourAt.cls yX7_hourAt yX7_hourAt ∈ ph_T := ph_T_t 1088 (by decide +kernel) rfl
set_option maxRecDepth 100000 in
theorem tw_1089 : Cond.code yX7_hourAt cX7_hourAt 2 (some .int) ∈ ph_T := ph_T_t 1089 (by rfl) rfl
set_option maxRecDepth 100000 in
theorem tw_1098 : Cond.methodLink RX11 317 yX3_settle ∈ ph_T := ph_T_t 1098 (by decide +kernel) rfl
set_option maxRecDepth 100000 in
theorem tw_1099 : Cond.instanceMethod yX3_settle ∈ ph_T := ph_T_t 1099 (by decide +kernel) rfl
set_option maxRecDepth 100000 in
theorem tw_1100 : Cond.selects yX3_settle.cls yX3_settle yX3_settle ∈ ph_T := ph_T_t 1100 (by decide +kernel) rfl
set_option maxRecDepth 100000 in
theorem tw_1101 : Cond.code yX3_settle cX3_settle 3 none ∈ ph_T := ph_T_t 1101 (by rfl) rfl
set_option maxRecDepth 100000 in
theorem tw_1102 : Cond.methodLink RX3 28 yX3_mostFrom ∈ ph_T := ph_T_t 1102 (by decide +kernel) rfl
set_option maxRecDepth 100000 in
theorem tw_1104 : Cond.instanceMethod yX3_mostFrom ∈ ph_T := ph_T_t 1104 (by decide +kernel) rfl
set_option maxRecDepth 100000 in
theorem tw_1105 : Cond.code yX3_mostFrom cX3_mostFrom 5 (some .int) ∈ ph_T := ph_T_t 1105 (by rfl) rfl
set_option maxRecDepth 100000 in
theorem tw_1106 : Cond.methodLink RX3 35 yX3_ifSold ∈ ph_T := ph_T_t 1106 (by decide +kernel) rfl
set_option maxRecDepth 100000 in
theorem tw_1108 : Cond.instanceMethod yX3_ifSold ∈ ph_T := ph_T_t 1108 (by decide +kernel) rfl
set_option maxRecDepth 100000 in
theorem tw_1109 : Cond.code yX3_ifSold cX3_ifSold 5 (some .int) ∈ ph_T := ph_T_t 1109 (by rfl) rfl
set_option maxRecDepth 100000 in
theorem tw_1110 : Cond.methodLink RX3 47 yX9_hasBit ∈ ph_T := ph_T_t 1110 (by decide +kernel) rfl
set_option maxRecDepth 100000 in
theorem tw_1111 : Cond.methodLink RX3 39 yJ9_max_7cf53 ∈ ph_T := ph_T_t 1111 (by decide +kernel) rfl
set_option maxRecDepth 100000 in
theorem tw_1112 : Cond.methodLink RX3 32 yX3_firstBuyer ∈ ph_T := ph_T_t 1112 (by decide +kernel) rfl
set_option maxRecDepth 100000 in
theorem tw_1114 : Cond.instanceMethod yX3_firstBuyer ∈ ph_T := ph_T_t 1114 (by decide +kernel) rfl
set_option maxRecDepth 100000 in
theorem tw_1115 : Cond.code yX3_firstBuyer cX3_firstBuyer 4 (some .int) ∈ ph_T := ph_T_t 1115 (by rfl) rfl
set_option maxRecDepth 100000 in
theorem tw_1116 : Cond.methodLink RX11 320 yX3_total ∈ ph_T := ph_T_t 1116 (by decide +kernel) rfl
set_option maxRecDepth 100000 in
theorem tw_1117 : Cond.instanceMethod yX3_total ∈ ph_T := ph_T_t 1117 (by decide +kernel) rfl
set_option maxRecDepth 100000 in
theorem tw_1118 : Cond.selects yX3_total.cls yX3_total yX3_total ∈ ph_T := ph_T_t 1118 (by decide +kernel) rfl
set_option maxRecDepth 100000 in
theorem tw_1119 : Cond.code yX3_total cX3_total 1 (some .int) ∈ ph_T := ph_T_t 1119 (by rfl) rfl
set_option maxRecDepth 100000 in
theorem tw_1120 : Cond.methodLink RX11 323 yX3_buyerOf ∈ ph_T := ph_T_t 1120 (by decide +kernel) rfl
set_option maxRecDepth 100000 in
theorem tw_1121 : Cond.instanceMethod yX3_buyerOf ∈ ph_T := ph_T_t 1121 (by decide +kernel) rfl
set_option maxRecDepth 100000 in
theorem tw_1122 : Cond.selects yX3_buyerOf.cls yX3_buyerOf yX3_buyerOf ∈ ph_T := ph_T_t 1122 (by decide +kernel) rfl
set_option maxRecDepth 100000 in
theorem tw_1123 : Cond.code yX3_buyerOf cX3_buyerOf 2 (some .int) ∈ ph_T := ph_T_t 1123 (by rfl) rfl
set_option maxRecDepth 100000 in
theorem tw_1124 : Cond.methodLink RX11 326 yX3_paymentFor ∈ ph_T := ph_T_t 1124 (by decide +kernel) rfl
set_option maxRecDepth 100000 in
theorem tw_1125 : Cond.instanceMethod yX3_paymentFor ∈ ph_T := ph_T_t 1125 (by decide +kernel) rfl
set_option maxRecDepth 100000 in
theorem tw_1126 : Cond.selects yX3_paymentFor.cls yX3_paymentFor yX3_paymentFor ∈ ph_T := ph_T_t 1126 (by decide +kernel) rfl
set_option maxRecDepth 100000 in
theorem tw_1127 : Cond.code yX3_paymentFor cX3_paymentFor 4 (some .int) ∈ ph_T := ph_T_t 1127 (by rfl) rfl
set_option maxRecDepth 100000 in
theorem tw_1132 : Cond.constantLong RX11 329 (-1 : Int64) ∈ ph_T := ph_T_t 1132 (by decide +kernel) rfl
set_option maxRecDepth 100000 in
theorem tw_1133 : Cond.methodLink RX11 331 yX11_chanceOfLasting ∈ ph_T := ph_T_t 1133 (by decide +kernel) rfl
set_option maxRecDepth 100000 in
theorem tw_1135 : Cond.instanceMethod yX11_chanceOfLasting ∈ ph_T := ph_T_t 1135 (by decide +kernel) rfl
set_option maxRecDepth 100000 in
theorem tw_1136 : Cond.code yX11_chanceOfLasting cX11_chanceOfLasting 12 (some .long) ∈ ph_T := ph_T_t 1136 (by rfl) rfl
set_option maxRecDepth 100000 in
theorem tw_1137 : Cond.methodLink RX11 357 yJ7_fill_d0a16 ∈ ph_T := ph_T_t 1137 (by decide +kernel) rfl
set_option maxRecDepth 100000 in
theorem tw_1138 : Cond.static yJ7_fill_d0a16 ∈ ph_T := ph_T_t 1138 (by decide +kernel) rfl
set_option maxRecDepth 100000 in
theorem tw_1139 : Cond.code yJ7_fill_d0a16 cJ7_fill_d0a16 5 none ∈ ph_T := ph_T_t 1139 (by rfl) rfl
set_option maxRecDepth 100000 in
theorem tw_1140 : Cond.constantLong RX11 363 (1000000000000 : Int64) ∈ ph_T := ph_T_t 1140 (by decide +kernel) rfl
set_option maxRecDepth 100000 in
theorem tw_1141 : Cond.constantLong RX11 365 (10 : Int64) ∈ ph_T := ph_T_t 1141 (by decide +kernel) rfl
set_option maxRecDepth 100000 in
theorem tw_1146 : Cond.constant RX11 335 (1000000 : Int32) ∈ ph_T := ph_T_t 1146 (by decide +kernel) rfl
set_option maxRecDepth 100000 in
theorem tw_1147 : Cond.methodLink RX11 336 yX10_live ∈ ph_T := ph_T_t 1147 (by decide +kernel) rfl
set_option maxRecDepth 100000 in
theorem tw_1148 : Cond.instanceMethod yX10_live ∈ ph_T := ph_T_t 1148 (by decide +kernel) rfl
set_option maxRecDepth 100000 in
theorem tw_1149 : Cond.selects yX10_live.cls yX10_live yX10_live ∈ ph_T := ph_T_t 1149 (by decide +kernel) rfl
set_option maxRecDepth 100000 in
theorem tw_1150 : Cond.code yX10_live cX10_live 10 (some .int) ∈ ph_T := ph_T_t 1150 (by rfl) rfl
set_option maxRecDepth 100000 in
theorem tw_1151 : Cond.methodLink RX10 31 yX10_draw ∈ ph_T := ph_T_t 1151 (by decide +kernel) rfl
set_option maxRecDepth 100000 in
theorem tw_1153 : Cond.instanceMethod yX10_draw ∈ ph_T := ph_T_t 1153 (by decide +kernel) rfl
set_option maxRecDepth 100000 in
theorem tw_1154 : Cond.code yX10_draw cX10_draw 2 (some .int) ∈ ph_T := ph_T_t 1154 (by rfl) rfl
set_option maxRecDepth 100000 in
theorem tw_1155 : Cond.constantLong RX10 54 (1103 : Int64) ∈ ph_T := ph_T_t 1155 (by decide +kernel) rfl
set_option maxRecDepth 100000 in
theorem tw_1156 : Cond.constantLong RX10 56 (12345 : Int64) ∈ ph_T := ph_T_t 1156 (by decide +kernel) rfl
set_option maxRecDepth 100000 in
theorem tw_1157 : Cond.constantLong RX10 58 (1000003 : Int64) ∈ ph_T := ph_T_t 1157 (by decide +kernel) rfl
set_option maxRecDepth 100000 in
theorem tw_1158 : Cond.methodLink RX10 35 yX9_holds ∈ ph_T := ph_T_t 1158 (by decide +kernel) rfl
set_option maxRecDepth 100000 in
theorem tw_1159 : Cond.methodLink RX10 39 yX9_tryPawn ∈ ph_T := ph_T_t 1159 (by decide +kernel) rfl
set_option maxRecDepth 100000 in
theorem tw_1160 : Cond.methodLink RX10 43 yX9_tryRedeem ∈ ph_T := ph_T_t 1160 (by decide +kernel) rfl
set_option maxRecDepth 100000 in
theorem tw_1161 : Cond.methodLink RX10 46 yX9_tryNextDay ∈ ph_T := ph_T_t 1161 (by decide +kernel) rfl
set_option maxRecDepth 100000 in
theorem tw_1162 : Cond.methodLink RX10 50 yX10_keep ∈ ph_T := ph_T_t 1162 (by decide +kernel) rfl
set_option maxRecDepth 100000 in
theorem tw_1164 : Cond.instanceMethod yX10_keep ∈ ph_T := ph_T_t 1164 (by decide +kernel) rfl
set_option maxRecDepth 100000 in
theorem tw_1165 : Cond.code yX10_keep cX10_keep 3 none ∈ ph_T := ph_T_t 1165 (by rfl) rfl
set_option maxRecDepth 100000 in
theorem tw_1166 : Cond.methodLink RX10 62 yX9_knownWithout ∈ ph_T := ph_T_t 1166 (by decide +kernel) rfl
set_option maxRecDepth 100000 in
theorem tw_1167 : Cond.methodLink RX10 66 yX9_hoursThatAre ∈ ph_T := ph_T_t 1167 (by decide +kernel) rfl
set_option maxRecDepth 100000 in
theorem tw_1184 : Cond.methodLink RX11 348 yX9_countAll ∈ ph_T := ph_T_t 1184 (by decide +kernel) rfl
set_option maxRecDepth 100000 in
theorem tw_1185 : Cond.instanceMethod yX9_countAll ∈ ph_T := ph_T_t 1185 (by decide +kernel) rfl
set_option maxRecDepth 100000 in
theorem tw_1186 : Cond.selects yX9_countAll.cls yX9_countAll yX9_countAll ∈ ph_T := ph_T_t 1186 (by decide +kernel) rfl
set_option maxRecDepth 100000 in
theorem tw_1187 : Cond.code yX9_countAll cX9_countAll 4 (some .int) ∈ ph_T := ph_T_t 1187 (by rfl) rfl
set_option maxRecDepth 100000 in
theorem tw_1188 : Cond.methodLink RX9 92 yX9_hoursThatAre ∈ ph_T := ph_T_t 1188 (by decide +kernel) rfl
set_option maxRecDepth 100000 in
theorem tw_1866 : Cond.fieldLink RJ0 9 "java/lang/String" "value" "[B" ∈ ph_T := ph_T_t 1866 (by decide +kernel) rfl
set_option maxRecDepth 100000 in
theorem tw_1867 : Cond.fieldLink RJ0 15 "java/lang/String" "coder" "B" ∈ ph_T := ph_T_t 1867 (by decide +kernel) rfl
theorem tp_0 : Cond.selects yX11_refused.cls yX11_refused yX11_refused ∈ ph_T := ph_T_p 0 rfl
theorem tp_1 : Cond.selects yX11_accepted.cls yX11_accepted yX11_accepted ∈ ph_T := ph_T_p 1 rfl
theorem tp_2 : Cond.selects yX9_describe.cls yX9_describe yX9_describe ∈ ph_T := ph_T_p 2 rfl
theorem tp_3 : Cond.selects yX2_operand.cls yX2_operand yX2_operand ∈ ph_T := ph_T_p 3 rfl
theorem tp_4 : Cond.selects yX9_learnable.cls yX9_learnable yX9_learnable ∈ ph_T := ph_T_p 4 rfl
theorem tp_5 : Cond.selects yX11_tellFromTape.cls yX11_tellFromTape yX11_tellFromTape ∈ ph_T := ph_T_p 5 rfl
theorem tp_8 : Cond.selects yX6_kindHere.cls yX6_kindHere yX6_kindHere ∈ ph_T := ph_T_p 8 rfl
theorem tp_9 : Cond.selects yX6_says.cls yX6_says yX6_says ∈ ph_T := ph_T_p 9 rfl
theorem tp_10 : Cond.selects yX6_fail.cls yX6_fail yX6_fail ∈ ph_T := ph_T_p 10 rfl
theorem tp_11 : Cond.selects yX6_advance.cls yX6_advance yX6_advance ∈ ph_T := ph_T_p 11 rfl
theorem tp_12 : Cond.selects yX6_startPiece.cls yX6_startPiece yX6_startPiece ∈ ph_T := ph_T_p 12 rfl
theorem tp_13 : Cond.selects yX6_readSum.cls yX6_readSum yX6_readSum ∈ ph_T := ph_T_p 13 rfl
theorem tp_14 : Cond.selects yX6_readTerm.cls yX6_readTerm yX6_readTerm ∈ ph_T := ph_T_p 14 rfl
theorem tp_15 : Cond.selects yX6_readPart.cls yX6_readPart yX6_readPart ∈ ph_T := ph_T_p 15 rfl
theorem tp_16 : Cond.selects yX6_open.cls yX6_open yX6_open ∈ ph_T := ph_T_p 16 rfl
theorem tp_17 : Cond.selects yX6_expect.cls yX6_expect yX6_expect ∈ ph_T := ph_T_p 17 rfl
theorem tp_18 : Cond.selects yX6_isNumber.cls yX6_isNumber yX6_isNumber ∈ ph_T := ph_T_p 18 rfl
theorem tp_19 : Cond.selects yX6_wordOfOrders.cls yX6_wordOfOrders yX6_wordOfOrders ∈ ph_T := ph_T_p 19 rfl
theorem tp_20 : Cond.selects yX6_wordOfLaw.cls yX6_wordOfLaw yX6_wordOfLaw ∈ ph_T := ph_T_p 20 rfl
theorem tp_21 : Cond.selects yX6_readNumber.cls yX6_readNumber yX6_readNumber ∈ ph_T := ph_T_p 21 rfl
theorem tp_22 : Cond.selects yX6_add.cls yX6_add yX6_add ∈ ph_T := ph_T_p 22 rfl
theorem tp_23 : Cond.selects yX6_readTest.cls yX6_readTest yX6_readTest ∈ ph_T := ph_T_p 23 rfl
theorem tp_24 : Cond.selects yX6_readBoth.cls yX6_readBoth yX6_readBoth ∈ ph_T := ph_T_p 24 rfl
theorem tp_25 : Cond.selects yX6_readPlain.cls yX6_readPlain yX6_readPlain ∈ ph_T := ph_T_p 25 rfl
theorem tp_26 : Cond.selects yX6_comparisonHere.cls yX6_comparisonHere yX6_comparisonHere ∈ ph_T := ph_T_p 26 rfl
theorem tp_27 : Cond.selects yX6_addJump.cls yX6_addJump yX6_addJump ∈ ph_T := ph_T_p 27 rfl
theorem tp_28 : Cond.selects yX6_land.cls yX6_land yX6_land ∈ ph_T := ph_T_p 28 rfl
theorem tp_29 : Cond.selects yX8_look.cls yX8_look yX8_look ∈ ph_T := ph_T_p 29 rfl
theorem tp_30 : Cond.selects yX8_runOnce.cls yX8_runOnce yX8_runOnce ∈ ph_T := ph_T_p 30 rfl
theorem tp_31 : Cond.selects yX11_acceptedUnlessCannot.cls yX11_acceptedUnlessCannot yX11_acceptedUnlessCannot ∈ ph_T := ph_T_p 31 rfl
theorem tp_32 : Cond.selects yX0_isKnownOf.cls yX0_isKnownOf yX0_isKnownOf ∈ ph_T := ph_T_p 32 rfl
theorem tp_33 : Cond.selects yX0_isLieOfPair.cls yX0_isLieOfPair yX0_isLieOfPair ∈ ph_T := ph_T_p 33 rfl
theorem tp_34 : Cond.selects yX0_isLie.cls yX0_isLie yX0_isLie ∈ ph_T := ph_T_p 34 rfl
theorem tp_35 : Cond.selects yX0_findLies.cls yX0_findLies yX0_findLies ∈ ph_T := ph_T_p 35 rfl
theorem tp_36 : Cond.selects yX0_leavesNoLie.cls yX0_leavesNoLie yX0_leavesNoLie ∈ ph_T := ph_T_p 36 rfl
theorem tp_37 : Cond.selects yX0_fitsHolders.cls yX0_fitsHolders yX0_fitsHolders ∈ ph_T := ph_T_p 37 rfl
theorem tp_38 : Cond.selects yX5_search.cls yX5_search yX5_search ∈ ph_T := ph_T_p 38 rfl
theorem tp_39 : Cond.selects yX5_leavesKnown.cls yX5_leavesKnown yX5_leavesKnown ∈ ph_T := ph_T_p 39 rfl
theorem tp_40 : Cond.selects yX7_search.cls yX7_search yX7_search ∈ ph_T := ph_T_p 40 rfl
theorem tp_41 : Cond.selects yX7_firstDayFor.cls yX7_firstDayFor yX7_firstDayFor ∈ ph_T := ph_T_p 41 rfl
theorem tp_42 : Cond.selects yX7_purseOn.cls yX7_purseOn yX7_purseOn ∈ ph_T := ph_T_p 42 rfl
theorem tp_43 : Cond.selects yX3_mostFrom.cls yX3_mostFrom yX3_mostFrom ∈ ph_T := ph_T_p 43 rfl
theorem tp_44 : Cond.selects yX3_ifSold.cls yX3_ifSold yX3_ifSold ∈ ph_T := ph_T_p 44 rfl
theorem tp_45 : Cond.selects yX3_firstBuyer.cls yX3_firstBuyer yX3_firstBuyer ∈ ph_T := ph_T_p 45 rfl
theorem tp_46 : Cond.selects yX11_chanceOfLasting.cls yX11_chanceOfLasting yX11_chanceOfLasting ∈ ph_T := ph_T_p 46 rfl
theorem tp_47 : Cond.selects yX10_draw.cls yX10_draw yX10_draw ∈ ph_T := ph_T_p 47 rfl
theorem tp_48 : Cond.selects yX10_keep.cls yX10_keep yX10_keep ∈ ph_T := ph_T_p 48 rfl
