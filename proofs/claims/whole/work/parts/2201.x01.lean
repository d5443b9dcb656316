theorem dX9_isPerson_0 : decode cX9_isPerson 0 = .ok (.iload_n 1, 1) := by decide +kernel
theorem dX9_isPerson_1 : decode cX9_isPerson 1 = .ok (.ifCond .lt 15, 3) := by decide +kernel
theorem dX9_isPerson_4 : decode cX9_isPerson 4 = .ok (.iload_n 1, 1) := by decide +kernel
theorem dX9_isPerson_5 : decode cX9_isPerson 5 = .ok (.aload_n 0, 1) := by decide +kernel
theorem dX9_isPerson_6 : decode cX9_isPerson 6 = .ok (.getfield 71, 3) := by decide +kernel
theorem dX9_isPerson_9 : decode cX9_isPerson 9 = .ok (.if_icmp .ge 7, 3) := by decide +kernel
theorem dX9_isPerson_12 : decode cX9_isPerson 12 = .ok (.iconst 1, 1) := by decide +kernel
theorem dX9_isPerson_13 : decode cX9_isPerson 13 = .ok (.goto 4, 3) := by decide +kernel
theorem dX9_isPerson_16 : decode cX9_isPerson 16 = .ok (.iconst 0, 1) := by decide +kernel
theorem dX9_isPerson_17 : decode cX9_isPerson 17 = .ok (.ireturn, 1) := by decide +kernel
theorem ydf9_isPerson : ph_yd yX9_isPerson 1 := ⟨by decide, by decide, by decide +kernel⟩
def f9_isPerson (S : ph_Sh) (M : ph_Mem) (c : Nat) (p0 : Int32) : Option Int32 :=
  if p0 < 0 then (some (0 : Int32)) else (if (M.1 c 1) ≤ p0 then (some (0 : Int32)) else (some (1 : Int32)))
set_option maxHeartbeats 4000000 in
theorem cf9_isPerson {tb adK adV : Nat → Nat} {S : ph_Sh} {c : Nat} {l : Launch} {D : va_G} {cA : Nat → ClassId} {ad : Nat → Nat} (hinj : ∀ i j, i < S.2 → j < S.2 → ad i = ad j → i = j) (hS : ph_SX S) (hc : ph_isS c) {M : ph_Mem} {p0 : Int32} {r : Int32} (hf : f9_isPerson S M c p0 = some r) : ph_C (ph_ZX tb adK adV) l 0 yX9_isPerson cX9_isPerson 2 (some .boolean) D cA S.1 S.2 ad [.ref (ad c), .int p0] M (some (.int r)) M := by
  refine ph_mk ph_ZX_ok hinj (by decide) (Nat.le_of_ble_eq_true rfl) fun X h fin hE => ?_
  refine (?_ : ph_J X S.1 S.2 ad (r : Int32) 0 [(0, .ref (ad c)), (1, .int p0)] [] M (f9_isPerson S M c p0)) hf
  unfold f9_isPerson
  refine j_iload_n h dX9_isPerson_0 rfl 1 rfl ?_
  refine j_if_lt h 16 dX9_isPerson_1 (by decide) ?_ ?_
  · refine j_iconst (v := (0 : Int32)) h dX9_isPerson_16 (by decide) ?_
    exact j_zretPC h rfl (by decide) fin dX9_isPerson_17
  · refine j_iload_n h dX9_isPerson_4 rfl 1 rfl ?_
    refine j_aload_n h dX9_isPerson_5 rfl 0 rfl ?_
    refine j_get (c := c) (j := 1) (v := .int (M.1 c 1)) h (ph_S0n hS hc) (ph_S0 hS hc) rfl ph_inX9 rfl (by decide) tw_64 rfl rfl dX9_isPerson_6 ?_
    refine j_icmp_ge h 16 dX9_isPerson_9 (by decide) ?_ ?_
    · refine j_iconst (v := (0 : Int32)) h dX9_isPerson_16 (by decide) ?_
      exact j_zretPC h rfl (by decide) fin dX9_isPerson_17
    · refine j_iconst (v := (1 : Int32)) h dX9_isPerson_12 (by decide) ?_
      refine j_goto h 17 dX9_isPerson_13 (by decide) ?_
      exact j_zretPC h rfl (by decide) fin dX9_isPerson_17
theorem dX0_isLieOfPair_0 : decode cX0_isLieOfPair 0 = .ok (.iload_n 2, 1) := by decide +kernel
theorem dX0_isLieOfPair_1 : decode cX0_isLieOfPair 1 = .ok (.bipush 6, 2) := by decide +kernel
theorem dX0_isLieOfPair_3 : decode cX0_isLieOfPair 3 = .ok (.idiv, 1) := by decide +kernel
theorem dX0_isLieOfPair_4 : decode cX0_isLieOfPair 4 = .ok (.istore_n 3, 1) := by decide +kernel
theorem dX0_isLieOfPair_5 : decode cX0_isLieOfPair 5 = .ok (.iload_n 2, 1) := by decide +kernel
theorem dX0_isLieOfPair_6 : decode cX0_isLieOfPair 6 = .ok (.bipush 6, 2) := by decide +kernel
theorem dX0_isLieOfPair_8 : decode cX0_isLieOfPair 8 = .ok (.irem, 1) := by decide +kernel
theorem dX0_isLieOfPair_9 : decode cX0_isLieOfPair 9 = .ok (.istore 4, 2) := by decide +kernel
theorem dX0_isLieOfPair_11 : decode cX0_isLieOfPair 11 = .ok (.aload_n 0, 1) := by decide +kernel
theorem dX0_isLieOfPair_12 : decode cX0_isLieOfPair 12 = .ok (.getfield 15, 3) := by decide +kernel
theorem dX0_isLieOfPair_15 : decode cX0_isLieOfPair 15 = .ok (.iload_n 3, 1) := by decide +kernel
theorem dX0_isLieOfPair_16 : decode cX0_isLieOfPair 16 = .ok (.invokevirtual 52, 3) := by decide +kernel
theorem dX0_isLieOfPair_19 : decode cX0_isLieOfPair 19 = .ok (.ifCond .eq 30, 3) := by decide +kernel
theorem dX0_isLieOfPair_22 : decode cX0_isLieOfPair 22 = .ok (.aload_n 0, 1) := by decide +kernel
theorem dX0_isLieOfPair_23 : decode cX0_isLieOfPair 23 = .ok (.getfield 15, 3) := by decide +kernel
theorem dX0_isLieOfPair_26 : decode cX0_isLieOfPair 26 = .ok (.iload 4, 2) := by decide +kernel
theorem dX0_isLieOfPair_28 : decode cX0_isLieOfPair 28 = .ok (.invokevirtual 52, 3) := by decide +kernel
theorem dX0_isLieOfPair_31 : decode cX0_isLieOfPair 31 = .ok (.ifCond .eq 18, 3) := by decide +kernel
theorem dX0_isLieOfPair_34 : decode cX0_isLieOfPair 34 = .ok (.aload_n 0, 1) := by decide +kernel
theorem dX0_isLieOfPair_35 : decode cX0_isLieOfPair 35 = .ok (.iload_n 1, 1) := by decide +kernel
theorem dX0_isLieOfPair_36 : decode cX0_isLieOfPair 36 = .ok (.iload_n 3, 1) := by decide +kernel
theorem dX0_isLieOfPair_37 : decode cX0_isLieOfPair 37 = .ok (.iload 4, 2) := by decide +kernel
theorem dX0_isLieOfPair_39 : decode cX0_isLieOfPair 39 = .ok (.invokevirtual 56, 3) := by decide +kernel
theorem dX0_isLieOfPair_42 : decode cX0_isLieOfPair 42 = .ok (.ifCond .eq 7, 3) := by decide +kernel
theorem dX0_isLieOfPair_45 : decode cX0_isLieOfPair 45 = .ok (.iconst 1, 1) := by decide +kernel
theorem dX0_isLieOfPair_46 : decode cX0_isLieOfPair 46 = .ok (.goto 4, 3) := by decide +kernel
theorem dX0_isLieOfPair_49 : decode cX0_isLieOfPair 49 = .ok (.iconst 0, 1) := by decide +kernel
theorem dX0_isLieOfPair_50 : decode cX0_isLieOfPair 50 = .ok (.ireturn, 1) := by decide +kernel
theorem ydf0_isLieOfPair : ph_yd yX0_isLieOfPair 2 := ⟨by decide, by decide, by decide +kernel⟩
def f0_isLieOfPair (S : ph_Sh) (M : ph_Mem) (p0 : Int32) (p1 : Int32) : Option Int32 :=
  ph_let (p1 - p1 / (6 : Int32) * (6 : Int32)) fun z1 => (f9_isPerson S M 11 (p1 / (6 : Int32))).bind fun q2 => if q2 = 0 then (some (0 : Int32)) else ((f9_isPerson S M 11 z1).bind fun q3 => if q3 = 0 then (some (0 : Int32)) else ((f0_isLie S M p0 (p1 / (6 : Int32)) z1).bind fun q4 => if q4 = 0 then (some (0 : Int32)) else (some (1 : Int32))))
set_option maxHeartbeats 4000000 in
theorem cf0_isLieOfPair {tb adK adV : Nat → Nat} {S : ph_Sh} {l : Launch} {D : va_G} {cA : Nat → ClassId} {ad : Nat → Nat} (hinj : ∀ i j, i < S.2 → j < S.2 → ad i = ad j → i = j) (hS : ph_SX S) {M : ph_Mem} {p0 : Int32} {p1 : Int32} {r : Int32} (hf : f0_isLieOfPair S M p0 p1 = some r) : ph_C (ph_ZX tb adK adV) l 3 yX0_isLieOfPair cX0_isLieOfPair 5 (some .boolean) D cA S.1 S.2 ad [.ref (ad 71), .int p0, .int p1] M (some (.int r)) M := by
  refine ph_mk ph_ZX_ok hinj (by decide) (Nat.le_of_ble_eq_true rfl) fun X h fin hE => ?_
  refine (?_ : ph_J X S.1 S.2 ad (r : Int32) 0 [(0, .ref (ad 71)), (1, .int p0), (2, .int p1)] [] M (f0_isLieOfPair S M p0 p1)) hf
  unfold f0_isLieOfPair
  refine j_iload_n h dX0_isLieOfPair_0 rfl 2 rfl ?_
  refine j_bipush (v := (6 : Int32)) h dX0_isLieOfPair_1 (by decide) ?_
  refine j_idivK h dX0_isLieOfPair_3 (by decide) ?_
  refine j_istore_n h [(3, .int (p1 / (6 : Int32))), (0, .ref (ad 71)), (1, .int p0), (2, .int p1)] dX0_isLieOfPair_4 rfl (by decide) rfl ?_
  refine j_iload_n h dX0_isLieOfPair_5 rfl 3 rfl ?_
  refine j_bipush (v := (6 : Int32)) h dX0_isLieOfPair_6 (by decide) ?_
  refine j_iremK h dX0_isLieOfPair_8 (by decide) ?_
  refine j_istore h [(4, .int (p1 - p1 / (6 : Int32) * (6 : Int32))), (3, .int (p1 / (6 : Int32))), (0, .ref (ad 71)), (1, .int p0), (2, .int p1)] dX0_isLieOfPair_9 (by decide) rfl ?_
  refine j_letI (lvf := fun z1 => [(4, .int z1), (3, .int (p1 / (6 : Int32))), (0, .ref (ad 71)), (1, .int p0), (2, .int p1)]) (fun z1 => ?_)
  refine j_aload_n h dX0_isLieOfPair_11 rfl 2 rfl ?_
  refine j_get (c := 71) (j := 0) (v := .ref (ad 11)) h (ph_xlt hS (by decide)) (ph_kc71 hS) rfl ph_inX0 rfl (by decide) tw_237 rfl rfl dX0_isLieOfPair_12 ?_
  refine j_iload_n h dX0_isLieOfPair_15 rfl 1 rfl ?_
  refine j_callViP (n := 1) (As := [.int (p1 / (6 : Int32))]) (rest := []) h 11 tw_990 tw_457 tw_458 tw_3 tw_459 ydf9_isPerson (by decide) (by decide) (ph_xlt hS (by decide)) (ph_kc11 hS) rfl (fun q hq => cf9_isPerson (ph_okI h) hS (by decide) hq) rfl (Nat.le_of_ble_eq_true rfl) rfl dX0_isLieOfPair_16 (fun q2 => ?_)
  refine j_if_eq h 49 dX0_isLieOfPair_19 (by decide) ?_ ?_
  · refine j_iconst (v := (0 : Int32)) h dX0_isLieOfPair_49 (by decide) ?_
    exact j_zretPC h rfl (by decide) fin dX0_isLieOfPair_50
  · refine j_aload_n h dX0_isLieOfPair_22 rfl 2 rfl ?_
    refine j_get (c := 71) (j := 0) (v := .ref (ad 11)) h (ph_xlt hS (by decide)) (ph_kc71 hS) rfl ph_inX0 rfl (by decide) tw_237 rfl rfl dX0_isLieOfPair_23 ?_
    refine j_iload h dX0_isLieOfPair_26 0 rfl ?_
    refine j_callViP (n := 1) (As := [.int z1]) (rest := []) h 11 tw_990 tw_457 tw_458 tw_3 tw_459 ydf9_isPerson (by decide) (by decide) (ph_xlt hS (by decide)) (ph_kc11 hS) rfl (fun q hq => cf9_isPerson (ph_okI h) hS (by decide) hq) rfl (Nat.le_of_ble_eq_true rfl) rfl dX0_isLieOfPair_28 (fun q3 => ?_)
    refine j_if_eq h 49 dX0_isLieOfPair_31 (by decide) ?_ ?_
    · refine j_iconst (v := (0 : Int32)) h dX0_isLieOfPair_49 (by decide) ?_
      exact j_zretPC h rfl (by decide) fin dX0_isLieOfPair_50
    · refine j_aload_n h dX0_isLieOfPair_34 rfl 2 rfl ?_
      refine j_iload_n h dX0_isLieOfPair_35 rfl 3 rfl ?_
      refine j_iload_n h dX0_isLieOfPair_36 rfl 1 rfl ?_
      refine j_iload h dX0_isLieOfPair_37 0 rfl ?_
      refine j_callViP (n := 3) (As := [.int p0, .int (p1 / (6 : Int32)), .int z1]) (rest := []) h 71 tw_991 tw_993 tp_34 tw_9 tw_994 ydf0_isLie (by decide) (by decide) (ph_xlt hS (by decide)) (ph_kc71 hS) rfl (fun q hq => cf0_isLie (ph_okI h) hS hq) rfl (Nat.le_of_ble_eq_true rfl) rfl dX0_isLieOfPair_39 (fun q4 => ?_)
      refine j_if_eq h 49 dX0_isLieOfPair_42 (by decide) ?_ ?_
      · refine j_iconst (v := (0 : Int32)) h dX0_isLieOfPair_49 (by decide) ?_
        exact j_zretPC h rfl (by decide) fin dX0_isLieOfPair_50
      · refine j_iconst (v := (1 : Int32)) h dX0_isLieOfPair_45 (by decide) ?_
        refine j_goto h 50 dX0_isLieOfPair_46 (by decide) ?_
        exact j_zretPC h rfl (by decide) fin dX0_isLieOfPair_50
theorem dX0_countLies_0 : decode cX0_countLies 0 = .ok (.iconst 0, 1) := by decide +kernel
theorem dX0_countLies_1 : decode cX0_countLies 1 = .ok (.istore_n 1, 1) := by decide +kernel
theorem dX0_countLies_2 : decode cX0_countLies 2 = .ok (.iconst 0, 1) := by decide +kernel
theorem dX0_countLies_3 : decode cX0_countLies 3 = .ok (.istore_n 2, 1) := by decide +kernel
theorem dX0_countLies_4 : decode cX0_countLies 4 = .ok (.iload_n 2, 1) := by decide +kernel
theorem dX0_countLies_5 : decode cX0_countLies 5 = .ok (.bipush 12, 2) := by decide +kernel
theorem dX0_countLies_7 : decode cX0_countLies 7 = .ok (.if_icmp .ge 35, 3) := by decide +kernel
theorem dX0_countLies_10 : decode cX0_countLies 10 = .ok (.iconst 0, 1) := by decide +kernel
theorem dX0_countLies_11 : decode cX0_countLies 11 = .ok (.istore_n 3, 1) := by decide +kernel
theorem dX0_countLies_12 : decode cX0_countLies 12 = .ok (.iload_n 3, 1) := by decide +kernel
theorem dX0_countLies_13 : decode cX0_countLies 13 = .ok (.bipush 36, 2) := by decide +kernel
theorem dX0_countLies_15 : decode cX0_countLies 15 = .ok (.if_icmp .ge 21, 3) := by decide +kernel
theorem dX0_countLies_18 : decode cX0_countLies 18 = .ok (.aload_n 0, 1) := by decide +kernel
theorem dX0_countLies_19 : decode cX0_countLies 19 = .ok (.iload_n 2, 1) := by decide +kernel
theorem dX0_countLies_20 : decode cX0_countLies 20 = .ok (.iload_n 3, 1) := by decide +kernel
theorem dX0_countLies_21 : decode cX0_countLies 21 = .ok (.invokevirtual 49, 3) := by decide +kernel
theorem dX0_countLies_24 : decode cX0_countLies 24 = .ok (.ifCond .eq 6, 3) := by decide +kernel
theorem dX0_countLies_27 : decode cX0_countLies 27 = .ok (.iinc 1 1, 3) := by decide +kernel
theorem dX0_countLies_30 : decode cX0_countLies 30 = .ok (.iinc 3 1, 3) := by decide +kernel
theorem dX0_countLies_33 : decode cX0_countLies 33 = .ok (.goto (-21), 3) := by decide +kernel
theorem dX0_countLies_36 : decode cX0_countLies 36 = .ok (.iinc 2 1, 3) := by decide +kernel
theorem dX0_countLies_39 : decode cX0_countLies 39 = .ok (.goto (-35), 3) := by decide +kernel
theorem dX0_countLies_42 : decode cX0_countLies 42 = .ok (.iload_n 1, 1) := by decide +kernel
theorem dX0_countLies_43 : decode cX0_countLies 43 = .ok (.ireturn, 1) := by decide +kernel
def f0_countLies_j30 (S : ph_Sh) (M : ph_Mem) (rc4 : Int32 → Int32 → Option Int32) (rc12 : Int32 → Int32 → Int32 → Option Int32) (x1 : Int32) (x2 : Int32) (x3 : Int32) : Option Int32 :=
  rc12 x1 x2 (x3 + (1 : Int32))
set_option maxHeartbeats 4000000 in
theorem jb_f0_countLies_j30 {tb adK adV : Nat → Nat} {S : ph_Sh} {X : ph_X} {ad : Nat → Nat} {o : Int32} {M : ph_Mem} (h : ph_ok (ph_ZX tb adK adV) X cX0_countLies RX0 (some .int) 4 4 S.2 ad) (fin : ph_fin X S.1 S.2 ad (some (.int o)) M) (hS : ph_SX S) {rc4 : Int32 → Int32 → Option Int32} (hrc4 : ∀ (x1 : Int32) (x2 : Int32), ph_J X S.1 S.2 ad o 4 [(0, .ref (ad 71)), (1, .int x1), (2, .int x2)] [] M (rc4 x1 x2)) {rc12 : Int32 → Int32 → Int32 → Option Int32} (hrc12 : ∀ (x1 : Int32) (x2 : Int32) (x3 : Int32), ph_J X S.1 S.2 ad o 12 [(0, .ref (ad 71)), (1, .int x1), (2, .int x2), (3, .int x3)] [] M (rc12 x1 x2 x3)) : ∀ (x1 : Int32) (x2 : Int32) (x3 : Int32), ph_J X S.1 S.2 ad o 30 [(0, .ref (ad 71)), (1, .int x1), (2, .int x2), (3, .int x3)] [] M (f0_countLies_j30 S M rc4 rc12 x1 x2 x3) := by
  intro x1 x2 x3
  unfold f0_countLies_j30
  refine j_iinc h [(3, .int (x3 + (1 : Int32))), (0, .ref (ad 71)), (1, .int x1), (2, .int x2)] dX0_countLies_30 3 rfl rfl (by decide) rfl ?_
  refine j_goto h 12 dX0_countLies_33 (by decide) ?_
  refine j_sub [1, 2, 3, 0] rfl ?_
  exact hrc12 x1 x2 (x3 + (1 : Int32))
def f0_countLies_j36 (S : ph_Sh) (M : ph_Mem) (rc4 : Int32 → Int32 → Option Int32) (x1 : Int32) (x2 : Int32) : Option Int32 :=
  rc4 x1 (x2 + (1 : Int32))
set_option maxHeartbeats 4000000 in
theorem jb_f0_countLies_j36 {tb adK adV : Nat → Nat} {S : ph_Sh} {X : ph_X} {ad : Nat → Nat} {o : Int32} {M : ph_Mem} (h : ph_ok (ph_ZX tb adK adV) X cX0_countLies RX0 (some .int) 4 4 S.2 ad) (fin : ph_fin X S.1 S.2 ad (some (.int o)) M) (hS : ph_SX S) {rc4 : Int32 → Int32 → Option Int32} (hrc4 : ∀ (x1 : Int32) (x2 : Int32), ph_J X S.1 S.2 ad o 4 [(0, .ref (ad 71)), (1, .int x1), (2, .int x2)] [] M (rc4 x1 x2)) : ∀ (x1 : Int32) (x2 : Int32), ph_J X S.1 S.2 ad o 36 [(0, .ref (ad 71)), (1, .int x1), (2, .int x2)] [] M (f0_countLies_j36 S M rc4 x1 x2) := by
  intro x1 x2
  unfold f0_countLies_j36
  refine j_iinc h [(2, .int (x2 + (1 : Int32))), (0, .ref (ad 71)), (1, .int x1)] dX0_countLies_36 2 rfl rfl (by decide) rfl ?_
  refine j_goto h 4 dX0_countLies_39 (by decide) ?_
  refine j_sub [1, 2, 0] rfl ?_
  exact hrc4 x1 (x2 + (1 : Int32))
def f0_countLies_l12 (S : ph_Sh) (M : ph_Mem) (rc4 : Int32 → Int32 → Option Int32) : Nat → Int32 → Int32 → Int32 → Option Int32
  | 0, _, _, _ => none
  | n + 1, x1, x2, x3 => if (36 : Int32) ≤ x3 then (f0_countLies_j36 S M rc4 x1 x2) else ((f0_isLieOfPair S M x2 x3).bind fun q1 => if q1 = 0 then (f0_countLies_j30 S M rc4 (f0_countLies_l12 S M rc4 n) x1 x2 x3) else (f0_countLies_j30 S M rc4 (f0_countLies_l12 S M rc4 n) (x1 + (1 : Int32)) x2 x3))
set_option maxHeartbeats 4000000 in
theorem jb_f0_countLies_l12 {tb adK adV : Nat → Nat} {S : ph_Sh} {X : ph_X} {ad : Nat → Nat} {o : Int32} {M : ph_Mem} (h : ph_ok (ph_ZX tb adK adV) X cX0_countLies RX0 (some .int) 4 4 S.2 ad) (fin : ph_fin X S.1 S.2 ad (some (.int o)) M) (hS : ph_SX S) {rc4 : Int32 → Int32 → Option Int32} (hrc4 : ∀ (x1 : Int32) (x2 : Int32), ph_J X S.1 S.2 ad o 4 [(0, .ref (ad 71)), (1, .int x1), (2, .int x2)] [] M (rc4 x1 x2)) : ∀ (n : Nat) (x1 : Int32) (x2 : Int32) (x3 : Int32), ph_J X S.1 S.2 ad o 12 [(0, .ref (ad 71)), (1, .int x1), (2, .int x2), (3, .int x3)] [] M (f0_countLies_l12 S M rc4 n x1 x2 x3) := by
  intro n
  induction n with
  | zero => intro x1 x2 x3; exact j_none
  | succ n hrc12 =>
    intro x1 x2 x3
    unfold f0_countLies_l12
    refine j_iload_n h dX0_countLies_12 rfl 3 rfl ?_
    refine j_bipush (v := (36 : Int32)) h dX0_countLies_13 (by decide) ?_
    refine j_icmp_ge h 36 dX0_countLies_15 (by decide) ?_ ?_
    · refine j_sub [0, 1, 2] rfl ?_
      exact jb_f0_countLies_j36 h fin hS hrc4 x1 x2
    · refine j_aload_n h dX0_countLies_18 rfl 0 rfl ?_
      refine j_iload_n h dX0_countLies_19 rfl 2 rfl ?_
      refine j_iload_n h dX0_countLies_20 rfl 3 rfl ?_
      refine j_callViP (n := 2) (As := [.int x2, .int x3]) (rest := []) h 71 tw_986 tw_988 tp_33 tw_9 tw_989 ydf0_isLieOfPair (by decide) (by decide) (ph_xlt hS (by decide)) (ph_kc71 hS) rfl (fun q hq => cf0_isLieOfPair (ph_okI h) hS hq) rfl (Nat.le_of_ble_eq_true rfl) rfl dX0_countLies_21 (fun q1 => ?_)
      refine j_if_eq h 30 dX0_countLies_24 (by decide) ?_ ?_
      · refine j_sub [0, 1, 2, 3] rfl ?_
        exact jb_f0_countLies_j30 h fin hS hrc4 hrc12 x1 x2 x3
      · refine j_iinc h [(1, .int (x1 + (1 : Int32))), (0, .ref (ad 71)), (2, .int x2), (3, .int x3)] dX0_countLies_27 1 rfl rfl (by decide) rfl ?_
        refine j_sub [1, 0, 2, 3] rfl ?_
        exact jb_f0_countLies_j30 h fin hS hrc4 hrc12 (x1 + (1 : Int32)) x2 x3
def f0_countLies_l4 (S : ph_Sh) (M : ph_Mem) : Nat → Int32 → Int32 → Option Int32
  | 0, _, _ => none
  | n + 1, x1, x2 => if (12 : Int32) ≤ x2 then (some x1) else (f0_countLies_l12 S M (f0_countLies_l4 S M n) 10000 x1 x2 (0 : Int32))
set_option maxHeartbeats 4000000 in
theorem jb_f0_countLies_l4 {tb adK adV : Nat → Nat} {S : ph_Sh} {X : ph_X} {ad : Nat → Nat} {o : Int32} {M : ph_Mem} (h : ph_ok (ph_ZX tb adK adV) X cX0_countLies RX0 (some .int) 4 4 S.2 ad) (fin : ph_fin X S.1 S.2 ad (some (.int o)) M) (hS : ph_SX S) : ∀ (n : Nat) (x1 : Int32) (x2 : Int32), ph_J X S.1 S.2 ad o 4 [(0, .ref (ad 71)), (1, .int x1), (2, .int x2)] [] M (f0_countLies_l4 S M n x1 x2) := by
  intro n
  induction n with
  | zero => intro x1 x2; exact j_none
  | succ n hrc4 =>
    intro x1 x2
    unfold f0_countLies_l4
    refine j_iload_n h dX0_countLies_4 rfl 2 rfl ?_
    refine j_bipush (v := (12 : Int32)) h dX0_countLies_5 (by decide) ?_
    refine j_icmp_ge h 42 dX0_countLies_7 (by decide) ?_ ?_
    · refine j_iload_n h dX0_countLies_42 rfl 1 rfl ?_
      exact j_iretP h rfl fin dX0_countLies_43
    · refine j_iconst (v := (0 : Int32)) h dX0_countLies_10 (by decide) ?_
      refine j_istore_n h [(3, .int (0 : Int32)), (0, .ref (ad 71)), (1, .int x1), (2, .int x2)] dX0_countLies_11 rfl (by decide) rfl ?_
      refine j_sub [1, 2, 3, 0] rfl ?_
      exact jb_f0_countLies_l12 h fin hS hrc4 10000 x1 x2 (0 : Int32)
theorem ydf0_countLies : ph_yd yX0_countLies 0 := ⟨by decide, by decide, by decide +kernel⟩
def f0_countLies (S : ph_Sh) (M : ph_Mem) : Option Int32 :=
  f0_countLies_l4 S M 10000 (0 : Int32) (0 : Int32)
set_option maxHeartbeats 4000000 in
theorem cf0_countLies {tb adK adV : Nat → Nat} {S : ph_Sh} {l : Launch} {D : va_G} {cA : Nat → ClassId} {ad : Nat → Nat} (hinj : ∀ i j, i < S.2 → j < S.2 → ad i = ad j → i = j) (hS : ph_SX S) {M : ph_Mem} {r : Int32} (hf : f0_countLies S M  = some r) : ph_C (ph_ZX tb adK adV) l 4 yX0_countLies cX0_countLies 4 (some .int) D cA S.1 S.2 ad [.ref (ad 71)] M (some (.int r)) M := by
  refine ph_mk ph_ZX_ok hinj (by decide) (Nat.le_of_ble_eq_true rfl) fun X h fin hE => ?_
  refine (?_ : ph_J X S.1 S.2 ad (r : Int32) 0 [(0, .ref (ad 71))] [] M (f0_countLies S M )) hf
  unfold f0_countLies
  refine j_iconst (v := (0 : Int32)) h dX0_countLies_0 (by decide) ?_
  refine j_istore_n h [(1, .int (0 : Int32)), (0, .ref (ad 71))] dX0_countLies_1 rfl (by decide) rfl ?_
  refine j_iconst (v := (0 : Int32)) h dX0_countLies_2 (by decide) ?_
  refine j_istore_n h [(2, .int (0 : Int32)), (1, .int (0 : Int32)), (0, .ref (ad 71))] dX0_countLies_3 rfl (by decide) rfl ?_
  refine j_sub [2, 1, 0] rfl ?_
  exact jb_f0_countLies_l4 h fin hS 10000 (0 : Int32) (0 : Int32)
theorem dX0_lieAt_0 : decode cX0_lieAt 0 = .ok (.iload_n 1, 1) := by decide +kernel
theorem dX0_lieAt_1 : decode cX0_lieAt 1 = .ok (.istore_n 2, 1) := by decide +kernel
theorem dX0_lieAt_2 : decode cX0_lieAt 2 = .ok (.iconst 0, 1) := by decide +kernel
theorem dX0_lieAt_3 : decode cX0_lieAt 3 = .ok (.istore_n 3, 1) := by decide +kernel
theorem dX0_lieAt_4 : decode cX0_lieAt 4 = .ok (.iload_n 3, 1) := by decide +kernel
theorem dX0_lieAt_5 : decode cX0_lieAt 5 = .ok (.bipush 12, 2) := by decide +kernel
theorem dX0_lieAt_7 : decode cX0_lieAt 7 = .ok (.if_icmp .ge 53, 3) := by decide +kernel
theorem dX0_lieAt_10 : decode cX0_lieAt 10 = .ok (.iconst 0, 1) := by decide +kernel
theorem dX0_lieAt_11 : decode cX0_lieAt 11 = .ok (.istore 4, 2) := by decide +kernel
theorem dX0_lieAt_13 : decode cX0_lieAt 13 = .ok (.iload 4, 2) := by decide +kernel
theorem dX0_lieAt_15 : decode cX0_lieAt 15 = .ok (.bipush 36, 2) := by decide +kernel
theorem dX0_lieAt_17 : decode cX0_lieAt 17 = .ok (.if_icmp .ge 37, 3) := by decide +kernel
theorem dX0_lieAt_20 : decode cX0_lieAt 20 = .ok (.aload_n 0, 1) := by decide +kernel
theorem dX0_lieAt_21 : decode cX0_lieAt 21 = .ok (.iload_n 3, 1) := by decide +kernel
theorem dX0_lieAt_22 : decode cX0_lieAt 22 = .ok (.iload 4, 2) := by decide +kernel
theorem dX0_lieAt_24 : decode cX0_lieAt 24 = .ok (.invokevirtual 49, 3) := by decide +kernel
theorem dX0_lieAt_27 : decode cX0_lieAt 27 = .ok (.ifCond .eq 21, 3) := by decide +kernel
theorem dX0_lieAt_30 : decode cX0_lieAt 30 = .ok (.iload_n 2, 1) := by decide +kernel
theorem dX0_lieAt_31 : decode cX0_lieAt 31 = .ok (.ifCond .ne 14, 3) := by decide +kernel
theorem dX0_lieAt_34 : decode cX0_lieAt 34 = .ok (.iload_n 3, 1) := by decide +kernel
theorem dX0_lieAt_35 : decode cX0_lieAt 35 = .ok (.bipush 6, 2) := by decide +kernel
theorem dX0_lieAt_37 : decode cX0_lieAt 37 = .ok (.imul, 1) := by decide +kernel
theorem dX0_lieAt_38 : decode cX0_lieAt 38 = .ok (.bipush 6, 2) := by decide +kernel
theorem dX0_lieAt_40 : decode cX0_lieAt 40 = .ok (.imul, 1) := by decide +kernel
theorem dX0_lieAt_41 : decode cX0_lieAt 41 = .ok (.iload 4, 2) := by decide +kernel
theorem dX0_lieAt_43 : decode cX0_lieAt 43 = .ok (.iadd, 1) := by decide +kernel
theorem dX0_lieAt_44 : decode cX0_lieAt 44 = .ok (.ireturn, 1) := by decide +kernel
theorem dX0_lieAt_45 : decode cX0_lieAt 45 = .ok (.iinc 2 (-1), 3) := by decide +kernel
theorem dX0_lieAt_48 : decode cX0_lieAt 48 = .ok (.iinc 4 1, 3) := by decide +kernel
theorem dX0_lieAt_51 : decode cX0_lieAt 51 = .ok (.goto (-38), 3) := by decide +kernel
theorem dX0_lieAt_54 : decode cX0_lieAt 54 = .ok (.iinc 3 1, 3) := by decide +kernel
theorem dX0_lieAt_57 : decode cX0_lieAt 57 = .ok (.goto (-53), 3) := by decide +kernel
theorem dX0_lieAt_60 : decode cX0_lieAt 60 = .ok (.iconst (-1), 1) := by decide +kernel
theorem dX0_lieAt_61 : decode cX0_lieAt 61 = .ok (.ireturn, 1) := by decide +kernel
def f0_lieAt_j34 (S : ph_Sh) (M : ph_Mem) (x3 : Int32) (x4 : Int32) : Option Int32 :=
  some (((x3 * (6 : Int32)) * (6 : Int32)) + x4)
set_option maxHeartbeats 4000000 in
theorem jb_f0_lieAt_j34 {tb adK adV : Nat → Nat} {S : ph_Sh} {X : ph_X} {ad : Nat → Nat} {o : Int32} {M : ph_Mem} (h : ph_ok (ph_ZX tb adK adV) X cX0_lieAt RX0 (some .int) 5 4 S.2 ad) (fin : ph_fin X S.1 S.2 ad (some (.int o)) M) (hS : ph_SX S) : ∀ (x3 : Int32) (x4 : Int32), ph_J X S.1 S.2 ad o 34 [(3, .int x3), (4, .int x4)] [] M (f0_lieAt_j34 S M x3 x4) := by
  intro x3 x4
  unfold f0_lieAt_j34
  refine j_iload_n h dX0_lieAt_34 rfl 0 rfl ?_
  refine j_bipush (v := (6 : Int32)) h dX0_lieAt_35 (by decide) ?_
  refine j_imul h dX0_lieAt_37 ?_
  refine j_bipush (v := (6 : Int32)) h dX0_lieAt_38 (by decide) ?_
  refine j_imul h dX0_lieAt_40 ?_
  refine j_iload h dX0_lieAt_41 1 rfl ?_
  refine j_iadd h dX0_lieAt_43 ?_
  exact j_iretP h rfl fin dX0_lieAt_44
def f0_lieAt_j48 (S : ph_Sh) (M : ph_Mem) (rc4 : Int32 → Int32 → Option Int32) (rc13 : Int32 → Int32 → Int32 → Option Int32) (x2 : Int32) (x3 : Int32) (x4 : Int32) : Option Int32 :=
  rc13 x2 x3 (x4 + (1 : Int32))
set_option maxHeartbeats 4000000 in
theorem jb_f0_lieAt_j48 {tb adK adV : Nat → Nat} {S : ph_Sh} {X : ph_X} {ad : Nat → Nat} {o : Int32} {M : ph_Mem} (h : ph_ok (ph_ZX tb adK adV) X cX0_lieAt RX0 (some .int) 5 4 S.2 ad) (fin : ph_fin X S.1 S.2 ad (some (.int o)) M) (hS : ph_SX S) {rc4 : Int32 → Int32 → Option Int32} (hrc4 : ∀ (x2 : Int32) (x3 : Int32), ph_J X S.1 S.2 ad o 4 [(0, .ref (ad 71)), (2, .int x2), (3, .int x3)] [] M (rc4 x2 x3)) {rc13 : Int32 → Int32 → Int32 → Option Int32} (hrc13 : ∀ (x2 : Int32) (x3 : Int32) (x4 : Int32), ph_J X S.1 S.2 ad o 13 [(0, .ref (ad 71)), (2, .int x2), (3, .int x3), (4, .int x4)] [] M (rc13 x2 x3 x4)) : ∀ (x2 : Int32) (x3 : Int32) (x4 : Int32), ph_J X S.1 S.2 ad o 48 [(0, .ref (ad 71)), (2, .int x2), (3, .int x3), (4, .int x4)] [] M (f0_lieAt_j48 S M rc4 rc13 x2 x3 x4) := by
  intro x2 x3 x4
  unfold f0_lieAt_j48
  refine j_iinc h [(4, .int (x4 + (1 : Int32))), (0, .ref (ad 71)), (2, .int x2), (3, .int x3)] dX0_lieAt_48 3 rfl rfl (by decide) rfl ?_
  refine j_goto h 13 dX0_lieAt_51 (by decide) ?_
  refine j_sub [1, 2, 3, 0] rfl ?_
  exact hrc13 x2 x3 (x4 + (1 : Int32))
def f0_lieAt_j54 (S : ph_Sh) (M : ph_Mem) (rc4 : Int32 → Int32 → Option Int32) (x2 : Int32) (x3 : Int32) : Option Int32 :=
  rc4 x2 (x3 + (1 : Int32))
set_option maxHeartbeats 4000000 in
theorem jb_f0_lieAt_j54 {tb adK adV : Nat → Nat} {S : ph_Sh} {X : ph_X} {ad : Nat → Nat} {o : Int32} {M : ph_Mem} (h : ph_ok (ph_ZX tb adK adV) X cX0_lieAt RX0 (some .int) 5 4 S.2 ad) (fin : ph_fin X S.1 S.2 ad (some (.int o)) M) (hS : ph_SX S) {rc4 : Int32 → Int32 → Option Int32} (hrc4 : ∀ (x2 : Int32) (x3 : Int32), ph_J X S.1 S.2 ad o 4 [(0, .ref (ad 71)), (2, .int x2), (3, .int x3)] [] M (rc4 x2 x3)) : ∀ (x2 : Int32) (x3 : Int32), ph_J X S.1 S.2 ad o 54 [(0, .ref (ad 71)), (2, .int x2), (3, .int x3)] [] M (f0_lieAt_j54 S M rc4 x2 x3) := by
  intro x2 x3
  unfold f0_lieAt_j54
  refine j_iinc h [(3, .int (x3 + (1 : Int32))), (0, .ref (ad 71)), (2, .int x2)] dX0_lieAt_54 2 rfl rfl (by decide) rfl ?_
  refine j_goto h 4 dX0_lieAt_57 (by decide) ?_
  refine j_sub [1, 2, 0] rfl ?_
  exact hrc4 x2 (x3 + (1 : Int32))
def f0_lieAt_l13 (S : ph_Sh) (M : ph_Mem) (rc4 : Int32 → Int32 → Option Int32) : Nat → Int32 → Int32 → Int32 → Option Int32
  | 0, _, _, _ => none
  | n + 1, x2, x3, x4 => if (36 : Int32) ≤ x4 then (f0_lieAt_j54 S M rc4 x2 x3) else ((f0_isLieOfPair S M x3 x4).bind fun q1 => if q1 = 0 then (f0_lieAt_j48 S M rc4 (f0_lieAt_l13 S M rc4 n) x2 x3 x4) else (if x2 = 0 then (f0_lieAt_j34 S M x3 x4) else (f0_lieAt_j48 S M rc4 (f0_lieAt_l13 S M rc4 n) (x2 + (-1 : Int32)) x3 x4)))
set_option maxHeartbeats 4000000 in
theorem jb_f0_lieAt_l13 {tb adK adV : Nat → Nat} {S : ph_Sh} {X : ph_X} {ad : Nat → Nat} {o : Int32} {M : ph_Mem} (h : ph_ok (ph_ZX tb adK adV) X cX0_lieAt RX0 (some .int) 5 4 S.2 ad) (fin : ph_fin X S.1 S.2 ad (some (.int o)) M) (hS : ph_SX S) {rc4 : Int32 → Int32 → Option Int32} (hrc4 : ∀ (x2 : Int32) (x3 : Int32), ph_J X S.1 S.2 ad o 4 [(0, .ref (ad 71)), (2, .int x2), (3, .int x3)] [] M (rc4 x2 x3)) : ∀ (n : Nat) (x2 : Int32) (x3 : Int32) (x4 : Int32), ph_J X S.1 S.2 ad o 13 [(0, .ref (ad 71)), (2, .int x2), (3, .int x3), (4, .int x4)] [] M (f0_lieAt_l13 S M rc4 n x2 x3 x4) := by
  intro n
  induction n with
  | zero => intro x2 x3 x4; exact j_none
  | succ n hrc13 =>
    intro x2 x3 x4
    unfold f0_lieAt_l13
    refine j_iload h dX0_lieAt_13 3 rfl ?_
    refine j_bipush (v := (36 : Int32)) h dX0_lieAt_15 (by decide) ?_
    refine j_icmp_ge h 54 dX0_lieAt_17 (by decide) ?_ ?_
    · refine j_sub [0, 1, 2] rfl ?_
      exact jb_f0_lieAt_j54 h fin hS hrc4 x2 x3
    · refine j_aload_n h dX0_lieAt_20 rfl 0 rfl ?_
      refine j_iload_n h dX0_lieAt_21 rfl 2 rfl ?_
      refine j_iload h dX0_lieAt_22 3 rfl ?_
      refine j_callViP (n := 2) (As := [.int x3, .int x4]) (rest := []) h 71 tw_986 tw_988 tp_33 tw_9 tw_989 ydf0_isLieOfPair (by decide) (by decide) (ph_xlt hS (by decide)) (ph_kc71 hS) rfl (fun q hq => cf0_isLieOfPair (ph_okI h) hS hq) rfl (Nat.le_of_ble_eq_true rfl) rfl dX0_lieAt_24 (fun q1 => ?_)
      refine j_if_eq h 48 dX0_lieAt_27 (by decide) ?_ ?_
      · refine j_sub [0, 1, 2, 3] rfl ?_
        exact jb_f0_lieAt_j48 h fin hS hrc4 hrc13 x2 x3 x4
      · refine j_iload_n h dX0_lieAt_30 rfl 1 rfl ?_
        refine j_if_ne h 45 dX0_lieAt_31 (by decide) ?_ ?_
        · refine j_iinc h [(2, .int (x2 + (-1 : Int32))), (0, .ref (ad 71)), (3, .int x3), (4, .int x4)] dX0_lieAt_45 1 rfl rfl (by decide) rfl ?_
          refine j_sub [1, 0, 2, 3] rfl ?_
          exact jb_f0_lieAt_j48 h fin hS hrc4 hrc13 (x2 + (-1 : Int32)) x3 x4
        · refine j_sub [2, 3] rfl ?_
          exact jb_f0_lieAt_j34 h fin hS x3 x4
def f0_lieAt_l4 (S : ph_Sh) (M : ph_Mem) : Nat → Int32 → Int32 → Option Int32
  | 0, _, _ => none
  | n + 1, x2, x3 => if (12 : Int32) ≤ x3 then (some (-1 : Int32)) else (f0_lieAt_l13 S M (f0_lieAt_l4 S M n) 10000 x2 x3 (0 : Int32))
set_option maxHeartbeats 4000000 in
theorem jb_f0_lieAt_l4 {tb adK adV : Nat → Nat} {S : ph_Sh} {X : ph_X} {ad : Nat → Nat} {o : Int32} {M : ph_Mem} (h : ph_ok (ph_ZX tb adK adV) X cX0_lieAt RX0 (some .int) 5 4 S.2 ad) (fin : ph_fin X S.1 S.2 ad (some (.int o)) M) (hS : ph_SX S) : ∀ (n : Nat) (x2 : Int32) (x3 : Int32), ph_J X S.1 S.2 ad o 4 [(0, .ref (ad 71)), (2, .int x2), (3, .int x3)] [] M (f0_lieAt_l4 S M n x2 x3) := by
  intro n
  induction n with
  | zero => intro x2 x3; exact j_none
  | succ n hrc4 =>
    intro x2 x3
    unfold f0_lieAt_l4
    refine j_iload_n h dX0_lieAt_4 rfl 2 rfl ?_
    refine j_bipush (v := (12 : Int32)) h dX0_lieAt_5 (by decide) ?_
    refine j_icmp_ge h 60 dX0_lieAt_7 (by decide) ?_ ?_
    · refine j_iconst (v := (-1 : Int32)) h dX0_lieAt_60 (by decide) ?_
      exact j_iretP h rfl fin dX0_lieAt_61
    · refine j_iconst (v := (0 : Int32)) h dX0_lieAt_10 (by decide) ?_
      refine j_istore h [(4, .int (0 : Int32)), (0, .ref (ad 71)), (2, .int x2), (3, .int x3)] dX0_lieAt_11 (by decide) rfl ?_
      refine j_sub [1, 2, 3, 0] rfl ?_
      exact jb_f0_lieAt_l13 h fin hS hrc4 10000 x2 x3 (0 : Int32)
theorem ydf0_lieAt : ph_yd yX0_lieAt 1 := ⟨by decide, by decide, by decide +kernel⟩
def f0_lieAt (S : ph_Sh) (M : ph_Mem) (p0 : Int32) : Option Int32 :=
  f0_lieAt_l4 S M 10000 p0 (0 : Int32)
set_option maxHeartbeats 4000000 in
theorem cf0_lieAt {tb adK adV : Nat → Nat} {S : ph_Sh} {l : Launch} {D : va_G} {cA : Nat → ClassId} {ad : Nat → Nat} (hinj : ∀ i j, i < S.2 → j < S.2 → ad i = ad j → i = j) (hS : ph_SX S) {M : ph_Mem} {p0 : Int32} {r : Int32} (hf : f0_lieAt S M p0 = some r) : ph_C (ph_ZX tb adK adV) l 4 yX0_lieAt cX0_lieAt 5 (some .int) D cA S.1 S.2 ad [.ref (ad 71), .int p0] M (some (.int r)) M := by
  refine ph_mk ph_ZX_ok hinj (by decide) (Nat.le_of_ble_eq_true rfl) fun X h fin hE => ?_
  refine (?_ : ph_J X S.1 S.2 ad (r : Int32) 0 [(0, .ref (ad 71)), (1, .int p0)] [] M (f0_lieAt S M p0)) hf
  unfold f0_lieAt
  refine j_iload_n h dX0_lieAt_0 rfl 1 rfl ?_
  refine j_istore_n h [(2, .int p0), (0, .ref (ad 71)), (1, .int p0)] dX0_lieAt_1 rfl (by decide) rfl ?_
  refine j_iconst (v := (0 : Int32)) h dX0_lieAt_2 (by decide) ?_
  refine j_istore_n h [(3, .int (0 : Int32)), (2, .int p0), (0, .ref (ad 71)), (1, .int p0)] dX0_lieAt_3 rfl (by decide) rfl ?_
  refine j_sub [2, 1, 0] rfl ?_
  exact jb_f0_lieAt_l4 h fin hS 10000 p0 (0 : Int32)
theorem dJ7_fill_53178_0 : decode cJ7_fill_53178 0 = .ok (.iconst 0, 1) := by decide +kernel
theorem dJ7_fill_53178_1 : decode cJ7_fill_53178 1 = .ok (.istore_n 2, 1) := by decide +kernel
theorem dJ7_fill_53178_2 : decode cJ7_fill_53178 2 = .ok (.aload_n 0, 1) := by decide +kernel
theorem dJ7_fill_53178_3 : decode cJ7_fill_53178 3 = .ok (.arraylength, 1) := by decide +kernel
theorem dJ7_fill_53178_4 : decode cJ7_fill_53178 4 = .ok (.istore_n 3, 1) := by decide +kernel
theorem dJ7_fill_53178_5 : decode cJ7_fill_53178 5 = .ok (.iload_n 2, 1) := by decide +kernel
theorem dJ7_fill_53178_6 : decode cJ7_fill_53178 6 = .ok (.iload_n 3, 1) := by decide +kernel
theorem dJ7_fill_53178_7 : decode cJ7_fill_53178 7 = .ok (.if_icmp .ge 13, 3) := by decide +kernel
theorem dJ7_fill_53178_10 : decode cJ7_fill_53178 10 = .ok (.aload_n 0, 1) := by decide +kernel
theorem dJ7_fill_53178_11 : decode cJ7_fill_53178 11 = .ok (.iload_n 2, 1) := by decide +kernel
theorem dJ7_fill_53178_12 : decode cJ7_fill_53178 12 = .ok (.iload_n 1, 1) := by decide +kernel
theorem dJ7_fill_53178_13 : decode cJ7_fill_53178 13 = .ok (.iastore, 1) := by decide +kernel
theorem dJ7_fill_53178_14 : decode cJ7_fill_53178 14 = .ok (.iinc 2 1, 3) := by decide +kernel
theorem dJ7_fill_53178_17 : decode cJ7_fill_53178 17 = .ok (.goto (-12), 3) := by decide +kernel
theorem dJ7_fill_53178_20 : decode cJ7_fill_53178 20 = .ok (.return_, 1) := by decide +kernel
def f7_fill_53178_l5 (S : ph_Sh) (p0 : Nat) : Nat → Int32 → Int32 → Int32 → ph_Mem → Option ph_Mem
  | 0, _, _, _, _ => none
  | n + 1, x1, x2, x3, M => if x3 ≤ x2 then (some M) else (cond (ph_ib x2 (ph_len S p0)) (ph_let (ph_wi M p0 x2.toNatClampNeg x1) fun M2 => (f7_fill_53178_l5 S p0 n) x1 (x2 + (1 : Int32)) x3 M2) none)
set_option maxHeartbeats 4000000 in
theorem jb_f7_fill_53178_l5 {tb adK adV : Nat → Nat} {S : ph_Sh} {p0 : Nat} {X : ph_X} {ad : Nat → Nat} {o : ph_Mem} (h : ph_ok (ph_ZX tb adK adV) X cJ7_fill_53178 RJ7 none 4 0 S.2 ad) (fin : ph_fin X S.1 S.2 ad none o) (hS : True) (hp0 : p0 < S.2 ∧ S.1 p0 = .inl (0, ph_len S p0)) : ∀ (n : Nat) (x1 : Int32) (x2 : Int32) (x3 : Int32) (M : ph_Mem), ph_J X S.1 S.2 ad o 5 [(0, .ref (ad p0)), (1, .int x1), (2, .int x2), (3, .int x3)] [] M (f7_fill_53178_l5 S p0 n x1 x2 x3 M) := by
  intro n
  induction n with
  | zero => intro x1 x2 x3 M; exact j_none
  | succ n hrc5 =>
    intro x1 x2 x3 M
    unfold f7_fill_53178_l5
    refine j_iload_n h dJ7_fill_53178_5 rfl 2 rfl ?_
    refine j_iload_n h dJ7_fill_53178_6 rfl 3 rfl ?_
    refine j_icmp_ge h 20 dJ7_fill_53178_7 (by decide) ?_ ?_
    · exact j_vret h rfl fin dJ7_fill_53178_20
    · refine j_aload_n h dJ7_fill_53178_10 rfl 0 rfl ?_
      refine j_iload_n h dJ7_fill_53178_11 rfl 2 rfl ?_
      refine j_iload_n h dJ7_fill_53178_12 rfl 1 rfl ?_
      refine j_iast (c := p0) (n := (ph_len S p0)) h hp0.1 hp0.2 dJ7_fill_53178_13 ?_
      refine j_letM (fun M2 => ?_)
      refine j_iinc h [(2, .int (x2 + (1 : Int32))), (0, .ref (ad p0)), (1, .int x1), (3, .int x3)] dJ7_fill_53178_14 2 rfl rfl (by decide) rfl ?_
      refine j_goto h 5 dJ7_fill_53178_17 (by decide) ?_
      refine j_sub [1, 2, 0, 3] rfl ?_
      exact hrc5 x1 (x2 + (1 : Int32)) x3 M2
theorem ydf7_fill_53178 : ph_yd yJ7_fill_53178 2 := ⟨by decide, by decide, by decide +kernel⟩
def f7_fill_53178 (S : ph_Sh) (M : ph_Mem) (p0 : Nat) (p1 : Int32) : Option ph_Mem :=
  ph_let (Int32.ofNat (ph_len S p0)) fun z1 => f7_fill_53178_l5 S p0 10000 p1 (0 : Int32) z1 M
set_option maxHeartbeats 4000000 in
theorem cf7_fill_53178 {tb adK adV : Nat → Nat} {S : ph_Sh} {p0 : Nat} {l : Launch} {D : va_G} {cA : Nat → ClassId} {ad : Nat → Nat} (hinj : ∀ i j, i < S.2 → j < S.2 → ad i = ad j → i = j) (hS : True) (hp0 : p0 < S.2 ∧ S.1 p0 = .inl (0, ph_len S p0)) {M : ph_Mem} {p1 : Int32} {M' : ph_Mem} (hf : f7_fill_53178 S M p0 p1 = some M') : ph_C (ph_ZX tb adK adV) l 0 yJ7_fill_53178 cJ7_fill_53178 4 none D cA S.1 S.2 ad [.ref (ad p0), .int p1] M none M' := by
  refine ph_mkF ph_ZX_ok hinj (by decide +kernel) (Nat.le_of_ble_eq_true rfl) fun X h fin hE => ?_
  refine (?_ : ph_J X S.1 S.2 ad (M' : ph_Mem) 0 [(0, .ref (ad p0)), (1, .int p1)] [] M (f7_fill_53178 S M p0 p1)) hf
  unfold f7_fill_53178
  refine j_iconst (v := (0 : Int32)) h dJ7_fill_53178_0 (by decide) ?_
  refine j_istore_n h [(2, .int (0 : Int32)), (0, .ref (ad p0)), (1, .int p1)] dJ7_fill_53178_1 rfl (by decide) rfl ?_
  refine j_aload_n h dJ7_fill_53178_2 rfl 1 rfl ?_
  refine j_alen (c := p0) (tn := 0) (v := (Int32.ofNat (ph_len S p0))) h hp0.1 hp0.2 rfl rfl dJ7_fill_53178_3 ?_
  refine j_istore_n h [(3, .int (Int32.ofNat (ph_len S p0))), (2, .int (0 : Int32)), (0, .ref (ad p0)), (1, .int p1)] dJ7_fill_53178_4 rfl (by decide) rfl ?_
  refine j_letI (lvf := fun z1 => [(3, .int z1), (2, .int (0 : Int32)), (0, .ref (ad p0)), (1, .int p1)]) (fun z1 => ?_)
  refine j_sub [2, 3, 1, 0] rfl ?_
  exact jb_f7_fill_53178_l5 h fin hS hp0 10000 p1 (0 : Int32) z1 M
theorem dX0_findLies_0 : decode cX0_findLies 0 = .ok (.aload_n 0, 1) := by decide +kernel
theorem dX0_findLies_1 : decode cX0_findLies 1 = .ok (.getfield 9, 3) := by decide +kernel
theorem dX0_findLies_4 : decode cX0_findLies 4 = .ok (.iconst 0, 1) := by decide +kernel
theorem dX0_findLies_5 : decode cX0_findLies 5 = .ok (.invokestatic 75, 3) := by decide +kernel
theorem dX0_findLies_8 : decode cX0_findLies 8 = .ok (.iconst 0, 1) := by decide +kernel
theorem dX0_findLies_9 : decode cX0_findLies 9 = .ok (.istore_n 2, 1) := by decide +kernel
theorem dX0_findLies_10 : decode cX0_findLies 10 = .ok (.iload_n 2, 1) := by decide +kernel
theorem dX0_findLies_11 : decode cX0_findLies 11 = .ok (.aload_n 0, 1) := by decide +kernel
theorem dX0_findLies_12 : decode cX0_findLies 12 = .ok (.getfield 15, 3) := by decide +kernel
theorem dX0_findLies_15 : decode cX0_findLies 15 = .ok (.getfield 29, 3) := by decide +kernel
theorem dX0_findLies_18 : decode cX0_findLies 18 = .ok (.if_icmp .ge 62, 3) := by decide +kernel
theorem dX0_findLies_21 : decode cX0_findLies 21 = .ok (.iconst 0, 1) := by decide +kernel
theorem dX0_findLies_22 : decode cX0_findLies 22 = .ok (.istore_n 3, 1) := by decide +kernel
theorem dX0_findLies_23 : decode cX0_findLies 23 = .ok (.iload_n 3, 1) := by decide +kernel
theorem dX0_findLies_24 : decode cX0_findLies 24 = .ok (.aload_n 0, 1) := by decide +kernel
theorem dX0_findLies_25 : decode cX0_findLies 25 = .ok (.getfield 15, 3) := by decide +kernel
theorem dX0_findLies_28 : decode cX0_findLies 28 = .ok (.getfield 29, 3) := by decide +kernel
theorem dX0_findLies_31 : decode cX0_findLies 31 = .ok (.if_icmp .ge 43, 3) := by decide +kernel
theorem dX0_findLies_34 : decode cX0_findLies 34 = .ok (.aload_n 0, 1) := by decide +kernel
theorem dX0_findLies_35 : decode cX0_findLies 35 = .ok (.iload_n 1, 1) := by decide +kernel
theorem dX0_findLies_36 : decode cX0_findLies 36 = .ok (.iload_n 2, 1) := by decide +kernel
theorem dX0_findLies_37 : decode cX0_findLies 37 = .ok (.iload_n 3, 1) := by decide +kernel
theorem dX0_findLies_38 : decode cX0_findLies 38 = .ok (.invokevirtual 56, 3) := by decide +kernel
theorem dX0_findLies_41 : decode cX0_findLies 41 = .ok (.ifCond .eq 27, 3) := by decide +kernel
theorem dX0_findLies_44 : decode cX0_findLies 44 = .ok (.aload_n 0, 1) := by decide +kernel
theorem dX0_findLies_45 : decode cX0_findLies 45 = .ok (.getfield 9, 3) := by decide +kernel
theorem dX0_findLies_48 : decode cX0_findLies 48 = .ok (.iload_n 2, 1) := by decide +kernel
theorem dX0_findLies_49 : decode cX0_findLies 49 = .ok (.dup2, 1) := by decide +kernel
theorem dX0_findLies_50 : decode cX0_findLies 50 = .ok (.iaload, 1) := by decide +kernel
theorem dX0_findLies_51 : decode cX0_findLies 51 = .ok (.iconst 1, 1) := by decide +kernel
theorem dX0_findLies_52 : decode cX0_findLies 52 = .ok (.iload_n 3, 1) := by decide +kernel
theorem dX0_findLies_53 : decode cX0_findLies 53 = .ok (.ishl, 1) := by decide +kernel
theorem dX0_findLies_54 : decode cX0_findLies 54 = .ok (.ior, 1) := by decide +kernel
theorem dX0_findLies_55 : decode cX0_findLies 55 = .ok (.iastore, 1) := by decide +kernel
theorem dX0_findLies_56 : decode cX0_findLies 56 = .ok (.aload_n 0, 1) := by decide +kernel
theorem dX0_findLies_57 : decode cX0_findLies 57 = .ok (.getfield 9, 3) := by decide +kernel
theorem dX0_findLies_60 : decode cX0_findLies 60 = .ok (.iload_n 3, 1) := by decide +kernel
theorem dX0_findLies_61 : decode cX0_findLies 61 = .ok (.dup2, 1) := by decide +kernel
theorem dX0_findLies_62 : decode cX0_findLies 62 = .ok (.iaload, 1) := by decide +kernel
theorem dX0_findLies_63 : decode cX0_findLies 63 = .ok (.iconst 1, 1) := by decide +kernel
theorem dX0_findLies_64 : decode cX0_findLies 64 = .ok (.iload_n 2, 1) := by decide +kernel
theorem dX0_findLies_65 : decode cX0_findLies 65 = .ok (.ishl, 1) := by decide +kernel
theorem dX0_findLies_66 : decode cX0_findLies 66 = .ok (.ior, 1) := by decide +kernel
theorem dX0_findLies_67 : decode cX0_findLies 67 = .ok (.iastore, 1) := by decide +kernel
theorem dX0_findLies_68 : decode cX0_findLies 68 = .ok (.iinc 3 1, 3) := by decide +kernel
theorem dX0_findLies_71 : decode cX0_findLies 71 = .ok (.goto (-48), 3) := by decide +kernel
theorem dX0_findLies_74 : decode cX0_findLies 74 = .ok (.iinc 2 1, 3) := by decide +kernel
theorem dX0_findLies_77 : decode cX0_findLies 77 = .ok (.goto (-67), 3) := by decide +kernel
theorem dX0_findLies_80 : decode cX0_findLies 80 = .ok (.return_, 1) := by decide +kernel
def f0_findLies_j68 (S : ph_Sh) (rc10 : Int32 → Int32 → ph_Mem → Option ph_Mem) (rc23 : Int32 → Int32 → Int32 → ph_Mem → Option ph_Mem) (x1 : Int32) (x2 : Int32) (x3 : Int32) (M : ph_Mem) : Option ph_Mem :=
  rc23 x1 x2 (x3 + (1 : Int32)) M
set_option maxHeartbeats 4000000 in
theorem jb_f0_findLies_j68 {tb adK adV : Nat → Nat} {S : ph_Sh} {X : ph_X} {ad : Nat → Nat} {o : ph_Mem} (h : ph_ok (ph_ZX tb adK adV) X cX0_findLies RX0 none 4 3 S.2 ad) (fin : ph_fin X S.1 S.2 ad none o) (hS : ph_SX S) {rc10 : Int32 → Int32 → ph_Mem → Option ph_Mem} (hrc10 : ∀ (x1 : Int32) (x2 : Int32) (M : ph_Mem), ph_J X S.1 S.2 ad o 10 [(0, .ref (ad 71)), (1, .int x1), (2, .int x2)] [] M (rc10 x1 x2 M)) {rc23 : Int32 → Int32 → Int32 → ph_Mem → Option ph_Mem} (hrc23 : ∀ (x1 : Int32) (x2 : Int32) (x3 : Int32) (M : ph_Mem), ph_J X S.1 S.2 ad o 23 [(0, .ref (ad 71)), (1, .int x1), (2, .int x2), (3, .int x3)] [] M (rc23 x1 x2 x3 M)) : ∀ (x1 : Int32) (x2 : Int32) (x3 : Int32) (M : ph_Mem), ph_J X S.1 S.2 ad o 68 [(0, .ref (ad 71)), (1, .int x1), (2, .int x2), (3, .int x3)] [] M (f0_findLies_j68 S rc10 rc23 x1 x2 x3 M) := by
  intro x1 x2 x3 M
  unfold f0_findLies_j68
  refine j_iinc h [(3, .int (x3 + (1 : Int32))), (0, .ref (ad 71)), (1, .int x1), (2, .int x2)] dX0_findLies_68 3 rfl rfl (by decide) rfl ?_
  refine j_goto h 23 dX0_findLies_71 (by decide) ?_
  refine j_sub [1, 2, 3, 0] rfl ?_
  exact hrc23 x1 x2 (x3 + (1 : Int32)) M
def f0_findLies_j74 (S : ph_Sh) (rc10 : Int32 → Int32 → ph_Mem → Option ph_Mem) (x1 : Int32) (x2 : Int32) (M : ph_Mem) : Option ph_Mem :=
  rc10 x1 (x2 + (1 : Int32)) M
set_option maxHeartbeats 4000000 in
theorem jb_f0_findLies_j74 {tb adK adV : Nat → Nat} {S : ph_Sh} {X : ph_X} {ad : Nat → Nat} {o : ph_Mem} (h : ph_ok (ph_ZX tb adK adV) X cX0_findLies RX0 none 4 3 S.2 ad) (fin : ph_fin X S.1 S.2 ad none o) (hS : ph_SX S) {rc10 : Int32 → Int32 → ph_Mem → Option ph_Mem} (hrc10 : ∀ (x1 : Int32) (x2 : Int32) (M : ph_Mem), ph_J X S.1 S.2 ad o 10 [(0, .ref (ad 71)), (1, .int x1), (2, .int x2)] [] M (rc10 x1 x2 M)) : ∀ (x1 : Int32) (x2 : Int32) (M : ph_Mem), ph_J X S.1 S.2 ad o 74 [(0, .ref (ad 71)), (1, .int x1), (2, .int x2)] [] M (f0_findLies_j74 S rc10 x1 x2 M) := by
  intro x1 x2 M
  unfold f0_findLies_j74
  refine j_iinc h [(2, .int (x2 + (1 : Int32))), (0, .ref (ad 71)), (1, .int x1)] dX0_findLies_74 2 rfl rfl (by decide) rfl ?_
  refine j_goto h 10 dX0_findLies_77 (by decide) ?_
  refine j_sub [1, 2, 0] rfl ?_
  exact hrc10 x1 (x2 + (1 : Int32)) M
def f0_findLies_l23 (S : ph_Sh) (rc10 : Int32 → Int32 → ph_Mem → Option ph_Mem) : Nat → Int32 → Int32 → Int32 → ph_Mem → Option ph_Mem
  | 0, _, _, _, _ => none
  | n + 1, x1, x2, x3, M => if (M.1 11 1) ≤ x3 then (f0_findLies_j74 S rc10 x1 x2 M) else ((f0_isLie S M x1 x2 x3).bind fun q2 => if q2 = 0 then (f0_findLies_j68 S rc10 (f0_findLies_l23 S rc10 n) x1 x2 x3 M) else (cond (ph_ib x2 6) (cond (ph_ib x2 6) (ph_let (ph_wi M 72 x2.toNatClampNeg ((M.1 72 x2.toNatClampNeg) ||| ((1 : Int32) <<< (x3 &&& 31)))) fun M3 => cond (ph_ib x3 6) (cond (ph_ib x3 6) (ph_let (ph_wi M3 72 x3.toNatClampNeg ((M3.1 72 x3.toNatClampNeg) ||| ((1 : Int32) <<< (x2 &&& 31)))) fun M4 => f0_findLies_j68 S rc10 (f0_findLies_l23 S rc10 n) x1 x2 x3 M4) none) none) none) none))
set_option maxHeartbeats 4000000 in
theorem jb_f0_findLies_l23 {tb adK adV : Nat → Nat} {S : ph_Sh} {X : ph_X} {ad : Nat → Nat} {o : ph_Mem} (h : ph_ok (ph_ZX tb adK adV) X cX0_findLies RX0 none 4 3 S.2 ad) (fin : ph_fin X S.1 S.2 ad none o) (hS : ph_SX S) {rc10 : Int32 → Int32 → ph_Mem → Option ph_Mem} (hrc10 : ∀ (x1 : Int32) (x2 : Int32) (M : ph_Mem), ph_J X S.1 S.2 ad o 10 [(0, .ref (ad 71)), (1, .int x1), (2, .int x2)] [] M (rc10 x1 x2 M)) : ∀ (n : Nat) (x1 : Int32) (x2 : Int32) (x3 : Int32) (M : ph_Mem), ph_J X S.1 S.2 ad o 23 [(0, .ref (ad 71)), (1, .int x1), (2, .int x2), (3, .int x3)] [] M (f0_findLies_l23 S rc10 n x1 x2 x3 M) := by
  intro n
  induction n with
  | zero => intro x1 x2 x3 M; exact j_none
  | succ n hrc23 =>
    intro x1 x2 x3 M
    unfold f0_findLies_l23
    refine j_iload_n h dX0_findLies_23 rfl 3 rfl ?_
    refine j_aload_n h dX0_findLies_24 rfl 0 rfl ?_
    refine j_get (c := 71) (j := 0) (v := .ref (ad 11)) h (ph_xlt hS (by decide)) (ph_kc71 hS) rfl ph_inX0 rfl (by decide) tw_237 rfl rfl dX0_findLies_25 ?_
    refine j_get (c := 11) (j := 1) (v := .int (M.1 11 1)) h (ph_xlt hS (by decide)) (ph_kc11 hS) rfl ph_inX9 rfl (by decide) tw_69 rfl rfl dX0_findLies_28 ?_
    refine j_icmp_ge h 74 dX0_findLies_31 (by decide) ?_ ?_
    · refine j_sub [0, 1, 2] rfl ?_
      exact jb_f0_findLies_j74 h fin hS hrc10 x1 x2 M
    · refine j_aload_n h dX0_findLies_34 rfl 0 rfl ?_
      refine j_iload_n h dX0_findLies_35 rfl 1 rfl ?_
      refine j_iload_n h dX0_findLies_36 rfl 2 rfl ?_
      refine j_iload_n h dX0_findLies_37 rfl 3 rfl ?_
      refine j_callViP (n := 3) (As := [.int x1, .int x2, .int x3]) (rest := []) h 71 tw_991 tw_993 tp_34 tw_9 tw_994 ydf0_isLie (by decide) (by decide) (ph_xlt hS (by decide)) (ph_kc71 hS) rfl (fun q hq => cf0_isLie (ph_okI h) hS hq) rfl (Nat.le_of_ble_eq_true rfl) rfl dX0_findLies_38 (fun q2 => ?_)
      refine j_if_eq h 68 dX0_findLies_41 (by decide) ?_ ?_
      · refine j_sub [0, 1, 2, 3] rfl ?_
        exact jb_f0_findLies_j68 h fin hS hrc10 hrc23 x1 x2 x3 M
      · refine j_aload_n h dX0_findLies_44 rfl 0 rfl ?_
        refine j_get (c := 71) (j := 1) (v := .ref (ad 72)) h (ph_xlt hS (by decide)) (ph_kc71 hS) rfl ph_inX0 rfl (by decide) tw_238 rfl rfl dX0_findLies_45 ?_
        refine j_iload_n h dX0_findLies_48 rfl 2 rfl ?_
        refine j_dup2 h dX0_findLies_49 rfl rfl ?_
        refine j_iald (c := 72) (n := 6) h (ph_xlt hS (by decide)) (ph_kc72 hS) dX0_findLies_50 ?_
        refine j_iconst (v := (1 : Int32)) h dX0_findLies_51 (by decide) ?_
        refine j_iload_n h dX0_findLies_52 rfl 3 rfl ?_
        refine j_ishl h dX0_findLies_53 ?_
        refine j_ior h dX0_findLies_54 ?_
        refine j_iast (c := 72) (n := 6) h (ph_xlt hS (by decide)) (ph_kc72 hS) dX0_findLies_55 ?_
        refine j_letM (fun M3 => ?_)
        refine j_aload_n h dX0_findLies_56 rfl 0 rfl ?_
        refine j_get (c := 71) (j := 1) (v := .ref (ad 72)) h (ph_xlt hS (by decide)) (ph_kc71 hS) rfl ph_inX0 rfl (by decide) tw_238 rfl rfl dX0_findLies_57 ?_
        refine j_iload_n h dX0_findLies_60 rfl 3 rfl ?_
        refine j_dup2 h dX0_findLies_61 rfl rfl ?_
        refine j_iald (c := 72) (n := 6) h (ph_xlt hS (by decide)) (ph_kc72 hS) dX0_findLies_62 ?_
        refine j_iconst (v := (1 : Int32)) h dX0_findLies_63 (by decide) ?_
        refine j_iload_n h dX0_findLies_64 rfl 2 rfl ?_
        refine j_ishl h dX0_findLies_65 ?_
        refine j_ior h dX0_findLies_66 ?_
        refine j_iast (c := 72) (n := 6) h (ph_xlt hS (by decide)) (ph_kc72 hS) dX0_findLies_67 ?_
        refine j_letM (fun M4 => ?_)
        refine j_sub [0, 1, 2, 3] rfl ?_
        exact jb_f0_findLies_j68 h fin hS hrc10 hrc23 x1 x2 x3 M4
def f0_findLies_l10 (S : ph_Sh) : Nat → Int32 → Int32 → ph_Mem → Option ph_Mem
  | 0, _, _, _ => none
  | n + 1, x1, x2, M => if (M.1 11 1) ≤ x2 then (some M) else (f0_findLies_l23 S (f0_findLies_l10 S n) 10000 x1 x2 (0 : Int32) M)
set_option maxHeartbeats 4000000 in
theorem jb_f0_findLies_l10 {tb adK adV : Nat → Nat} {S : ph_Sh} {X : ph_X} {ad : Nat → Nat} {o : ph_Mem} (h : ph_ok (ph_ZX tb adK adV) X cX0_findLies RX0 none 4 3 S.2 ad) (fin : ph_fin X S.1 S.2 ad none o) (hS : ph_SX S) : ∀ (n : Nat) (x1 : Int32) (x2 : Int32) (M : ph_Mem), ph_J X S.1 S.2 ad o 10 [(0, .ref (ad 71)), (1, .int x1), (2, .int x2)] [] M (f0_findLies_l10 S n x1 x2 M) := by
  intro n
  induction n with
  | zero => intro x1 x2 M; exact j_none
  | succ n hrc10 =>
    intro x1 x2 M
    unfold f0_findLies_l10
    refine j_iload_n h dX0_findLies_10 rfl 2 rfl ?_
    refine j_aload_n h dX0_findLies_11 rfl 0 rfl ?_
    refine j_get (c := 71) (j := 0) (v := .ref (ad 11)) h (ph_xlt hS (by decide)) (ph_kc71 hS) rfl ph_inX0 rfl (by decide) tw_237 rfl rfl dX0_findLies_12 ?_
    refine j_get (c := 11) (j := 1) (v := .int (M.1 11 1)) h (ph_xlt hS (by decide)) (ph_kc11 hS) rfl ph_inX9 rfl (by decide) tw_69 rfl rfl dX0_findLies_15 ?_
    refine j_icmp_ge h 80 dX0_findLies_18 (by decide) ?_ ?_
    · exact j_vret h rfl fin dX0_findLies_80
    · refine j_iconst (v := (0 : Int32)) h dX0_findLies_21 (by decide) ?_
      refine j_istore_n h [(3, .int (0 : Int32)), (0, .ref (ad 71)), (1, .int x1), (2, .int x2)] dX0_findLies_22 rfl (by decide) rfl ?_
      refine j_sub [1, 2, 3, 0] rfl ?_
      exact jb_f0_findLies_l23 h fin hS hrc10 10000 x1 x2 (0 : Int32) M
theorem ydf0_findLies : ph_yd yX0_findLies 1 := ⟨by decide, by decide, by decide +kernel⟩
def f0_findLies (S : ph_Sh) (M : ph_Mem) (p0 : Int32) : Option ph_Mem :=
  (f7_fill_53178 S M 72 (0 : Int32)).bind fun q1 => f0_findLies_l10 S 10000 p0 (0 : Int32) q1
set_option maxHeartbeats 4000000 in
theorem cf0_findLies {tb adK adV : Nat → Nat} {S : ph_Sh} {l : Launch} {D : va_G} {cA : Nat → ClassId} {ad : Nat → Nat} (hinj : ∀ i j, i < S.2 → j < S.2 → ad i = ad j → i = j) (hS : ph_SX S) {M : ph_Mem} {p0 : Int32} {M' : ph_Mem} (hf : f0_findLies S M p0 = some M') : ph_C (ph_ZX tb adK adV) l 3 yX0_findLies cX0_findLies 4 none D cA S.1 S.2 ad [.ref (ad 71), .int p0] M none M' := by
  refine ph_mk ph_ZX_ok hinj (by decide) (Nat.le_of_ble_eq_true rfl) fun X h fin hE => ?_
  refine (?_ : ph_J X S.1 S.2 ad (M' : ph_Mem) 0 [(0, .ref (ad 71)), (1, .int p0)] [] M (f0_findLies S M p0)) hf
  unfold f0_findLies
  refine j_aload_n h dX0_findLies_0 rfl 0 rfl ?_
  refine j_get (c := 71) (j := 1) (v := .ref (ad 72)) h (ph_xlt hS (by decide)) (ph_kc71 hS) rfl ph_inX0 rfl (by decide) tw_238 rfl rfl dX0_findLies_1 ?_
  refine j_iconst (v := (0 : Int32)) h dX0_findLies_4 (by decide) ?_
  refine j_callSv (n := 2) (As := [.ref (ad 72), .int (0 : Int32)]) (rest := []) h tw_1017 tw_56 tw_4 tw_57 ydf7_fill_53178 (by decide) (by decide) (fun q hq => cf7_fill_53178 (ph_okI h) trivial ⟨(ph_xlt hS (by decide)), (ph_kl72 hS)⟩ hq) rfl (Nat.le_of_ble_eq_true rfl) rfl dX0_findLies_5 (fun q1 => ?_)
  refine j_iconst (v := (0 : Int32)) h dX0_findLies_8 (by decide) ?_
  refine j_istore_n h [(2, .int (0 : Int32)), (0, .ref (ad 71)), (1, .int p0)] dX0_findLies_9 rfl (by decide) rfl ?_
  refine j_sub [1, 2, 0] rfl ?_
  exact jb_f0_findLies_l10 h fin hS 10000 p0 (0 : Int32) q1
theorem dJ6_bitCount_0f7a4_0 : decode cJ6_bitCount_0f7a4 0 = .ok (.iload_n 0, 1) := by decide +kernel
theorem dJ6_bitCount_0f7a4_1 : decode cJ6_bitCount_0f7a4 1 = .ok (.iload_n 0, 1) := by decide +kernel
theorem dJ6_bitCount_0f7a4_2 : decode cJ6_bitCount_0f7a4 2 = .ok (.iconst 1, 1) := by decide +kernel
theorem dJ6_bitCount_0f7a4_3 : decode cJ6_bitCount_0f7a4 3 = .ok (.iushr, 1) := by decide +kernel
theorem dJ6_bitCount_0f7a4_4 : decode cJ6_bitCount_0f7a4 4 = .ok (.ldc_w 265, 3) := by decide +kernel
theorem dJ6_bitCount_0f7a4_7 : decode cJ6_bitCount_0f7a4 7 = .ok (.iand, 1) := by decide +kernel
theorem dJ6_bitCount_0f7a4_8 : decode cJ6_bitCount_0f7a4 8 = .ok (.isub, 1) := by decide +kernel
theorem dJ6_bitCount_0f7a4_9 : decode cJ6_bitCount_0f7a4 9 = .ok (.istore_n 0, 1) := by decide +kernel
theorem dJ6_bitCount_0f7a4_10 : decode cJ6_bitCount_0f7a4 10 = .ok (.iload_n 0, 1) := by decide +kernel
theorem dJ6_bitCount_0f7a4_11 : decode cJ6_bitCount_0f7a4 11 = .ok (.ldc_w 266, 3) := by decide +kernel
theorem dJ6_bitCount_0f7a4_14 : decode cJ6_bitCount_0f7a4 14 = .ok (.iand, 1) := by decide +kernel
theorem dJ6_bitCount_0f7a4_15 : decode cJ6_bitCount_0f7a4 15 = .ok (.iload_n 0, 1) := by decide +kernel
theorem dJ6_bitCount_0f7a4_16 : decode cJ6_bitCount_0f7a4 16 = .ok (.iconst 2, 1) := by decide +kernel
theorem dJ6_bitCount_0f7a4_17 : decode cJ6_bitCount_0f7a4 17 = .ok (.iushr, 1) := by decide +kernel
theorem dJ6_bitCount_0f7a4_18 : decode cJ6_bitCount_0f7a4 18 = .ok (.ldc_w 266, 3) := by decide +kernel
theorem dJ6_bitCount_0f7a4_21 : decode cJ6_bitCount_0f7a4 21 = .ok (.iand, 1) := by decide +kernel
theorem dJ6_bitCount_0f7a4_22 : decode cJ6_bitCount_0f7a4 22 = .ok (.iadd, 1) := by decide +kernel
theorem dJ6_bitCount_0f7a4_23 : decode cJ6_bitCount_0f7a4 23 = .ok (.istore_n 0, 1) := by decide +kernel
theorem dJ6_bitCount_0f7a4_24 : decode cJ6_bitCount_0f7a4 24 = .ok (.iload_n 0, 1) := by decide +kernel
theorem dJ6_bitCount_0f7a4_25 : decode cJ6_bitCount_0f7a4 25 = .ok (.iload_n 0, 1) := by decide +kernel
theorem dJ6_bitCount_0f7a4_26 : decode cJ6_bitCount_0f7a4 26 = .ok (.iconst 4, 1) := by decide +kernel
theorem dJ6_bitCount_0f7a4_27 : decode cJ6_bitCount_0f7a4 27 = .ok (.iushr, 1) := by decide +kernel
theorem dJ6_bitCount_0f7a4_28 : decode cJ6_bitCount_0f7a4 28 = .ok (.iadd, 1) := by decide +kernel
theorem dJ6_bitCount_0f7a4_29 : decode cJ6_bitCount_0f7a4 29 = .ok (.ldc_w 267, 3) := by decide +kernel
theorem dJ6_bitCount_0f7a4_32 : decode cJ6_bitCount_0f7a4 32 = .ok (.iand, 1) := by decide +kernel
theorem dJ6_bitCount_0f7a4_33 : decode cJ6_bitCount_0f7a4 33 = .ok (.istore_n 0, 1) := by decide +kernel
theorem dJ6_bitCount_0f7a4_34 : decode cJ6_bitCount_0f7a4 34 = .ok (.iload_n 0, 1) := by decide +kernel
theorem dJ6_bitCount_0f7a4_35 : decode cJ6_bitCount_0f7a4 35 = .ok (.iload_n 0, 1) := by decide +kernel
theorem dJ6_bitCount_0f7a4_36 : decode cJ6_bitCount_0f7a4 36 = .ok (.bipush 8, 2) := by decide +kernel
theorem dJ6_bitCount_0f7a4_38 : decode cJ6_bitCount_0f7a4 38 = .ok (.iushr, 1) := by decide +kernel
theorem dJ6_bitCount_0f7a4_39 : decode cJ6_bitCount_0f7a4 39 = .ok (.iadd, 1) := by decide +kernel
theorem dJ6_bitCount_0f7a4_40 : decode cJ6_bitCount_0f7a4 40 = .ok (.istore_n 0, 1) := by decide +kernel
theorem dJ6_bitCount_0f7a4_41 : decode cJ6_bitCount_0f7a4 41 = .ok (.iload_n 0, 1) := by decide +kernel
theorem dJ6_bitCount_0f7a4_42 : decode cJ6_bitCount_0f7a4 42 = .ok (.iload_n 0, 1) := by decide +kernel
theorem dJ6_bitCount_0f7a4_43 : decode cJ6_bitCount_0f7a4 43 = .ok (.bipush 16, 2) := by decide +kernel
theorem dJ6_bitCount_0f7a4_45 : decode cJ6_bitCount_0f7a4 45 = .ok (.iushr, 1) := by decide +kernel
theorem dJ6_bitCount_0f7a4_46 : decode cJ6_bitCount_0f7a4 46 = .ok (.iadd, 1) := by decide +kernel
theorem dJ6_bitCount_0f7a4_47 : decode cJ6_bitCount_0f7a4 47 = .ok (.istore_n 0, 1) := by decide +kernel
theorem dJ6_bitCount_0f7a4_48 : decode cJ6_bitCount_0f7a4 48 = .ok (.iload_n 0, 1) := by decide +kernel
theorem dJ6_bitCount_0f7a4_49 : decode cJ6_bitCount_0f7a4 49 = .ok (.bipush 63, 2) := by decide +kernel
theorem dJ6_bitCount_0f7a4_51 : decode cJ6_bitCount_0f7a4 51 = .ok (.iand, 1) := by decide +kernel
theorem dJ6_bitCount_0f7a4_52 : decode cJ6_bitCount_0f7a4 52 = .ok (.ireturn, 1) := by decide +kernel
theorem ydf6_bitCount_0f7a4 : ph_yd yJ6_bitCount_0f7a4 1 := ⟨by decide, by decide, by decide +kernel⟩
def f6_bitCount_0f7a4 (S : ph_Sh) (M : ph_Mem) (p0 : Int32) : Option Int32 :=
  ph_let (p0 - ((p0.toUInt32 >>> ((1 : Int32).toUInt32 &&& Int32.toUInt32 31)).toInt32 &&& (1431655765 : Int32))) fun z1 => ph_let ((z1 &&& (858993459 : Int32)) + ((z1.toUInt32 >>> ((2 : Int32).toUInt32 &&& Int32.toUInt32 31)).toInt32 &&& (858993459 : Int32))) fun z2 => ph_let ((z2 + (z2.toUInt32 >>> ((4 : Int32).toUInt32 &&& Int32.toUInt32 31)).toInt32) &&& (252645135 : Int32)) fun z3 => ph_let (z3 + (z3.toUInt32 >>> ((8 : Int32).toUInt32 &&& Int32.toUInt32 31)).toInt32) fun z4 => ph_let (z4 + (z4.toUInt32 >>> ((16 : Int32).toUInt32 &&& Int32.toUInt32 31)).toInt32) fun z5 => some (z5 &&& (63 : Int32))
set_option maxHeartbeats 4000000 in
theorem cf6_bitCount_0f7a4 {tb adK adV : Nat → Nat} {S : ph_Sh} {l : Launch} {D : va_G} {cA : Nat → ClassId} {ad : Nat → Nat} (hinj : ∀ i j, i < S.2 → j < S.2 → ad i = ad j → i = j) (hS : True) {M : ph_Mem} {p0 : Int32} {r : Int32} (hf : f6_bitCount_0f7a4 S M p0 = some r) : ph_C (ph_ZX tb adK adV) l 0 yJ6_bitCount_0f7a4 cJ6_bitCount_0f7a4 1 (some .int) D cA S.1 S.2 ad [.int p0] M (some (.int r)) M := by
  refine ph_mkF ph_ZX_ok hinj (by decide +kernel) (Nat.le_of_ble_eq_true rfl) fun X h fin hE => ?_
  refine (?_ : ph_J X S.1 S.2 ad (r : Int32) 0 [(0, .int p0)] [] M (f6_bitCount_0f7a4 S M p0)) hf
  unfold f6_bitCount_0f7a4
  refine j_iload_n h dJ6_bitCount_0f7a4_0 rfl 0 rfl ?_
  refine j_iload_n h dJ6_bitCount_0f7a4_1 rfl 0 rfl ?_
  refine j_iconst (v := (1 : Int32)) h dJ6_bitCount_0f7a4_2 (by decide) ?_
  refine j_iushr h dJ6_bitCount_0f7a4_3 ?_
  refine j_ldcw (v := (1431655765 : Int32)) h dJ6_bitCount_0f7a4_4 tw_483 ?_
  refine j_iand h dJ6_bitCount_0f7a4_7 ?_
  refine j_isub h dJ6_bitCount_0f7a4_8 ?_
  refine j_istore_n h [(0, .int (p0 - ((p0.toUInt32 >>> ((1 : Int32).toUInt32 &&& Int32.toUInt32 31)).toInt32 &&& (1431655765 : Int32))))] dJ6_bitCount_0f7a4_9 rfl (by decide) rfl ?_
  refine j_letI (lvf := fun z1 => [(0, .int z1)]) (fun z1 => ?_)
  refine j_iload_n h dJ6_bitCount_0f7a4_10 rfl 0 rfl ?_
  refine j_ldcw (v := (858993459 : Int32)) h dJ6_bitCount_0f7a4_11 tw_484 ?_
  refine j_iand h dJ6_bitCount_0f7a4_14 ?_
  refine j_iload_n h dJ6_bitCount_0f7a4_15 rfl 0 rfl ?_
  refine j_iconst (v := (2 : Int32)) h dJ6_bitCount_0f7a4_16 (by decide) ?_
  refine j_iushr h dJ6_bitCount_0f7a4_17 ?_
  refine j_ldcw (v := (858993459 : Int32)) h dJ6_bitCount_0f7a4_18 tw_484 ?_
  refine j_iand h dJ6_bitCount_0f7a4_21 ?_
  refine j_iadd h dJ6_bitCount_0f7a4_22 ?_
  refine j_istore_n h [(0, .int ((z1 &&& (858993459 : Int32)) + ((z1.toUInt32 >>> ((2 : Int32).toUInt32 &&& Int32.toUInt32 31)).toInt32 &&& (858993459 : Int32))))] dJ6_bitCount_0f7a4_23 rfl (by decide) rfl ?_
  refine j_letI (lvf := fun z2 => [(0, .int z2)]) (fun z2 => ?_)
  refine j_iload_n h dJ6_bitCount_0f7a4_24 rfl 0 rfl ?_
  refine j_iload_n h dJ6_bitCount_0f7a4_25 rfl 0 rfl ?_
  refine j_iconst (v := (4 : Int32)) h dJ6_bitCount_0f7a4_26 (by decide) ?_
  refine j_iushr h dJ6_bitCount_0f7a4_27 ?_
  refine j_iadd h dJ6_bitCount_0f7a4_28 ?_
  refine j_ldcw (v := (252645135 : Int32)) h dJ6_bitCount_0f7a4_29 tw_485 ?_
  refine j_iand h dJ6_bitCount_0f7a4_32 ?_
  refine j_istore_n h [(0, .int ((z2 + (z2.toUInt32 >>> ((4 : Int32).toUInt32 &&& Int32.toUInt32 31)).toInt32) &&& (252645135 : Int32)))] dJ6_bitCount_0f7a4_33 rfl (by decide) rfl ?_
  refine j_letI (lvf := fun z3 => [(0, .int z3)]) (fun z3 => ?_)
  refine j_iload_n h dJ6_bitCount_0f7a4_34 rfl 0 rfl ?_
  refine j_iload_n h dJ6_bitCount_0f7a4_35 rfl 0 rfl ?_
  refine j_bipush (v := (8 : Int32)) h dJ6_bitCount_0f7a4_36 (by decide) ?_
  refine j_iushr h dJ6_bitCount_0f7a4_38 ?_
  refine j_iadd h dJ6_bitCount_0f7a4_39 ?_
  refine j_istore_n h [(0, .int (z3 + (z3.toUInt32 >>> ((8 : Int32).toUInt32 &&& Int32.toUInt32 31)).toInt32))] dJ6_bitCount_0f7a4_40 rfl (by decide) rfl ?_
  refine j_letI (lvf := fun z4 => [(0, .int z4)]) (fun z4 => ?_)
  refine j_iload_n h dJ6_bitCount_0f7a4_41 rfl 0 rfl ?_
  refine j_iload_n h dJ6_bitCount_0f7a4_42 rfl 0 rfl ?_
  refine j_bipush (v := (16 : Int32)) h dJ6_bitCount_0f7a4_43 (by decide) ?_
  refine j_iushr h dJ6_bitCount_0f7a4_45 ?_
  refine j_iadd h dJ6_bitCount_0f7a4_46 ?_
  refine j_istore_n h [(0, .int (z4 + (z4.toUInt32 >>> ((16 : Int32).toUInt32 &&& Int32.toUInt32 31)).toInt32))] dJ6_bitCount_0f7a4_47 rfl (by decide) rfl ?_
  refine j_letI (lvf := fun z5 => [(0, .int z5)]) (fun z5 => ?_)
  refine j_iload_n h dJ6_bitCount_0f7a4_48 rfl 0 rfl ?_
  refine j_bipush (v := (63 : Int32)) h dJ6_bitCount_0f7a4_49 (by decide) ?_
  refine j_iand h dJ6_bitCount_0f7a4_51 ?_
  exact j_iretP h rfl fin dJ6_bitCount_0f7a4_52
theorem dX0_leavesNoLie_0 : decode cX0_leavesNoLie 0 = .ok (.iconst 0, 1) := by decide +kernel
theorem dX0_leavesNoLie_1 : decode cX0_leavesNoLie 1 = .ok (.istore_n 2, 1) := by decide +kernel
theorem dX0_leavesNoLie_2 : decode cX0_leavesNoLie 2 = .ok (.iload_n 2, 1) := by decide +kernel
theorem dX0_leavesNoLie_3 : decode cX0_leavesNoLie 3 = .ok (.aload_n 0, 1) := by decide +kernel
theorem dX0_leavesNoLie_4 : decode cX0_leavesNoLie 4 = .ok (.getfield 15, 3) := by decide +kernel
theorem dX0_leavesNoLie_7 : decode cX0_leavesNoLie 7 = .ok (.getfield 29, 3) := by decide +kernel
theorem dX0_leavesNoLie_10 : decode cX0_leavesNoLie 10 = .ok (.if_icmp .ge 32, 3) := by decide +kernel
theorem dX0_leavesNoLie_13 : decode cX0_leavesNoLie 13 = .ok (.iload_n 1, 1) := by decide +kernel
theorem dX0_leavesNoLie_14 : decode cX0_leavesNoLie 14 = .ok (.iload_n 2, 1) := by decide +kernel
theorem dX0_leavesNoLie_15 : decode cX0_leavesNoLie 15 = .ok (.invokestatic 36, 3) := by decide +kernel
theorem dX0_leavesNoLie_18 : decode cX0_leavesNoLie 18 = .ok (.ifCond .ne 18, 3) := by decide +kernel
theorem dX0_leavesNoLie_21 : decode cX0_leavesNoLie 21 = .ok (.aload_n 0, 1) := by decide +kernel
theorem dX0_leavesNoLie_22 : decode cX0_leavesNoLie 22 = .ok (.getfield 9, 3) := by decide +kernel
theorem dX0_leavesNoLie_25 : decode cX0_leavesNoLie 25 = .ok (.iload_n 2, 1) := by decide +kernel
theorem dX0_leavesNoLie_26 : decode cX0_leavesNoLie 26 = .ok (.iaload, 1) := by decide +kernel
theorem dX0_leavesNoLie_27 : decode cX0_leavesNoLie 27 = .ok (.iload_n 1, 1) := by decide +kernel
theorem dX0_leavesNoLie_28 : decode cX0_leavesNoLie 28 = .ok (.iconst (-1), 1) := by decide +kernel
theorem dX0_leavesNoLie_29 : decode cX0_leavesNoLie 29 = .ok (.ixor, 1) := by decide +kernel
theorem dX0_leavesNoLie_30 : decode cX0_leavesNoLie 30 = .ok (.iand, 1) := by decide +kernel
theorem dX0_leavesNoLie_31 : decode cX0_leavesNoLie 31 = .ok (.ifCond .eq 5, 3) := by decide +kernel
theorem dX0_leavesNoLie_34 : decode cX0_leavesNoLie 34 = .ok (.iconst 0, 1) := by decide +kernel
theorem dX0_leavesNoLie_35 : decode cX0_leavesNoLie 35 = .ok (.ireturn, 1) := by decide +kernel
theorem dX0_leavesNoLie_36 : decode cX0_leavesNoLie 36 = .ok (.iinc 2 1, 3) := by decide +kernel
theorem dX0_leavesNoLie_39 : decode cX0_leavesNoLie 39 = .ok (.goto (-37), 3) := by decide +kernel
theorem dX0_leavesNoLie_42 : decode cX0_leavesNoLie 42 = .ok (.iconst 1, 1) := by decide +kernel
theorem dX0_leavesNoLie_43 : decode cX0_leavesNoLie 43 = .ok (.ireturn, 1) := by decide +kernel
def f0_leavesNoLie_j36 (S : ph_Sh) (M : ph_Mem) (rc2 : Int32 → Int32 → Option Int32) (x1 : Int32) (x2 : Int32) : Option Int32 :=
  rc2 x1 (x2 + (1 : Int32))
set_option maxHeartbeats 4000000 in
theorem jb_f0_leavesNoLie_j36 {tb adK adV : Nat → Nat} {S : ph_Sh} {X : ph_X} {ad : Nat → Nat} {o : Int32} {M : ph_Mem} (h : ph_ok (ph_ZX tb adK adV) X cX0_leavesNoLie RX0 (some .boolean) 3 1 S.2 ad) (fin : ph_fin X S.1 S.2 ad (some (.int o)) M) (hS : ph_SX S) {rc2 : Int32 → Int32 → Option Int32} (hrc2 : ∀ (x1 : Int32) (x2 : Int32), ph_J X S.1 S.2 ad o 2 [(0, .ref (ad 71)), (1, .int x1), (2, .int x2)] [] M (rc2 x1 x2)) : ∀ (x1 : Int32) (x2 : Int32), ph_J X S.1 S.2 ad o 36 [(0, .ref (ad 71)), (1, .int x1), (2, .int x2)] [] M (f0_leavesNoLie_j36 S M rc2 x1 x2) := by
  intro x1 x2
  unfold f0_leavesNoLie_j36
  refine j_iinc h [(2, .int (x2 + (1 : Int32))), (0, .ref (ad 71)), (1, .int x1)] dX0_leavesNoLie_36 2 rfl rfl (by decide) rfl ?_
  refine j_goto h 2 dX0_leavesNoLie_39 (by decide) ?_
  refine j_sub [1, 2, 0] rfl ?_
  exact hrc2 x1 (x2 + (1 : Int32))
def f0_leavesNoLie_l2 (S : ph_Sh) (M : ph_Mem) : Nat → Int32 → Int32 → Option Int32
  | 0, _, _ => none
  | n + 1, x1, x2 => if (M.1 11 1) ≤ x2 then (some (1 : Int32)) else ((f9_hasBit S M x1 x2).bind fun q1 => if q1 = 0 then (cond (ph_ib x2 6) (if ((M.1 72 x2.toNatClampNeg) &&& (x1 ^^^ (-1 : Int32))) = 0 then (f0_leavesNoLie_j36 S M (f0_leavesNoLie_l2 S M n) x1 x2) else (some (0 : Int32))) none) else (f0_leavesNoLie_j36 S M (f0_leavesNoLie_l2 S M n) x1 x2))
set_option maxHeartbeats 4000000 in
theorem jb_f0_leavesNoLie_l2 {tb adK adV : Nat → Nat} {S : ph_Sh} {X : ph_X} {ad : Nat → Nat} {o : Int32} {M : ph_Mem} (h : ph_ok (ph_ZX tb adK adV) X cX0_leavesNoLie RX0 (some .boolean) 3 1 S.2 ad) (fin : ph_fin X S.1 S.2 ad (some (.int o)) M) (hS : ph_SX S) : ∀ (n : Nat) (x1 : Int32) (x2 : Int32), ph_J X S.1 S.2 ad o 2 [(0, .ref (ad 71)), (1, .int x1), (2, .int x2)] [] M (f0_leavesNoLie_l2 S M n x1 x2) := by
  intro n
  induction n with
  | zero => intro x1 x2; exact j_none
  | succ n hrc2 =>
    intro x1 x2
    unfold f0_leavesNoLie_l2
    refine j_iload_n h dX0_leavesNoLie_2 rfl 2 rfl ?_
    refine j_aload_n h dX0_leavesNoLie_3 rfl 0 rfl ?_
    refine j_get (c := 71) (j := 0) (v := .ref (ad 11)) h (ph_xlt hS (by decide)) (ph_kc71 hS) rfl ph_inX0 rfl (by decide) tw_237 rfl rfl dX0_leavesNoLie_4 ?_
    refine j_get (c := 11) (j := 1) (v := .int (M.1 11 1)) h (ph_xlt hS (by decide)) (ph_kc11 hS) rfl ph_inX9 rfl (by decide) tw_69 rfl rfl dX0_leavesNoLie_7 ?_
    refine j_icmp_ge h 42 dX0_leavesNoLie_10 (by decide) ?_ ?_
    · refine j_iconst (v := (1 : Int32)) h dX0_leavesNoLie_42 (by decide) ?_
      exact j_zretPC h rfl (by decide) fin dX0_leavesNoLie_43
    · refine j_iload_n h dX0_leavesNoLie_13 rfl 1 rfl ?_
      refine j_iload_n h dX0_leavesNoLie_14 rfl 2 rfl ?_
      refine j_callSiP (n := 2) (As := [.int x1, .int x2]) (rest := []) h tw_973 tw_454 tw_3 tw_455 ydf9_hasBit (by decide) (by decide) (fun q hq => cf9_hasBit (ph_okI h) hS hq) rfl (Nat.le_of_ble_eq_true rfl) rfl dX0_leavesNoLie_15 (fun q1 => ?_)
      refine j_if_ne h 36 dX0_leavesNoLie_18 (by decide) ?_ ?_
      · refine j_sub [0, 1, 2] rfl ?_
        exact jb_f0_leavesNoLie_j36 h fin hS hrc2 x1 x2
      · refine j_aload_n h dX0_leavesNoLie_21 rfl 0 rfl ?_
        refine j_get (c := 71) (j := 1) (v := .ref (ad 72)) h (ph_xlt hS (by decide)) (ph_kc71 hS) rfl ph_inX0 rfl (by decide) tw_238 rfl rfl dX0_leavesNoLie_22 ?_
        refine j_iload_n h dX0_leavesNoLie_25 rfl 2 rfl ?_
        refine j_iald (c := 72) (n := 6) h (ph_xlt hS (by decide)) (ph_kc72 hS) dX0_leavesNoLie_26 ?_
        refine j_iload_n h dX0_leavesNoLie_27 rfl 1 rfl ?_
        refine j_iconst (v := (-1 : Int32)) h dX0_leavesNoLie_28 (by decide) ?_
        refine j_ixor h dX0_leavesNoLie_29 ?_
        refine j_iand h dX0_leavesNoLie_30 ?_
        refine j_if_eq h 36 dX0_leavesNoLie_31 (by decide) ?_ ?_
        · refine j_sub [0, 1, 2] rfl ?_
          exact jb_f0_leavesNoLie_j36 h fin hS hrc2 x1 x2
        · refine j_iconst (v := (0 : Int32)) h dX0_leavesNoLie_34 (by decide) ?_
          exact j_zretPC h rfl (by decide) fin dX0_leavesNoLie_35
theorem ydf0_leavesNoLie : ph_yd yX0_leavesNoLie 1 := ⟨by decide, by decide, by decide +kernel⟩
def f0_leavesNoLie (S : ph_Sh) (M : ph_Mem) (p0 : Int32) : Option Int32 :=
  f0_leavesNoLie_l2 S M 10000 p0 (0 : Int32)
set_option maxHeartbeats 4000000 in
theorem cf0_leavesNoLie {tb adK adV : Nat → Nat} {S : ph_Sh} {l : Launch} {D : va_G} {cA : Nat → ClassId} {ad : Nat → Nat} (hinj : ∀ i j, i < S.2 → j < S.2 → ad i = ad j → i = j) (hS : ph_SX S) {M : ph_Mem} {p0 : Int32} {r : Int32} (hf : f0_leavesNoLie S M p0 = some r) : ph_C (ph_ZX tb adK adV) l 1 yX0_leavesNoLie cX0_leavesNoLie 3 (some .boolean) D cA S.1 S.2 ad [.ref (ad 71), .int p0] M (some (.int r)) M := by
  refine ph_mk ph_ZX_ok hinj (by decide) (Nat.le_of_ble_eq_true rfl) fun X h fin hE => ?_
  refine (?_ : ph_J X S.1 S.2 ad (r : Int32) 0 [(0, .ref (ad 71)), (1, .int p0)] [] M (f0_leavesNoLie S M p0)) hf
  unfold f0_leavesNoLie
  refine j_iconst (v := (0 : Int32)) h dX0_leavesNoLie_0 (by decide) ?_
  refine j_istore_n h [(2, .int (0 : Int32)), (0, .ref (ad 71)), (1, .int p0)] dX0_leavesNoLie_1 rfl (by decide) rfl ?_
  refine j_sub [1, 2, 0] rfl ?_
  exact jb_f0_leavesNoLie_l2 h fin hS 10000 p0 (0 : Int32)
theorem dX0_forgersOf_0 : decode cX0_forgersOf 0 = .ok (.iconst 1, 1) := by decide +kernel
theorem dX0_forgersOf_1 : decode cX0_forgersOf 1 = .ok (.aload_n 0, 1) := by decide +kernel
theorem dX0_forgersOf_2 : decode cX0_forgersOf 2 = .ok (.getfield 15, 3) := by decide +kernel
theorem dX0_forgersOf_5 : decode cX0_forgersOf 5 = .ok (.getfield 29, 3) := by decide +kernel
theorem dX0_forgersOf_8 : decode cX0_forgersOf 8 = .ok (.ishl, 1) := by decide +kernel
theorem dX0_forgersOf_9 : decode cX0_forgersOf 9 = .ok (.iconst 1, 1) := by decide +kernel
theorem dX0_forgersOf_10 : decode cX0_forgersOf 10 = .ok (.isub, 1) := by decide +kernel
theorem dX0_forgersOf_11 : decode cX0_forgersOf 11 = .ok (.istore_n 2, 1) := by decide +kernel
theorem dX0_forgersOf_12 : decode cX0_forgersOf 12 = .ok (.aload_n 0, 1) := by decide +kernel
theorem dX0_forgersOf_13 : decode cX0_forgersOf 13 = .ok (.iload_n 1, 1) := by decide +kernel
theorem dX0_forgersOf_14 : decode cX0_forgersOf 14 = .ok (.invokevirtual 68, 3) := by decide +kernel
theorem dX0_forgersOf_17 : decode cX0_forgersOf 17 = .ok (.iconst 0, 1) := by decide +kernel
theorem dX0_forgersOf_18 : decode cX0_forgersOf 18 = .ok (.istore_n 3, 1) := by decide +kernel
theorem dX0_forgersOf_19 : decode cX0_forgersOf 19 = .ok (.iload_n 3, 1) := by decide +kernel
theorem dX0_forgersOf_20 : decode cX0_forgersOf 20 = .ok (.iconst 1, 1) := by decide +kernel
theorem dX0_forgersOf_21 : decode cX0_forgersOf 21 = .ok (.aload_n 0, 1) := by decide +kernel
theorem dX0_forgersOf_22 : decode cX0_forgersOf 22 = .ok (.getfield 15, 3) := by decide +kernel
theorem dX0_forgersOf_25 : decode cX0_forgersOf 25 = .ok (.getfield 29, 3) := by decide +kernel
theorem dX0_forgersOf_28 : decode cX0_forgersOf 28 = .ok (.ishl, 1) := by decide +kernel
theorem dX0_forgersOf_29 : decode cX0_forgersOf 29 = .ok (.if_icmp .ge 30, 3) := by decide +kernel
theorem dX0_forgersOf_32 : decode cX0_forgersOf 32 = .ok (.iload_n 3, 1) := by decide +kernel
theorem dX0_forgersOf_33 : decode cX0_forgersOf 33 = .ok (.invokestatic 63, 3) := by decide +kernel
theorem dX0_forgersOf_36 : decode cX0_forgersOf 36 = .ok (.iload_n 2, 1) := by decide +kernel
theorem dX0_forgersOf_37 : decode cX0_forgersOf 37 = .ok (.invokestatic 63, 3) := by decide +kernel
theorem dX0_forgersOf_40 : decode cX0_forgersOf 40 = .ok (.if_icmp .ge 13, 3) := by decide +kernel
theorem dX0_forgersOf_43 : decode cX0_forgersOf 43 = .ok (.aload_n 0, 1) := by decide +kernel
theorem dX0_forgersOf_44 : decode cX0_forgersOf 44 = .ok (.iload_n 3, 1) := by decide +kernel
theorem dX0_forgersOf_45 : decode cX0_forgersOf 45 = .ok (.invokevirtual 72, 3) := by decide +kernel
theorem dX0_forgersOf_48 : decode cX0_forgersOf 48 = .ok (.ifCond .eq 5, 3) := by decide +kernel
theorem dX0_forgersOf_51 : decode cX0_forgersOf 51 = .ok (.iload_n 3, 1) := by decide +kernel
theorem dX0_forgersOf_52 : decode cX0_forgersOf 52 = .ok (.istore_n 2, 1) := by decide +kernel
theorem dX0_forgersOf_53 : decode cX0_forgersOf 53 = .ok (.iinc 3 1, 3) := by decide +kernel
theorem dX0_forgersOf_56 : decode cX0_forgersOf 56 = .ok (.goto (-37), 3) := by decide +kernel
theorem dX0_forgersOf_59 : decode cX0_forgersOf 59 = .ok (.iload_n 2, 1) := by decide +kernel
theorem dX0_forgersOf_60 : decode cX0_forgersOf 60 = .ok (.ireturn, 1) := by decide +kernel
def f0_forgersOf_j53 (S : ph_Sh) (rc19 : Int32 → Int32 → ph_Mem → Option (Int32 × ph_Mem)) (x2 : Int32) (x3 : Int32) (M : ph_Mem) : Option (Int32 × ph_Mem) :=
  rc19 x2 (x3 + (1 : Int32)) M
set_option maxHeartbeats 4000000 in
theorem jb_f0_forgersOf_j53 {tb adK adV : Nat → Nat} {S : ph_Sh} {X : ph_X} {ad : Nat → Nat} {o : (Int32 × ph_Mem)} (h : ph_ok (ph_ZX tb adK adV) X cX0_forgersOf RX0 (some .int) 4 4 S.2 ad) (fin : ph_fin X S.1 S.2 ad (some (.int o.1)) o.2) (hS : ph_SX S) {rc19 : Int32 → Int32 → ph_Mem → Option (Int32 × ph_Mem)} (hrc19 : ∀ (x2 : Int32) (x3 : Int32) (M : ph_Mem), ph_J X S.1 S.2 ad o 19 [(0, .ref (ad 71)), (2, .int x2), (3, .int x3)] [] M (rc19 x2 x3 M)) : ∀ (x2 : Int32) (x3 : Int32) (M : ph_Mem), ph_J X S.1 S.2 ad o 53 [(0, .ref (ad 71)), (2, .int x2), (3, .int x3)] [] M (f0_forgersOf_j53 S rc19 x2 x3 M) := by
  intro x2 x3 M
  unfold f0_forgersOf_j53
  refine j_iinc h [(3, .int (x3 + (1 : Int32))), (0, .ref (ad 71)), (2, .int x2)] dX0_forgersOf_53 2 rfl rfl (by decide) rfl ?_
  refine j_goto h 19 dX0_forgersOf_56 (by decide) ?_
  refine j_sub [1, 2, 0] rfl ?_
  exact hrc19 x2 (x3 + (1 : Int32)) M
def f0_forgersOf_l19 (S : ph_Sh) : Nat → Int32 → Int32 → ph_Mem → Option (Int32 × ph_Mem)
  | 0, _, _, _ => none
  | n + 1, x2, x3, M => if ((1 : Int32) <<< ((M.1 11 1) &&& 31)) ≤ x3 then (some (x2, M)) else ((f6_bitCount_0f7a4 S M x3).bind fun q3 => (f6_bitCount_0f7a4 S M x2).bind fun q4 => if q4 ≤ q3 then (f0_forgersOf_j53 S (f0_forgersOf_l19 S n) x2 x3 M) else ((f0_leavesNoLie S M x3).bind fun q5 => if q5 = 0 then (f0_forgersOf_j53 S (f0_forgersOf_l19 S n) x2 x3 M) else (f0_forgersOf_j53 S (f0_forgersOf_l19 S n) x3 x3 M)))
set_option maxHeartbeats 4000000 in
theorem jb_f0_forgersOf_l19 {tb adK adV : Nat → Nat} {S : ph_Sh} {X : ph_X} {ad : Nat → Nat} {o : (Int32 × ph_Mem)} (h : ph_ok (ph_ZX tb adK adV) X cX0_forgersOf RX0 (some .int) 4 4 S.2 ad) (fin : ph_fin X S.1 S.2 ad (some (.int o.1)) o.2) (hS : ph_SX S) : ∀ (n : Nat) (x2 : Int32) (x3 : Int32) (M : ph_Mem), ph_J X S.1 S.2 ad o 19 [(0, .ref (ad 71)), (2, .int x2), (3, .int x3)] [] M (f0_forgersOf_l19 S n x2 x3 M) := by
  intro n
  induction n with
  | zero => intro x2 x3 M; exact j_none
  | succ n hrc19 =>
    intro x2 x3 M
    unfold f0_forgersOf_l19
    refine j_iload_n h dX0_forgersOf_19 rfl 2 rfl ?_
    refine j_iconst (v := (1 : Int32)) h dX0_forgersOf_20 (by decide) ?_
    refine j_aload_n h dX0_forgersOf_21 rfl 0 rfl ?_
    refine j_get (c := 71) (j := 0) (v := .ref (ad 11)) h (ph_xlt hS (by decide)) (ph_kc71 hS) rfl ph_inX0 rfl (by decide) tw_237 rfl rfl dX0_forgersOf_22 ?_
    refine j_get (c := 11) (j := 1) (v := .int (M.1 11 1)) h (ph_xlt hS (by decide)) (ph_kc11 hS) rfl ph_inX9 rfl (by decide) tw_69 rfl rfl dX0_forgersOf_25 ?_
    refine j_ishl h dX0_forgersOf_28 ?_
    refine j_icmp_ge h 59 dX0_forgersOf_29 (by decide) ?_ ?_
    · refine j_iload_n h dX0_forgersOf_59 rfl 1 rfl ?_
      exact j_iret h rfl fin dX0_forgersOf_60
    · refine j_iload_n h dX0_forgersOf_32 rfl 2 rfl ?_
      refine j_callSiP (n := 1) (As := [.int x3]) (rest := []) h tw_1018 tw_481 tw_15 tw_482 ydf6_bitCount_0f7a4 (by decide) (by decide) (fun q hq => cf6_bitCount_0f7a4 (ph_okI h) trivial hq) rfl (Nat.le_of_ble_eq_true rfl) rfl dX0_forgersOf_33 (fun q3 => ?_)
      refine j_iload_n h dX0_forgersOf_36 rfl 1 rfl ?_
      refine j_callSiP (n := 1) (As := [.int x2]) (rest := [.int q3]) h tw_1018 tw_481 tw_15 tw_482 ydf6_bitCount_0f7a4 (by decide) (by decide) (fun q hq => cf6_bitCount_0f7a4 (ph_okI h) trivial hq) rfl (Nat.le_of_ble_eq_true rfl) rfl dX0_forgersOf_37 (fun q4 => ?_)
      refine j_icmp_ge h 53 dX0_forgersOf_40 (by decide) ?_ ?_
      · refine j_sub [0, 1, 2] rfl ?_
        exact jb_f0_forgersOf_j53 h fin hS hrc19 x2 x3 M
      · refine j_aload_n h dX0_forgersOf_43 rfl 0 rfl ?_
        refine j_iload_n h dX0_forgersOf_44 rfl 2 rfl ?_
        refine j_callViP (n := 1) (As := [.int x3]) (rest := []) h 71 tw_1019 tw_1021 tp_36 tw_9 tw_1022 ydf0_leavesNoLie (by decide) (by decide) (ph_xlt hS (by decide)) (ph_kc71 hS) rfl (fun q hq => cf0_leavesNoLie (ph_okI h) hS hq) rfl (Nat.le_of_ble_eq_true rfl) rfl dX0_forgersOf_45 (fun q5 => ?_)
        refine j_if_eq h 53 dX0_forgersOf_48 (by decide) ?_ ?_
        · refine j_sub [0, 1, 2] rfl ?_
          exact jb_f0_forgersOf_j53 h fin hS hrc19 x2 x3 M
        · refine j_iload_n h dX0_forgersOf_51 rfl 2 rfl ?_
          refine j_istore_n h [(2, .int x3), (0, .ref (ad 71)), (3, .int x3)] dX0_forgersOf_52 rfl (by decide) rfl ?_
          refine j_sub [1, 0, 2] rfl ?_
          exact jb_f0_forgersOf_j53 h fin hS hrc19 x3 x3 M
theorem ydf0_forgersOf : ph_yd yX0_forgersOf 1 := ⟨by decide, by decide, by decide +kernel⟩
def f0_forgersOf (S : ph_Sh) (M : ph_Mem) (p0 : Int32) : Option (Int32 × ph_Mem) :=
  ph_let (((1 : Int32) <<< ((M.1 11 1) &&& 31)) - (1 : Int32)) fun z1 => (f0_findLies S M p0).bind fun q2 => f0_forgersOf_l19 S 10000 z1 (0 : Int32) q2
set_option maxHeartbeats 4000000 in
theorem cf0_forgersOf {tb adK adV : Nat → Nat} {S : ph_Sh} {l : Launch} {D : va_G} {cA : Nat → ClassId} {ad : Nat → Nat} (hinj : ∀ i j, i < S.2 → j < S.2 → ad i = ad j → i = j) (hS : ph_SX S) {M : ph_Mem} {p0 : Int32} {r : Int32} {M' : ph_Mem} (hf : f0_forgersOf S M p0 = some (r, M')) : ph_C (ph_ZX tb adK adV) l 4 yX0_forgersOf cX0_forgersOf 4 (some .int) D cA S.1 S.2 ad [.ref (ad 71), .int p0] M (some (.int r)) M' := by
  refine ph_mk ph_ZX_ok hinj (by decide) (Nat.le_of_ble_eq_true rfl) fun X h fin hE => ?_
  refine (?_ : ph_J X S.1 S.2 ad ((r, M') : (Int32 × ph_Mem)) 0 [(0, .ref (ad 71)), (1, .int p0)] [] M (f0_forgersOf S M p0)) hf
  unfold f0_forgersOf
  refine j_iconst (v := (1 : Int32)) h dX0_forgersOf_0 (by decide) ?_
  refine j_aload_n h dX0_forgersOf_1 rfl 0 rfl ?_
  refine j_get (c := 71) (j := 0) (v := .ref (ad 11)) h (ph_xlt hS (by decide)) (ph_kc71 hS) rfl ph_inX0 rfl (by decide) tw_237 rfl rfl dX0_forgersOf_2 ?_
  refine j_get (c := 11) (j := 1) (v := .int (M.1 11 1)) h (ph_xlt hS (by decide)) (ph_kc11 hS) rfl ph_inX9 rfl (by decide) tw_69 rfl rfl dX0_forgersOf_5 ?_
  refine j_ishl h dX0_forgersOf_8 ?_
  refine j_iconst (v := (1 : Int32)) h dX0_forgersOf_9 (by decide) ?_
  refine j_isub h dX0_forgersOf_10 ?_
  refine j_istore_n h [(2, .int (((1 : Int32) <<< ((M.1 11 1) &&& 31)) - (1 : Int32))), (0, .ref (ad 71)), (1, .int p0)] dX0_forgersOf_11 rfl (by decide) rfl ?_
  refine j_letI (lvf := fun z1 => [(2, .int z1), (0, .ref (ad 71)), (1, .int p0)]) (fun z1 => ?_)
  refine j_aload_n h dX0_forgersOf_12 rfl 1 rfl ?_
  refine j_iload_n h dX0_forgersOf_13 rfl 2 rfl ?_
  refine j_callVv (n := 1) (As := [.int p0]) (rest := []) h 71 tw_1013 tw_1015 tp_35 tw_9 tw_1016 ydf0_findLies (by decide) (by decide) (ph_xlt hS (by decide)) (ph_kc71 hS) rfl (fun q hq => cf0_findLies (ph_okI h) hS hq) rfl (Nat.le_of_ble_eq_true rfl) rfl dX0_forgersOf_14 (fun q2 => ?_)
  refine j_iconst (v := (0 : Int32)) h dX0_forgersOf_17 (by decide) ?_
  refine j_istore_n h [(3, .int (0 : Int32)), (2, .int z1), (0, .ref (ad 71)), (1, .int p0)] dX0_forgersOf_18 rfl (by decide) rfl ?_
  refine j_sub [2, 1, 0] rfl ?_
  exact jb_f0_forgersOf_l19 h fin hS 10000 z1 (0 : Int32) q2
theorem dX0_countForged_0 : decode cX0_countForged 0 = .ok (.iconst 0, 1) := by decide +kernel
theorem dX0_countForged_1 : decode cX0_countForged 1 = .ok (.istore_n 1, 1) := by decide +kernel
theorem dX0_countForged_2 : decode cX0_countForged 2 = .ok (.iconst 0, 1) := by decide +kernel
theorem dX0_countForged_3 : decode cX0_countForged 3 = .ok (.istore_n 2, 1) := by decide +kernel
theorem dX0_countForged_4 : decode cX0_countForged 4 = .ok (.iload_n 2, 1) := by decide +kernel
theorem dX0_countForged_5 : decode cX0_countForged 5 = .ok (.bipush 12, 2) := by decide +kernel
theorem dX0_countForged_7 : decode cX0_countForged 7 = .ok (.if_icmp .ge 20, 3) := by decide +kernel
theorem dX0_countForged_10 : decode cX0_countForged 10 = .ok (.iload_n 1, 1) := by decide +kernel
theorem dX0_countForged_11 : decode cX0_countForged 11 = .ok (.aload_n 0, 1) := by decide +kernel
theorem dX0_countForged_12 : decode cX0_countForged 12 = .ok (.iload_n 2, 1) := by decide +kernel
theorem dX0_countForged_13 : decode cX0_countForged 13 = .ok (.invokevirtual 59, 3) := by decide +kernel
theorem dX0_countForged_16 : decode cX0_countForged 16 = .ok (.invokestatic 63, 3) := by decide +kernel
theorem dX0_countForged_19 : decode cX0_countForged 19 = .ok (.iadd, 1) := by decide +kernel
theorem dX0_countForged_20 : decode cX0_countForged 20 = .ok (.istore_n 1, 1) := by decide +kernel
theorem dX0_countForged_21 : decode cX0_countForged 21 = .ok (.iinc 2 1, 3) := by decide +kernel
theorem dX0_countForged_24 : decode cX0_countForged 24 = .ok (.goto (-20), 3) := by decide +kernel
theorem dX0_countForged_27 : decode cX0_countForged 27 = .ok (.iload_n 1, 1) := by decide +kernel
theorem dX0_countForged_28 : decode cX0_countForged 28 = .ok (.ireturn, 1) := by decide +kernel
def f0_countForged_l4 (S : ph_Sh) : Nat → Int32 → Int32 → ph_Mem → Option (Int32 × ph_Mem)
  | 0, _, _, _ => none
  | n + 1, x1, x2, M => if (12 : Int32) ≤ x2 then (some (x1, M)) else ((f0_forgersOf S M x2).bind fun q1 => (f6_bitCount_0f7a4 S q1.2 q1.1).bind fun q2 => (f0_countForged_l4 S n) (x1 + q2) (x2 + (1 : Int32)) q1.2)
set_option maxHeartbeats 4000000 in
theorem jb_f0_countForged_l4 {tb adK adV : Nat → Nat} {S : ph_Sh} {X : ph_X} {ad : Nat → Nat} {o : (Int32 × ph_Mem)} (h : ph_ok (ph_ZX tb adK adV) X cX0_countForged RX0 (some .int) 3 5 S.2 ad) (fin : ph_fin X S.1 S.2 ad (some (.int o.1)) o.2) (hS : ph_SX S) : ∀ (n : Nat) (x1 : Int32) (x2 : Int32) (M : ph_Mem), ph_J X S.1 S.2 ad o 4 [(0, .ref (ad 71)), (1, .int x1), (2, .int x2)] [] M (f0_countForged_l4 S n x1 x2 M) := by
  intro n
  induction n with
  | zero => intro x1 x2 M; exact j_none
  | succ n hrc4 =>
    intro x1 x2 M
    unfold f0_countForged_l4
    refine j_iload_n h dX0_countForged_4 rfl 2 rfl ?_
    refine j_bipush (v := (12 : Int32)) h dX0_countForged_5 (by decide) ?_
    refine j_icmp_ge h 27 dX0_countForged_7 (by decide) ?_ ?_
    · refine j_iload_n h dX0_countForged_27 rfl 1 rfl ?_
      exact j_iret h rfl fin dX0_countForged_28
    · refine j_iload_n h dX0_countForged_10 rfl 1 rfl ?_
      refine j_aload_n h dX0_countForged_11 rfl 0 rfl ?_
      refine j_iload_n h dX0_countForged_12 rfl 2 rfl ?_
      refine j_callVi (n := 1) (As := [.int x2]) (rest := [.int x1]) h 71 tw_1009 tw_1010 tw_1011 tw_9 tw_1012 ydf0_forgersOf (by decide) (by decide) (ph_xlt hS (by decide)) (ph_kc71 hS) rfl (fun q hq => cf0_forgersOf (ph_okI h) hS hq) rfl (Nat.le_of_ble_eq_true rfl) rfl dX0_countForged_13 (fun q1 => ?_)
      refine j_callSiP (n := 1) (As := [.int q1.1]) (rest := [.int x1]) h tw_1018 tw_481 tw_15 tw_482 ydf6_bitCount_0f7a4 (by decide) (by decide) (fun q hq => cf6_bitCount_0f7a4 (ph_okI h) trivial hq) rfl (Nat.le_of_ble_eq_true rfl) rfl dX0_countForged_16 (fun q2 => ?_)
      refine j_iadd h dX0_countForged_19 ?_
      refine j_istore_n h [(1, .int (x1 + q2)), (0, .ref (ad 71)), (2, .int x2)] dX0_countForged_20 rfl (by decide) rfl ?_
      refine j_iinc h [(2, .int (x2 + (1 : Int32))), (1, .int (x1 + q2)), (0, .ref (ad 71))] dX0_countForged_21 2 rfl rfl (by decide) rfl ?_
      refine j_goto h 4 dX0_countForged_24 (by decide) ?_
      refine j_sub [2, 1, 0] rfl ?_
      exact hrc4 (x1 + q2) (x2 + (1 : Int32)) q1.2
theorem ydf0_countForged : ph_yd yX0_countForged 0 := ⟨by decide, by decide, by decide +kernel⟩
def f0_countForged (S : ph_Sh) (M : ph_Mem) : Option (Int32 × ph_Mem) :=
  f0_countForged_l4 S 10000 (0 : Int32) (0 : Int32) M
set_option maxHeartbeats 4000000 in
theorem cf0_countForged {tb adK adV : Nat → Nat} {S : ph_Sh} {l : Launch} {D : va_G} {cA : Nat → ClassId} {ad : Nat → Nat} (hinj : ∀ i j, i < S.2 → j < S.2 → ad i = ad j → i = j) (hS : ph_SX S) {M : ph_Mem} {r : Int32} {M' : ph_Mem} (hf : f0_countForged S M  = some (r, M')) : ph_C (ph_ZX tb adK adV) l 5 yX0_countForged cX0_countForged 3 (some .int) D cA S.1 S.2 ad [.ref (ad 71)] M (some (.int r)) M' := by
  refine ph_mk ph_ZX_ok hinj (by decide) (Nat.le_of_ble_eq_true rfl) fun X h fin hE => ?_
  refine (?_ : ph_J X S.1 S.2 ad ((r, M') : (Int32 × ph_Mem)) 0 [(0, .ref (ad 71))] [] M (f0_countForged S M )) hf
  unfold f0_countForged
  refine j_iconst (v := (0 : Int32)) h dX0_countForged_0 (by decide) ?_
  refine j_istore_n h [(1, .int (0 : Int32)), (0, .ref (ad 71))] dX0_countForged_1 rfl (by decide) rfl ?_
  refine j_iconst (v := (0 : Int32)) h dX0_countForged_2 (by decide) ?_
  refine j_istore_n h [(2, .int (0 : Int32)), (1, .int (0 : Int32)), (0, .ref (ad 71))] dX0_countForged_3 rfl (by decide) rfl ?_
  refine j_sub [2, 1, 0] rfl ?_
  exact jb_f0_countForged_l4 h fin hS 10000 (0 : Int32) (0 : Int32) M
theorem dX0_fitsHolders_0 : decode cX0_fitsHolders 0 = .ok (.iconst 0, 1) := by decide +kernel
theorem dX0_fitsHolders_1 : decode cX0_fitsHolders 1 = .ok (.istore 4, 2) := by decide +kernel
theorem dX0_fitsHolders_3 : decode cX0_fitsHolders 3 = .ok (.iload 4, 2) := by decide +kernel
theorem dX0_fitsHolders_5 : decode cX0_fitsHolders 5 = .ok (.aload_n 0, 1) := by decide +kernel
theorem dX0_fitsHolders_6 : decode cX0_fitsHolders 6 = .ok (.getfield 15, 3) := by decide +kernel
theorem dX0_fitsHolders_9 : decode cX0_fitsHolders 9 = .ok (.getfield 29, 3) := by decide +kernel
theorem dX0_fitsHolders_12 : decode cX0_fitsHolders 12 = .ok (.if_icmp .ge 44, 3) := by decide +kernel
theorem dX0_fitsHolders_15 : decode cX0_fitsHolders 15 = .ok (.aload_n 0, 1) := by decide +kernel
theorem dX0_fitsHolders_16 : decode cX0_fitsHolders 16 = .ok (.getfield 15, 3) := by decide +kernel
theorem dX0_fitsHolders_19 : decode cX0_fitsHolders 19 = .ok (.iload 4, 2) := by decide +kernel
theorem dX0_fitsHolders_21 : decode cX0_fitsHolders 21 = .ok (.iload_n 2, 1) := by decide +kernel
theorem dX0_fitsHolders_22 : decode cX0_fitsHolders 22 = .ok (.invokevirtual 43, 3) := by decide +kernel
theorem dX0_fitsHolders_25 : decode cX0_fitsHolders 25 = .ok (.ifCond .eq 25, 3) := by decide +kernel
theorem dX0_fitsHolders_28 : decode cX0_fitsHolders 28 = .ok (.aload_n 0, 1) := by decide +kernel
theorem dX0_fitsHolders_29 : decode cX0_fitsHolders 29 = .ok (.getfield 15, 3) := by decide +kernel
theorem dX0_fitsHolders_32 : decode cX0_fitsHolders 32 = .ok (.iload 4, 2) := by decide +kernel
theorem dX0_fitsHolders_34 : decode cX0_fitsHolders 34 = .ok (.iload_n 2, 1) := by decide +kernel
theorem dX0_fitsHolders_35 : decode cX0_fitsHolders 35 = .ok (.iload_n 1, 1) := by decide +kernel
theorem dX0_fitsHolders_36 : decode cX0_fitsHolders 36 = .ok (.invokevirtual 46, 3) := by decide +kernel
theorem dX0_fitsHolders_39 : decode cX0_fitsHolders 39 = .ok (.iload_n 3, 1) := by decide +kernel
theorem dX0_fitsHolders_40 : decode cX0_fitsHolders 40 = .ok (.iload 4, 2) := by decide +kernel
theorem dX0_fitsHolders_42 : decode cX0_fitsHolders 42 = .ok (.invokestatic 36, 3) := by decide +kernel
theorem dX0_fitsHolders_45 : decode cX0_fitsHolders 45 = .ok (.if_icmp .eq 5, 3) := by decide +kernel
theorem dX0_fitsHolders_48 : decode cX0_fitsHolders 48 = .ok (.iconst 0, 1) := by decide +kernel
theorem dX0_fitsHolders_49 : decode cX0_fitsHolders 49 = .ok (.ireturn, 1) := by decide +kernel
theorem dX0_fitsHolders_50 : decode cX0_fitsHolders 50 = .ok (.iinc 4 1, 3) := by decide +kernel
theorem dX0_fitsHolders_53 : decode cX0_fitsHolders 53 = .ok (.goto (-50), 3) := by decide +kernel
theorem dX0_fitsHolders_56 : decode cX0_fitsHolders 56 = .ok (.iconst 1, 1) := by decide +kernel
theorem dX0_fitsHolders_57 : decode cX0_fitsHolders 57 = .ok (.ireturn, 1) := by decide +kernel
def f0_fitsHolders_j50 (S : ph_Sh) (M : ph_Mem) (rc3 : Int32 → Int32 → Int32 → Int32 → Option Int32) (x1 : Int32) (x2 : Int32) (x3 : Int32) (x4 : Int32) : Option Int32 :=
  rc3 x1 x2 x3 (x4 + (1 : Int32))
set_option maxHeartbeats 4000000 in
theorem jb_f0_fitsHolders_j50 {tb adK adV : Nat → Nat} {S : ph_Sh} {X : ph_X} {ad : Nat → Nat} {o : Int32} {M : ph_Mem} (h : ph_ok (ph_ZX tb adK adV) X cX0_fitsHolders RX0 (some .boolean) 5 2 S.2 ad) (fin : ph_fin X S.1 S.2 ad (some (.int o)) M) (hS : ph_SX S) {rc3 : Int32 → Int32 → Int32 → Int32 → Option Int32} (hrc3 : ∀ (x1 : Int32) (x2 : Int32) (x3 : Int32) (x4 : Int32), ph_J X S.1 S.2 ad o 3 [(0, .ref (ad 71)), (1, .int x1), (2, .int x2), (3, .int x3), (4, .int x4)] [] M (rc3 x1 x2 x3 x4)) : ∀ (x1 : Int32) (x2 : Int32) (x3 : Int32) (x4 : Int32), ph_J X S.1 S.2 ad o 50 [(0, .ref (ad 71)), (1, .int x1), (2, .int x2), (3, .int x3), (4, .int x4)] [] M (f0_fitsHolders_j50 S M rc3 x1 x2 x3 x4) := by
  intro x1 x2 x3 x4
  unfold f0_fitsHolders_j50
  refine j_iinc h [(4, .int (x4 + (1 : Int32))), (0, .ref (ad 71)), (1, .int x1), (2, .int x2), (3, .int x3)] dX0_fitsHolders_50 4 rfl rfl (by decide) rfl ?_
  refine j_goto h 3 dX0_fitsHolders_53 (by decide) ?_
  refine j_sub [1, 2, 3, 4, 0] rfl ?_
  exact hrc3 x1 x2 x3 (x4 + (1 : Int32))
def f0_fitsHolders_l3 (S : ph_Sh) (M : ph_Mem) : Nat → Int32 → Int32 → Int32 → Int32 → Option Int32
  | 0, _, _, _, _ => none
  | n + 1, x1, x2, x3, x4 => if (M.1 11 1) ≤ x4 then (some (1 : Int32)) else ((f9_holds S M 11 x4 x2).bind fun q1 => if q1 = 0 then (f0_fitsHolders_j50 S M (f0_fitsHolders_l3 S M n) x1 x2 x3 x4) else ((f9_wasWith S M 11 x4 x2 x1).bind fun q2 => (f9_hasBit S M x3 x4).bind fun q3 => if q2 = q3 then (f0_fitsHolders_j50 S M (f0_fitsHolders_l3 S M n) x1 x2 x3 x4) else (some (0 : Int32))))
set_option maxHeartbeats 4000000 in
theorem jb_f0_fitsHolders_l3 {tb adK adV : Nat → Nat} {S : ph_Sh} {X : ph_X} {ad : Nat → Nat} {o : Int32} {M : ph_Mem} (h : ph_ok (ph_ZX tb adK adV) X cX0_fitsHolders RX0 (some .boolean) 5 2 S.2 ad) (fin : ph_fin X S.1 S.2 ad (some (.int o)) M) (hS : ph_SX S) : ∀ (n : Nat) (x1 : Int32) (x2 : Int32) (x3 : Int32) (x4 : Int32), ph_J X S.1 S.2 ad o 3 [(0, .ref (ad 71)), (1, .int x1), (2, .int x2), (3, .int x3), (4, .int x4)] [] M (f0_fitsHolders_l3 S M n x1 x2 x3 x4) := by
  intro n
  induction n with
  | zero => intro x1 x2 x3 x4; exact j_none
  | succ n hrc3 =>
    intro x1 x2 x3 x4
    unfold f0_fitsHolders_l3
    refine j_iload h dX0_fitsHolders_3 4 rfl ?_
    refine j_aload_n h dX0_fitsHolders_5 rfl 0 rfl ?_
    refine j_get (c := 71) (j := 0) (v := .ref (ad 11)) h (ph_xlt hS (by decide)) (ph_kc71 hS) rfl ph_inX0 rfl (by decide) tw_237 rfl rfl dX0_fitsHolders_6 ?_
    refine j_get (c := 11) (j := 1) (v := .int (M.1 11 1)) h (ph_xlt hS (by decide)) (ph_kc11 hS) rfl ph_inX9 rfl (by decide) tw_69 rfl rfl dX0_fitsHolders_9 ?_
    refine j_icmp_ge h 56 dX0_fitsHolders_12 (by decide) ?_ ?_
    · refine j_iconst (v := (1 : Int32)) h dX0_fitsHolders_56 (by decide) ?_
      exact j_zretPC h rfl (by decide) fin dX0_fitsHolders_57
    · refine j_aload_n h dX0_fitsHolders_15 rfl 0 rfl ?_
      refine j_get (c := 71) (j := 0) (v := .ref (ad 11)) h (ph_xlt hS (by decide)) (ph_kc71 hS) rfl ph_inX0 rfl (by decide) tw_237 rfl rfl dX0_fitsHolders_16 ?_
      refine j_iload h dX0_fitsHolders_19 4 rfl ?_
      refine j_iload_n h dX0_fitsHolders_21 rfl 2 rfl ?_
      refine j_callViP (n := 2) (As := [.int x4, .int x2]) (rest := []) h 11 tw_995 tw_552 tw_553 tw_3 tw_554 ydf9_holds (by decide) (by decide) (ph_xlt hS (by decide)) (ph_kc11 hS) rfl (fun q hq => cf9_holds (ph_okI h) hS (by decide) hq) rfl (Nat.le_of_ble_eq_true rfl) rfl dX0_fitsHolders_22 (fun q1 => ?_)
      refine j_if_eq h 50 dX0_fitsHolders_25 (by decide) ?_ ?_
      · refine j_sub [0, 1, 2, 3, 4] rfl ?_
        exact jb_f0_fitsHolders_j50 h fin hS hrc3 x1 x2 x3 x4
      · refine j_aload_n h dX0_fitsHolders_28 rfl 0 rfl ?_
        refine j_get (c := 71) (j := 0) (v := .ref (ad 11)) h (ph_xlt hS (by decide)) (ph_kc71 hS) rfl ph_inX0 rfl (by decide) tw_237 rfl rfl dX0_fitsHolders_29 ?_
        refine j_iload h dX0_fitsHolders_32 4 rfl ?_
        refine j_iload_n h dX0_fitsHolders_34 rfl 2 rfl ?_
        refine j_iload_n h dX0_fitsHolders_35 rfl 1 rfl ?_
        refine j_callViP (n := 3) (As := [.int x4, .int x2, .int x1]) (rest := []) h 11 tw_996 tw_948 tw_949 tw_3 tw_950 ydf9_wasWith (by decide) (by decide) (ph_xlt hS (by decide)) (ph_kc11 hS) rfl (fun q hq => cf9_wasWith (ph_okI h) hS (by decide) hq) rfl (Nat.le_of_ble_eq_true rfl) rfl dX0_fitsHolders_36 (fun q2 => ?_)
        refine j_iload_n h dX0_fitsHolders_39 rfl 3 rfl ?_
        refine j_iload h dX0_fitsHolders_40 4 rfl ?_
        refine j_callSiP (n := 2) (As := [.int x3, .int x4]) (rest := [.int q2]) h tw_973 tw_454 tw_3 tw_455 ydf9_hasBit (by decide) (by decide) (fun q hq => cf9_hasBit (ph_okI h) hS hq) rfl (Nat.le_of_ble_eq_true rfl) rfl dX0_fitsHolders_42 (fun q3 => ?_)
        refine j_icmp_eq h 50 dX0_fitsHolders_45 (by decide) ?_ ?_
        · refine j_sub [0, 1, 2, 3, 4] rfl ?_
          exact jb_f0_fitsHolders_j50 h fin hS hrc3 x1 x2 x3 x4
        · refine j_iconst (v := (0 : Int32)) h dX0_fitsHolders_48 (by decide) ?_
          exact j_zretPC h rfl (by decide) fin dX0_fitsHolders_49
theorem ydf0_fitsHolders : ph_yd yX0_fitsHolders 3 := ⟨by decide, by decide, by decide +kernel⟩
def f0_fitsHolders (S : ph_Sh) (M : ph_Mem) (p0 : Int32) (p1 : Int32) (p2 : Int32) : Option Int32 :=
  f0_fitsHolders_l3 S M 10000 p0 p1 p2 (0 : Int32)
set_option maxHeartbeats 4000000 in
theorem cf0_fitsHolders {tb adK adV : Nat → Nat} {S : ph_Sh} {l : Launch} {D : va_G} {cA : Nat → ClassId} {ad : Nat → Nat} (hinj : ∀ i j, i < S.2 → j < S.2 → ad i = ad j → i = j) (hS : ph_SX S) {M : ph_Mem} {p0 : Int32} {p1 : Int32} {p2 : Int32} {r : Int32} (hf : f0_fitsHolders S M p0 p1 p2 = some r) : ph_C (ph_ZX tb adK adV) l 2 yX0_fitsHolders cX0_fitsHolders 5 (some .boolean) D cA S.1 S.2 ad [.ref (ad 71), .int p0, .int p1, .int p2] M (some (.int r)) M := by
  refine ph_mk ph_ZX_ok hinj (by decide) (Nat.le_of_ble_eq_true rfl) fun X h fin hE => ?_
  refine (?_ : ph_J X S.1 S.2 ad (r : Int32) 0 [(0, .ref (ad 71)), (1, .int p0), (2, .int p1), (3, .int p2)] [] M (f0_fitsHolders S M p0 p1 p2)) hf
  unfold f0_fitsHolders
  refine j_iconst (v := (0 : Int32)) h dX0_fitsHolders_0 (by decide) ?_
  refine j_istore h [(4, .int (0 : Int32)), (0, .ref (ad 71)), (1, .int p0), (2, .int p1), (3, .int p2)] dX0_fitsHolders_1 (by decide) rfl ?_
  refine j_sub [1, 2, 3, 4, 0] rfl ?_
  exact jb_f0_fitsHolders_l3 h fin hS 10000 p0 p1 p2 (0 : Int32)
theorem dX0_ownersOfStray_0 : decode cX0_ownersOfStray 0 = .ok (.iconst 0, 1) := by decide +kernel
theorem dX0_ownersOfStray_1 : decode cX0_ownersOfStray 1 = .ok (.istore_n 3, 1) := by decide +kernel
theorem dX0_ownersOfStray_2 : decode cX0_ownersOfStray 2 = .ok (.iconst 0, 1) := by decide +kernel
theorem dX0_ownersOfStray_3 : decode cX0_ownersOfStray 3 = .ok (.istore 4, 2) := by decide +kernel
theorem dX0_ownersOfStray_5 : decode cX0_ownersOfStray 5 = .ok (.iload 4, 2) := by decide +kernel
theorem dX0_ownersOfStray_7 : decode cX0_ownersOfStray 7 = .ok (.aload_n 0, 1) := by decide +kernel
theorem dX0_ownersOfStray_8 : decode cX0_ownersOfStray 8 = .ok (.getfield 15, 3) := by decide +kernel
theorem dX0_ownersOfStray_11 : decode cX0_ownersOfStray 11 = .ok (.getfield 29, 3) := by decide +kernel
theorem dX0_ownersOfStray_14 : decode cX0_ownersOfStray 14 = .ok (.if_icmp .ge 49, 3) := by decide +kernel
theorem dX0_ownersOfStray_17 : decode cX0_ownersOfStray 17 = .ok (.aload_n 0, 1) := by decide +kernel
theorem dX0_ownersOfStray_18 : decode cX0_ownersOfStray 18 = .ok (.getfield 15, 3) := by decide +kernel
theorem dX0_ownersOfStray_21 : decode cX0_ownersOfStray 21 = .ok (.iload 4, 2) := by decide +kernel
theorem dX0_ownersOfStray_23 : decode cX0_ownersOfStray 23 = .ok (.iload_n 1, 1) := by decide +kernel
theorem dX0_ownersOfStray_24 : decode cX0_ownersOfStray 24 = .ok (.invokevirtual 43, 3) := by decide +kernel
theorem dX0_ownersOfStray_27 : decode cX0_ownersOfStray 27 = .ok (.ifCond .ne 30, 3) := by decide +kernel
theorem dX0_ownersOfStray_30 : decode cX0_ownersOfStray 30 = .ok (.iload_n 2, 1) := by decide +kernel
theorem dX0_ownersOfStray_31 : decode cX0_ownersOfStray 31 = .ok (.iload 4, 2) := by decide +kernel
theorem dX0_ownersOfStray_33 : decode cX0_ownersOfStray 33 = .ok (.invokestatic 36, 3) := by decide +kernel
theorem dX0_ownersOfStray_36 : decode cX0_ownersOfStray 36 = .ok (.ifCond .ne 21, 3) := by decide +kernel
theorem dX0_ownersOfStray_39 : decode cX0_ownersOfStray 39 = .ok (.aload_n 0, 1) := by decide +kernel
theorem dX0_ownersOfStray_40 : decode cX0_ownersOfStray 40 = .ok (.iload 4, 2) := by decide +kernel
theorem dX0_ownersOfStray_42 : decode cX0_ownersOfStray 42 = .ok (.iload_n 1, 1) := by decide +kernel
theorem dX0_ownersOfStray_43 : decode cX0_ownersOfStray 43 = .ok (.iload_n 2, 1) := by decide +kernel
theorem dX0_ownersOfStray_44 : decode cX0_ownersOfStray 44 = .ok (.invokevirtual 81, 3) := by decide +kernel
theorem dX0_ownersOfStray_47 : decode cX0_ownersOfStray 47 = .ok (.ifCond .eq 10, 3) := by decide +kernel
theorem dX0_ownersOfStray_50 : decode cX0_ownersOfStray 50 = .ok (.iload_n 3, 1) := by decide +kernel
theorem dX0_ownersOfStray_51 : decode cX0_ownersOfStray 51 = .ok (.iconst 1, 1) := by decide +kernel
theorem dX0_ownersOfStray_52 : decode cX0_ownersOfStray 52 = .ok (.iload 4, 2) := by decide +kernel
theorem dX0_ownersOfStray_54 : decode cX0_ownersOfStray 54 = .ok (.ishl, 1) := by decide +kernel
theorem dX0_ownersOfStray_55 : decode cX0_ownersOfStray 55 = .ok (.ior, 1) := by decide +kernel
theorem dX0_ownersOfStray_56 : decode cX0_ownersOfStray 56 = .ok (.istore_n 3, 1) := by decide +kernel
theorem dX0_ownersOfStray_57 : decode cX0_ownersOfStray 57 = .ok (.iinc 4 1, 3) := by decide +kernel
theorem dX0_ownersOfStray_60 : decode cX0_ownersOfStray 60 = .ok (.goto (-55), 3) := by decide +kernel
theorem dX0_ownersOfStray_63 : decode cX0_ownersOfStray 63 = .ok (.iload_n 3, 1) := by decide +kernel
theorem dX0_ownersOfStray_64 : decode cX0_ownersOfStray 64 = .ok (.ireturn, 1) := by decide +kernel
def f0_ownersOfStray_j57 (S : ph_Sh) (M : ph_Mem) (rc5 : Int32 → Int32 → Int32 → Int32 → Option Int32) (x1 : Int32) (x2 : Int32) (x3 : Int32) (x4 : Int32) : Option Int32 :=
  rc5 x1 x2 x3 (x4 + (1 : Int32))
set_option maxHeartbeats 4000000 in
theorem jb_f0_ownersOfStray_j57 {tb adK adV : Nat → Nat} {S : ph_Sh} {X : ph_X} {ad : Nat → Nat} {o : Int32} {M : ph_Mem} (h : ph_ok (ph_ZX tb adK adV) X cX0_ownersOfStray RX0 (some .int) 5 3 S.2 ad) (fin : ph_fin X S.1 S.2 ad (some (.int o)) M) (hS : ph_SX S) {rc5 : Int32 → Int32 → Int32 → Int32 → Option Int32} (hrc5 : ∀ (x1 : Int32) (x2 : Int32) (x3 : Int32) (x4 : Int32), ph_J X S.1 S.2 ad o 5 [(0, .ref (ad 71)), (1, .int x1), (2, .int x2), (3, .int x3), (4, .int x4)] [] M (rc5 x1 x2 x3 x4)) : ∀ (x1 : Int32) (x2 : Int32) (x3 : Int32) (x4 : Int32), ph_J X S.1 S.2 ad o 57 [(0, .ref (ad 71)), (1, .int x1), (2, .int x2), (3, .int x3), (4, .int x4)] [] M (f0_ownersOfStray_j57 S M rc5 x1 x2 x3 x4) := by
  intro x1 x2 x3 x4
  unfold f0_ownersOfStray_j57
  refine j_iinc h [(4, .int (x4 + (1 : Int32))), (0, .ref (ad 71)), (1, .int x1), (2, .int x2), (3, .int x3)] dX0_ownersOfStray_57 4 rfl rfl (by decide) rfl ?_
  refine j_goto h 5 dX0_ownersOfStray_60 (by decide) ?_
  refine j_sub [1, 2, 3, 4, 0] rfl ?_
  exact hrc5 x1 x2 x3 (x4 + (1 : Int32))
def f0_ownersOfStray_l5 (S : ph_Sh) (M : ph_Mem) : Nat → Int32 → Int32 → Int32 → Int32 → Option Int32
  | 0, _, _, _, _ => none
  | n + 1, x1, x2, x3, x4 => if (M.1 11 1) ≤ x4 then (some x3) else ((f9_holds S M 11 x4 x1).bind fun q1 => if q1 = 0 then ((f9_hasBit S M x2 x4).bind fun q2 => if q2 = 0 then ((f0_fitsHolders S M x4 x1 x2).bind fun q3 => if q3 = 0 then (f0_ownersOfStray_j57 S M (f0_ownersOfStray_l5 S M n) x1 x2 x3 x4) else (ph_let (x3 ||| ((1 : Int32) <<< (x4 &&& 31))) fun z4 => f0_ownersOfStray_j57 S M (f0_ownersOfStray_l5 S M n) x1 x2 z4 x4)) else (f0_ownersOfStray_j57 S M (f0_ownersOfStray_l5 S M n) x1 x2 x3 x4)) else (f0_ownersOfStray_j57 S M (f0_ownersOfStray_l5 S M n) x1 x2 x3 x4))
set_option maxHeartbeats 4000000 in
theorem jb_f0_ownersOfStray_l5 {tb adK adV : Nat → Nat} {S : ph_Sh} {X : ph_X} {ad : Nat → Nat} {o : Int32} {M : ph_Mem} (h : ph_ok (ph_ZX tb adK adV) X cX0_ownersOfStray RX0 (some .int) 5 3 S.2 ad) (fin : ph_fin X S.1 S.2 ad (some (.int o)) M) (hS : ph_SX S) : ∀ (n : Nat) (x1 : Int32) (x2 : Int32) (x3 : Int32) (x4 : Int32), ph_J X S.1 S.2 ad o 5 [(0, .ref (ad 71)), (1, .int x1), (2, .int x2), (3, .int x3), (4, .int x4)] [] M (f0_ownersOfStray_l5 S M n x1 x2 x3 x4) := by
  intro n
  induction n with
  | zero => intro x1 x2 x3 x4; exact j_none
  | succ n hrc5 =>
    intro x1 x2 x3 x4
    unfold f0_ownersOfStray_l5
    refine j_iload h dX0_ownersOfStray_5 4 rfl ?_
    refine j_aload_n h dX0_ownersOfStray_7 rfl 0 rfl ?_
    refine j_get (c := 71) (j := 0) (v := .ref (ad 11)) h (ph_xlt hS (by decide)) (ph_kc71 hS) rfl ph_inX0 rfl (by decide) tw_237 rfl rfl dX0_ownersOfStray_8 ?_
    refine j_get (c := 11) (j := 1) (v := .int (M.1 11 1)) h (ph_xlt hS (by decide)) (ph_kc11 hS) rfl ph_inX9 rfl (by decide) tw_69 rfl rfl dX0_ownersOfStray_11 ?_
    refine j_icmp_ge h 63 dX0_ownersOfStray_14 (by decide) ?_ ?_
    · refine j_iload_n h dX0_ownersOfStray_63 rfl 3 rfl ?_
      exact j_iretP h rfl fin dX0_ownersOfStray_64
    · refine j_aload_n h dX0_ownersOfStray_17 rfl 0 rfl ?_
      refine j_get (c := 71) (j := 0) (v := .ref (ad 11)) h (ph_xlt hS (by decide)) (ph_kc71 hS) rfl ph_inX0 rfl (by decide) tw_237 rfl rfl dX0_ownersOfStray_18 ?_
      refine j_iload h dX0_ownersOfStray_21 4 rfl ?_
      refine j_iload_n h dX0_ownersOfStray_23 rfl 1 rfl ?_
      refine j_callViP (n := 2) (As := [.int x4, .int x1]) (rest := []) h 11 tw_995 tw_552 tw_553 tw_3 tw_554 ydf9_holds (by decide) (by decide) (ph_xlt hS (by decide)) (ph_kc11 hS) rfl (fun q hq => cf9_holds (ph_okI h) hS (by decide) hq) rfl (Nat.le_of_ble_eq_true rfl) rfl dX0_ownersOfStray_24 (fun q1 => ?_)
      refine j_if_ne h 57 dX0_ownersOfStray_27 (by decide) ?_ ?_
      · refine j_sub [0, 1, 2, 3, 4] rfl ?_
        exact jb_f0_ownersOfStray_j57 h fin hS hrc5 x1 x2 x3 x4
      · refine j_iload_n h dX0_ownersOfStray_30 rfl 2 rfl ?_
        refine j_iload h dX0_ownersOfStray_31 4 rfl ?_
        refine j_callSiP (n := 2) (As := [.int x2, .int x4]) (rest := []) h tw_973 tw_454 tw_3 tw_455 ydf9_hasBit (by decide) (by decide) (fun q hq => cf9_hasBit (ph_okI h) hS hq) rfl (Nat.le_of_ble_eq_true rfl) rfl dX0_ownersOfStray_33 (fun q2 => ?_)
        refine j_if_ne h 57 dX0_ownersOfStray_36 (by decide) ?_ ?_
        · refine j_sub [0, 1, 2, 3, 4] rfl ?_
          exact jb_f0_ownersOfStray_j57 h fin hS hrc5 x1 x2 x3 x4
        · refine j_aload_n h dX0_ownersOfStray_39 rfl 0 rfl ?_
          refine j_iload h dX0_ownersOfStray_40 4 rfl ?_
          refine j_iload_n h dX0_ownersOfStray_42 rfl 1 rfl ?_
          refine j_iload_n h dX0_ownersOfStray_43 rfl 2 rfl ?_
          refine j_callViP (n := 3) (As := [.int x4, .int x1, .int x2]) (rest := []) h 71 tw_1033 tw_1035 tp_37 tw_9 tw_1036 ydf0_fitsHolders (by decide) (by decide) (ph_xlt hS (by decide)) (ph_kc71 hS) rfl (fun q hq => cf0_fitsHolders (ph_okI h) hS hq) rfl (Nat.le_of_ble_eq_true rfl) rfl dX0_ownersOfStray_44 (fun q3 => ?_)
          refine j_if_eq h 57 dX0_ownersOfStray_47 (by decide) ?_ ?_
          · refine j_sub [0, 1, 2, 3, 4] rfl ?_
            exact jb_f0_ownersOfStray_j57 h fin hS hrc5 x1 x2 x3 x4
          · refine j_iload_n h dX0_ownersOfStray_50 rfl 3 rfl ?_
            refine j_iconst (v := (1 : Int32)) h dX0_ownersOfStray_51 (by decide) ?_
            refine j_iload h dX0_ownersOfStray_52 4 rfl ?_
            refine j_ishl h dX0_ownersOfStray_54 ?_
            refine j_ior h dX0_ownersOfStray_55 ?_
            refine j_istore_n h [(3, .int (x3 ||| ((1 : Int32) <<< (x4 &&& 31)))), (0, .ref (ad 71)), (1, .int x1), (2, .int x2), (4, .int x4)] dX0_ownersOfStray_56 rfl (by decide) rfl ?_
            refine j_letI (lvf := fun z4 => [(3, .int z4), (0, .ref (ad 71)), (1, .int x1), (2, .int x2), (4, .int x4)]) (fun z4 => ?_)
            refine j_sub [1, 2, 3, 0, 4] rfl ?_
            exact jb_f0_ownersOfStray_j57 h fin hS hrc5 x1 x2 z4 x4
theorem ydf0_ownersOfStray : ph_yd yX0_ownersOfStray 2 := ⟨by decide, by decide, by decide +kernel⟩
def f0_ownersOfStray (S : ph_Sh) (M : ph_Mem) (p0 : Int32) (p1 : Int32) : Option Int32 :=
  f0_ownersOfStray_l5 S M 10000 p0 p1 (0 : Int32) (0 : Int32)
set_option maxHeartbeats 4000000 in
theorem cf0_ownersOfStray {tb adK adV : Nat → Nat} {S : ph_Sh} {l : Launch} {D : va_G} {cA : Nat → ClassId} {ad : Nat → Nat} (hinj : ∀ i j, i < S.2 → j < S.2 → ad i = ad j → i = j) (hS : ph_SX S) {M : ph_Mem} {p0 : Int32} {p1 : Int32} {r : Int32} (hf : f0_ownersOfStray S M p0 p1 = some r) : ph_C (ph_ZX tb adK adV) l 3 yX0_ownersOfStray cX0_ownersOfStray 5 (some .int) D cA S.1 S.2 ad [.ref (ad 71), .int p0, .int p1] M (some (.int r)) M := by
  refine ph_mk ph_ZX_ok hinj (by decide) (Nat.le_of_ble_eq_true rfl) fun X h fin hE => ?_
  refine (?_ : ph_J X S.1 S.2 ad (r : Int32) 0 [(0, .ref (ad 71)), (1, .int p0), (2, .int p1)] [] M (f0_ownersOfStray S M p0 p1)) hf
  unfold f0_ownersOfStray
  refine j_iconst (v := (0 : Int32)) h dX0_ownersOfStray_0 (by decide) ?_
  refine j_istore_n h [(3, .int (0 : Int32)), (0, .ref (ad 71)), (1, .int p0), (2, .int p1)] dX0_ownersOfStray_1 rfl (by decide) rfl ?_
  refine j_iconst (v := (0 : Int32)) h dX0_ownersOfStray_2 (by decide) ?_
  refine j_istore h [(4, .int (0 : Int32)), (3, .int (0 : Int32)), (0, .ref (ad 71)), (1, .int p0), (2, .int p1)] dX0_ownersOfStray_3 (by decide) rfl ?_
  refine j_sub [2, 3, 4, 1, 0] rfl ?_
  exact jb_f0_ownersOfStray_l5 h fin hS 10000 p0 p1 (0 : Int32) (0 : Int32)
theorem dJ9_min_7cf53_0 : decode cJ9_min_7cf53 0 = .ok (.iload_n 0, 1) := by decide +kernel
theorem dJ9_min_7cf53_1 : decode cJ9_min_7cf53 1 = .ok (.iload_n 1, 1) := by decide +kernel
theorem dJ9_min_7cf53_2 : decode cJ9_min_7cf53 2 = .ok (.if_icmp .gt 7, 3) := by decide +kernel
theorem dJ9_min_7cf53_5 : decode cJ9_min_7cf53 5 = .ok (.iload_n 0, 1) := by decide +kernel
theorem dJ9_min_7cf53_6 : decode cJ9_min_7cf53 6 = .ok (.goto 4, 3) := by decide +kernel
theorem dJ9_min_7cf53_9 : decode cJ9_min_7cf53 9 = .ok (.iload_n 1, 1) := by decide +kernel
theorem dJ9_min_7cf53_10 : decode cJ9_min_7cf53 10 = .ok (.ireturn, 1) := by decide +kernel
theorem ydf9_min_7cf53 : ph_yd yJ9_min_7cf53 2 := ⟨by decide, by decide, by decide +kernel⟩
def f9_min_7cf53 (S : ph_Sh) (M : ph_Mem) (p0 : Int32) (p1 : Int32) : Option Int32 :=
  if p1 < p0 then (some p1) else (some p0)
set_option maxHeartbeats 4000000 in
theorem cf9_min_7cf53 {tb adK adV : Nat → Nat} {S : ph_Sh} {l : Launch} {D : va_G} {cA : Nat → ClassId} {ad : Nat → Nat} (hinj : ∀ i j, i < S.2 → j < S.2 → ad i = ad j → i = j) (hS : True) {M : ph_Mem} {p0 : Int32} {p1 : Int32} {r : Int32} (hf : f9_min_7cf53 S M p0 p1 = some r) : ph_C (ph_ZX tb adK adV) l 0 yJ9_min_7cf53 cJ9_min_7cf53 2 (some .int) D cA S.1 S.2 ad [.int p0, .int p1] M (some (.int r)) M := by
  refine ph_mkF ph_ZX_ok hinj (by decide +kernel) (Nat.le_of_ble_eq_true rfl) fun X h fin hE => ?_
  refine (?_ : ph_J X S.1 S.2 ad (r : Int32) 0 [(0, .int p0), (1, .int p1)] [] M (f9_min_7cf53 S M p0 p1)) hf
  unfold f9_min_7cf53
  refine j_iload_n h dJ9_min_7cf53_0 rfl 0 rfl ?_
  refine j_iload_n h dJ9_min_7cf53_1 rfl 1 rfl ?_
  refine j_icmp_gt h 9 dJ9_min_7cf53_2 (by decide) ?_ ?_
  · refine j_iload_n h dJ9_min_7cf53_9 rfl 1 rfl ?_
    exact j_iretP h rfl fin dJ9_min_7cf53_10
  · refine j_iload_n h dJ9_min_7cf53_5 rfl 0 rfl ?_
    refine j_goto h 10 dJ9_min_7cf53_6 (by decide) ?_
    exact j_iretP h rfl fin dJ9_min_7cf53_10
