theorem dX12_readOne_0 : decode cX12_readOne 0 = .ok (.aload_n 0, 1) := by decide +kernel
theorem dX12_readOne_1 : decode cX12_readOne 1 = .ok (.getfield 226, 3) := by decide +kernel
theorem dX12_readOne_4 : decode cX12_readOne 4 = .ok (.ifCond .eq 10, 3) := by decide +kernel
theorem dX12_readOne_7 : decode cX12_readOne 7 = .ok (.aload_n 0, 1) := by decide +kernel
theorem dX12_readOne_8 : decode cX12_readOne 8 = .ok (.invokevirtual 230, 3) := by decide +kernel
theorem dX12_readOne_11 : decode cX12_readOne 11 = .ok (.goto 7, 3) := by decide +kernel
theorem dX12_readOne_14 : decode cX12_readOne 14 = .ok (.aload_n 0, 1) := by decide +kernel
theorem dX12_readOne_15 : decode cX12_readOne 15 = .ok (.invokevirtual 233, 3) := by decide +kernel
theorem dX12_readOne_18 : decode cX12_readOne 18 = .ok (.return_, 1) := by decide +kernel
theorem ydf12_readOne : ph_yd yX12_readOne 0 := ⟨by decide, by decide, by decide +kernel⟩
def f12_readOne (M : ph_Mem) : Option ph_Mem :=
  if (M.1 0 10) = 0 then ((f12_readClause M ).bind fun q1 => some q1) else ((f12_readOrder M ).bind fun q2 => some q2)
set_option maxHeartbeats 4000000 in
theorem cf12_readOne {Z : (Nat → Prop) → State → Prop} (hZ : ph_Zok Z) {l : Launch} {D : va_G} {cA : Nat → ClassId} {ad : Nat → Nat} (hinj : ∀ i j, i < ph_NM → j < ph_NM → ad i = ad j → i = j) {M : ph_Mem} {M' : ph_Mem} (hf : f12_readOne M  = some M') : ph_C Z l 124 yX12_readOne cX12_readOne 1 none D cA ph_kdM ph_NM ad [.ref (ad 0)] M none M' := by
  refine ph_mk hZ hinj (by decide) (Nat.le_of_ble_eq_true rfl) fun X h fin hE => ?_
  refine (?_ : ph_J X ph_kdM ph_NM ad (M' : ph_Mem) 0 [(0, .ref (ad 0))] [] M (f12_readOne M )) hf
  unfold f12_readOne
  refine j_aload_n h dX12_readOne_0 rfl 0 rfl ?_
  refine j_get (c := 0) (j := 10) (v := .int (M.1 0 10)) h (by decide) rfl rfl ph_inX12 rfl (by decide) tw_1209 rfl rfl dX12_readOne_1 ?_
  refine j_if_eq h 14 dX12_readOne_4 (by decide) ?_ ?_
  · refine j_aload_n h dX12_readOne_14 rfl 0 rfl ?_
    refine j_callVv (n := 0) (As := []) (rest := []) h 0 tw_1629 tw_1631 tp_93 tw_14 tw_1632 ydf12_readClause (by decide) (by decide) (by decide) rfl rfl (fun q hq => cf12_readClause (ph_okZ h) (ph_okI h) hq) rfl (Nat.le_of_ble_eq_true rfl) rfl dX12_readOne_15 (fun q1 => ?_)
    exact j_vret h rfl fin dX12_readOne_18
  · refine j_aload_n h dX12_readOne_7 rfl 0 rfl ?_
    refine j_callVv (n := 0) (As := []) (rest := []) h 0 tw_1577 tw_1579 tp_80 tw_14 tw_1580 ydf12_readOrder (by decide) (by decide) (by decide) rfl rfl (fun q hq => cf12_readOrder (ph_okZ h) (ph_okI h) hq) rfl (Nat.le_of_ble_eq_true rfl) rfl dX12_readOne_8 (fun q2 => ?_)
    refine j_goto h 18 dX12_readOne_11 (by decide) ?_
    exact j_vret h rfl fin dX12_readOne_18
theorem dX12_reads_0 : decode cX12_reads 0 = .ok (.aload_n 0, 1) := by decide +kernel
theorem dX12_reads_1 : decode cX12_reads 1 = .ok (.aload_n 0, 1) := by decide +kernel
theorem dX12_reads_2 : decode cX12_reads 2 = .ok (.getfield 174, 3) := by decide +kernel
theorem dX12_reads_5 : decode cX12_reads 5 = .ok (.invokevirtual 261, 3) := by decide +kernel
theorem dX12_reads_8 : decode cX12_reads 8 = .ok (.aload_n 0, 1) := by decide +kernel
theorem dX12_reads_9 : decode cX12_reads 9 = .ok (.iconst 0, 1) := by decide +kernel
theorem dX12_reads_10 : decode cX12_reads 10 = .ok (.putfield 174, 3) := by decide +kernel
theorem dX12_reads_13 : decode cX12_reads 13 = .ok (.aload_n 0, 1) := by decide +kernel
theorem dX12_reads_14 : decode cX12_reads 14 = .ok (.iconst 0, 1) := by decide +kernel
theorem dX12_reads_15 : decode cX12_reads 15 = .ok (.putfield 200, 3) := by decide +kernel
theorem dX12_reads_18 : decode cX12_reads 18 = .ok (.aload_n 0, 1) := by decide +kernel
theorem dX12_reads_19 : decode cX12_reads 19 = .ok (.iconst 0, 1) := by decide +kernel
theorem dX12_reads_20 : decode cX12_reads 20 = .ok (.putfield 209, 3) := by decide +kernel
theorem dX12_reads_23 : decode cX12_reads 23 = .ok (.aload_n 0, 1) := by decide +kernel
theorem dX12_reads_24 : decode cX12_reads 24 = .ok (.iconst (-1), 1) := by decide +kernel
theorem dX12_reads_25 : decode cX12_reads 25 = .ok (.putfield 193, 3) := by decide +kernel
theorem dX12_reads_28 : decode cX12_reads 28 = .ok (.aload_n 0, 1) := by decide +kernel
theorem dX12_reads_29 : decode cX12_reads 29 = .ok (.invokevirtual 264, 3) := by decide +kernel
theorem dX12_reads_32 : decode cX12_reads 32 = .ok (.iconst 1, 1) := by decide +kernel
theorem dX12_reads_33 : decode cX12_reads 33 = .ok (.istore_n 1, 1) := by decide +kernel
theorem dX12_reads_34 : decode cX12_reads 34 = .ok (.aload_n 0, 1) := by decide +kernel
theorem dX12_reads_35 : decode cX12_reads 35 = .ok (.bipush 59, 2) := by decide +kernel
theorem dX12_reads_37 : decode cX12_reads 37 = .ok (.invokestatic 242, 3) := by decide +kernel
theorem dX12_reads_40 : decode cX12_reads 40 = .ok (.invokevirtual 203, 3) := by decide +kernel
theorem dX12_reads_43 : decode cX12_reads 43 = .ok (.ifCond .eq 30, 3) := by decide +kernel
theorem dX12_reads_46 : decode cX12_reads 46 = .ok (.iload_n 1, 1) := by decide +kernel
theorem dX12_reads_47 : decode cX12_reads 47 = .ok (.bipush 12, 2) := by decide +kernel
theorem dX12_reads_49 : decode cX12_reads 49 = .ok (.if_icmp .ne 7, 3) := by decide +kernel
theorem dX12_reads_52 : decode cX12_reads 52 = .ok (.aload_n 0, 1) := by decide +kernel
theorem dX12_reads_53 : decode cX12_reads 53 = .ok (.invokevirtual 206, 3) := by decide +kernel
theorem dX12_reads_56 : decode cX12_reads 56 = .ok (.aload_n 0, 1) := by decide +kernel
theorem dX12_reads_57 : decode cX12_reads 57 = .ok (.invokevirtual 196, 3) := by decide +kernel
theorem dX12_reads_60 : decode cX12_reads 60 = .ok (.ifCond .eq 7, 3) := by decide +kernel
theorem dX12_reads_63 : decode cX12_reads 63 = .ok (.aload_n 0, 1) := by decide +kernel
theorem dX12_reads_64 : decode cX12_reads 64 = .ok (.invokevirtual 264, 3) := by decide +kernel
theorem dX12_reads_67 : decode cX12_reads 67 = .ok (.iinc 1 1, 3) := by decide +kernel
theorem dX12_reads_70 : decode cX12_reads 70 = .ok (.goto (-36), 3) := by decide +kernel
theorem dX12_reads_73 : decode cX12_reads 73 = .ok (.aload_n 0, 1) := by decide +kernel
theorem dX12_reads_74 : decode cX12_reads 74 = .ok (.invokevirtual 196, 3) := by decide +kernel
theorem dX12_reads_77 : decode cX12_reads 77 = .ok (.ifCond .eq 18, 3) := by decide +kernel
theorem dX12_reads_80 : decode cX12_reads 80 = .ok (.aload_n 0, 1) := by decide +kernel
theorem dX12_reads_81 : decode cX12_reads 81 = .ok (.getfield 200, 3) := by decide +kernel
theorem dX12_reads_84 : decode cX12_reads 84 = .ok (.aload_n 0, 1) := by decide +kernel
theorem dX12_reads_85 : decode cX12_reads 85 = .ok (.getfield 180, 3) := by decide +kernel
theorem dX12_reads_88 : decode cX12_reads 88 = .ok (.if_icmp .ge 7, 3) := by decide +kernel
theorem dX12_reads_91 : decode cX12_reads 91 = .ok (.aload_n 0, 1) := by decide +kernel
theorem dX12_reads_92 : decode cX12_reads 92 = .ok (.invokevirtual 206, 3) := by decide +kernel
theorem dX12_reads_95 : decode cX12_reads 95 = .ok (.aload_n 0, 1) := by decide +kernel
theorem dX12_reads_96 : decode cX12_reads 96 = .ok (.aload_n 0, 1) := by decide +kernel
theorem dX12_reads_97 : decode cX12_reads 97 = .ok (.getfield 193, 3) := by decide +kernel
theorem dX12_reads_100 : decode cX12_reads 100 = .ok (.putfield 47, 3) := by decide +kernel
theorem dX12_reads_103 : decode cX12_reads 103 = .ok (.aload_n 0, 1) := by decide +kernel
theorem dX12_reads_104 : decode cX12_reads 104 = .ok (.invokevirtual 196, 3) := by decide +kernel
theorem dX12_reads_107 : decode cX12_reads 107 = .ok (.ireturn, 1) := by decide +kernel
def f12_reads_j67 (rc34 : Int32 → ph_Mem → Option (Int32 × ph_Mem)) (x1 : Int32) (M : ph_Mem) : Option (Int32 × ph_Mem) :=
  rc34 (x1 + (1 : Int32)) M
set_option maxHeartbeats 4000000 in
theorem jb_f12_reads_j67 {Z : (Nat → Prop) → State → Prop} {X : ph_X} {ad : Nat → Nat} {o : (Int32 × ph_Mem)} (h : ph_ok Z X cX12_reads RX12 (some .boolean) 2 125 ph_NM ad) (fin : ph_fin X ph_kdM ph_NM ad (some (.int o.1)) o.2) {rc34 : Int32 → ph_Mem → Option (Int32 × ph_Mem)} (hrc34 : ∀ (x1 : Int32) (M : ph_Mem), ph_J X ph_kdM ph_NM ad o 34 [(0, .ref (ad 0)), (1, .int x1)] [] M (rc34 x1 M)) : ∀ (x1 : Int32) (M : ph_Mem), ph_J X ph_kdM ph_NM ad o 67 [(0, .ref (ad 0)), (1, .int x1)] [] M (f12_reads_j67 rc34 x1 M) := by
  intro x1 M
  unfold f12_reads_j67
  refine j_iinc h [(1, .int (x1 + (1 : Int32))), (0, .ref (ad 0))] dX12_reads_67 1 rfl rfl (by decide) rfl ?_
  refine j_goto h 34 dX12_reads_70 (by decide) ?_
  refine j_sub [1, 0] rfl ?_
  exact hrc34 (x1 + (1 : Int32)) M
def f12_reads_j56 (rc34 : Int32 → ph_Mem → Option (Int32 × ph_Mem)) (x1 : Int32) (M : ph_Mem) : Option (Int32 × ph_Mem) :=
  (f12_fine M ).bind fun q10 => if q10 = 0 then (f12_reads_j67 rc34 x1 M) else ((f12_readOne M ).bind fun q11 => f12_reads_j67 rc34 x1 q11)
set_option maxHeartbeats 4000000 in
theorem jb_f12_reads_j56 {Z : (Nat → Prop) → State → Prop} {X : ph_X} {ad : Nat → Nat} {o : (Int32 × ph_Mem)} (h : ph_ok Z X cX12_reads RX12 (some .boolean) 2 125 ph_NM ad) (fin : ph_fin X ph_kdM ph_NM ad (some (.int o.1)) o.2) {rc34 : Int32 → ph_Mem → Option (Int32 × ph_Mem)} (hrc34 : ∀ (x1 : Int32) (M : ph_Mem), ph_J X ph_kdM ph_NM ad o 34 [(0, .ref (ad 0)), (1, .int x1)] [] M (rc34 x1 M)) : ∀ (x1 : Int32) (M : ph_Mem), ph_J X ph_kdM ph_NM ad o 56 [(0, .ref (ad 0)), (1, .int x1)] [] M (f12_reads_j56 rc34 x1 M) := by
  intro x1 M
  unfold f12_reads_j56
  refine j_aload_n h dX12_reads_56 rfl 0 rfl ?_
  refine j_callViP (n := 0) (As := []) (rest := []) h 0 tw_1585 tw_1587 tp_82 tw_14 tw_1588 ydf12_fine (by decide) (by decide) (by decide) rfl rfl (fun q hq => cf12_fine (ph_okZ h) (ph_okI h) hq) rfl (Nat.le_of_ble_eq_true rfl) rfl dX12_reads_57 (fun q10 => ?_)
  refine j_if_eq h 67 dX12_reads_60 (by decide) ?_ ?_
  · refine j_sub [0, 1] rfl ?_
    exact jb_f12_reads_j67 h fin hrc34 x1 M
  · refine j_aload_n h dX12_reads_63 rfl 0 rfl ?_
    refine j_callVv (n := 0) (As := []) (rest := []) h 0 tw_1573 tw_1575 tp_79 tw_14 tw_1576 ydf12_readOne (by decide) (by decide) (by decide) rfl rfl (fun q hq => cf12_readOne (ph_okZ h) (ph_okI h) hq) rfl (Nat.le_of_ble_eq_true rfl) rfl dX12_reads_64 (fun q11 => ?_)
    refine j_sub [0, 1] rfl ?_
    exact jb_f12_reads_j67 h fin hrc34 x1 q11
def f12_reads_j95 (M : ph_Mem) : Option (Int32 × ph_Mem) :=
  ph_let (ph_wi M 0 14 (M.1 0 21)) fun M14 => (f12_fine M14 ).bind fun q15 => cond (ph_isz q15) (some (q15, M14)) none
set_option maxHeartbeats 4000000 in
theorem jb_f12_reads_j95 {Z : (Nat → Prop) → State → Prop} {X : ph_X} {ad : Nat → Nat} {o : (Int32 × ph_Mem)} (h : ph_ok Z X cX12_reads RX12 (some .boolean) 2 125 ph_NM ad) (fin : ph_fin X ph_kdM ph_NM ad (some (.int o.1)) o.2) : ∀ (M : ph_Mem), ph_J X ph_kdM ph_NM ad o 95 [(0, .ref (ad 0))] [] M (f12_reads_j95 M) := by
  intro M
  unfold f12_reads_j95
  refine j_aload_n h dX12_reads_95 rfl 0 rfl ?_
  refine j_aload_n h dX12_reads_96 rfl 0 rfl ?_
  refine j_get (c := 0) (j := 21) (v := .int (M.1 0 21)) h (by decide) rfl rfl ph_inX12 rfl (by decide) tw_1220 rfl rfl dX12_reads_97 ?_
  refine j_puti (c := 0) (j := 14) (ty := .int) h (by decide) rfl rfl ph_inX12 tyX12 tyX12_ok nmX12 rfl (by decide) tw_1213 rfl rfl (tyX12_ok 14 (by decide)) rfl rfl dX12_reads_100 ?_
  refine j_letM (fun M14 => ?_)
  refine j_aload_n h dX12_reads_103 rfl 0 rfl ?_
  refine j_callViP (n := 0) (As := []) (rest := []) h 0 tw_1585 tw_1587 tp_82 tw_14 tw_1588 ydf12_fine (by decide) (by decide) (by decide) rfl rfl (fun q hq => cf12_fine (ph_okZ h) (ph_okI h) hq) rfl (Nat.le_of_ble_eq_true rfl) rfl dX12_reads_104 (fun q15 => ?_)
  exact j_zret h rfl fin dX12_reads_107
def f12_reads_j73 (M : ph_Mem) : Option (Int32 × ph_Mem) :=
  (f12_fine M ).bind fun q12 => if q12 = 0 then (f12_reads_j95  M) else (if (M.1 0 18) ≤ (M.1 0 19) then (f12_reads_j95  M) else ((f12_faults M ).bind fun q13 => f12_reads_j95  q13))
set_option maxHeartbeats 4000000 in
theorem jb_f12_reads_j73 {Z : (Nat → Prop) → State → Prop} {X : ph_X} {ad : Nat → Nat} {o : (Int32 × ph_Mem)} (h : ph_ok Z X cX12_reads RX12 (some .boolean) 2 125 ph_NM ad) (fin : ph_fin X ph_kdM ph_NM ad (some (.int o.1)) o.2) : ∀ (M : ph_Mem), ph_J X ph_kdM ph_NM ad o 73 [(0, .ref (ad 0))] [] M (f12_reads_j73 M) := by
  intro M
  unfold f12_reads_j73
  refine j_aload_n h dX12_reads_73 rfl 0 rfl ?_
  refine j_callViP (n := 0) (As := []) (rest := []) h 0 tw_1585 tw_1587 tp_82 tw_14 tw_1588 ydf12_fine (by decide) (by decide) (by decide) rfl rfl (fun q hq => cf12_fine (ph_okZ h) (ph_okI h) hq) rfl (Nat.le_of_ble_eq_true rfl) rfl dX12_reads_74 (fun q12 => ?_)
  refine j_if_eq h 95 dX12_reads_77 (by decide) ?_ ?_
  · refine j_sub [0] rfl ?_
    exact jb_f12_reads_j95 h fin  M
  · refine j_aload_n h dX12_reads_80 rfl 0 rfl ?_
    refine j_get (c := 0) (j := 19) (v := .int (M.1 0 19)) h (by decide) rfl rfl ph_inX12 rfl (by decide) tw_1218 rfl rfl dX12_reads_81 ?_
    refine j_aload_n h dX12_reads_84 rfl 0 rfl ?_
    refine j_get (c := 0) (j := 18) (v := .int (M.1 0 18)) h (by decide) rfl rfl ph_inX12 rfl (by decide) tw_1217 rfl rfl dX12_reads_85 ?_
    refine j_icmp_ge h 95 dX12_reads_88 (by decide) ?_ ?_
    · refine j_sub [0] rfl ?_
      exact jb_f12_reads_j95 h fin  M
    · refine j_aload_n h dX12_reads_91 rfl 0 rfl ?_
      refine j_callVv (n := 0) (As := []) (rest := []) h 0 tw_1601 tw_1603 tp_86 tw_14 tw_1604 ydf12_faults (by decide) (by decide) (by decide) rfl rfl (fun q hq => cf12_faults (ph_okZ h) (ph_okI h) hq) rfl (Nat.le_of_ble_eq_true rfl) rfl dX12_reads_92 (fun q13 => ?_)
      refine j_sub [0] rfl ?_
      exact jb_f12_reads_j95 h fin  q13
def f12_reads_l34 : Nat → Int32 → ph_Mem → Option (Int32 × ph_Mem)
  | 0, _, _ => none
  | n + 1, x1, M => (f12_sign M (59 : Int32)).bind fun q7 => (f12_takes0 M q7).bind fun q8 => if q8.1 = 0 then (f12_reads_j73  q8.2) else (if x1 = (12 : Int32) then ((f12_faults q8.2 ).bind fun q9 => f12_reads_j56 (f12_reads_l34 n) x1 q9) else (f12_reads_j56 (f12_reads_l34 n) x1 q8.2))
set_option maxHeartbeats 4000000 in
theorem jb_f12_reads_l34 {Z : (Nat → Prop) → State → Prop} {X : ph_X} {ad : Nat → Nat} {o : (Int32 × ph_Mem)} (h : ph_ok Z X cX12_reads RX12 (some .boolean) 2 125 ph_NM ad) (fin : ph_fin X ph_kdM ph_NM ad (some (.int o.1)) o.2) : ∀ (n : Nat) (x1 : Int32) (M : ph_Mem), ph_J X ph_kdM ph_NM ad o 34 [(0, .ref (ad 0)), (1, .int x1)] [] M (f12_reads_l34 n x1 M) := by
  intro n
  induction n with
  | zero => intro x1 M; exact j_none
  | succ n hrc34 =>
    intro x1 M
    unfold f12_reads_l34
    refine j_aload_n h dX12_reads_34 rfl 0 rfl ?_
    refine j_bipush (v := (59 : Int32)) h dX12_reads_35 (by decide) ?_
    refine j_callSiP (n := 1) (As := [.int (59 : Int32)]) (rest := [.ref (ad 0)]) h tw_1461 tw_1462 tw_14 tw_1463 ydf12_sign (by decide) (by decide) (fun q hq => cf12_sign (ph_okZ h) (ph_okI h) hq) rfl (Nat.le_of_ble_eq_true rfl) rfl dX12_reads_37 (fun q7 => ?_)
    refine j_callVi (n := 1) (As := [.int q7]) (rest := []) h 0 tw_1581 tw_1583 tp_81 tw_14 tw_1584 ydf12_takes0 (by decide) (by decide) (by decide) rfl rfl (fun q hq => cf12_takes0 (ph_okZ h) (ph_okI h) hq) rfl (Nat.le_of_ble_eq_true rfl) rfl dX12_reads_40 (fun q8 => ?_)
    refine j_if_eq h 73 dX12_reads_43 (by decide) ?_ ?_
    · refine j_sub [0] rfl ?_
      exact jb_f12_reads_j73 h fin  q8.2
    · refine j_iload_n h dX12_reads_46 rfl 1 rfl ?_
      refine j_bipush (v := (12 : Int32)) h dX12_reads_47 (by decide) ?_
      refine j_icmp_ne h 56 dX12_reads_49 (by decide) ?_ ?_
      · refine j_sub [0, 1] rfl ?_
        exact jb_f12_reads_j56 h fin hrc34 x1 q8.2
      · refine j_aload_n h dX12_reads_52 rfl 0 rfl ?_
        refine j_callVv (n := 0) (As := []) (rest := []) h 0 tw_1601 tw_1603 tp_86 tw_14 tw_1604 ydf12_faults (by decide) (by decide) (by decide) rfl rfl (fun q hq => cf12_faults (ph_okZ h) (ph_okI h) hq) rfl (Nat.le_of_ble_eq_true rfl) rfl dX12_reads_53 (fun q9 => ?_)
        refine j_sub [0, 1] rfl ?_
        exact jb_f12_reads_j56 h fin hrc34 x1 q9
theorem ydf12_reads : ph_yd yX12_reads 0 := ⟨by decide, by decide, by decide +kernel⟩
def f12_reads (M : ph_Mem) : Option (Int32 × ph_Mem) :=
  (f12_splits M (M.1 0 13)).bind fun q1 => ph_let (ph_wi q1 0 13 (0 : Int32)) fun M2 => ph_let (ph_wi M2 0 19 (0 : Int32)) fun M3 => ph_let (ph_wi M3 0 20 (0 : Int32)) fun M4 => ph_let (ph_wi M4 0 21 (-1 : Int32)) fun M5 => (f12_readOne M5 ).bind fun q6 => f12_reads_l34 10000 (1 : Int32) q6
set_option maxHeartbeats 4000000 in
theorem cf12_reads {Z : (Nat → Prop) → State → Prop} (hZ : ph_Zok Z) {l : Launch} {D : va_G} {cA : Nat → ClassId} {ad : Nat → Nat} (hinj : ∀ i j, i < ph_NM → j < ph_NM → ad i = ad j → i = j) {M : ph_Mem} {r : Int32} {M' : ph_Mem} (hf : f12_reads M  = some (r, M')) : ph_C Z l 125 yX12_reads cX12_reads 2 (some .boolean) D cA ph_kdM ph_NM ad [.ref (ad 0)] M (some (.int r)) M' := by
  refine ph_mk hZ hinj (by decide) (Nat.le_of_ble_eq_true rfl) fun X h fin hE => ?_
  refine (?_ : ph_J X ph_kdM ph_NM ad ((r, M') : (Int32 × ph_Mem)) 0 [(0, .ref (ad 0))] [] M (f12_reads M )) hf
  unfold f12_reads
  refine j_aload_n h dX12_reads_0 rfl 0 rfl ?_
  refine j_aload_n h dX12_reads_1 rfl 0 rfl ?_
  refine j_get (c := 0) (j := 13) (v := .int (M.1 0 13)) h (by decide) rfl rfl ph_inX12 rfl (by decide) tw_1212 rfl rfl dX12_reads_2 ?_
  refine j_callVv (n := 1) (As := [.int (M.1 0 13)]) (rest := []) h 0 tw_1558 tw_1560 tp_77 tw_14 tw_1561 ydf12_splits (by decide) (by decide) (by decide) rfl rfl (fun q hq => cf12_splits (ph_okZ h) (ph_okI h) hq) rfl (Nat.le_of_ble_eq_true rfl) rfl dX12_reads_5 (fun q1 => ?_)
  refine j_aload_n h dX12_reads_8 rfl 0 rfl ?_
  refine j_iconst (v := (0 : Int32)) h dX12_reads_9 (by decide) ?_
  refine j_puti (c := 0) (j := 13) (ty := .int) h (by decide) rfl rfl ph_inX12 tyX12 tyX12_ok nmX12 rfl (by decide) tw_1212 rfl rfl (tyX12_ok 13 (by decide)) rfl rfl dX12_reads_10 ?_
  refine j_letM (fun M2 => ?_)
  refine j_aload_n h dX12_reads_13 rfl 0 rfl ?_
  refine j_iconst (v := (0 : Int32)) h dX12_reads_14 (by decide) ?_
  refine j_puti (c := 0) (j := 19) (ty := .int) h (by decide) rfl rfl ph_inX12 tyX12 tyX12_ok nmX12 rfl (by decide) tw_1218 rfl rfl (tyX12_ok 19 (by decide)) rfl rfl dX12_reads_15 ?_
  refine j_letM (fun M3 => ?_)
  refine j_aload_n h dX12_reads_18 rfl 0 rfl ?_
  refine j_iconst (v := (0 : Int32)) h dX12_reads_19 (by decide) ?_
  refine j_puti (c := 0) (j := 20) (ty := .int) h (by decide) rfl rfl ph_inX12 tyX12 tyX12_ok nmX12 rfl (by decide) tw_1219 rfl rfl (tyX12_ok 20 (by decide)) rfl rfl dX12_reads_20 ?_
  refine j_letM (fun M4 => ?_)
  refine j_aload_n h dX12_reads_23 rfl 0 rfl ?_
  refine j_iconst (v := (-1 : Int32)) h dX12_reads_24 (by decide) ?_
  refine j_puti (c := 0) (j := 21) (ty := .int) h (by decide) rfl rfl ph_inX12 tyX12 tyX12_ok nmX12 rfl (by decide) tw_1220 rfl rfl (tyX12_ok 21 (by decide)) rfl rfl dX12_reads_25 ?_
  refine j_letM (fun M5 => ?_)
  refine j_aload_n h dX12_reads_28 rfl 0 rfl ?_
  refine j_callVv (n := 0) (As := []) (rest := []) h 0 tw_1573 tw_1575 tp_79 tw_14 tw_1576 ydf12_readOne (by decide) (by decide) (by decide) rfl rfl (fun q hq => cf12_readOne (ph_okZ h) (ph_okI h) hq) rfl (Nat.le_of_ble_eq_true rfl) rfl dX12_reads_29 (fun q6 => ?_)
  refine j_iconst (v := (1 : Int32)) h dX12_reads_32 (by decide) ?_
  refine j_istore_n h [(1, .int (1 : Int32)), (0, .ref (ad 0))] dX12_reads_33 rfl (by decide) rfl ?_
  refine j_sub [1, 0] rfl ?_
  exact jb_f12_reads_l34 h fin 10000 (1 : Int32) q6
theorem dX12_readsAs_0 : decode cX12_readsAs 0 = .ok (.aload_n 0, 1) := by decide +kernel
theorem dX12_readsAs_1 : decode cX12_readsAs 1 = .ok (.iload_n 1, 1) := by decide +kernel
theorem dX12_readsAs_2 : decode cX12_readsAs 2 = .ok (.putfield 226, 3) := by decide +kernel
theorem dX12_readsAs_5 : decode cX12_readsAs 5 = .ok (.aload_n 0, 1) := by decide +kernel
theorem dX12_readsAs_6 : decode cX12_readsAs 6 = .ok (.iload_n 1, 1) := by decide +kernel
theorem dX12_readsAs_7 : decode cX12_readsAs 7 = .ok (.ifCond .eq 8, 3) := by decide +kernel
theorem dX12_readsAs_10 : decode cX12_readsAs 10 = .ok (.bipush 17, 2) := by decide +kernel
theorem dX12_readsAs_12 : decode cX12_readsAs 12 = .ok (.goto 5, 3) := by decide +kernel
theorem dX12_readsAs_15 : decode cX12_readsAs 15 = .ok (.bipush 8, 2) := by decide +kernel
theorem dX12_readsAs_17 : decode cX12_readsAs 17 = .ok (.putfield 252, 3) := by decide +kernel
theorem dX12_readsAs_20 : decode cX12_readsAs 20 = .ok (.aload_n 0, 1) := by decide +kernel
theorem dX12_readsAs_21 : decode cX12_readsAs 21 = .ok (.iload_n 1, 1) := by decide +kernel
theorem dX12_readsAs_22 : decode cX12_readsAs 22 = .ok (.ifCond .eq 8, 3) := by decide +kernel
theorem dX12_readsAs_25 : decode cX12_readsAs 25 = .ok (.bipush 22, 2) := by decide +kernel
theorem dX12_readsAs_27 : decode cX12_readsAs 27 = .ok (.goto 5, 3) := by decide +kernel
theorem dX12_readsAs_30 : decode cX12_readsAs 30 = .ok (.bipush 16, 2) := by decide +kernel
theorem dX12_readsAs_32 : decode cX12_readsAs 32 = .ok (.putfield 255, 3) := by decide +kernel
theorem dX12_readsAs_35 : decode cX12_readsAs 35 = .ok (.aload_n 0, 1) := by decide +kernel
theorem dX12_readsAs_36 : decode cX12_readsAs 36 = .ok (.invokevirtual 267, 3) := by decide +kernel
theorem dX12_readsAs_39 : decode cX12_readsAs 39 = .ok (.ireturn, 1) := by decide +kernel
def f12_readsAs_j32 (s0 : Int32) (M : ph_Mem) : Option (Int32 × ph_Mem) :=
  ph_let (ph_wi M 0 9 s0) fun M3 => (f12_reads M3 ).bind fun q4 => cond (ph_isz q4.1) (some (q4.1, q4.2)) none
set_option maxHeartbeats 4000000 in
theorem jb_f12_readsAs_j32 {Z : (Nat → Prop) → State → Prop} {X : ph_X} {ad : Nat → Nat} {o : (Int32 × ph_Mem)} (h : ph_ok Z X cX12_readsAs RX12 (some .boolean) 2 126 ph_NM ad) (fin : ph_fin X ph_kdM ph_NM ad (some (.int o.1)) o.2) : ∀ (s0 : Int32) (M : ph_Mem), ph_J X ph_kdM ph_NM ad o 32 [(0, .ref (ad 0))] [.int s0, .ref (ad 0)] M (f12_readsAs_j32 s0 M) := by
  intro s0 M
  unfold f12_readsAs_j32
  refine j_puti (c := 0) (j := 9) (ty := .int) h (by decide) rfl rfl ph_inX12 tyX12 tyX12_ok nmX12 rfl (by decide) tw_1208 rfl rfl (tyX12_ok 9 (by decide)) rfl rfl dX12_readsAs_32 ?_
  refine j_letM (fun M3 => ?_)
  refine j_aload_n h dX12_readsAs_35 rfl 0 rfl ?_
  refine j_callVi (n := 0) (As := []) (rest := []) h 0 tw_1554 tw_1556 tp_76 tw_14 tw_1557 ydf12_reads (by decide) (by decide) (by decide) rfl rfl (fun q hq => cf12_reads (ph_okZ h) (ph_okI h) hq) rfl (Nat.le_of_ble_eq_true rfl) rfl dX12_readsAs_36 (fun q4 => ?_)
  exact j_zret h rfl fin dX12_readsAs_39
def f12_readsAs_j17 (x1 : Int32) (s0 : Int32) (M : ph_Mem) : Option (Int32 × ph_Mem) :=
  ph_let (ph_wi M 0 8 s0) fun M2 => if x1 = 0 then (f12_readsAs_j32 (16 : Int32) M2) else (f12_readsAs_j32 (22 : Int32) M2)
set_option maxHeartbeats 4000000 in
theorem jb_f12_readsAs_j17 {Z : (Nat → Prop) → State → Prop} {X : ph_X} {ad : Nat → Nat} {o : (Int32 × ph_Mem)} (h : ph_ok Z X cX12_readsAs RX12 (some .boolean) 2 126 ph_NM ad) (fin : ph_fin X ph_kdM ph_NM ad (some (.int o.1)) o.2) : ∀ (x1 : Int32) (s0 : Int32) (M : ph_Mem), ph_J X ph_kdM ph_NM ad o 17 [(0, .ref (ad 0)), (1, .int x1)] [.int s0, .ref (ad 0)] M (f12_readsAs_j17 x1 s0 M) := by
  intro x1 s0 M
  unfold f12_readsAs_j17
  refine j_puti (c := 0) (j := 8) (ty := .int) h (by decide) rfl rfl ph_inX12 tyX12 tyX12_ok nmX12 rfl (by decide) tw_1207 rfl rfl (tyX12_ok 8 (by decide)) rfl rfl dX12_readsAs_17 ?_
  refine j_letM (fun M2 => ?_)
  refine j_aload_n h dX12_readsAs_20 rfl 0 rfl ?_
  refine j_iload_n h dX12_readsAs_21 rfl 1 rfl ?_
  refine j_if_eq h 30 dX12_readsAs_22 (by decide) ?_ ?_
  · refine j_bipush (v := (16 : Int32)) h dX12_readsAs_30 (by decide) ?_
    refine j_sub [0] rfl ?_
    exact jb_f12_readsAs_j32 h fin (16 : Int32) M2
  · refine j_bipush (v := (22 : Int32)) h dX12_readsAs_25 (by decide) ?_
    refine j_goto h 32 dX12_readsAs_27 (by decide) ?_
    refine j_sub [0] rfl ?_
    exact jb_f12_readsAs_j32 h fin (22 : Int32) M2
theorem ydf12_readsAs : ph_yd yX12_readsAs 1 := ⟨by decide, by decide, by decide +kernel⟩
def f12_readsAs (M : ph_Mem) (p0 : Int32) : Option (Int32 × ph_Mem) :=
  cond (ph_isz p0) (ph_let (ph_wi M 0 10 p0) fun M1 => if p0 = 0 then (f12_readsAs_j17 p0 (8 : Int32) M1) else (f12_readsAs_j17 p0 (17 : Int32) M1)) none
set_option maxHeartbeats 4000000 in
theorem cf12_readsAs {Z : (Nat → Prop) → State → Prop} (hZ : ph_Zok Z) {l : Launch} {D : va_G} {cA : Nat → ClassId} {ad : Nat → Nat} (hinj : ∀ i j, i < ph_NM → j < ph_NM → ad i = ad j → i = j) {M : ph_Mem} {p0 : Int32} {r : Int32} {M' : ph_Mem} (hf : f12_readsAs M p0 = some (r, M')) : ph_C Z l 126 yX12_readsAs cX12_readsAs 2 (some .boolean) D cA ph_kdM ph_NM ad [.ref (ad 0), .int p0] M (some (.int r)) M' := by
  refine ph_mk hZ hinj (by decide) (Nat.le_of_ble_eq_true rfl) fun X h fin hE => ?_
  refine (?_ : ph_J X ph_kdM ph_NM ad ((r, M') : (Int32 × ph_Mem)) 0 [(0, .ref (ad 0)), (1, .int p0)] [] M (f12_readsAs M p0)) hf
  unfold f12_readsAs
  refine j_aload_n h dX12_readsAs_0 rfl 0 rfl ?_
  refine j_iload_n h dX12_readsAs_1 rfl 1 rfl ?_
  refine j_putz (c := 0) (j := 10)  h (by decide) rfl rfl ph_inX12 tyX12 tyX12_ok nmX12 rfl (by decide) tw_1209 rfl rfl (tyX12_ok 10 (by decide)) dX12_readsAs_2 ?_
  refine j_letM (fun M1 => ?_)
  refine j_aload_n h dX12_readsAs_5 rfl 0 rfl ?_
  refine j_iload_n h dX12_readsAs_6 rfl 1 rfl ?_
  refine j_if_eq h 15 dX12_readsAs_7 (by decide) ?_ ?_
  · refine j_bipush (v := (8 : Int32)) h dX12_readsAs_15 (by decide) ?_
    refine j_sub [0, 1] rfl ?_
    exact jb_f12_readsAs_j17 h fin p0 (8 : Int32) M1
  · refine j_bipush (v := (17 : Int32)) h dX12_readsAs_10 (by decide) ?_
    refine j_goto h 17 dX12_readsAs_12 (by decide) ?_
    refine j_sub [0, 1] rfl ?_
    exact jb_f12_readsAs_j17 h fin p0 (17 : Int32) M1
theorem dX12_lays_0 : decode cX12_lays 0 = .ok (.aload_n 0, 1) := by decide +kernel
theorem dX12_lays_1 : decode cX12_lays 1 = .ok (.getfield 24, 3) := by decide +kernel
theorem dX12_lays_4 : decode cX12_lays 4 = .ok (.sipush 478, 3) := by decide +kernel
theorem dX12_lays_7 : decode cX12_lays 7 = .ok (.iload_n 1, 1) := by decide +kernel
theorem dX12_lays_8 : decode cX12_lays 8 = .ok (.iadd, 1) := by decide +kernel
theorem dX12_lays_9 : decode cX12_lays 9 = .ok (.aload_n 0, 1) := by decide +kernel
theorem dX12_lays_10 : decode cX12_lays 10 = .ok (.getfield 180, 3) := by decide +kernel
theorem dX12_lays_13 : decode cX12_lays 13 = .ok (.iastore, 1) := by decide +kernel
theorem dX12_lays_14 : decode cX12_lays 14 = .ok (.iconst 0, 1) := by decide +kernel
theorem dX12_lays_15 : decode cX12_lays 15 = .ok (.istore_n 2, 1) := by decide +kernel
theorem dX12_lays_16 : decode cX12_lays 16 = .ok (.iload_n 2, 1) := by decide +kernel
theorem dX12_lays_17 : decode cX12_lays 17 = .ok (.aload_n 0, 1) := by decide +kernel
theorem dX12_lays_18 : decode cX12_lays 18 = .ok (.getfield 180, 3) := by decide +kernel
theorem dX12_lays_21 : decode cX12_lays 21 = .ok (.if_icmp .ge 53, 3) := by decide +kernel
theorem dX12_lays_24 : decode cX12_lays 24 = .ok (.aload_n 0, 1) := by decide +kernel
theorem dX12_lays_25 : decode cX12_lays 25 = .ok (.getfield 24, 3) := by decide +kernel
theorem dX12_lays_28 : decode cX12_lays 28 = .ok (.sipush 485, 3) := by decide +kernel
theorem dX12_lays_31 : decode cX12_lays 31 = .ok (.sipush 400, 3) := by decide +kernel
theorem dX12_lays_34 : decode cX12_lays 34 = .ok (.iload_n 1, 1) := by decide +kernel
theorem dX12_lays_35 : decode cX12_lays 35 = .ok (.imul, 1) := by decide +kernel
theorem dX12_lays_36 : decode cX12_lays 36 = .ok (.iadd, 1) := by decide +kernel
theorem dX12_lays_37 : decode cX12_lays 37 = .ok (.iload_n 2, 1) := by decide +kernel
theorem dX12_lays_38 : decode cX12_lays 38 = .ok (.iadd, 1) := by decide +kernel
theorem dX12_lays_39 : decode cX12_lays 39 = .ok (.aload_n 0, 1) := by decide +kernel
theorem dX12_lays_40 : decode cX12_lays 40 = .ok (.getfield 50, 3) := by decide +kernel
theorem dX12_lays_43 : decode cX12_lays 43 = .ok (.iload_n 2, 1) := by decide +kernel
theorem dX12_lays_44 : decode cX12_lays 44 = .ok (.iaload, 1) := by decide +kernel
theorem dX12_lays_45 : decode cX12_lays 45 = .ok (.iastore, 1) := by decide +kernel
theorem dX12_lays_46 : decode cX12_lays 46 = .ok (.aload_n 0, 1) := by decide +kernel
theorem dX12_lays_47 : decode cX12_lays 47 = .ok (.getfield 24, 3) := by decide +kernel
theorem dX12_lays_50 : decode cX12_lays 50 = .ok (.sipush 3285, 3) := by decide +kernel
theorem dX12_lays_53 : decode cX12_lays 53 = .ok (.sipush 400, 3) := by decide +kernel
theorem dX12_lays_56 : decode cX12_lays 56 = .ok (.iload_n 1, 1) := by decide +kernel
theorem dX12_lays_57 : decode cX12_lays 57 = .ok (.imul, 1) := by decide +kernel
theorem dX12_lays_58 : decode cX12_lays 58 = .ok (.iadd, 1) := by decide +kernel
theorem dX12_lays_59 : decode cX12_lays 59 = .ok (.iload_n 2, 1) := by decide +kernel
theorem dX12_lays_60 : decode cX12_lays 60 = .ok (.iadd, 1) := by decide +kernel
theorem dX12_lays_61 : decode cX12_lays 61 = .ok (.aload_n 0, 1) := by decide +kernel
theorem dX12_lays_62 : decode cX12_lays 62 = .ok (.getfield 53, 3) := by decide +kernel
theorem dX12_lays_65 : decode cX12_lays 65 = .ok (.iload_n 2, 1) := by decide +kernel
theorem dX12_lays_66 : decode cX12_lays 66 = .ok (.iaload, 1) := by decide +kernel
theorem dX12_lays_67 : decode cX12_lays 67 = .ok (.iastore, 1) := by decide +kernel
theorem dX12_lays_68 : decode cX12_lays 68 = .ok (.iinc 2 1, 3) := by decide +kernel
theorem dX12_lays_71 : decode cX12_lays 71 = .ok (.goto (-55), 3) := by decide +kernel
theorem dX12_lays_74 : decode cX12_lays 74 = .ok (.return_, 1) := by decide +kernel
def f12_lays_l16 : Nat → Int32 → Int32 → ph_Mem → Option ph_Mem
  | 0, _, _, _ => none
  | n + 1, x1, x2, M => if (M.1 0 18) ≤ x2 then (some M) else (cond (ph_ib x2 401) (cond (ph_ib (((485 : Int32) + ((400 : Int32) * x1)) + x2) 6085) (ph_let (ph_wi M 2 (((485 : Int32) + ((400 : Int32) * x1)) + x2).toNatClampNeg (M.1 9 x2.toNatClampNeg)) fun M2 => cond (ph_ib x2 401) (cond (ph_ib (((3285 : Int32) + ((400 : Int32) * x1)) + x2) 6085) (ph_let (ph_wi M2 2 (((3285 : Int32) + ((400 : Int32) * x1)) + x2).toNatClampNeg (M2.1 10 x2.toNatClampNeg)) fun M3 => (f12_lays_l16 n) x1 (x2 + (1 : Int32)) M3) none) none) none) none)
set_option maxHeartbeats 4000000 in
theorem jb_f12_lays_l16 {Z : (Nat → Prop) → State → Prop} {X : ph_X} {ad : Nat → Nat} {o : ph_Mem} (h : ph_ok Z X cX12_lays RX12 none 3 0 ph_NM ad) (fin : ph_fin X ph_kdM ph_NM ad none o) : ∀ (n : Nat) (x1 : Int32) (x2 : Int32) (M : ph_Mem), ph_J X ph_kdM ph_NM ad o 16 [(0, .ref (ad 0)), (1, .int x1), (2, .int x2)] [] M (f12_lays_l16 n x1 x2 M) := by
  intro n
  induction n with
  | zero => intro x1 x2 M; exact j_none
  | succ n hrc16 =>
    intro x1 x2 M
    unfold f12_lays_l16
    refine j_iload_n h dX12_lays_16 rfl 2 rfl ?_
    refine j_aload_n h dX12_lays_17 rfl 0 rfl ?_
    refine j_get (c := 0) (j := 18) (v := .int (M.1 0 18)) h (by decide) rfl rfl ph_inX12 rfl (by decide) tw_1217 rfl rfl dX12_lays_18 ?_
    refine j_icmp_ge h 74 dX12_lays_21 (by decide) ?_ ?_
    · exact j_vret h rfl fin dX12_lays_74
    · refine j_aload_n h dX12_lays_24 rfl 0 rfl ?_
      refine j_get (c := 0) (j := 2) (v := .ref (ad 2)) h (by decide) rfl rfl ph_inX12 rfl (by decide) tw_1201 rfl rfl dX12_lays_25 ?_
      refine j_sipush (v := (485 : Int32)) h dX12_lays_28 (by decide) ?_
      refine j_sipush (v := (400 : Int32)) h dX12_lays_31 (by decide) ?_
      refine j_iload_n h dX12_lays_34 rfl 1 rfl ?_
      refine j_imul h dX12_lays_35 ?_
      refine j_iadd h dX12_lays_36 ?_
      refine j_iload_n h dX12_lays_37 rfl 2 rfl ?_
      refine j_iadd h dX12_lays_38 ?_
      refine j_aload_n h dX12_lays_39 rfl 0 rfl ?_
      refine j_get (c := 0) (j := 15) (v := .ref (ad 9)) h (by decide) rfl rfl ph_inX12 rfl (by decide) tw_1214 rfl rfl dX12_lays_40 ?_
      refine j_iload_n h dX12_lays_43 rfl 2 rfl ?_
      refine j_iald (c := 9) (n := 401) h (by decide) rfl dX12_lays_44 ?_
      refine j_iast (c := 2) (n := 6085) h (by decide) rfl dX12_lays_45 ?_
      refine j_letM (fun M2 => ?_)
      refine j_aload_n h dX12_lays_46 rfl 0 rfl ?_
      refine j_get (c := 0) (j := 2) (v := .ref (ad 2)) h (by decide) rfl rfl ph_inX12 rfl (by decide) tw_1201 rfl rfl dX12_lays_47 ?_
      refine j_sipush (v := (3285 : Int32)) h dX12_lays_50 (by decide) ?_
      refine j_sipush (v := (400 : Int32)) h dX12_lays_53 (by decide) ?_
      refine j_iload_n h dX12_lays_56 rfl 1 rfl ?_
      refine j_imul h dX12_lays_57 ?_
      refine j_iadd h dX12_lays_58 ?_
      refine j_iload_n h dX12_lays_59 rfl 2 rfl ?_
      refine j_iadd h dX12_lays_60 ?_
      refine j_aload_n h dX12_lays_61 rfl 0 rfl ?_
      refine j_get (c := 0) (j := 16) (v := .ref (ad 10)) h (by decide) rfl rfl ph_inX12 rfl (by decide) tw_1215 rfl rfl dX12_lays_62 ?_
      refine j_iload_n h dX12_lays_65 rfl 2 rfl ?_
      refine j_iald (c := 10) (n := 401) h (by decide) rfl dX12_lays_66 ?_
      refine j_iast (c := 2) (n := 6085) h (by decide) rfl dX12_lays_67 ?_
      refine j_letM (fun M3 => ?_)
      refine j_iinc h [(2, .int (x2 + (1 : Int32))), (0, .ref (ad 0)), (1, .int x1)] dX12_lays_68 2 rfl rfl (by decide) rfl ?_
      refine j_goto h 16 dX12_lays_71 (by decide) ?_
      refine j_sub [1, 2, 0] rfl ?_
      exact hrc16 x1 (x2 + (1 : Int32)) M3
theorem ydf12_lays : ph_yd yX12_lays 1 := ⟨by decide, by decide, by decide +kernel⟩
def f12_lays (M : ph_Mem) (p0 : Int32) : Option ph_Mem :=
  cond (ph_ib ((478 : Int32) + p0) 6085) (ph_let (ph_wi M 2 ((478 : Int32) + p0).toNatClampNeg (M.1 0 18)) fun M1 => f12_lays_l16 10000 p0 (0 : Int32) M1) none
set_option maxHeartbeats 4000000 in
theorem cf12_lays {Z : (Nat → Prop) → State → Prop} (hZ : ph_Zok Z) {l : Launch} {D : va_G} {cA : Nat → ClassId} {ad : Nat → Nat} (hinj : ∀ i j, i < ph_NM → j < ph_NM → ad i = ad j → i = j) {M : ph_Mem} {p0 : Int32} {M' : ph_Mem} (hf : f12_lays M p0 = some M') : ph_C Z l 0 yX12_lays cX12_lays 3 none D cA ph_kdM ph_NM ad [.ref (ad 0), .int p0] M none M' := by
  refine ph_mk hZ hinj (by decide) (Nat.le_of_ble_eq_true rfl) fun X h fin hE => ?_
  refine (?_ : ph_J X ph_kdM ph_NM ad (M' : ph_Mem) 0 [(0, .ref (ad 0)), (1, .int p0)] [] M (f12_lays M p0)) hf
  unfold f12_lays
  refine j_aload_n h dX12_lays_0 rfl 0 rfl ?_
  refine j_get (c := 0) (j := 2) (v := .ref (ad 2)) h (by decide) rfl rfl ph_inX12 rfl (by decide) tw_1201 rfl rfl dX12_lays_1 ?_
  refine j_sipush (v := (478 : Int32)) h dX12_lays_4 (by decide) ?_
  refine j_iload_n h dX12_lays_7 rfl 1 rfl ?_
  refine j_iadd h dX12_lays_8 ?_
  refine j_aload_n h dX12_lays_9 rfl 0 rfl ?_
  refine j_get (c := 0) (j := 18) (v := .int (M.1 0 18)) h (by decide) rfl rfl ph_inX12 rfl (by decide) tw_1217 rfl rfl dX12_lays_10 ?_
  refine j_iast (c := 2) (n := 6085) h (by decide) rfl dX12_lays_13 ?_
  refine j_letM (fun M1 => ?_)
  refine j_iconst (v := (0 : Int32)) h dX12_lays_14 (by decide) ?_
  refine j_istore_n h [(2, .int (0 : Int32)), (0, .ref (ad 0)), (1, .int p0)] dX12_lays_15 rfl (by decide) rfl ?_
  refine j_sub [1, 2, 0] rfl ?_
  exact jb_f12_lays_l16 h fin 10000 p0 (0 : Int32) M1
theorem dX12_law_0 : decode cX12_law 0 = .ok (.aload_n 0, 1) := by decide +kernel
theorem dX12_law_1 : decode cX12_law 1 = .ok (.getfield 24, 3) := by decide +kernel
theorem dX12_law_4 : decode cX12_law 4 = .ok (.sipush 476, 3) := by decide +kernel
theorem dX12_law_7 : decode cX12_law 7 = .ok (.iaload, 1) := by decide +kernel
theorem dX12_law_8 : decode cX12_law 8 = .ok (.bipush 6, 2) := by decide +kernel
theorem dX12_law_10 : decode cX12_law 10 = .ok (.if_icmp .ne 15, 3) := by decide +kernel
theorem dX12_law_13 : decode cX12_law 13 = .ok (.aload_n 0, 1) := by decide +kernel
theorem dX12_law_14 : decode cX12_law 14 = .ok (.iconst 0, 1) := by decide +kernel
theorem dX12_law_15 : decode cX12_law 15 = .ok (.putfield 174, 3) := by decide +kernel
theorem dX12_law_18 : decode cX12_law 18 = .ok (.aload_n 0, 1) := by decide +kernel
theorem dX12_law_19 : decode cX12_law 19 = .ok (.bipush (-5), 2) := by decide +kernel
theorem dX12_law_21 : decode cX12_law 21 = .ok (.invokevirtual 112, 3) := by decide +kernel
theorem dX12_law_24 : decode cX12_law 24 = .ok (.ireturn, 1) := by decide +kernel
theorem dX12_law_25 : decode cX12_law 25 = .ok (.aload_n 0, 1) := by decide +kernel
theorem dX12_law_26 : decode cX12_law 26 = .ok (.iconst 0, 1) := by decide +kernel
theorem dX12_law_27 : decode cX12_law 27 = .ok (.invokevirtual 270, 3) := by decide +kernel
theorem dX12_law_30 : decode cX12_law 30 = .ok (.ifCond .ne 10, 3) := by decide +kernel
theorem dX12_law_33 : decode cX12_law 33 = .ok (.aload_n 0, 1) := by decide +kernel
theorem dX12_law_34 : decode cX12_law 34 = .ok (.bipush (-6), 2) := by decide +kernel
theorem dX12_law_36 : decode cX12_law 36 = .ok (.invokevirtual 112, 3) := by decide +kernel
theorem dX12_law_39 : decode cX12_law 39 = .ok (.ireturn, 1) := by decide +kernel
theorem dX12_law_40 : decode cX12_law 40 = .ok (.aload_n 0, 1) := by decide +kernel
theorem dX12_law_41 : decode cX12_law 41 = .ok (.aload_n 0, 1) := by decide +kernel
theorem dX12_law_42 : decode cX12_law 42 = .ok (.getfield 24, 3) := by decide +kernel
theorem dX12_law_45 : decode cX12_law 45 = .ok (.sipush 476, 3) := by decide +kernel
theorem dX12_law_48 : decode cX12_law 48 = .ok (.iaload, 1) := by decide +kernel
theorem dX12_law_49 : decode cX12_law 49 = .ok (.invokevirtual 274, 3) := by decide +kernel
theorem dX12_law_52 : decode cX12_law 52 = .ok (.aload_n 0, 1) := by decide +kernel
theorem dX12_law_53 : decode cX12_law 53 = .ok (.getfield 24, 3) := by decide +kernel
theorem dX12_law_56 : decode cX12_law 56 = .ok (.sipush 476, 3) := by decide +kernel
theorem dX12_law_59 : decode cX12_law 59 = .ok (.dup2, 1) := by decide +kernel
theorem dX12_law_60 : decode cX12_law 60 = .ok (.iaload, 1) := by decide +kernel
theorem dX12_law_61 : decode cX12_law 61 = .ok (.iconst 1, 1) := by decide +kernel
theorem dX12_law_62 : decode cX12_law 62 = .ok (.iadd, 1) := by decide +kernel
theorem dX12_law_63 : decode cX12_law 63 = .ok (.iastore, 1) := by decide +kernel
theorem dX12_law_64 : decode cX12_law 64 = .ok (.aload_n 0, 1) := by decide +kernel
theorem dX12_law_65 : decode cX12_law 65 = .ok (.aload_n 0, 1) := by decide +kernel
theorem dX12_law_66 : decode cX12_law 66 = .ok (.getfield 24, 3) := by decide +kernel
theorem dX12_law_69 : decode cX12_law 69 = .ok (.sipush 476, 3) := by decide +kernel
theorem dX12_law_72 : decode cX12_law 72 = .ok (.iaload, 1) := by decide +kernel
theorem dX12_law_73 : decode cX12_law 73 = .ok (.iconst 1, 1) := by decide +kernel
theorem dX12_law_74 : decode cX12_law 74 = .ok (.isub, 1) := by decide +kernel
theorem dX12_law_75 : decode cX12_law 75 = .ok (.invokevirtual 14, 3) := by decide +kernel
theorem dX12_law_78 : decode cX12_law 78 = .ok (.ireturn, 1) := by decide +kernel
theorem ydf12_law : ph_yd yX12_law 0 := ⟨by decide, by decide, by decide +kernel⟩
def f12_law (M : ph_Mem) : Option (Int32 × ph_Mem) :=
  if (M.1 2 476) = (6 : Int32) then (ph_let (ph_wi M 0 13 (0 : Int32)) fun M6 => (f12_refuses M6 (-5 : Int32)).bind fun q7 => some (q7.1, q7.2)) else ((f12_readsAs M (0 : Int32)).bind fun q1 => if q1.1 = 0 then ((f12_refuses q1.2 (-6 : Int32)).bind fun q5 => some (q5.1, q5.2)) else ((f12_lays q1.2 (q1.2.1 2 476)).bind fun q2 => ph_let (ph_wi q2 2 476 ((q2.1 2 476) + (1 : Int32))) fun M3 => (f12_good M3 ((M3.1 2 476) - (1 : Int32))).bind fun q4 => some (q4.1, q4.2)))
set_option maxHeartbeats 4000000 in
theorem cf12_law {Z : (Nat → Prop) → State → Prop} (hZ : ph_Zok Z) {l : Launch} {D : va_G} {cA : Nat → ClassId} {ad : Nat → Nat} (hinj : ∀ i j, i < ph_NM → j < ph_NM → ad i = ad j → i = j) {M : ph_Mem} {r : Int32} {M' : ph_Mem} (hf : f12_law M  = some (r, M')) : ph_C Z l 127 yX12_law cX12_law 1 (some .int) D cA ph_kdM ph_NM ad [.ref (ad 0)] M (some (.int r)) M' := by
  refine ph_mk hZ hinj (by decide) (Nat.le_of_ble_eq_true rfl) fun X h fin hE => ?_
  refine (?_ : ph_J X ph_kdM ph_NM ad ((r, M') : (Int32 × ph_Mem)) 0 [(0, .ref (ad 0))] [] M (f12_law M )) hf
  unfold f12_law
  refine j_aload_n h dX12_law_0 rfl 0 rfl ?_
  refine j_get (c := 0) (j := 2) (v := .ref (ad 2)) h (by decide) rfl rfl ph_inX12 rfl (by decide) tw_1201 rfl rfl dX12_law_1 ?_
  refine j_sipush (v := (476 : Int32)) h dX12_law_4 (by decide) ?_
  refine j_ialdK (c := 2) (n := 6085) (kn := 476) h (by decide) rfl rfl (by decide) dX12_law_7 ?_
  refine j_bipush (v := (6 : Int32)) h dX12_law_8 (by decide) ?_
  refine j_icmp_ne h 25 dX12_law_10 (by decide) ?_ ?_
  · refine j_aload_n h dX12_law_25 rfl 0 rfl ?_
    refine j_iconst (v := (0 : Int32)) h dX12_law_26 (by decide) ?_
    refine j_callVi (n := 1) (As := [.int (0 : Int32)]) (rest := []) h 0 tw_1550 tw_1552 tp_75 tw_14 tw_1553 ydf12_readsAs (by decide) (by decide) (by decide) rfl rfl (fun q hq => cf12_readsAs (ph_okZ h) (ph_okI h) hq) rfl (Nat.le_of_ble_eq_true rfl) rfl dX12_law_27 (fun q1 => ?_)
    refine j_if_ne h 40 dX12_law_30 (by decide) ?_ ?_
    · refine j_aload_n h dX12_law_40 rfl 0 rfl ?_
      refine j_aload_n h dX12_law_41 rfl 0 rfl ?_
      refine j_get (c := 0) (j := 2) (v := .ref (ad 2)) h (by decide) rfl rfl ph_inX12 rfl (by decide) tw_1201 rfl rfl dX12_law_42 ?_
      refine j_sipush (v := (476 : Int32)) h dX12_law_45 (by decide) ?_
      refine j_ialdK (c := 2) (n := 6085) (kn := 476) h (by decide) rfl rfl (by decide) dX12_law_48 ?_
      refine j_callVv (n := 1) (As := [.int (q1.2.1 2 476)]) (rest := []) h 0 tw_1633 tw_1635 tp_94 tw_14 tw_1636 ydf12_lays (by decide) (by decide) (by decide) rfl rfl (fun q hq => cf12_lays (ph_okZ h) (ph_okI h) hq) rfl (Nat.le_of_ble_eq_true rfl) rfl dX12_law_49 (fun q2 => ?_)
      refine j_aload_n h dX12_law_52 rfl 0 rfl ?_
      refine j_get (c := 0) (j := 2) (v := .ref (ad 2)) h (by decide) rfl rfl ph_inX12 rfl (by decide) tw_1201 rfl rfl dX12_law_53 ?_
      refine j_sipush (v := (476 : Int32)) h dX12_law_56 (by decide) ?_
      refine j_dup2 h dX12_law_59 rfl rfl ?_
      refine j_ialdK (c := 2) (n := 6085) (kn := 476) h (by decide) rfl rfl (by decide) dX12_law_60 ?_
      refine j_iconst (v := (1 : Int32)) h dX12_law_61 (by decide) ?_
      refine j_iadd h dX12_law_62 ?_
      refine j_iastK (c := 2) (n := 6085) (kn := 476) h (by decide) rfl rfl (by decide) dX12_law_63 ?_
      refine j_letM (fun M3 => ?_)
      refine j_aload_n h dX12_law_64 rfl 0 rfl ?_
      refine j_aload_n h dX12_law_65 rfl 0 rfl ?_
      refine j_get (c := 0) (j := 2) (v := .ref (ad 2)) h (by decide) rfl rfl ph_inX12 rfl (by decide) tw_1201 rfl rfl dX12_law_66 ?_
      refine j_sipush (v := (476 : Int32)) h dX12_law_69 (by decide) ?_
      refine j_ialdK (c := 2) (n := 6085) (kn := 476) h (by decide) rfl rfl (by decide) dX12_law_72 ?_
      refine j_iconst (v := (1 : Int32)) h dX12_law_73 (by decide) ?_
      refine j_isub h dX12_law_74 ?_
      refine j_callVi (n := 1) (As := [.int ((M3.1 2 476) - (1 : Int32))]) (rest := []) h 0 tw_1373 tw_1375 tp_50 tw_14 tw_1376 ydf12_good (by decide) (by decide) (by decide) rfl rfl (fun q hq => cf12_good (ph_okZ h) (ph_okI h) hq) rfl (Nat.le_of_ble_eq_true rfl) rfl dX12_law_75 (fun q4 => ?_)
      exact j_iret h rfl fin dX12_law_78
    · refine j_aload_n h dX12_law_33 rfl 0 rfl ?_
      refine j_bipush (v := (-6 : Int32)) h dX12_law_34 (by decide) ?_
      refine j_callVi (n := 1) (As := [.int (-6 : Int32)]) (rest := []) h 0 tw_1369 tw_1371 tp_49 tw_14 tw_1372 ydf12_refuses (by decide) (by decide) (by decide) rfl rfl (fun q hq => cf12_refuses (ph_okZ h) (ph_okI h) hq) rfl (Nat.le_of_ble_eq_true rfl) rfl dX12_law_36 (fun q5 => ?_)
      exact j_iret h rfl fin dX12_law_39
  · refine j_aload_n h dX12_law_13 rfl 0 rfl ?_
    refine j_iconst (v := (0 : Int32)) h dX12_law_14 (by decide) ?_
    refine j_puti (c := 0) (j := 13) (ty := .int) h (by decide) rfl rfl ph_inX12 tyX12 tyX12_ok nmX12 rfl (by decide) tw_1212 rfl rfl (tyX12_ok 13 (by decide)) rfl rfl dX12_law_15 ?_
    refine j_letM (fun M6 => ?_)
    refine j_aload_n h dX12_law_18 rfl 0 rfl ?_
    refine j_bipush (v := (-5 : Int32)) h dX12_law_19 (by decide) ?_
    refine j_callVi (n := 1) (As := [.int (-5 : Int32)]) (rest := []) h 0 tw_1369 tw_1371 tp_49 tw_14 tw_1372 ydf12_refuses (by decide) (by decide) (by decide) rfl rfl (fun q hq => cf12_refuses (ph_okZ h) (ph_okI h) hq) rfl (Nat.le_of_ble_eq_true rfl) rfl dX12_law_21 (fun q7 => ?_)
    exact j_iret h rfl fin dX12_law_24
theorem dX12_fault_0 : decode cX12_fault 0 = .ok (.aload_n 0, 1) := by decide +kernel
theorem dX12_fault_1 : decode cX12_fault 1 = .ok (.getfield 47, 3) := by decide +kernel
theorem dX12_fault_4 : decode cX12_fault 4 = .ok (.ireturn, 1) := by decide +kernel
theorem ydf12_fault : ph_yd yX12_fault 0 := ⟨by decide, by decide, by decide +kernel⟩
def f12_fault (M : ph_Mem) : Option Int32 :=
  some (M.1 0 14)
set_option maxHeartbeats 4000000 in
theorem cf12_fault {Z : (Nat → Prop) → State → Prop} (hZ : ph_Zok Z) {l : Launch} {D : va_G} {cA : Nat → ClassId} {ad : Nat → Nat} (hinj : ∀ i j, i < ph_NM → j < ph_NM → ad i = ad j → i = j) {M : ph_Mem} {r : Int32} (hf : f12_fault M  = some r) : ph_C Z l 0 yX12_fault cX12_fault 1 (some .int) D cA ph_kdM ph_NM ad [.ref (ad 0)] M (some (.int r)) M := by
  refine ph_mk hZ hinj (by decide) (Nat.le_of_ble_eq_true rfl) fun X h fin hE => ?_
  refine (?_ : ph_J X ph_kdM ph_NM ad (r : Int32) 0 [(0, .ref (ad 0))] [] M (f12_fault M )) hf
  unfold f12_fault
  refine j_aload_n h dX12_fault_0 rfl 0 rfl ?_
  refine j_get (c := 0) (j := 14) (v := .int (M.1 0 14)) h (by decide) rfl rfl ph_inX12 rfl (by decide) tw_1213 rfl rfl dX12_fault_1 ?_
  exact j_iretP h rfl fin dX12_fault_4
theorem dX12_force_0 : decode cX12_force 0 = .ok (.iload_n 1, 1) := by decide +kernel
theorem dX12_force_1 : decode cX12_force 1 = .ok (.iconst (-1), 1) := by decide +kernel
theorem dX12_force_2 : decode cX12_force 2 = .ok (.aload_n 0, 1) := by decide +kernel
theorem dX12_force_3 : decode cX12_force 3 = .ok (.getfield 24, 3) := by decide +kernel
theorem dX12_force_6 : decode cX12_force 6 = .ok (.sipush 476, 3) := by decide +kernel
theorem dX12_force_9 : decode cX12_force 9 = .ok (.iaload, 1) := by decide +kernel
theorem dX12_force_10 : decode cX12_force 10 = .ok (.iconst 1, 1) := by decide +kernel
theorem dX12_force_11 : decode cX12_force 11 = .ok (.isub, 1) := by decide +kernel
theorem dX12_force_12 : decode cX12_force 12 = .ok (.invokestatic 108, 3) := by decide +kernel
theorem dX12_force_15 : decode cX12_force 15 = .ok (.ifCond .ne 10, 3) := by decide +kernel
theorem dX12_force_18 : decode cX12_force 18 = .ok (.aload_n 0, 1) := by decide +kernel
theorem dX12_force_19 : decode cX12_force 19 = .ok (.bipush (-2), 2) := by decide +kernel
theorem dX12_force_21 : decode cX12_force 21 = .ok (.invokevirtual 112, 3) := by decide +kernel
theorem dX12_force_24 : decode cX12_force 24 = .ok (.ireturn, 1) := by decide +kernel
theorem dX12_force_25 : decode cX12_force 25 = .ok (.aload_n 0, 1) := by decide +kernel
theorem dX12_force_26 : decode cX12_force 26 = .ok (.getfield 24, 3) := by decide +kernel
theorem dX12_force_29 : decode cX12_force 29 = .ok (.sipush 477, 3) := by decide +kernel
theorem dX12_force_32 : decode cX12_force 32 = .ok (.iaload, 1) := by decide +kernel
theorem dX12_force_33 : decode cX12_force 33 = .ok (.istore_n 2, 1) := by decide +kernel
theorem dX12_force_34 : decode cX12_force 34 = .ok (.aload_n 0, 1) := by decide +kernel
theorem dX12_force_35 : decode cX12_force 35 = .ok (.getfield 24, 3) := by decide +kernel
theorem dX12_force_38 : decode cX12_force 38 = .ok (.sipush 477, 3) := by decide +kernel
theorem dX12_force_41 : decode cX12_force 41 = .ok (.iload_n 1, 1) := by decide +kernel
theorem dX12_force_42 : decode cX12_force 42 = .ok (.iastore, 1) := by decide +kernel
theorem dX12_force_43 : decode cX12_force 43 = .ok (.aload_n 0, 1) := by decide +kernel
theorem dX12_force_44 : decode cX12_force 44 = .ok (.iload_n 2, 1) := by decide +kernel
theorem dX12_force_45 : decode cX12_force 45 = .ok (.invokevirtual 14, 3) := by decide +kernel
theorem dX12_force_48 : decode cX12_force 48 = .ok (.ireturn, 1) := by decide +kernel
theorem ydf12_force : ph_yd yX12_force 1 := ⟨by decide, by decide, by decide +kernel⟩
def f12_force (M : ph_Mem) (p0 : Int32) : Option (Int32 × ph_Mem) :=
  (f12_within M p0 (-1 : Int32) ((M.1 2 476) - (1 : Int32))).bind fun q1 => if q1 = 0 then ((f12_refuses M (-2 : Int32)).bind fun q4 => some (q4.1, q4.2)) else (ph_let (ph_wi M 2 477 p0) fun M2 => (f12_good M2 (M.1 2 477)).bind fun q3 => some (q3.1, q3.2))
set_option maxHeartbeats 4000000 in
theorem cf12_force {Z : (Nat → Prop) → State → Prop} (hZ : ph_Zok Z) {l : Launch} {D : va_G} {cA : Nat → ClassId} {ad : Nat → Nat} (hinj : ∀ i j, i < ph_NM → j < ph_NM → ad i = ad j → i = j) {M : ph_Mem} {p0 : Int32} {r : Int32} {M' : ph_Mem} (hf : f12_force M p0 = some (r, M')) : ph_C Z l 1 yX12_force cX12_force 3 (some .int) D cA ph_kdM ph_NM ad [.ref (ad 0), .int p0] M (some (.int r)) M' := by
  refine ph_mk hZ hinj (by decide) (Nat.le_of_ble_eq_true rfl) fun X h fin hE => ?_
  refine (?_ : ph_J X ph_kdM ph_NM ad ((r, M') : (Int32 × ph_Mem)) 0 [(0, .ref (ad 0)), (1, .int p0)] [] M (f12_force M p0)) hf
  unfold f12_force
  refine j_iload_n h dX12_force_0 rfl 1 rfl ?_
  refine j_iconst (v := (-1 : Int32)) h dX12_force_1 (by decide) ?_
  refine j_aload_n h dX12_force_2 rfl 0 rfl ?_
  refine j_get (c := 0) (j := 2) (v := .ref (ad 2)) h (by decide) rfl rfl ph_inX12 rfl (by decide) tw_1201 rfl rfl dX12_force_3 ?_
  refine j_sipush (v := (476 : Int32)) h dX12_force_6 (by decide) ?_
  refine j_ialdK (c := 2) (n := 6085) (kn := 476) h (by decide) rfl rfl (by decide) dX12_force_9 ?_
  refine j_iconst (v := (1 : Int32)) h dX12_force_10 (by decide) ?_
  refine j_isub h dX12_force_11 ?_
  refine j_callSiP (n := 3) (As := [.int p0, .int (-1 : Int32), .int ((M.1 2 476) - (1 : Int32))]) (rest := []) h tw_1366 tw_1367 tw_14 tw_1368 ydf12_within (by decide) (by decide) (fun q hq => cf12_within (ph_okZ h) (ph_okI h) hq) rfl (Nat.le_of_ble_eq_true rfl) rfl dX12_force_12 (fun q1 => ?_)
  refine j_if_ne h 25 dX12_force_15 (by decide) ?_ ?_
  · refine j_aload_n h dX12_force_25 rfl 0 rfl ?_
    refine j_get (c := 0) (j := 2) (v := .ref (ad 2)) h (by decide) rfl rfl ph_inX12 rfl (by decide) tw_1201 rfl rfl dX12_force_26 ?_
    refine j_sipush (v := (477 : Int32)) h dX12_force_29 (by decide) ?_
    refine j_ialdK (c := 2) (n := 6085) (kn := 477) h (by decide) rfl rfl (by decide) dX12_force_32 ?_
    refine j_istore_n h [(2, .int (M.1 2 477)), (0, .ref (ad 0)), (1, .int p0)] dX12_force_33 rfl (by decide) rfl ?_
    refine j_aload_n h dX12_force_34 rfl 1 rfl ?_
    refine j_get (c := 0) (j := 2) (v := .ref (ad 2)) h (by decide) rfl rfl ph_inX12 rfl (by decide) tw_1201 rfl rfl dX12_force_35 ?_
    refine j_sipush (v := (477 : Int32)) h dX12_force_38 (by decide) ?_
    refine j_iload_n h dX12_force_41 rfl 2 rfl ?_
    refine j_iastK (c := 2) (n := 6085) (kn := 477) h (by decide) rfl rfl (by decide) dX12_force_42 ?_
    refine j_letM (fun M2 => ?_)
    refine j_aload_n h dX12_force_43 rfl 1 rfl ?_
    refine j_iload_n h dX12_force_44 rfl 0 rfl ?_
    refine j_callVi (n := 1) (As := [.int (M.1 2 477)]) (rest := []) h 0 tw_1373 tw_1375 tp_50 tw_14 tw_1376 ydf12_good (by decide) (by decide) (by decide) rfl rfl (fun q hq => cf12_good (ph_okZ h) (ph_okI h) hq) rfl (Nat.le_of_ble_eq_true rfl) rfl dX12_force_45 (fun q3 => ?_)
    exact j_iret h rfl fin dX12_force_48
  · refine j_aload_n h dX12_force_18 rfl 0 rfl ?_
    refine j_bipush (v := (-2 : Int32)) h dX12_force_19 (by decide) ?_
    refine j_callVi (n := 1) (As := [.int (-2 : Int32)]) (rest := []) h 0 tw_1369 tw_1371 tp_49 tw_14 tw_1372 ydf12_refuses (by decide) (by decide) (by decide) rfl rfl (fun q hq => cf12_refuses (ph_okZ h) (ph_okI h) hq) rfl (Nat.le_of_ble_eq_true rfl) rfl dX12_force_21 (fun q4 => ?_)
    exact j_iret h rfl fin dX12_force_24
theorem dX12_keeps_0 : decode cX12_keeps 0 = .ok (.sipush 224, 3) := by decide +kernel
theorem dX12_keeps_3 : decode cX12_keeps 3 = .ok (.istore_n 2, 1) := by decide +kernel
theorem dX12_keeps_4 : decode cX12_keeps 4 = .ok (.aload_n 0, 1) := by decide +kernel
theorem dX12_keeps_5 : decode cX12_keeps 5 = .ok (.getfield 11, 3) := by decide +kernel
theorem dX12_keeps_8 : decode cX12_keeps 8 = .ok (.bipush 16, 2) := by decide +kernel
theorem dX12_keeps_10 : decode cX12_keeps 10 = .ok (.if_icmp .ne 43, 3) := by decide +kernel
theorem dX12_keeps_13 : decode cX12_keeps 13 = .ok (.iconst 0, 1) := by decide +kernel
theorem dX12_keeps_14 : decode cX12_keeps 14 = .ok (.istore_n 3, 1) := by decide +kernel
theorem dX12_keeps_15 : decode cX12_keeps 15 = .ok (.iload_n 3, 1) := by decide +kernel
theorem dX12_keeps_16 : decode cX12_keeps 16 = .ok (.bipush 15, 2) := by decide +kernel
theorem dX12_keeps_18 : decode cX12_keeps 18 = .ok (.iload_n 2, 1) := by decide +kernel
theorem dX12_keeps_19 : decode cX12_keeps 19 = .ok (.imul, 1) := by decide +kernel
theorem dX12_keeps_20 : decode cX12_keeps 20 = .ok (.if_icmp .ge 23, 3) := by decide +kernel
theorem dX12_keeps_23 : decode cX12_keeps 23 = .ok (.aload_n 0, 1) := by decide +kernel
theorem dX12_keeps_24 : decode cX12_keeps 24 = .ok (.getfield 62, 3) := by decide +kernel
theorem dX12_keeps_27 : decode cX12_keeps 27 = .ok (.iload_n 3, 1) := by decide +kernel
theorem dX12_keeps_28 : decode cX12_keeps 28 = .ok (.aload_n 0, 1) := by decide +kernel
theorem dX12_keeps_29 : decode cX12_keeps 29 = .ok (.getfield 62, 3) := by decide +kernel
theorem dX12_keeps_32 : decode cX12_keeps 32 = .ok (.iload_n 3, 1) := by decide +kernel
theorem dX12_keeps_33 : decode cX12_keeps 33 = .ok (.iload_n 2, 1) := by decide +kernel
theorem dX12_keeps_34 : decode cX12_keeps 34 = .ok (.iadd, 1) := by decide +kernel
theorem dX12_keeps_35 : decode cX12_keeps 35 = .ok (.iaload, 1) := by decide +kernel
theorem dX12_keeps_36 : decode cX12_keeps 36 = .ok (.iastore, 1) := by decide +kernel
theorem dX12_keeps_37 : decode cX12_keeps 37 = .ok (.iinc 3 1, 3) := by decide +kernel
theorem dX12_keeps_40 : decode cX12_keeps 40 = .ok (.goto (-25), 3) := by decide +kernel
theorem dX12_keeps_43 : decode cX12_keeps 43 = .ok (.aload_n 0, 1) := by decide +kernel
theorem dX12_keeps_44 : decode cX12_keeps 44 = .ok (.dup, 1) := by decide +kernel
theorem dX12_keeps_45 : decode cX12_keeps 45 = .ok (.getfield 11, 3) := by decide +kernel
theorem dX12_keeps_48 : decode cX12_keeps 48 = .ok (.iconst 1, 1) := by decide +kernel
theorem dX12_keeps_49 : decode cX12_keeps 49 = .ok (.isub, 1) := by decide +kernel
theorem dX12_keeps_50 : decode cX12_keeps 50 = .ok (.putfield 11, 3) := by decide +kernel
theorem dX12_keeps_53 : decode cX12_keeps 53 = .ok (.iconst 0, 1) := by decide +kernel
theorem dX12_keeps_54 : decode cX12_keeps 54 = .ok (.istore_n 3, 1) := by decide +kernel
theorem dX12_keeps_55 : decode cX12_keeps 55 = .ok (.iload_n 3, 1) := by decide +kernel
theorem dX12_keeps_56 : decode cX12_keeps 56 = .ok (.sipush 223, 3) := by decide +kernel
theorem dX12_keeps_59 : decode cX12_keeps 59 = .ok (.if_icmp .ge 28, 3) := by decide +kernel
theorem dX12_keeps_62 : decode cX12_keeps 62 = .ok (.aload_n 0, 1) := by decide +kernel
theorem dX12_keeps_63 : decode cX12_keeps 63 = .ok (.getfield 62, 3) := by decide +kernel
theorem dX12_keeps_66 : decode cX12_keeps 66 = .ok (.iload_n 2, 1) := by decide +kernel
theorem dX12_keeps_67 : decode cX12_keeps 67 = .ok (.aload_n 0, 1) := by decide +kernel
theorem dX12_keeps_68 : decode cX12_keeps 68 = .ok (.getfield 11, 3) := by decide +kernel
theorem dX12_keeps_71 : decode cX12_keeps 71 = .ok (.imul, 1) := by decide +kernel
theorem dX12_keeps_72 : decode cX12_keeps 72 = .ok (.iload_n 3, 1) := by decide +kernel
theorem dX12_keeps_73 : decode cX12_keeps 73 = .ok (.iadd, 1) := by decide +kernel
theorem dX12_keeps_74 : decode cX12_keeps 74 = .ok (.aload_n 0, 1) := by decide +kernel
theorem dX12_keeps_75 : decode cX12_keeps 75 = .ok (.getfield 24, 3) := by decide +kernel
theorem dX12_keeps_78 : decode cX12_keeps 78 = .ok (.iload_n 3, 1) := by decide +kernel
theorem dX12_keeps_79 : decode cX12_keeps 79 = .ok (.iaload, 1) := by decide +kernel
theorem dX12_keeps_80 : decode cX12_keeps 80 = .ok (.iastore, 1) := by decide +kernel
theorem dX12_keeps_81 : decode cX12_keeps 81 = .ok (.iinc 3 1, 3) := by decide +kernel
theorem dX12_keeps_84 : decode cX12_keeps 84 = .ok (.goto (-29), 3) := by decide +kernel
theorem dX12_keeps_87 : decode cX12_keeps 87 = .ok (.aload_n 0, 1) := by decide +kernel
theorem dX12_keeps_88 : decode cX12_keeps 88 = .ok (.getfield 62, 3) := by decide +kernel
theorem dX12_keeps_91 : decode cX12_keeps 91 = .ok (.iload_n 2, 1) := by decide +kernel
theorem dX12_keeps_92 : decode cX12_keeps 92 = .ok (.aload_n 0, 1) := by decide +kernel
theorem dX12_keeps_93 : decode cX12_keeps 93 = .ok (.getfield 11, 3) := by decide +kernel
theorem dX12_keeps_96 : decode cX12_keeps 96 = .ok (.imul, 1) := by decide +kernel
theorem dX12_keeps_97 : decode cX12_keeps 97 = .ok (.sipush 223, 3) := by decide +kernel
theorem dX12_keeps_100 : decode cX12_keeps 100 = .ok (.iadd, 1) := by decide +kernel
theorem dX12_keeps_101 : decode cX12_keeps 101 = .ok (.iload_n 1, 1) := by decide +kernel
theorem dX12_keeps_102 : decode cX12_keeps 102 = .ok (.iastore, 1) := by decide +kernel
theorem dX12_keeps_103 : decode cX12_keeps 103 = .ok (.aload_n 0, 1) := by decide +kernel
theorem dX12_keeps_104 : decode cX12_keeps 104 = .ok (.dup, 1) := by decide +kernel
theorem dX12_keeps_105 : decode cX12_keeps 105 = .ok (.getfield 11, 3) := by decide +kernel
theorem dX12_keeps_108 : decode cX12_keeps 108 = .ok (.iconst 1, 1) := by decide +kernel
theorem dX12_keeps_109 : decode cX12_keeps 109 = .ok (.iadd, 1) := by decide +kernel
theorem dX12_keeps_110 : decode cX12_keeps 110 = .ok (.putfield 11, 3) := by decide +kernel
theorem dX12_keeps_113 : decode cX12_keeps 113 = .ok (.return_, 1) := by decide +kernel
def f12_keeps_j87 (x1 : Int32) (x2 : Int32) (M : ph_Mem) : Option ph_Mem :=
  cond (ph_ib ((x2 * (M.1 0 28)) + (223 : Int32)) 3584) (ph_let (ph_wi M 13 ((x2 * (M.1 0 28)) + (223 : Int32)).toNatClampNeg x1) fun M4 => ph_let (ph_wi M4 0 28 ((M4.1 0 28) + (1 : Int32))) fun M5 => some M5) none
set_option maxHeartbeats 4000000 in
theorem jb_f12_keeps_j87 {Z : (Nat → Prop) → State → Prop} {X : ph_X} {ad : Nat → Nat} {o : ph_Mem} (h : ph_ok Z X cX12_keeps RX12 none 4 0 ph_NM ad) (fin : ph_fin X ph_kdM ph_NM ad none o) : ∀ (x1 : Int32) (x2 : Int32) (M : ph_Mem), ph_J X ph_kdM ph_NM ad o 87 [(0, .ref (ad 0)), (1, .int x1), (2, .int x2)] [] M (f12_keeps_j87 x1 x2 M) := by
  intro x1 x2 M
  unfold f12_keeps_j87
  refine j_aload_n h dX12_keeps_87 rfl 0 rfl ?_
  refine j_get (c := 0) (j := 26) (v := .ref (ad 13)) h (by decide) rfl rfl ph_inX12 rfl (by decide) tw_1225 rfl rfl dX12_keeps_88 ?_
  refine j_iload_n h dX12_keeps_91 rfl 2 rfl ?_
  refine j_aload_n h dX12_keeps_92 rfl 0 rfl ?_
  refine j_get (c := 0) (j := 28) (v := .int (M.1 0 28)) h (by decide) rfl rfl ph_inX12 rfl (by decide) tw_1227 rfl rfl dX12_keeps_93 ?_
  refine j_imul h dX12_keeps_96 ?_
  refine j_sipush (v := (223 : Int32)) h dX12_keeps_97 (by decide) ?_
  refine j_iadd h dX12_keeps_100 ?_
  refine j_iload_n h dX12_keeps_101 rfl 1 rfl ?_
  refine j_iast (c := 13) (n := 3584) h (by decide) rfl dX12_keeps_102 ?_
  refine j_letM (fun M4 => ?_)
  refine j_aload_n h dX12_keeps_103 rfl 0 rfl ?_
  refine j_dup h dX12_keeps_104 rfl ?_
  refine j_get (c := 0) (j := 28) (v := .int (M4.1 0 28)) h (by decide) rfl rfl ph_inX12 rfl (by decide) tw_1227 rfl rfl dX12_keeps_105 ?_
  refine j_iconst (v := (1 : Int32)) h dX12_keeps_108 (by decide) ?_
  refine j_iadd h dX12_keeps_109 ?_
  refine j_puti (c := 0) (j := 28) (ty := .int) h (by decide) rfl rfl ph_inX12 tyX12 tyX12_ok nmX12 rfl (by decide) tw_1227 rfl rfl (tyX12_ok 28 (by decide)) rfl rfl dX12_keeps_110 ?_
  refine j_letM (fun M5 => ?_)
  exact j_vret h rfl fin dX12_keeps_113
def f12_keeps_l55 : Nat → Int32 → Int32 → Int32 → ph_Mem → Option ph_Mem
  | 0, _, _, _, _ => none
  | n + 1, x1, x2, x3, M => if (223 : Int32) ≤ x3 then (f12_keeps_j87 x1 x2 M) else (cond (ph_ib x3 6085) (cond (ph_ib ((x2 * (M.1 0 28)) + x3) 3584) (ph_let (ph_wi M 13 ((x2 * (M.1 0 28)) + x3).toNatClampNeg (M.1 2 x3.toNatClampNeg)) fun M3 => (f12_keeps_l55 n) x1 x2 (x3 + (1 : Int32)) M3) none) none)
set_option maxHeartbeats 4000000 in
theorem jb_f12_keeps_l55 {Z : (Nat → Prop) → State → Prop} {X : ph_X} {ad : Nat → Nat} {o : ph_Mem} (h : ph_ok Z X cX12_keeps RX12 none 4 0 ph_NM ad) (fin : ph_fin X ph_kdM ph_NM ad none o) : ∀ (n : Nat) (x1 : Int32) (x2 : Int32) (x3 : Int32) (M : ph_Mem), ph_J X ph_kdM ph_NM ad o 55 [(0, .ref (ad 0)), (1, .int x1), (2, .int x2), (3, .int x3)] [] M (f12_keeps_l55 n x1 x2 x3 M) := by
  intro n
  induction n with
  | zero => intro x1 x2 x3 M; exact j_none
  | succ n hrc55 =>
    intro x1 x2 x3 M
    unfold f12_keeps_l55
    refine j_iload_n h dX12_keeps_55 rfl 3 rfl ?_
    refine j_sipush (v := (223 : Int32)) h dX12_keeps_56 (by decide) ?_
    refine j_icmp_ge h 87 dX12_keeps_59 (by decide) ?_ ?_
    · refine j_sub [0, 1, 2] rfl ?_
      exact jb_f12_keeps_j87 h fin x1 x2 M
    · refine j_aload_n h dX12_keeps_62 rfl 0 rfl ?_
      refine j_get (c := 0) (j := 26) (v := .ref (ad 13)) h (by decide) rfl rfl ph_inX12 rfl (by decide) tw_1225 rfl rfl dX12_keeps_63 ?_
      refine j_iload_n h dX12_keeps_66 rfl 2 rfl ?_
      refine j_aload_n h dX12_keeps_67 rfl 0 rfl ?_
      refine j_get (c := 0) (j := 28) (v := .int (M.1 0 28)) h (by decide) rfl rfl ph_inX12 rfl (by decide) tw_1227 rfl rfl dX12_keeps_68 ?_
      refine j_imul h dX12_keeps_71 ?_
      refine j_iload_n h dX12_keeps_72 rfl 3 rfl ?_
      refine j_iadd h dX12_keeps_73 ?_
      refine j_aload_n h dX12_keeps_74 rfl 0 rfl ?_
      refine j_get (c := 0) (j := 2) (v := .ref (ad 2)) h (by decide) rfl rfl ph_inX12 rfl (by decide) tw_1201 rfl rfl dX12_keeps_75 ?_
      refine j_iload_n h dX12_keeps_78 rfl 3 rfl ?_
      refine j_iald (c := 2) (n := 6085) h (by decide) rfl dX12_keeps_79 ?_
      refine j_iast (c := 13) (n := 3584) h (by decide) rfl dX12_keeps_80 ?_
      refine j_letM (fun M3 => ?_)
      refine j_iinc h [(3, .int (x3 + (1 : Int32))), (0, .ref (ad 0)), (1, .int x1), (2, .int x2)] dX12_keeps_81 3 rfl rfl (by decide) rfl ?_
      refine j_goto h 55 dX12_keeps_84 (by decide) ?_
      refine j_sub [1, 2, 3, 0] rfl ?_
      exact hrc55 x1 x2 (x3 + (1 : Int32)) M3
def f12_keeps_j53 (x1 : Int32) (x2 : Int32) (M : ph_Mem) : Option ph_Mem :=
  f12_keeps_l55 10000 x1 x2 (0 : Int32) M
set_option maxHeartbeats 4000000 in
theorem jb_f12_keeps_j53 {Z : (Nat → Prop) → State → Prop} {X : ph_X} {ad : Nat → Nat} {o : ph_Mem} (h : ph_ok Z X cX12_keeps RX12 none 4 0 ph_NM ad) (fin : ph_fin X ph_kdM ph_NM ad none o) : ∀ (x1 : Int32) (x2 : Int32) (M : ph_Mem), ph_J X ph_kdM ph_NM ad o 53 [(0, .ref (ad 0)), (1, .int x1), (2, .int x2)] [] M (f12_keeps_j53 x1 x2 M) := by
  intro x1 x2 M
  unfold f12_keeps_j53
  refine j_iconst (v := (0 : Int32)) h dX12_keeps_53 (by decide) ?_
  refine j_istore_n h [(3, .int (0 : Int32)), (0, .ref (ad 0)), (1, .int x1), (2, .int x2)] dX12_keeps_54 rfl (by decide) rfl ?_
  refine j_sub [1, 2, 3, 0] rfl ?_
  exact jb_f12_keeps_l55 h fin 10000 x1 x2 (0 : Int32) M
def f12_keeps_j43 (x1 : Int32) (x2 : Int32) (M : ph_Mem) : Option ph_Mem :=
  ph_let (ph_wi M 0 28 ((M.1 0 28) - (1 : Int32))) fun M2 => f12_keeps_j53 x1 x2 M2
set_option maxHeartbeats 4000000 in
theorem jb_f12_keeps_j43 {Z : (Nat → Prop) → State → Prop} {X : ph_X} {ad : Nat → Nat} {o : ph_Mem} (h : ph_ok Z X cX12_keeps RX12 none 4 0 ph_NM ad) (fin : ph_fin X ph_kdM ph_NM ad none o) : ∀ (x1 : Int32) (x2 : Int32) (M : ph_Mem), ph_J X ph_kdM ph_NM ad o 43 [(0, .ref (ad 0)), (1, .int x1), (2, .int x2)] [] M (f12_keeps_j43 x1 x2 M) := by
  intro x1 x2 M
  unfold f12_keeps_j43
  refine j_aload_n h dX12_keeps_43 rfl 0 rfl ?_
  refine j_dup h dX12_keeps_44 rfl ?_
  refine j_get (c := 0) (j := 28) (v := .int (M.1 0 28)) h (by decide) rfl rfl ph_inX12 rfl (by decide) tw_1227 rfl rfl dX12_keeps_45 ?_
  refine j_iconst (v := (1 : Int32)) h dX12_keeps_48 (by decide) ?_
  refine j_isub h dX12_keeps_49 ?_
  refine j_puti (c := 0) (j := 28) (ty := .int) h (by decide) rfl rfl ph_inX12 tyX12 tyX12_ok nmX12 rfl (by decide) tw_1227 rfl rfl (tyX12_ok 28 (by decide)) rfl rfl dX12_keeps_50 ?_
  refine j_letM (fun M2 => ?_)
  refine j_sub [0, 1, 2] rfl ?_
  exact jb_f12_keeps_j53 h fin x1 x2 M2
def f12_keeps_l15 : Nat → Int32 → Int32 → Int32 → ph_Mem → Option ph_Mem
  | 0, _, _, _, _ => none
  | n + 1, x1, x2, x3, M => if ((15 : Int32) * x2) ≤ x3 then (f12_keeps_j43 x1 x2 M) else (cond (ph_ib (x3 + x2) 3584) (cond (ph_ib x3 3584) (ph_let (ph_wi M 13 x3.toNatClampNeg (M.1 13 (x3 + x2).toNatClampNeg)) fun M1 => (f12_keeps_l15 n) x1 x2 (x3 + (1 : Int32)) M1) none) none)
set_option maxHeartbeats 4000000 in
theorem jb_f12_keeps_l15 {Z : (Nat → Prop) → State → Prop} {X : ph_X} {ad : Nat → Nat} {o : ph_Mem} (h : ph_ok Z X cX12_keeps RX12 none 4 0 ph_NM ad) (fin : ph_fin X ph_kdM ph_NM ad none o) : ∀ (n : Nat) (x1 : Int32) (x2 : Int32) (x3 : Int32) (M : ph_Mem), ph_J X ph_kdM ph_NM ad o 15 [(0, .ref (ad 0)), (1, .int x1), (2, .int x2), (3, .int x3)] [] M (f12_keeps_l15 n x1 x2 x3 M) := by
  intro n
  induction n with
  | zero => intro x1 x2 x3 M; exact j_none
  | succ n hrc15 =>
    intro x1 x2 x3 M
    unfold f12_keeps_l15
    refine j_iload_n h dX12_keeps_15 rfl 3 rfl ?_
    refine j_bipush (v := (15 : Int32)) h dX12_keeps_16 (by decide) ?_
    refine j_iload_n h dX12_keeps_18 rfl 2 rfl ?_
    refine j_imul h dX12_keeps_19 ?_
    refine j_icmp_ge h 43 dX12_keeps_20 (by decide) ?_ ?_
    · refine j_sub [0, 1, 2] rfl ?_
      exact jb_f12_keeps_j43 h fin x1 x2 M
    · refine j_aload_n h dX12_keeps_23 rfl 0 rfl ?_
      refine j_get (c := 0) (j := 26) (v := .ref (ad 13)) h (by decide) rfl rfl ph_inX12 rfl (by decide) tw_1225 rfl rfl dX12_keeps_24 ?_
      refine j_iload_n h dX12_keeps_27 rfl 3 rfl ?_
      refine j_aload_n h dX12_keeps_28 rfl 0 rfl ?_
      refine j_get (c := 0) (j := 26) (v := .ref (ad 13)) h (by decide) rfl rfl ph_inX12 rfl (by decide) tw_1225 rfl rfl dX12_keeps_29 ?_
      refine j_iload_n h dX12_keeps_32 rfl 3 rfl ?_
      refine j_iload_n h dX12_keeps_33 rfl 2 rfl ?_
      refine j_iadd h dX12_keeps_34 ?_
      refine j_iald (c := 13) (n := 3584) h (by decide) rfl dX12_keeps_35 ?_
      refine j_iast (c := 13) (n := 3584) h (by decide) rfl dX12_keeps_36 ?_
      refine j_letM (fun M1 => ?_)
      refine j_iinc h [(3, .int (x3 + (1 : Int32))), (0, .ref (ad 0)), (1, .int x1), (2, .int x2)] dX12_keeps_37 3 rfl rfl (by decide) rfl ?_
      refine j_goto h 15 dX12_keeps_40 (by decide) ?_
      refine j_sub [1, 2, 3, 0] rfl ?_
      exact hrc15 x1 x2 (x3 + (1 : Int32)) M1
theorem ydf12_keeps : ph_yd yX12_keeps 1 := ⟨by decide, by decide, by decide +kernel⟩
def f12_keeps (M : ph_Mem) (p0 : Int32) : Option ph_Mem :=
  if (M.1 0 28) = (16 : Int32) then (f12_keeps_l15 10000 p0 (224 : Int32) (0 : Int32) M) else (f12_keeps_j53 p0 (224 : Int32) M)
set_option maxHeartbeats 4000000 in
theorem cf12_keeps {Z : (Nat → Prop) → State → Prop} (hZ : ph_Zok Z) {l : Launch} {D : va_G} {cA : Nat → ClassId} {ad : Nat → Nat} (hinj : ∀ i j, i < ph_NM → j < ph_NM → ad i = ad j → i = j) {M : ph_Mem} {p0 : Int32} {M' : ph_Mem} (hf : f12_keeps M p0 = some M') : ph_C Z l 0 yX12_keeps cX12_keeps 4 none D cA ph_kdM ph_NM ad [.ref (ad 0), .int p0] M none M' := by
  refine ph_mk hZ hinj (by decide) (Nat.le_of_ble_eq_true rfl) fun X h fin hE => ?_
  refine (?_ : ph_J X ph_kdM ph_NM ad (M' : ph_Mem) 0 [(0, .ref (ad 0)), (1, .int p0)] [] M (f12_keeps M p0)) hf
  unfold f12_keeps
  refine j_sipush (v := (224 : Int32)) h dX12_keeps_0 (by decide) ?_
  refine j_istore_n h [(2, .int (224 : Int32)), (0, .ref (ad 0)), (1, .int p0)] dX12_keeps_3 rfl (by decide) rfl ?_
  refine j_aload_n h dX12_keeps_4 rfl 1 rfl ?_
  refine j_get (c := 0) (j := 28) (v := .int (M.1 0 28)) h (by decide) rfl rfl ph_inX12 rfl (by decide) tw_1227 rfl rfl dX12_keeps_5 ?_
  refine j_bipush (v := (16 : Int32)) h dX12_keeps_8 (by decide) ?_
  refine j_icmp_ne h 53 dX12_keeps_10 (by decide) ?_ ?_
  · refine j_sub [1, 2, 0] rfl ?_
    exact jb_f12_keeps_j53 h fin p0 (224 : Int32) M
  · refine j_iconst (v := (0 : Int32)) h dX12_keeps_13 (by decide) ?_
    refine j_istore_n h [(3, .int (0 : Int32)), (2, .int (224 : Int32)), (0, .ref (ad 0)), (1, .int p0)] dX12_keeps_14 rfl (by decide) rfl ?_
    refine j_sub [2, 3, 1, 0] rfl ?_
    exact jb_f12_keeps_l15 h fin 10000 p0 (224 : Int32) (0 : Int32) M
theorem dX12_undo_0 : decode cX12_undo 0 = .ok (.aload_n 0, 1) := by decide +kernel
theorem dX12_undo_1 : decode cX12_undo 1 = .ok (.getfield 11, 3) := by decide +kernel
theorem dX12_undo_4 : decode cX12_undo 4 = .ok (.ifCond .ne 10, 3) := by decide +kernel
theorem dX12_undo_7 : decode cX12_undo 7 = .ok (.aload_n 0, 1) := by decide +kernel
theorem dX12_undo_8 : decode cX12_undo 8 = .ok (.bipush (-3), 2) := by decide +kernel
theorem dX12_undo_10 : decode cX12_undo 10 = .ok (.invokevirtual 112, 3) := by decide +kernel
theorem dX12_undo_13 : decode cX12_undo 13 = .ok (.ireturn, 1) := by decide +kernel
theorem dX12_undo_14 : decode cX12_undo 14 = .ok (.aload_n 0, 1) := by decide +kernel
theorem dX12_undo_15 : decode cX12_undo 15 = .ok (.dup, 1) := by decide +kernel
theorem dX12_undo_16 : decode cX12_undo 16 = .ok (.getfield 11, 3) := by decide +kernel
theorem dX12_undo_19 : decode cX12_undo 19 = .ok (.iconst 1, 1) := by decide +kernel
theorem dX12_undo_20 : decode cX12_undo 20 = .ok (.isub, 1) := by decide +kernel
theorem dX12_undo_21 : decode cX12_undo 21 = .ok (.putfield 11, 3) := by decide +kernel
theorem dX12_undo_24 : decode cX12_undo 24 = .ok (.sipush 224, 3) := by decide +kernel
theorem dX12_undo_27 : decode cX12_undo 27 = .ok (.aload_n 0, 1) := by decide +kernel
theorem dX12_undo_28 : decode cX12_undo 28 = .ok (.getfield 11, 3) := by decide +kernel
theorem dX12_undo_31 : decode cX12_undo 31 = .ok (.imul, 1) := by decide +kernel
theorem dX12_undo_32 : decode cX12_undo 32 = .ok (.istore_n 1, 1) := by decide +kernel
theorem dX12_undo_33 : decode cX12_undo 33 = .ok (.iconst 0, 1) := by decide +kernel
theorem dX12_undo_34 : decode cX12_undo 34 = .ok (.istore_n 2, 1) := by decide +kernel
theorem dX12_undo_35 : decode cX12_undo 35 = .ok (.iload_n 2, 1) := by decide +kernel
theorem dX12_undo_36 : decode cX12_undo 36 = .ok (.sipush 223, 3) := by decide +kernel
theorem dX12_undo_39 : decode cX12_undo 39 = .ok (.if_icmp .ge 23, 3) := by decide +kernel
theorem dX12_undo_42 : decode cX12_undo 42 = .ok (.aload_n 0, 1) := by decide +kernel
theorem dX12_undo_43 : decode cX12_undo 43 = .ok (.getfield 24, 3) := by decide +kernel
theorem dX12_undo_46 : decode cX12_undo 46 = .ok (.iload_n 2, 1) := by decide +kernel
theorem dX12_undo_47 : decode cX12_undo 47 = .ok (.aload_n 0, 1) := by decide +kernel
theorem dX12_undo_48 : decode cX12_undo 48 = .ok (.getfield 62, 3) := by decide +kernel
theorem dX12_undo_51 : decode cX12_undo 51 = .ok (.iload_n 1, 1) := by decide +kernel
theorem dX12_undo_52 : decode cX12_undo 52 = .ok (.iload_n 2, 1) := by decide +kernel
theorem dX12_undo_53 : decode cX12_undo 53 = .ok (.iadd, 1) := by decide +kernel
theorem dX12_undo_54 : decode cX12_undo 54 = .ok (.iaload, 1) := by decide +kernel
theorem dX12_undo_55 : decode cX12_undo 55 = .ok (.iastore, 1) := by decide +kernel
theorem dX12_undo_56 : decode cX12_undo 56 = .ok (.iinc 2 1, 3) := by decide +kernel
theorem dX12_undo_59 : decode cX12_undo 59 = .ok (.goto (-24), 3) := by decide +kernel
theorem dX12_undo_62 : decode cX12_undo 62 = .ok (.aload_n 0, 1) := by decide +kernel
theorem dX12_undo_63 : decode cX12_undo 63 = .ok (.aload_n 0, 1) := by decide +kernel
theorem dX12_undo_64 : decode cX12_undo 64 = .ok (.getfield 62, 3) := by decide +kernel
theorem dX12_undo_67 : decode cX12_undo 67 = .ok (.iload_n 1, 1) := by decide +kernel
theorem dX12_undo_68 : decode cX12_undo 68 = .ok (.sipush 223, 3) := by decide +kernel
theorem dX12_undo_71 : decode cX12_undo 71 = .ok (.iadd, 1) := by decide +kernel
theorem dX12_undo_72 : decode cX12_undo 72 = .ok (.iaload, 1) := by decide +kernel
theorem dX12_undo_73 : decode cX12_undo 73 = .ok (.invokevirtual 14, 3) := by decide +kernel
theorem dX12_undo_76 : decode cX12_undo 76 = .ok (.ireturn, 1) := by decide +kernel
def f12_undo_j62 (x1 : Int32) (M : ph_Mem) : Option (Int32 × ph_Mem) :=
  cond (ph_ib (x1 + (223 : Int32)) 3584) ((f12_good M (M.1 13 (x1 + (223 : Int32)).toNatClampNeg)).bind fun q5 => some (q5.1, q5.2)) none
set_option maxHeartbeats 4000000 in
theorem jb_f12_undo_j62 {Z : (Nat → Prop) → State → Prop} {X : ph_X} {ad : Nat → Nat} {o : (Int32 × ph_Mem)} (h : ph_ok Z X cX12_undo RX12 (some .int) 3 1 ph_NM ad) (fin : ph_fin X ph_kdM ph_NM ad (some (.int o.1)) o.2) : ∀ (x1 : Int32) (M : ph_Mem), ph_J X ph_kdM ph_NM ad o 62 [(0, .ref (ad 0)), (1, .int x1)] [] M (f12_undo_j62 x1 M) := by
  intro x1 M
  unfold f12_undo_j62
  refine j_aload_n h dX12_undo_62 rfl 0 rfl ?_
  refine j_aload_n h dX12_undo_63 rfl 0 rfl ?_
  refine j_get (c := 0) (j := 26) (v := .ref (ad 13)) h (by decide) rfl rfl ph_inX12 rfl (by decide) tw_1225 rfl rfl dX12_undo_64 ?_
  refine j_iload_n h dX12_undo_67 rfl 1 rfl ?_
  refine j_sipush (v := (223 : Int32)) h dX12_undo_68 (by decide) ?_
  refine j_iadd h dX12_undo_71 ?_
  refine j_iald (c := 13) (n := 3584) h (by decide) rfl dX12_undo_72 ?_
  refine j_callVi (n := 1) (As := [.int (M.1 13 (x1 + (223 : Int32)).toNatClampNeg)]) (rest := []) h 0 tw_1373 tw_1375 tp_50 tw_14 tw_1376 ydf12_good (by decide) (by decide) (by decide) rfl rfl (fun q hq => cf12_good (ph_okZ h) (ph_okI h) hq) rfl (Nat.le_of_ble_eq_true rfl) rfl dX12_undo_73 (fun q5 => ?_)
  exact j_iret h rfl fin dX12_undo_76
def f12_undo_l35 : Nat → Int32 → Int32 → ph_Mem → Option (Int32 × ph_Mem)
  | 0, _, _, _ => none
  | n + 1, x1, x2, M => if (223 : Int32) ≤ x2 then (f12_undo_j62 x1 M) else (cond (ph_ib (x1 + x2) 3584) (cond (ph_ib x2 6085) (ph_let (ph_wi M 2 x2.toNatClampNeg (M.1 13 (x1 + x2).toNatClampNeg)) fun M4 => (f12_undo_l35 n) x1 (x2 + (1 : Int32)) M4) none) none)
set_option maxHeartbeats 4000000 in
theorem jb_f12_undo_l35 {Z : (Nat → Prop) → State → Prop} {X : ph_X} {ad : Nat → Nat} {o : (Int32 × ph_Mem)} (h : ph_ok Z X cX12_undo RX12 (some .int) 3 1 ph_NM ad) (fin : ph_fin X ph_kdM ph_NM ad (some (.int o.1)) o.2) : ∀ (n : Nat) (x1 : Int32) (x2 : Int32) (M : ph_Mem), ph_J X ph_kdM ph_NM ad o 35 [(0, .ref (ad 0)), (1, .int x1), (2, .int x2)] [] M (f12_undo_l35 n x1 x2 M) := by
  intro n
  induction n with
  | zero => intro x1 x2 M; exact j_none
  | succ n hrc35 =>
    intro x1 x2 M
    unfold f12_undo_l35
    refine j_iload_n h dX12_undo_35 rfl 2 rfl ?_
    refine j_sipush (v := (223 : Int32)) h dX12_undo_36 (by decide) ?_
    refine j_icmp_ge h 62 dX12_undo_39 (by decide) ?_ ?_
    · refine j_sub [0, 1] rfl ?_
      exact jb_f12_undo_j62 h fin x1 M
    · refine j_aload_n h dX12_undo_42 rfl 0 rfl ?_
      refine j_get (c := 0) (j := 2) (v := .ref (ad 2)) h (by decide) rfl rfl ph_inX12 rfl (by decide) tw_1201 rfl rfl dX12_undo_43 ?_
      refine j_iload_n h dX12_undo_46 rfl 2 rfl ?_
      refine j_aload_n h dX12_undo_47 rfl 0 rfl ?_
      refine j_get (c := 0) (j := 26) (v := .ref (ad 13)) h (by decide) rfl rfl ph_inX12 rfl (by decide) tw_1225 rfl rfl dX12_undo_48 ?_
      refine j_iload_n h dX12_undo_51 rfl 1 rfl ?_
      refine j_iload_n h dX12_undo_52 rfl 2 rfl ?_
      refine j_iadd h dX12_undo_53 ?_
      refine j_iald (c := 13) (n := 3584) h (by decide) rfl dX12_undo_54 ?_
      refine j_iast (c := 2) (n := 6085) h (by decide) rfl dX12_undo_55 ?_
      refine j_letM (fun M4 => ?_)
      refine j_iinc h [(2, .int (x2 + (1 : Int32))), (0, .ref (ad 0)), (1, .int x1)] dX12_undo_56 2 rfl rfl (by decide) rfl ?_
      refine j_goto h 35 dX12_undo_59 (by decide) ?_
      refine j_sub [1, 2, 0] rfl ?_
      exact hrc35 x1 (x2 + (1 : Int32)) M4
theorem ydf12_undo : ph_yd yX12_undo 0 := ⟨by decide, by decide, by decide +kernel⟩
def f12_undo (M : ph_Mem) : Option (Int32 × ph_Mem) :=
  if (M.1 0 28) = 0 then ((f12_refuses M (-3 : Int32)).bind fun q3 => some (q3.1, q3.2)) else (ph_let (ph_wi M 0 28 ((M.1 0 28) - (1 : Int32))) fun M1 => ph_let ((224 : Int32) * (M1.1 0 28)) fun z2 => f12_undo_l35 10000 z2 (0 : Int32) M1)
set_option maxHeartbeats 4000000 in
theorem cf12_undo {Z : (Nat → Prop) → State → Prop} (hZ : ph_Zok Z) {l : Launch} {D : va_G} {cA : Nat → ClassId} {ad : Nat → Nat} (hinj : ∀ i j, i < ph_NM → j < ph_NM → ad i = ad j → i = j) {M : ph_Mem} {r : Int32} {M' : ph_Mem} (hf : f12_undo M  = some (r, M')) : ph_C Z l 1 yX12_undo cX12_undo 3 (some .int) D cA ph_kdM ph_NM ad [.ref (ad 0)] M (some (.int r)) M' := by
  refine ph_mk hZ hinj (by decide) (Nat.le_of_ble_eq_true rfl) fun X h fin hE => ?_
  refine (?_ : ph_J X ph_kdM ph_NM ad ((r, M') : (Int32 × ph_Mem)) 0 [(0, .ref (ad 0))] [] M (f12_undo M )) hf
  unfold f12_undo
  refine j_aload_n h dX12_undo_0 rfl 0 rfl ?_
  refine j_get (c := 0) (j := 28) (v := .int (M.1 0 28)) h (by decide) rfl rfl ph_inX12 rfl (by decide) tw_1227 rfl rfl dX12_undo_1 ?_
  refine j_if_ne h 14 dX12_undo_4 (by decide) ?_ ?_
  · refine j_aload_n h dX12_undo_14 rfl 0 rfl ?_
    refine j_dup h dX12_undo_15 rfl ?_
    refine j_get (c := 0) (j := 28) (v := .int (M.1 0 28)) h (by decide) rfl rfl ph_inX12 rfl (by decide) tw_1227 rfl rfl dX12_undo_16 ?_
    refine j_iconst (v := (1 : Int32)) h dX12_undo_19 (by decide) ?_
    refine j_isub h dX12_undo_20 ?_
    refine j_puti (c := 0) (j := 28) (ty := .int) h (by decide) rfl rfl ph_inX12 tyX12 tyX12_ok nmX12 rfl (by decide) tw_1227 rfl rfl (tyX12_ok 28 (by decide)) rfl rfl dX12_undo_21 ?_
    refine j_letM (fun M1 => ?_)
    refine j_sipush (v := (224 : Int32)) h dX12_undo_24 (by decide) ?_
    refine j_aload_n h dX12_undo_27 rfl 0 rfl ?_
    refine j_get (c := 0) (j := 28) (v := .int (M1.1 0 28)) h (by decide) rfl rfl ph_inX12 rfl (by decide) tw_1227 rfl rfl dX12_undo_28 ?_
    refine j_imul h dX12_undo_31 ?_
    refine j_istore_n h [(1, .int ((224 : Int32) * (M1.1 0 28))), (0, .ref (ad 0))] dX12_undo_32 rfl (by decide) rfl ?_
    refine j_letI (lvf := fun z2 => [(1, .int z2), (0, .ref (ad 0))]) (fun z2 => ?_)
    refine j_iconst (v := (0 : Int32)) h dX12_undo_33 (by decide) ?_
    refine j_istore_n h [(2, .int (0 : Int32)), (1, .int z2), (0, .ref (ad 0))] dX12_undo_34 rfl (by decide) rfl ?_
    refine j_sub [2, 1, 0] rfl ?_
    exact jb_f12_undo_l35 h fin 10000 z2 (0 : Int32) M1
  · refine j_aload_n h dX12_undo_7 rfl 0 rfl ?_
    refine j_bipush (v := (-3 : Int32)) h dX12_undo_8 (by decide) ?_
    refine j_callVi (n := 1) (As := [.int (-3 : Int32)]) (rest := []) h 0 tw_1369 tw_1371 tp_49 tw_14 tw_1372 ydf12_refuses (by decide) (by decide) (by decide) rfl rfl (fun q hq => cf12_refuses (ph_okZ h) (ph_okI h) hq) rfl (Nat.le_of_ble_eq_true rfl) rfl dX12_undo_10 (fun q3 => ?_)
    exact j_iret h rfl fin dX12_undo_13
theorem dX12_goodOr_0 : decode cX12_goodOr 0 = .ok (.iload_n 1, 1) := by decide +kernel
theorem dX12_goodOr_1 : decode cX12_goodOr 1 = .ok (.ifCond .ge 11, 3) := by decide +kernel
theorem dX12_goodOr_4 : decode cX12_goodOr 4 = .ok (.aload_n 0, 1) := by decide +kernel
theorem dX12_goodOr_5 : decode cX12_goodOr 5 = .ok (.iload_n 1, 1) := by decide +kernel
theorem dX12_goodOr_6 : decode cX12_goodOr 6 = .ok (.invokevirtual 112, 3) := by decide +kernel
theorem dX12_goodOr_9 : decode cX12_goodOr 9 = .ok (.goto 8, 3) := by decide +kernel
theorem dX12_goodOr_12 : decode cX12_goodOr 12 = .ok (.aload_n 0, 1) := by decide +kernel
theorem dX12_goodOr_13 : decode cX12_goodOr 13 = .ok (.iload_n 1, 1) := by decide +kernel
theorem dX12_goodOr_14 : decode cX12_goodOr 14 = .ok (.invokevirtual 14, 3) := by decide +kernel
theorem dX12_goodOr_17 : decode cX12_goodOr 17 = .ok (.ireturn, 1) := by decide +kernel
theorem ydf12_goodOr : ph_yd yX12_goodOr 1 := ⟨by decide, by decide, by decide +kernel⟩
def f12_goodOr (M : ph_Mem) (p0 : Int32) : Option (Int32 × ph_Mem) :=
  if 0 ≤ p0 then ((f12_good M p0).bind fun q1 => some (q1.1, q1.2)) else ((f12_refuses M p0).bind fun q2 => some (q2.1, q2.2))
set_option maxHeartbeats 4000000 in
theorem cf12_goodOr {Z : (Nat → Prop) → State → Prop} (hZ : ph_Zok Z) {l : Launch} {D : va_G} {cA : Nat → ClassId} {ad : Nat → Nat} (hinj : ∀ i j, i < ph_NM → j < ph_NM → ad i = ad j → i = j) {M : ph_Mem} {p0 : Int32} {r : Int32} {M' : ph_Mem} (hf : f12_goodOr M p0 = some (r, M')) : ph_C Z l 1 yX12_goodOr cX12_goodOr 2 (some .int) D cA ph_kdM ph_NM ad [.ref (ad 0), .int p0] M (some (.int r)) M' := by
  refine ph_mk hZ hinj (by decide) (Nat.le_of_ble_eq_true rfl) fun X h fin hE => ?_
  refine (?_ : ph_J X ph_kdM ph_NM ad ((r, M') : (Int32 × ph_Mem)) 0 [(0, .ref (ad 0)), (1, .int p0)] [] M (f12_goodOr M p0)) hf
  unfold f12_goodOr
  refine j_iload_n h dX12_goodOr_0 rfl 1 rfl ?_
  refine j_if_ge h 12 dX12_goodOr_1 (by decide) ?_ ?_
  · refine j_aload_n h dX12_goodOr_12 rfl 0 rfl ?_
    refine j_iload_n h dX12_goodOr_13 rfl 1 rfl ?_
    refine j_callVi (n := 1) (As := [.int p0]) (rest := []) h 0 tw_1373 tw_1375 tp_50 tw_14 tw_1376 ydf12_good (by decide) (by decide) (by decide) rfl rfl (fun q hq => cf12_good (ph_okZ h) (ph_okI h) hq) rfl (Nat.le_of_ble_eq_true rfl) rfl dX12_goodOr_14 (fun q1 => ?_)
    exact j_iret h rfl fin dX12_goodOr_17
  · refine j_aload_n h dX12_goodOr_4 rfl 0 rfl ?_
    refine j_iload_n h dX12_goodOr_5 rfl 1 rfl ?_
    refine j_callVi (n := 1) (As := [.int p0]) (rest := []) h 0 tw_1369 tw_1371 tp_49 tw_14 tw_1372 ydf12_refuses (by decide) (by decide) (by decide) rfl rfl (fun q hq => cf12_refuses (ph_okZ h) (ph_okI h) hq) rfl (Nat.le_of_ble_eq_true rfl) rfl dX12_goodOr_6 (fun q2 => ?_)
    refine j_goto h 17 dX12_goodOr_9 (by decide) ?_
    exact j_iret h rfl fin dX12_goodOr_17
theorem dX12_whyNot_0 : decode cX12_whyNot 0 = .ok (.iload_n 2, 1) := by decide +kernel
theorem dX12_whyNot_1 : decode cX12_whyNot 1 = .ok (.invokestatic 140, 3) := by decide +kernel
theorem dX12_whyNot_4 : decode cX12_whyNot 4 = .ok (.ifCond .ne 7, 3) := by decide +kernel
theorem dX12_whyNot_7 : decode cX12_whyNot 7 = .ok (.iconst (-1), 1) := by decide +kernel
theorem dX12_whyNot_8 : decode cX12_whyNot 8 = .ok (.goto 17, 3) := by decide +kernel
theorem dX12_whyNot_11 : decode cX12_whyNot 11 = .ok (.aload_n 0, 1) := by decide +kernel
theorem dX12_whyNot_12 : decode cX12_whyNot 12 = .ok (.iload_n 1, 1) := by decide +kernel
theorem dX12_whyNot_13 : decode cX12_whyNot 13 = .ok (.invokevirtual 146, 3) := by decide +kernel
theorem dX12_whyNot_16 : decode cX12_whyNot 16 = .ok (.ifCond .ne 8, 3) := by decide +kernel
theorem dX12_whyNot_19 : decode cX12_whyNot 19 = .ok (.bipush (-2), 2) := by decide +kernel
theorem dX12_whyNot_21 : decode cX12_whyNot 21 = .ok (.goto 4, 3) := by decide +kernel
theorem dX12_whyNot_24 : decode cX12_whyNot 24 = .ok (.iconst 0, 1) := by decide +kernel
theorem dX12_whyNot_25 : decode cX12_whyNot 25 = .ok (.ireturn, 1) := by decide +kernel
theorem ydf12_whyNot : ph_yd yX12_whyNot 2 := ⟨by decide, by decide, by decide +kernel⟩
def f12_whyNot (M : ph_Mem) (p0 : Int32) (p1 : Int32) : Option Int32 :=
  (f12_isHour M p1).bind fun q1 => if q1 = 0 then (some (-1 : Int32)) else ((f12_isPerson M p0).bind fun q2 => if q2 = 0 then (some (-2 : Int32)) else (some (0 : Int32)))
set_option maxHeartbeats 4000000 in
theorem cf12_whyNot {Z : (Nat → Prop) → State → Prop} (hZ : ph_Zok Z) {l : Launch} {D : va_G} {cA : Nat → ClassId} {ad : Nat → Nat} (hinj : ∀ i j, i < ph_NM → j < ph_NM → ad i = ad j → i = j) {M : ph_Mem} {p0 : Int32} {p1 : Int32} {r : Int32} (hf : f12_whyNot M p0 p1 = some r) : ph_C Z l 2 yX12_whyNot cX12_whyNot 3 (some .int) D cA ph_kdM ph_NM ad [.ref (ad 0), .int p0, .int p1] M (some (.int r)) M := by
  refine ph_mk hZ hinj (by decide) (Nat.le_of_ble_eq_true rfl) fun X h fin hE => ?_
  refine (?_ : ph_J X ph_kdM ph_NM ad (r : Int32) 0 [(0, .ref (ad 0)), (1, .int p0), (2, .int p1)] [] M (f12_whyNot M p0 p1)) hf
  unfold f12_whyNot
  refine j_iload_n h dX12_whyNot_0 rfl 2 rfl ?_
  refine j_callSiP (n := 1) (As := [.int p1]) (rest := []) h tw_1400 tw_1401 tw_14 tw_1402 ydf12_isHour (by decide) (by decide) (fun q hq => cf12_isHour (ph_okZ h) (ph_okI h) hq) rfl (Nat.le_of_ble_eq_true rfl) rfl dX12_whyNot_1 (fun q1 => ?_)
  refine j_if_ne h 11 dX12_whyNot_4 (by decide) ?_ ?_
  · refine j_aload_n h dX12_whyNot_11 rfl 0 rfl ?_
    refine j_iload_n h dX12_whyNot_12 rfl 1 rfl ?_
    refine j_callViP (n := 1) (As := [.int p0]) (rest := []) h 0 tw_1418 tw_1420 tp_56 tw_14 tw_1421 ydf12_isPerson (by decide) (by decide) (by decide) rfl rfl (fun q hq => cf12_isPerson (ph_okZ h) (ph_okI h) hq) rfl (Nat.le_of_ble_eq_true rfl) rfl dX12_whyNot_13 (fun q2 => ?_)
    refine j_if_ne h 24 dX12_whyNot_16 (by decide) ?_ ?_
    · refine j_iconst (v := (0 : Int32)) h dX12_whyNot_24 (by decide) ?_
      exact j_iretP h rfl fin dX12_whyNot_25
    · refine j_bipush (v := (-2 : Int32)) h dX12_whyNot_19 (by decide) ?_
      refine j_goto h 25 dX12_whyNot_21 (by decide) ?_
      exact j_iretP h rfl fin dX12_whyNot_25
  · refine j_iconst (v := (-1 : Int32)) h dX12_whyNot_7 (by decide) ?_
    refine j_goto h 25 dX12_whyNot_8 (by decide) ?_
    exact j_iretP h rfl fin dX12_whyNot_25
theorem dX12_canPawn_0 : decode cX12_canPawn 0 = .ok (.aload_n 0, 1) := by decide +kernel
theorem dX12_canPawn_1 : decode cX12_canPawn 1 = .ok (.iload_n 1, 1) := by decide +kernel
theorem dX12_canPawn_2 : decode cX12_canPawn 2 = .ok (.iload_n 2, 1) := by decide +kernel
theorem dX12_canPawn_3 : decode cX12_canPawn 3 = .ok (.invokevirtual 332, 3) := by decide +kernel
theorem dX12_canPawn_6 : decode cX12_canPawn 6 = .ok (.ifCond .eq 16, 3) := by decide +kernel
theorem dX12_canPawn_9 : decode cX12_canPawn 9 = .ok (.aload_n 0, 1) := by decide +kernel
theorem dX12_canPawn_10 : decode cX12_canPawn 10 = .ok (.iload_n 1, 1) := by decide +kernel
theorem dX12_canPawn_11 : decode cX12_canPawn 11 = .ok (.iload_n 2, 1) := by decide +kernel
theorem dX12_canPawn_12 : decode cX12_canPawn 12 = .ok (.invokevirtual 155, 3) := by decide +kernel
theorem dX12_canPawn_15 : decode cX12_canPawn 15 = .ok (.ifCond .ne 7, 3) := by decide +kernel
theorem dX12_canPawn_18 : decode cX12_canPawn 18 = .ok (.iconst 1, 1) := by decide +kernel
theorem dX12_canPawn_19 : decode cX12_canPawn 19 = .ok (.goto 4, 3) := by decide +kernel
theorem dX12_canPawn_22 : decode cX12_canPawn 22 = .ok (.iconst 0, 1) := by decide +kernel
theorem dX12_canPawn_23 : decode cX12_canPawn 23 = .ok (.ireturn, 1) := by decide +kernel
theorem ydf12_canPawn : ph_yd yX12_canPawn 2 := ⟨by decide, by decide, by decide +kernel⟩
def f12_canPawn (M : ph_Mem) (p0 : Int32) (p1 : Int32) : Option (Int32 × ph_Mem) :=
  (f12_holds M p0 p1).bind fun q1 => if q1 = 0 then (some ((0 : Int32), M)) else ((f12_isBarred M p0 p1).bind fun q2 => if q2.1 = 0 then (some ((1 : Int32), q2.2)) else (some ((0 : Int32), q2.2)))
set_option maxHeartbeats 4000000 in
theorem cf12_canPawn {Z : (Nat → Prop) → State → Prop} (hZ : ph_Zok Z) {l : Launch} {D : va_G} {cA : Nat → ClassId} {ad : Nat → Nat} (hinj : ∀ i j, i < ph_NM → j < ph_NM → ad i = ad j → i = j) {M : ph_Mem} {p0 : Int32} {p1 : Int32} {r : Int32} {M' : ph_Mem} (hf : f12_canPawn M p0 p1 = some (r, M')) : ph_C Z l 145 yX12_canPawn cX12_canPawn 3 (some .boolean) D cA ph_kdM ph_NM ad [.ref (ad 0), .int p0, .int p1] M (some (.int r)) M' := by
  refine ph_mk hZ hinj (by decide) (Nat.le_of_ble_eq_true rfl) fun X h fin hE => ?_
  refine (?_ : ph_J X ph_kdM ph_NM ad ((r, M') : (Int32 × ph_Mem)) 0 [(0, .ref (ad 0)), (1, .int p0), (2, .int p1)] [] M (f12_canPawn M p0 p1)) hf
  unfold f12_canPawn
  refine j_aload_n h dX12_canPawn_0 rfl 0 rfl ?_
  refine j_iload_n h dX12_canPawn_1 rfl 1 rfl ?_
  refine j_iload_n h dX12_canPawn_2 rfl 2 rfl ?_
  refine j_callViP (n := 2) (As := [.int p0, .int p1]) (rest := []) h 0 tw_1665 tw_1667 tp_98 tw_14 tw_1668 ydf12_holds (by decide) (by decide) (by decide) rfl rfl (fun q hq => cf12_holds (ph_okZ h) (ph_okI h) hq) rfl (Nat.le_of_ble_eq_true rfl) rfl dX12_canPawn_3 (fun q1 => ?_)
  refine j_if_eq h 22 dX12_canPawn_6 (by decide) ?_ ?_
  · refine j_iconst (v := (0 : Int32)) h dX12_canPawn_22 (by decide) ?_
    exact j_zretC h rfl (by decide) fin dX12_canPawn_23
  · refine j_aload_n h dX12_canPawn_9 rfl 0 rfl ?_
    refine j_iload_n h dX12_canPawn_10 rfl 1 rfl ?_
    refine j_iload_n h dX12_canPawn_11 rfl 2 rfl ?_
    refine j_callVi (n := 2) (As := [.int p0, .int p1]) (rest := []) h 0 tw_1503 tw_1505 tp_74 tw_14 tw_1506 ydf12_isBarred (by decide) (by decide) (by decide) rfl rfl (fun q hq => cf12_isBarred (ph_okZ h) (ph_okI h) hq) rfl (Nat.le_of_ble_eq_true rfl) rfl dX12_canPawn_12 (fun q2 => ?_)
    refine j_if_ne h 22 dX12_canPawn_15 (by decide) ?_ ?_
    · refine j_iconst (v := (0 : Int32)) h dX12_canPawn_22 (by decide) ?_
      exact j_zretC h rfl (by decide) fin dX12_canPawn_23
    · refine j_iconst (v := (1 : Int32)) h dX12_canPawn_18 (by decide) ?_
      refine j_goto h 23 dX12_canPawn_19 (by decide) ?_
      exact j_zretC h rfl (by decide) fin dX12_canPawn_23
