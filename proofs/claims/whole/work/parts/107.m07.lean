theorem dX12_pawns_0 : decode cX12_pawns 0 = .ok (.iload_n 1, 1) := by decide +kernel
theorem dX12_pawns_1 : decode cX12_pawns 1 = .ok (.iload_n 2, 1) := by decide +kernel
theorem dX12_pawns_2 : decode cX12_pawns 2 = .ok (.invokestatic 122, 3) := by decide +kernel
theorem dX12_pawns_5 : decode cX12_pawns 5 = .ok (.istore_n 3, 1) := by decide +kernel
theorem dX12_pawns_6 : decode cX12_pawns 6 = .ok (.aload_n 0, 1) := by decide +kernel
theorem dX12_pawns_7 : decode cX12_pawns 7 = .ok (.iload_n 1, 1) := by decide +kernel
theorem dX12_pawns_8 : decode cX12_pawns 8 = .ok (.iload_n 2, 1) := by decide +kernel
theorem dX12_pawns_9 : decode cX12_pawns 9 = .ok (.invokevirtual 149, 3) := by decide +kernel
theorem dX12_pawns_12 : decode cX12_pawns 12 = .ok (.istore 4, 2) := by decide +kernel
theorem dX12_pawns_14 : decode cX12_pawns 14 = .ok (.aload_n 0, 1) := by decide +kernel
theorem dX12_pawns_15 : decode cX12_pawns 15 = .ok (.getfield 24, 3) := by decide +kernel
theorem dX12_pawns_18 : decode cX12_pawns 18 = .ok (.iconst 0, 1) := by decide +kernel
theorem dX12_pawns_19 : decode cX12_pawns 19 = .ok (.iload_n 3, 1) := by decide +kernel
theorem dX12_pawns_20 : decode cX12_pawns 20 = .ok (.iadd, 1) := by decide +kernel
theorem dX12_pawns_21 : decode cX12_pawns 21 = .ok (.iconst 1, 1) := by decide +kernel
theorem dX12_pawns_22 : decode cX12_pawns 22 = .ok (.iastore, 1) := by decide +kernel
theorem dX12_pawns_23 : decode cX12_pawns 23 = .ok (.aload_n 0, 1) := by decide +kernel
theorem dX12_pawns_24 : decode cX12_pawns 24 = .ok (.getfield 24, 3) := by decide +kernel
theorem dX12_pawns_27 : decode cX12_pawns 27 = .ok (.bipush 72, 2) := by decide +kernel
theorem dX12_pawns_29 : decode cX12_pawns 29 = .ok (.iload_n 3, 1) := by decide +kernel
theorem dX12_pawns_30 : decode cX12_pawns 30 = .ok (.iadd, 1) := by decide +kernel
theorem dX12_pawns_31 : decode cX12_pawns 31 = .ok (.iload 4, 2) := by decide +kernel
theorem dX12_pawns_33 : decode cX12_pawns 33 = .ok (.iastore, 1) := by decide +kernel
theorem dX12_pawns_34 : decode cX12_pawns 34 = .ok (.aload_n 0, 1) := by decide +kernel
theorem dX12_pawns_35 : decode cX12_pawns 35 = .ok (.getfield 24, 3) := by decide +kernel
theorem dX12_pawns_38 : decode cX12_pawns 38 = .ok (.sipush 144, 3) := by decide +kernel
theorem dX12_pawns_41 : decode cX12_pawns 41 = .ok (.iload_n 3, 1) := by decide +kernel
theorem dX12_pawns_42 : decode cX12_pawns 42 = .ok (.iadd, 1) := by decide +kernel
theorem dX12_pawns_43 : decode cX12_pawns 43 = .ok (.aload_n 0, 1) := by decide +kernel
theorem dX12_pawns_44 : decode cX12_pawns 44 = .ok (.getfield 24, 3) := by decide +kernel
theorem dX12_pawns_47 : decode cX12_pawns 47 = .ok (.sipush 222, 3) := by decide +kernel
theorem dX12_pawns_50 : decode cX12_pawns 50 = .ok (.iaload, 1) := by decide +kernel
theorem dX12_pawns_51 : decode cX12_pawns 51 = .ok (.iastore, 1) := by decide +kernel
theorem dX12_pawns_52 : decode cX12_pawns 52 = .ok (.aload_n 0, 1) := by decide +kernel
theorem dX12_pawns_53 : decode cX12_pawns 53 = .ok (.getfield 24, 3) := by decide +kernel
theorem dX12_pawns_56 : decode cX12_pawns 56 = .ok (.sipush 216, 3) := by decide +kernel
theorem dX12_pawns_59 : decode cX12_pawns 59 = .ok (.iload_n 1, 1) := by decide +kernel
theorem dX12_pawns_60 : decode cX12_pawns 60 = .ok (.iadd, 1) := by decide +kernel
theorem dX12_pawns_61 : decode cX12_pawns 61 = .ok (.ldc 158, 2) := by decide +kernel
theorem dX12_pawns_63 : decode cX12_pawns 63 = .ok (.aload_n 0, 1) := by decide +kernel
theorem dX12_pawns_64 : decode cX12_pawns 64 = .ok (.getfield 24, 3) := by decide +kernel
theorem dX12_pawns_67 : decode cX12_pawns 67 = .ok (.sipush 216, 3) := by decide +kernel
theorem dX12_pawns_70 : decode cX12_pawns 70 = .ok (.iload_n 1, 1) := by decide +kernel
theorem dX12_pawns_71 : decode cX12_pawns 71 = .ok (.iadd, 1) := by decide +kernel
theorem dX12_pawns_72 : decode cX12_pawns 72 = .ok (.iaload, 1) := by decide +kernel
theorem dX12_pawns_73 : decode cX12_pawns 73 = .ok (.iload 4, 2) := by decide +kernel
theorem dX12_pawns_75 : decode cX12_pawns 75 = .ok (.iadd, 1) := by decide +kernel
theorem dX12_pawns_76 : decode cX12_pawns 76 = .ok (.invokestatic 335, 3) := by decide +kernel
theorem dX12_pawns_79 : decode cX12_pawns 79 = .ok (.iastore, 1) := by decide +kernel
theorem dX12_pawns_80 : decode cX12_pawns 80 = .ok (.iload 4, 2) := by decide +kernel
theorem dX12_pawns_82 : decode cX12_pawns 82 = .ok (.ireturn, 1) := by decide +kernel
theorem ydf12_pawns : ph_yd yX12_pawns 2 := ⟨by decide, by decide, by decide +kernel⟩
def f12_pawns (M : ph_Mem) (p0 : Int32) (p1 : Int32) : Option (Int32 × ph_Mem) :=
  (f12_placeOf M p0 p1).bind fun q1 => (f12_lendsFor M p0 p1).bind fun q2 => cond (ph_ib ((0 : Int32) + q1) 6085) (ph_let (ph_wi q2.2 2 ((0 : Int32) + q1).toNatClampNeg (1 : Int32)) fun M3 => cond (ph_ib ((72 : Int32) + q1) 6085) (ph_let (ph_wi M3 2 ((72 : Int32) + q1).toNatClampNeg q2.1) fun M4 => cond (ph_ib ((144 : Int32) + q1) 6085) (ph_let (ph_wi M4 2 ((144 : Int32) + q1).toNatClampNeg (M4.1 2 222)) fun M5 => cond (ph_ib ((216 : Int32) + p0) 6085) ((f12_lesser M5 (99999 : Int32) ((M5.1 2 ((216 : Int32) + p0).toNatClampNeg) + q2.1)).bind fun q6 => cond (ph_ib ((216 : Int32) + p0) 6085) (ph_let (ph_wi M5 2 ((216 : Int32) + p0).toNatClampNeg q6) fun M7 => some (q2.1, M7)) none) none) none) none) none
set_option maxHeartbeats 4000000 in
theorem cf12_pawns {Z : (Nat → Prop) → State → Prop} (hZ : ph_Zok Z) {l : Launch} {D : va_G} {cA : Nat → ClassId} {ad : Nat → Nat} (hinj : ∀ i j, i < ph_NM → j < ph_NM → ad i = ad j → i = j) {M : ph_Mem} {p0 : Int32} {p1 : Int32} {r : Int32} {M' : ph_Mem} (hf : f12_pawns M p0 p1 = some (r, M')) : ph_C Z l 145 yX12_pawns cX12_pawns 5 (some .int) D cA ph_kdM ph_NM ad [.ref (ad 0), .int p0, .int p1] M (some (.int r)) M' := by
  refine ph_mk hZ hinj (by decide) (Nat.le_of_ble_eq_true rfl) fun X h fin hE => ?_
  refine (?_ : ph_J X ph_kdM ph_NM ad ((r, M') : (Int32 × ph_Mem)) 0 [(0, .ref (ad 0)), (1, .int p0), (2, .int p1)] [] M (f12_pawns M p0 p1)) hf
  unfold f12_pawns
  refine j_iload_n h dX12_pawns_0 rfl 1 rfl ?_
  refine j_iload_n h dX12_pawns_1 rfl 2 rfl ?_
  refine j_callSiP (n := 2) (As := [.int p0, .int p1]) (rest := []) h tw_1393 tw_1394 tw_14 tw_1395 ydf12_placeOf (by decide) (by decide) (fun q hq => cf12_placeOf (ph_okZ h) (ph_okI h) hq) rfl (Nat.le_of_ble_eq_true rfl) rfl dX12_pawns_2 (fun q1 => ?_)
  refine j_istore_n h [(3, .int q1), (0, .ref (ad 0)), (1, .int p0), (2, .int p1)] dX12_pawns_5 rfl (by decide) rfl ?_
  refine j_aload_n h dX12_pawns_6 rfl 1 rfl ?_
  refine j_iload_n h dX12_pawns_7 rfl 2 rfl ?_
  refine j_iload_n h dX12_pawns_8 rfl 3 rfl ?_
  refine j_callVi (n := 2) (As := [.int p0, .int p1]) (rest := []) h 0 tw_1430 tw_1432 tp_58 tw_14 tw_1433 ydf12_lendsFor (by decide) (by decide) (by decide) rfl rfl (fun q hq => cf12_lendsFor (ph_okZ h) (ph_okI h) hq) rfl (Nat.le_of_ble_eq_true rfl) rfl dX12_pawns_9 (fun q2 => ?_)
  refine j_istore h [(4, .int q2.1), (3, .int q1), (0, .ref (ad 0)), (1, .int p0), (2, .int p1)] dX12_pawns_12 (by decide) rfl ?_
  refine j_aload_n h dX12_pawns_14 rfl 2 rfl ?_
  refine j_get (c := 0) (j := 2) (v := .ref (ad 2)) h (by decide) rfl rfl ph_inX12 rfl (by decide) tw_1201 rfl rfl dX12_pawns_15 ?_
  refine j_iconst (v := (0 : Int32)) h dX12_pawns_18 (by decide) ?_
  refine j_iload_n h dX12_pawns_19 rfl 1 rfl ?_
  refine j_iadd h dX12_pawns_20 ?_
  refine j_iconst (v := (1 : Int32)) h dX12_pawns_21 (by decide) ?_
  refine j_iast (c := 2) (n := 6085) h (by decide) rfl dX12_pawns_22 ?_
  refine j_letM (fun M3 => ?_)
  refine j_aload_n h dX12_pawns_23 rfl 2 rfl ?_
  refine j_get (c := 0) (j := 2) (v := .ref (ad 2)) h (by decide) rfl rfl ph_inX12 rfl (by decide) tw_1201 rfl rfl dX12_pawns_24 ?_
  refine j_bipush (v := (72 : Int32)) h dX12_pawns_27 (by decide) ?_
  refine j_iload_n h dX12_pawns_29 rfl 1 rfl ?_
  refine j_iadd h dX12_pawns_30 ?_
  refine j_iload h dX12_pawns_31 0 rfl ?_
  refine j_iast (c := 2) (n := 6085) h (by decide) rfl dX12_pawns_33 ?_
  refine j_letM (fun M4 => ?_)
  refine j_aload_n h dX12_pawns_34 rfl 2 rfl ?_
  refine j_get (c := 0) (j := 2) (v := .ref (ad 2)) h (by decide) rfl rfl ph_inX12 rfl (by decide) tw_1201 rfl rfl dX12_pawns_35 ?_
  refine j_sipush (v := (144 : Int32)) h dX12_pawns_38 (by decide) ?_
  refine j_iload_n h dX12_pawns_41 rfl 1 rfl ?_
  refine j_iadd h dX12_pawns_42 ?_
  refine j_aload_n h dX12_pawns_43 rfl 2 rfl ?_
  refine j_get (c := 0) (j := 2) (v := .ref (ad 2)) h (by decide) rfl rfl ph_inX12 rfl (by decide) tw_1201 rfl rfl dX12_pawns_44 ?_
  refine j_sipush (v := (222 : Int32)) h dX12_pawns_47 (by decide) ?_
  refine j_ialdK (c := 2) (n := 6085) (kn := 222) h (by decide) rfl rfl (by decide) dX12_pawns_50 ?_
  refine j_iast (c := 2) (n := 6085) h (by decide) rfl dX12_pawns_51 ?_
  refine j_letM (fun M5 => ?_)
  refine j_aload_n h dX12_pawns_52 rfl 2 rfl ?_
  refine j_get (c := 0) (j := 2) (v := .ref (ad 2)) h (by decide) rfl rfl ph_inX12 rfl (by decide) tw_1201 rfl rfl dX12_pawns_53 ?_
  refine j_sipush (v := (216 : Int32)) h dX12_pawns_56 (by decide) ?_
  refine j_iload_n h dX12_pawns_59 rfl 3 rfl ?_
  refine j_iadd h dX12_pawns_60 ?_
  refine j_ldc (v := (99999 : Int32)) h dX12_pawns_61 tw_1511 ?_
  refine j_aload_n h dX12_pawns_63 rfl 2 rfl ?_
  refine j_get (c := 0) (j := 2) (v := .ref (ad 2)) h (by decide) rfl rfl ph_inX12 rfl (by decide) tw_1201 rfl rfl dX12_pawns_64 ?_
  refine j_sipush (v := (216 : Int32)) h dX12_pawns_67 (by decide) ?_
  refine j_iload_n h dX12_pawns_70 rfl 3 rfl ?_
  refine j_iadd h dX12_pawns_71 ?_
  refine j_iald (c := 2) (n := 6085) h (by decide) rfl dX12_pawns_72 ?_
  refine j_iload h dX12_pawns_73 0 rfl ?_
  refine j_iadd h dX12_pawns_75 ?_
  refine j_callSiP (n := 2) (As := [.int (99999 : Int32), .int ((M5.1 2 ((216 : Int32) + p0).toNatClampNeg) + q2.1)]) (rest := [.int ((216 : Int32) + p0), .ref (ad 2)]) h tw_1677 tw_1678 tw_14 tw_1679 ydf12_lesser (by decide) (by decide) (fun q hq => cf12_lesser (ph_okZ h) (ph_okI h) hq) rfl (Nat.le_of_ble_eq_true rfl) rfl dX12_pawns_76 (fun q6 => ?_)
  refine j_iast (c := 2) (n := 6085) h (by decide) rfl dX12_pawns_79 ?_
  refine j_letM (fun M7 => ?_)
  refine j_iload h dX12_pawns_80 0 rfl ?_
  exact j_iret h rfl fin dX12_pawns_82
theorem dX12_canRedeem_0 : decode cX12_canRedeem 0 = .ok (.aload_n 0, 1) := by decide +kernel
theorem dX12_canRedeem_1 : decode cX12_canRedeem 1 = .ok (.iload_n 1, 1) := by decide +kernel
theorem dX12_canRedeem_2 : decode cX12_canRedeem 2 = .ok (.iload_n 2, 1) := by decide +kernel
theorem dX12_canRedeem_3 : decode cX12_canRedeem 3 = .ok (.invokevirtual 126, 3) := by decide +kernel
theorem dX12_canRedeem_6 : decode cX12_canRedeem 6 = .ok (.iconst 1, 1) := by decide +kernel
theorem dX12_canRedeem_7 : decode cX12_canRedeem 7 = .ok (.if_icmp .ne 26, 3) := by decide +kernel
theorem dX12_canRedeem_10 : decode cX12_canRedeem 10 = .ok (.aload_n 0, 1) := by decide +kernel
theorem dX12_canRedeem_11 : decode cX12_canRedeem 11 = .ok (.getfield 24, 3) := by decide +kernel
theorem dX12_canRedeem_14 : decode cX12_canRedeem 14 = .ok (.sipush 216, 3) := by decide +kernel
theorem dX12_canRedeem_17 : decode cX12_canRedeem 17 = .ok (.iload_n 1, 1) := by decide +kernel
theorem dX12_canRedeem_18 : decode cX12_canRedeem 18 = .ok (.iadd, 1) := by decide +kernel
theorem dX12_canRedeem_19 : decode cX12_canRedeem 19 = .ok (.iaload, 1) := by decide +kernel
theorem dX12_canRedeem_20 : decode cX12_canRedeem 20 = .ok (.aload_n 0, 1) := by decide +kernel
theorem dX12_canRedeem_21 : decode cX12_canRedeem 21 = .ok (.iload_n 1, 1) := by decide +kernel
theorem dX12_canRedeem_22 : decode cX12_canRedeem 22 = .ok (.iload_n 2, 1) := by decide +kernel
theorem dX12_canRedeem_23 : decode cX12_canRedeem 23 = .ok (.invokevirtual 152, 3) := by decide +kernel
theorem dX12_canRedeem_26 : decode cX12_canRedeem 26 = .ok (.if_icmp .lt 7, 3) := by decide +kernel
theorem dX12_canRedeem_29 : decode cX12_canRedeem 29 = .ok (.iconst 1, 1) := by decide +kernel
theorem dX12_canRedeem_30 : decode cX12_canRedeem 30 = .ok (.goto 4, 3) := by decide +kernel
theorem dX12_canRedeem_33 : decode cX12_canRedeem 33 = .ok (.iconst 0, 1) := by decide +kernel
theorem dX12_canRedeem_34 : decode cX12_canRedeem 34 = .ok (.ireturn, 1) := by decide +kernel
theorem ydf12_canRedeem : ph_yd yX12_canRedeem 2 := ⟨by decide, by decide, by decide +kernel⟩
def f12_canRedeem (M : ph_Mem) (p0 : Int32) (p1 : Int32) : Option (Int32 × ph_Mem) :=
  (f12_stateOf M p0 p1).bind fun q1 => if q1 = (1 : Int32) then (cond (ph_ib ((216 : Int32) + p0) 6085) ((f12_costsFor M p0 p1).bind fun q2 => if (M.1 2 ((216 : Int32) + p0).toNatClampNeg) < q2.1 then (some ((0 : Int32), q2.2)) else (some ((1 : Int32), q2.2))) none) else (some ((0 : Int32), M))
set_option maxHeartbeats 4000000 in
theorem cf12_canRedeem {Z : (Nat → Prop) → State → Prop} (hZ : ph_Zok Z) {l : Launch} {D : va_G} {cA : Nat → ClassId} {ad : Nat → Nat} (hinj : ∀ i j, i < ph_NM → j < ph_NM → ad i = ad j → i = j) {M : ph_Mem} {p0 : Int32} {p1 : Int32} {r : Int32} {M' : ph_Mem} (hf : f12_canRedeem M p0 p1 = some (r, M')) : ph_C Z l 145 yX12_canRedeem cX12_canRedeem 3 (some .boolean) D cA ph_kdM ph_NM ad [.ref (ad 0), .int p0, .int p1] M (some (.int r)) M' := by
  refine ph_mk hZ hinj (by decide) (Nat.le_of_ble_eq_true rfl) fun X h fin hE => ?_
  refine (?_ : ph_J X ph_kdM ph_NM ad ((r, M') : (Int32 × ph_Mem)) 0 [(0, .ref (ad 0)), (1, .int p0), (2, .int p1)] [] M (f12_canRedeem M p0 p1)) hf
  unfold f12_canRedeem
  refine j_aload_n h dX12_canRedeem_0 rfl 0 rfl ?_
  refine j_iload_n h dX12_canRedeem_1 rfl 1 rfl ?_
  refine j_iload_n h dX12_canRedeem_2 rfl 2 rfl ?_
  refine j_callViP (n := 2) (As := [.int p0, .int p1]) (rest := []) h 0 tw_1426 tw_1428 tp_57 tw_14 tw_1429 ydf12_stateOf (by decide) (by decide) (by decide) rfl rfl (fun q hq => cf12_stateOf (ph_okZ h) (ph_okI h) hq) rfl (Nat.le_of_ble_eq_true rfl) rfl dX12_canRedeem_3 (fun q1 => ?_)
  refine j_iconst (v := (1 : Int32)) h dX12_canRedeem_6 (by decide) ?_
  refine j_icmp_ne h 33 dX12_canRedeem_7 (by decide) ?_ ?_
  · refine j_iconst (v := (0 : Int32)) h dX12_canRedeem_33 (by decide) ?_
    exact j_zretC h rfl (by decide) fin dX12_canRedeem_34
  · refine j_aload_n h dX12_canRedeem_10 rfl 0 rfl ?_
    refine j_get (c := 0) (j := 2) (v := .ref (ad 2)) h (by decide) rfl rfl ph_inX12 rfl (by decide) tw_1201 rfl rfl dX12_canRedeem_11 ?_
    refine j_sipush (v := (216 : Int32)) h dX12_canRedeem_14 (by decide) ?_
    refine j_iload_n h dX12_canRedeem_17 rfl 1 rfl ?_
    refine j_iadd h dX12_canRedeem_18 ?_
    refine j_iald (c := 2) (n := 6085) h (by decide) rfl dX12_canRedeem_19 ?_
    refine j_aload_n h dX12_canRedeem_20 rfl 0 rfl ?_
    refine j_iload_n h dX12_canRedeem_21 rfl 1 rfl ?_
    refine j_iload_n h dX12_canRedeem_22 rfl 2 rfl ?_
    refine j_callVi (n := 2) (As := [.int p0, .int p1]) (rest := [.int (M.1 2 ((216 : Int32) + p0).toNatClampNeg)]) h 0 tw_1499 tw_1501 tp_73 tw_14 tw_1502 ydf12_costsFor (by decide) (by decide) (by decide) rfl rfl (fun q hq => cf12_costsFor (ph_okZ h) (ph_okI h) hq) rfl (Nat.le_of_ble_eq_true rfl) rfl dX12_canRedeem_23 (fun q2 => ?_)
    refine j_icmp_lt h 33 dX12_canRedeem_26 (by decide) ?_ ?_
    · refine j_iconst (v := (0 : Int32)) h dX12_canRedeem_33 (by decide) ?_
      exact j_zretC h rfl (by decide) fin dX12_canRedeem_34
    · refine j_iconst (v := (1 : Int32)) h dX12_canRedeem_29 (by decide) ?_
      refine j_goto h 34 dX12_canRedeem_30 (by decide) ?_
      exact j_zretC h rfl (by decide) fin dX12_canRedeem_34
theorem dX12_redeems_0 : decode cX12_redeems 0 = .ok (.aload_n 0, 1) := by decide +kernel
theorem dX12_redeems_1 : decode cX12_redeems 1 = .ok (.iload_n 1, 1) := by decide +kernel
theorem dX12_redeems_2 : decode cX12_redeems 2 = .ok (.iload_n 2, 1) := by decide +kernel
theorem dX12_redeems_3 : decode cX12_redeems 3 = .ok (.invokevirtual 152, 3) := by decide +kernel
theorem dX12_redeems_6 : decode cX12_redeems 6 = .ok (.istore_n 3, 1) := by decide +kernel
theorem dX12_redeems_7 : decode cX12_redeems 7 = .ok (.aload_n 0, 1) := by decide +kernel
theorem dX12_redeems_8 : decode cX12_redeems 8 = .ok (.getfield 24, 3) := by decide +kernel
theorem dX12_redeems_11 : decode cX12_redeems 11 = .ok (.sipush 216, 3) := by decide +kernel
theorem dX12_redeems_14 : decode cX12_redeems 14 = .ok (.iload_n 1, 1) := by decide +kernel
theorem dX12_redeems_15 : decode cX12_redeems 15 = .ok (.iadd, 1) := by decide +kernel
theorem dX12_redeems_16 : decode cX12_redeems 16 = .ok (.dup2, 1) := by decide +kernel
theorem dX12_redeems_17 : decode cX12_redeems 17 = .ok (.iaload, 1) := by decide +kernel
theorem dX12_redeems_18 : decode cX12_redeems 18 = .ok (.iload_n 3, 1) := by decide +kernel
theorem dX12_redeems_19 : decode cX12_redeems 19 = .ok (.isub, 1) := by decide +kernel
theorem dX12_redeems_20 : decode cX12_redeems 20 = .ok (.iastore, 1) := by decide +kernel
theorem dX12_redeems_21 : decode cX12_redeems 21 = .ok (.aload_n 0, 1) := by decide +kernel
theorem dX12_redeems_22 : decode cX12_redeems 22 = .ok (.getfield 24, 3) := by decide +kernel
theorem dX12_redeems_25 : decode cX12_redeems 25 = .ok (.iconst 0, 1) := by decide +kernel
theorem dX12_redeems_26 : decode cX12_redeems 26 = .ok (.iload_n 1, 1) := by decide +kernel
theorem dX12_redeems_27 : decode cX12_redeems 27 = .ok (.iload_n 2, 1) := by decide +kernel
theorem dX12_redeems_28 : decode cX12_redeems 28 = .ok (.invokestatic 122, 3) := by decide +kernel
theorem dX12_redeems_31 : decode cX12_redeems 31 = .ok (.iadd, 1) := by decide +kernel
theorem dX12_redeems_32 : decode cX12_redeems 32 = .ok (.iconst 0, 1) := by decide +kernel
theorem dX12_redeems_33 : decode cX12_redeems 33 = .ok (.iastore, 1) := by decide +kernel
theorem dX12_redeems_34 : decode cX12_redeems 34 = .ok (.iload_n 3, 1) := by decide +kernel
theorem dX12_redeems_35 : decode cX12_redeems 35 = .ok (.ireturn, 1) := by decide +kernel
theorem ydf12_redeems : ph_yd yX12_redeems 2 := ⟨by decide, by decide, by decide +kernel⟩
def f12_redeems (M : ph_Mem) (p0 : Int32) (p1 : Int32) : Option (Int32 × ph_Mem) :=
  (f12_costsFor M p0 p1).bind fun q1 => cond (ph_ib ((216 : Int32) + p0) 6085) (cond (ph_ib ((216 : Int32) + p0) 6085) (ph_let (ph_wi q1.2 2 ((216 : Int32) + p0).toNatClampNeg ((q1.2.1 2 ((216 : Int32) + p0).toNatClampNeg) - q1.1)) fun M2 => (f12_placeOf M2 p0 p1).bind fun q3 => cond (ph_ib ((0 : Int32) + q3) 6085) (ph_let (ph_wi M2 2 ((0 : Int32) + q3).toNatClampNeg (0 : Int32)) fun M4 => some (q1.1, M4)) none) none) none
set_option maxHeartbeats 4000000 in
theorem cf12_redeems {Z : (Nat → Prop) → State → Prop} (hZ : ph_Zok Z) {l : Launch} {D : va_G} {cA : Nat → ClassId} {ad : Nat → Nat} (hinj : ∀ i j, i < ph_NM → j < ph_NM → ad i = ad j → i = j) {M : ph_Mem} {p0 : Int32} {p1 : Int32} {r : Int32} {M' : ph_Mem} (hf : f12_redeems M p0 p1 = some (r, M')) : ph_C Z l 145 yX12_redeems cX12_redeems 4 (some .int) D cA ph_kdM ph_NM ad [.ref (ad 0), .int p0, .int p1] M (some (.int r)) M' := by
  refine ph_mk hZ hinj (by decide) (Nat.le_of_ble_eq_true rfl) fun X h fin hE => ?_
  refine (?_ : ph_J X ph_kdM ph_NM ad ((r, M') : (Int32 × ph_Mem)) 0 [(0, .ref (ad 0)), (1, .int p0), (2, .int p1)] [] M (f12_redeems M p0 p1)) hf
  unfold f12_redeems
  refine j_aload_n h dX12_redeems_0 rfl 0 rfl ?_
  refine j_iload_n h dX12_redeems_1 rfl 1 rfl ?_
  refine j_iload_n h dX12_redeems_2 rfl 2 rfl ?_
  refine j_callVi (n := 2) (As := [.int p0, .int p1]) (rest := []) h 0 tw_1499 tw_1501 tp_73 tw_14 tw_1502 ydf12_costsFor (by decide) (by decide) (by decide) rfl rfl (fun q hq => cf12_costsFor (ph_okZ h) (ph_okI h) hq) rfl (Nat.le_of_ble_eq_true rfl) rfl dX12_redeems_3 (fun q1 => ?_)
  refine j_istore_n h [(3, .int q1.1), (0, .ref (ad 0)), (1, .int p0), (2, .int p1)] dX12_redeems_6 rfl (by decide) rfl ?_
  refine j_aload_n h dX12_redeems_7 rfl 1 rfl ?_
  refine j_get (c := 0) (j := 2) (v := .ref (ad 2)) h (by decide) rfl rfl ph_inX12 rfl (by decide) tw_1201 rfl rfl dX12_redeems_8 ?_
  refine j_sipush (v := (216 : Int32)) h dX12_redeems_11 (by decide) ?_
  refine j_iload_n h dX12_redeems_14 rfl 2 rfl ?_
  refine j_iadd h dX12_redeems_15 ?_
  refine j_dup2 h dX12_redeems_16 rfl rfl ?_
  refine j_iald (c := 2) (n := 6085) h (by decide) rfl dX12_redeems_17 ?_
  refine j_iload_n h dX12_redeems_18 rfl 0 rfl ?_
  refine j_isub h dX12_redeems_19 ?_
  refine j_iast (c := 2) (n := 6085) h (by decide) rfl dX12_redeems_20 ?_
  refine j_letM (fun M2 => ?_)
  refine j_aload_n h dX12_redeems_21 rfl 1 rfl ?_
  refine j_get (c := 0) (j := 2) (v := .ref (ad 2)) h (by decide) rfl rfl ph_inX12 rfl (by decide) tw_1201 rfl rfl dX12_redeems_22 ?_
  refine j_iconst (v := (0 : Int32)) h dX12_redeems_25 (by decide) ?_
  refine j_iload_n h dX12_redeems_26 rfl 2 rfl ?_
  refine j_iload_n h dX12_redeems_27 rfl 3 rfl ?_
  refine j_callSiP (n := 2) (As := [.int p0, .int p1]) (rest := [.int (0 : Int32), .ref (ad 2)]) h tw_1393 tw_1394 tw_14 tw_1395 ydf12_placeOf (by decide) (by decide) (fun q hq => cf12_placeOf (ph_okZ h) (ph_okI h) hq) rfl (Nat.le_of_ble_eq_true rfl) rfl dX12_redeems_28 (fun q3 => ?_)
  refine j_iadd h dX12_redeems_31 ?_
  refine j_iconst (v := (0 : Int32)) h dX12_redeems_32 (by decide) ?_
  refine j_iast (c := 2) (n := 6085) h (by decide) rfl dX12_redeems_33 ?_
  refine j_letM (fun M4 => ?_)
  refine j_iload_n h dX12_redeems_34 rfl 0 rfl ?_
  exact j_iret h rfl fin dX12_redeems_35
theorem dX12_nextDay_0 : decode cX12_nextDay 0 = .ok (.aload_n 0, 1) := by decide +kernel
theorem dX12_nextDay_1 : decode cX12_nextDay 1 = .ok (.getfield 24, 3) := by decide +kernel
theorem dX12_nextDay_4 : decode cX12_nextDay 4 = .ok (.sipush 222, 3) := by decide +kernel
theorem dX12_nextDay_7 : decode cX12_nextDay 7 = .ok (.dup2, 1) := by decide +kernel
theorem dX12_nextDay_8 : decode cX12_nextDay 8 = .ok (.iaload, 1) := by decide +kernel
theorem dX12_nextDay_9 : decode cX12_nextDay 9 = .ok (.iconst 1, 1) := by decide +kernel
theorem dX12_nextDay_10 : decode cX12_nextDay 10 = .ok (.iadd, 1) := by decide +kernel
theorem dX12_nextDay_11 : decode cX12_nextDay 11 = .ok (.iastore, 1) := by decide +kernel
theorem dX12_nextDay_12 : decode cX12_nextDay 12 = .ok (.iconst 0, 1) := by decide +kernel
theorem dX12_nextDay_13 : decode cX12_nextDay 13 = .ok (.istore_n 1, 1) := by decide +kernel
theorem dX12_nextDay_14 : decode cX12_nextDay 14 = .ok (.iload_n 1, 1) := by decide +kernel
theorem dX12_nextDay_15 : decode cX12_nextDay 15 = .ok (.aload_n 0, 1) := by decide +kernel
theorem dX12_nextDay_16 : decode cX12_nextDay 16 = .ok (.invokevirtual 118, 3) := by decide +kernel
theorem dX12_nextDay_19 : decode cX12_nextDay 19 = .ok (.if_icmp .ge 43, 3) := by decide +kernel
theorem dX12_nextDay_22 : decode cX12_nextDay 22 = .ok (.aload_n 0, 1) := by decide +kernel
theorem dX12_nextDay_23 : decode cX12_nextDay 23 = .ok (.getfield 24, 3) := by decide +kernel
theorem dX12_nextDay_26 : decode cX12_nextDay 26 = .ok (.sipush 216, 3) := by decide +kernel
theorem dX12_nextDay_29 : decode cX12_nextDay 29 = .ok (.iload_n 1, 1) := by decide +kernel
theorem dX12_nextDay_30 : decode cX12_nextDay 30 = .ok (.iadd, 1) := by decide +kernel
theorem dX12_nextDay_31 : decode cX12_nextDay 31 = .ok (.ldc 158, 2) := by decide +kernel
theorem dX12_nextDay_33 : decode cX12_nextDay 33 = .ok (.aload_n 0, 1) := by decide +kernel
theorem dX12_nextDay_34 : decode cX12_nextDay 34 = .ok (.getfield 24, 3) := by decide +kernel
theorem dX12_nextDay_37 : decode cX12_nextDay 37 = .ok (.sipush 216, 3) := by decide +kernel
theorem dX12_nextDay_40 : decode cX12_nextDay 40 = .ok (.iload_n 1, 1) := by decide +kernel
theorem dX12_nextDay_41 : decode cX12_nextDay 41 = .ok (.iadd, 1) := by decide +kernel
theorem dX12_nextDay_42 : decode cX12_nextDay 42 = .ok (.iaload, 1) := by decide +kernel
theorem dX12_nextDay_43 : decode cX12_nextDay 43 = .ok (.aload_n 0, 1) := by decide +kernel
theorem dX12_nextDay_44 : decode cX12_nextDay 44 = .ok (.getfield 24, 3) := by decide +kernel
theorem dX12_nextDay_47 : decode cX12_nextDay 47 = .ok (.sipush 471, 3) := by decide +kernel
theorem dX12_nextDay_50 : decode cX12_nextDay 50 = .ok (.iaload, 1) := by decide +kernel
theorem dX12_nextDay_51 : decode cX12_nextDay 51 = .ok (.iadd, 1) := by decide +kernel
theorem dX12_nextDay_52 : decode cX12_nextDay 52 = .ok (.invokestatic 335, 3) := by decide +kernel
theorem dX12_nextDay_55 : decode cX12_nextDay 55 = .ok (.iastore, 1) := by decide +kernel
theorem dX12_nextDay_56 : decode cX12_nextDay 56 = .ok (.iinc 1 1, 3) := by decide +kernel
theorem dX12_nextDay_59 : decode cX12_nextDay 59 = .ok (.goto (-45), 3) := by decide +kernel
theorem dX12_nextDay_62 : decode cX12_nextDay 62 = .ok (.return_, 1) := by decide +kernel
def f12_nextDay_l14 : Nat → Int32 → ph_Mem → Option ph_Mem
  | 0, _, _ => none
  | n + 1, x1, M => (f12_people M ).bind fun q2 => if q2 ≤ x1 then (some M) else (cond (ph_ib ((216 : Int32) + x1) 6085) ((f12_lesser M (99999 : Int32) ((M.1 2 ((216 : Int32) + x1).toNatClampNeg) + (M.1 2 471))).bind fun q3 => cond (ph_ib ((216 : Int32) + x1) 6085) (ph_let (ph_wi M 2 ((216 : Int32) + x1).toNatClampNeg q3) fun M4 => (f12_nextDay_l14 n) (x1 + (1 : Int32)) M4) none) none)
set_option maxHeartbeats 4000000 in
theorem jb_f12_nextDay_l14 {Z : (Nat → Prop) → State → Prop} {X : ph_X} {ad : Nat → Nat} {o : ph_Mem} (h : ph_ok Z X cX12_nextDay RX12 none 2 1 ph_NM ad) (fin : ph_fin X ph_kdM ph_NM ad none o) : ∀ (n : Nat) (x1 : Int32) (M : ph_Mem), ph_J X ph_kdM ph_NM ad o 14 [(0, .ref (ad 0)), (1, .int x1)] [] M (f12_nextDay_l14 n x1 M) := by
  intro n
  induction n with
  | zero => intro x1 M; exact j_none
  | succ n hrc14 =>
    intro x1 M
    unfold f12_nextDay_l14
    refine j_iload_n h dX12_nextDay_14 rfl 1 rfl ?_
    refine j_aload_n h dX12_nextDay_15 rfl 0 rfl ?_
    refine j_callViP (n := 0) (As := []) (rest := [.int x1]) h 0 tw_1389 tw_1391 tp_52 tw_14 tw_1392 ydf12_people (by decide) (by decide) (by decide) rfl rfl (fun q hq => cf12_people (ph_okZ h) (ph_okI h) hq) rfl (Nat.le_of_ble_eq_true rfl) rfl dX12_nextDay_16 (fun q2 => ?_)
    refine j_icmp_ge h 62 dX12_nextDay_19 (by decide) ?_ ?_
    · exact j_vret h rfl fin dX12_nextDay_62
    · refine j_aload_n h dX12_nextDay_22 rfl 0 rfl ?_
      refine j_get (c := 0) (j := 2) (v := .ref (ad 2)) h (by decide) rfl rfl ph_inX12 rfl (by decide) tw_1201 rfl rfl dX12_nextDay_23 ?_
      refine j_sipush (v := (216 : Int32)) h dX12_nextDay_26 (by decide) ?_
      refine j_iload_n h dX12_nextDay_29 rfl 1 rfl ?_
      refine j_iadd h dX12_nextDay_30 ?_
      refine j_ldc (v := (99999 : Int32)) h dX12_nextDay_31 tw_1511 ?_
      refine j_aload_n h dX12_nextDay_33 rfl 0 rfl ?_
      refine j_get (c := 0) (j := 2) (v := .ref (ad 2)) h (by decide) rfl rfl ph_inX12 rfl (by decide) tw_1201 rfl rfl dX12_nextDay_34 ?_
      refine j_sipush (v := (216 : Int32)) h dX12_nextDay_37 (by decide) ?_
      refine j_iload_n h dX12_nextDay_40 rfl 1 rfl ?_
      refine j_iadd h dX12_nextDay_41 ?_
      refine j_iald (c := 2) (n := 6085) h (by decide) rfl dX12_nextDay_42 ?_
      refine j_aload_n h dX12_nextDay_43 rfl 0 rfl ?_
      refine j_get (c := 0) (j := 2) (v := .ref (ad 2)) h (by decide) rfl rfl ph_inX12 rfl (by decide) tw_1201 rfl rfl dX12_nextDay_44 ?_
      refine j_sipush (v := (471 : Int32)) h dX12_nextDay_47 (by decide) ?_
      refine j_ialdK (c := 2) (n := 6085) (kn := 471) h (by decide) rfl rfl (by decide) dX12_nextDay_50 ?_
      refine j_iadd h dX12_nextDay_51 ?_
      refine j_callSiP (n := 2) (As := [.int (99999 : Int32), .int ((M.1 2 ((216 : Int32) + x1).toNatClampNeg) + (M.1 2 471))]) (rest := [.int ((216 : Int32) + x1), .ref (ad 2)]) h tw_1677 tw_1678 tw_14 tw_1679 ydf12_lesser (by decide) (by decide) (fun q hq => cf12_lesser (ph_okZ h) (ph_okI h) hq) rfl (Nat.le_of_ble_eq_true rfl) rfl dX12_nextDay_52 (fun q3 => ?_)
      refine j_iast (c := 2) (n := 6085) h (by decide) rfl dX12_nextDay_55 ?_
      refine j_letM (fun M4 => ?_)
      refine j_iinc h [(1, .int (x1 + (1 : Int32))), (0, .ref (ad 0))] dX12_nextDay_56 1 rfl rfl (by decide) rfl ?_
      refine j_goto h 14 dX12_nextDay_59 (by decide) ?_
      refine j_sub [1, 0] rfl ?_
      exact hrc14 (x1 + (1 : Int32)) M4
theorem ydf12_nextDay : ph_yd yX12_nextDay 0 := ⟨by decide, by decide, by decide +kernel⟩
def f12_nextDay (M : ph_Mem) : Option ph_Mem :=
  ph_let (ph_wi M 2 222 ((M.1 2 222) + (1 : Int32))) fun M1 => f12_nextDay_l14 10000 (0 : Int32) M1
set_option maxHeartbeats 4000000 in
theorem cf12_nextDay {Z : (Nat → Prop) → State → Prop} (hZ : ph_Zok Z) {l : Launch} {D : va_G} {cA : Nat → ClassId} {ad : Nat → Nat} (hinj : ∀ i j, i < ph_NM → j < ph_NM → ad i = ad j → i = j) {M : ph_Mem} {M' : ph_Mem} (hf : f12_nextDay M  = some M') : ph_C Z l 1 yX12_nextDay cX12_nextDay 2 none D cA ph_kdM ph_NM ad [.ref (ad 0)] M none M' := by
  refine ph_mk hZ hinj (by decide) (Nat.le_of_ble_eq_true rfl) fun X h fin hE => ?_
  refine (?_ : ph_J X ph_kdM ph_NM ad (M' : ph_Mem) 0 [(0, .ref (ad 0))] [] M (f12_nextDay M )) hf
  unfold f12_nextDay
  refine j_aload_n h dX12_nextDay_0 rfl 0 rfl ?_
  refine j_get (c := 0) (j := 2) (v := .ref (ad 2)) h (by decide) rfl rfl ph_inX12 rfl (by decide) tw_1201 rfl rfl dX12_nextDay_1 ?_
  refine j_sipush (v := (222 : Int32)) h dX12_nextDay_4 (by decide) ?_
  refine j_dup2 h dX12_nextDay_7 rfl rfl ?_
  refine j_ialdK (c := 2) (n := 6085) (kn := 222) h (by decide) rfl rfl (by decide) dX12_nextDay_8 ?_
  refine j_iconst (v := (1 : Int32)) h dX12_nextDay_9 (by decide) ?_
  refine j_iadd h dX12_nextDay_10 ?_
  refine j_iastK (c := 2) (n := 6085) (kn := 222) h (by decide) rfl rfl (by decide) dX12_nextDay_11 ?_
  refine j_letM (fun M1 => ?_)
  refine j_iconst (v := (0 : Int32)) h dX12_nextDay_12 (by decide) ?_
  refine j_istore_n h [(1, .int (0 : Int32)), (0, .ref (ad 0))] dX12_nextDay_13 rfl (by decide) rfl ?_
  refine j_sub [1, 0] rfl ?_
  exact jb_f12_nextDay_l14 h fin 10000 (0 : Int32) M1
theorem dX12_pawnsKept_0 : decode cX12_pawnsKept 0 = .ok (.aload_n 0, 1) := by decide +kernel
theorem dX12_pawnsKept_1 : decode cX12_pawnsKept 1 = .ok (.iload_n 1, 1) := by decide +kernel
theorem dX12_pawnsKept_2 : decode cX12_pawnsKept 2 = .ok (.iload_n 2, 1) := by decide +kernel
theorem dX12_pawnsKept_3 : decode cX12_pawnsKept 3 = .ok (.invokevirtual 338, 3) := by decide +kernel
theorem dX12_pawnsKept_6 : decode cX12_pawnsKept 6 = .ok (.istore_n 3, 1) := by decide +kernel
theorem dX12_pawnsKept_7 : decode cX12_pawnsKept 7 = .ok (.iload_n 3, 1) := by decide +kernel
theorem dX12_pawnsKept_8 : decode cX12_pawnsKept 8 = .ok (.ifCond .lt 12, 3) := by decide +kernel
theorem dX12_pawnsKept_11 : decode cX12_pawnsKept 11 = .ok (.aload_n 0, 1) := by decide +kernel
theorem dX12_pawnsKept_12 : decode cX12_pawnsKept 12 = .ok (.iload_n 1, 1) := by decide +kernel
theorem dX12_pawnsKept_13 : decode cX12_pawnsKept 13 = .ok (.iload_n 2, 1) := by decide +kernel
theorem dX12_pawnsKept_14 : decode cX12_pawnsKept 14 = .ok (.invokevirtual 341, 3) := by decide +kernel
theorem dX12_pawnsKept_17 : decode cX12_pawnsKept 17 = .ok (.ifCond .ne 14, 3) := by decide +kernel
theorem dX12_pawnsKept_20 : decode cX12_pawnsKept 20 = .ok (.iload_n 3, 1) := by decide +kernel
theorem dX12_pawnsKept_21 : decode cX12_pawnsKept 21 = .ok (.ifCond .ge 7, 3) := by decide +kernel
theorem dX12_pawnsKept_24 : decode cX12_pawnsKept 24 = .ok (.iload_n 3, 1) := by decide +kernel
theorem dX12_pawnsKept_25 : decode cX12_pawnsKept 25 = .ok (.goto 5, 3) := by decide +kernel
theorem dX12_pawnsKept_28 : decode cX12_pawnsKept 28 = .ok (.bipush (-3), 2) := by decide +kernel
theorem dX12_pawnsKept_30 : decode cX12_pawnsKept 30 = .ok (.ireturn, 1) := by decide +kernel
theorem dX12_pawnsKept_31 : decode cX12_pawnsKept 31 = .ok (.aload_n 0, 1) := by decide +kernel
theorem dX12_pawnsKept_32 : decode cX12_pawnsKept 32 = .ok (.iconst 0, 1) := by decide +kernel
theorem dX12_pawnsKept_33 : decode cX12_pawnsKept 33 = .ok (.invokevirtual 344, 3) := by decide +kernel
theorem dX12_pawnsKept_36 : decode cX12_pawnsKept 36 = .ok (.aload_n 0, 1) := by decide +kernel
theorem dX12_pawnsKept_37 : decode cX12_pawnsKept 37 = .ok (.iload_n 1, 1) := by decide +kernel
theorem dX12_pawnsKept_38 : decode cX12_pawnsKept 38 = .ok (.iload_n 2, 1) := by decide +kernel
theorem dX12_pawnsKept_39 : decode cX12_pawnsKept 39 = .ok (.invokevirtual 347, 3) := by decide +kernel
theorem dX12_pawnsKept_42 : decode cX12_pawnsKept 42 = .ok (.ireturn, 1) := by decide +kernel
def f12_pawnsKept_j20 (x3 : Int32) (M : ph_Mem) : Option (Int32 × ph_Mem) :=
  if 0 ≤ x3 then (some ((-3 : Int32), M)) else (some (x3, M))
set_option maxHeartbeats 4000000 in
theorem jb_f12_pawnsKept_j20 {Z : (Nat → Prop) → State → Prop} {X : ph_X} {ad : Nat → Nat} {o : (Int32 × ph_Mem)} (h : ph_ok Z X cX12_pawnsKept RX12 (some .int) 4 146 ph_NM ad) (fin : ph_fin X ph_kdM ph_NM ad (some (.int o.1)) o.2) : ∀ (x3 : Int32) (M : ph_Mem), ph_J X ph_kdM ph_NM ad o 20 [(3, .int x3)] [] M (f12_pawnsKept_j20 x3 M) := by
  intro x3 M
  unfold f12_pawnsKept_j20
  refine j_iload_n h dX12_pawnsKept_20 rfl 0 rfl ?_
  refine j_if_ge h 28 dX12_pawnsKept_21 (by decide) ?_ ?_
  · refine j_bipush (v := (-3 : Int32)) h dX12_pawnsKept_28 (by decide) ?_
    exact j_iret h rfl fin dX12_pawnsKept_30
  · refine j_iload_n h dX12_pawnsKept_24 rfl 0 rfl ?_
    refine j_goto h 30 dX12_pawnsKept_25 (by decide) ?_
    exact j_iret h rfl fin dX12_pawnsKept_30
theorem ydf12_pawnsKept : ph_yd yX12_pawnsKept 2 := ⟨by decide, by decide, by decide +kernel⟩
def f12_pawnsKept (M : ph_Mem) (p0 : Int32) (p1 : Int32) : Option (Int32 × ph_Mem) :=
  (f12_whyNot M p0 p1).bind fun q1 => if q1 < 0 then (f12_pawnsKept_j20 q1 M) else ((f12_canPawn M p0 p1).bind fun q2 => if q2.1 = 0 then (f12_pawnsKept_j20 q1 q2.2) else ((f12_keeps q2.2 (0 : Int32)).bind fun q3 => (f12_pawns q3 p0 p1).bind fun q4 => some (q4.1, q4.2)))
set_option maxHeartbeats 4000000 in
theorem cf12_pawnsKept {Z : (Nat → Prop) → State → Prop} (hZ : ph_Zok Z) {l : Launch} {D : va_G} {cA : Nat → ClassId} {ad : Nat → Nat} (hinj : ∀ i j, i < ph_NM → j < ph_NM → ad i = ad j → i = j) {M : ph_Mem} {p0 : Int32} {p1 : Int32} {r : Int32} {M' : ph_Mem} (hf : f12_pawnsKept M p0 p1 = some (r, M')) : ph_C Z l 146 yX12_pawnsKept cX12_pawnsKept 4 (some .int) D cA ph_kdM ph_NM ad [.ref (ad 0), .int p0, .int p1] M (some (.int r)) M' := by
  refine ph_mk hZ hinj (by decide) (Nat.le_of_ble_eq_true rfl) fun X h fin hE => ?_
  refine (?_ : ph_J X ph_kdM ph_NM ad ((r, M') : (Int32 × ph_Mem)) 0 [(0, .ref (ad 0)), (1, .int p0), (2, .int p1)] [] M (f12_pawnsKept M p0 p1)) hf
  unfold f12_pawnsKept
  refine j_aload_n h dX12_pawnsKept_0 rfl 0 rfl ?_
  refine j_iload_n h dX12_pawnsKept_1 rfl 1 rfl ?_
  refine j_iload_n h dX12_pawnsKept_2 rfl 2 rfl ?_
  refine j_callViP (n := 2) (As := [.int p0, .int p1]) (rest := []) h 0 tw_1657 tw_1659 tp_96 tw_14 tw_1660 ydf12_whyNot (by decide) (by decide) (by decide) rfl rfl (fun q hq => cf12_whyNot (ph_okZ h) (ph_okI h) hq) rfl (Nat.le_of_ble_eq_true rfl) rfl dX12_pawnsKept_3 (fun q1 => ?_)
  refine j_istore_n h [(3, .int q1), (0, .ref (ad 0)), (1, .int p0), (2, .int p1)] dX12_pawnsKept_6 rfl (by decide) rfl ?_
  refine j_iload_n h dX12_pawnsKept_7 rfl 0 rfl ?_
  refine j_if_lt h 20 dX12_pawnsKept_8 (by decide) ?_ ?_
  · refine j_sub [0] rfl ?_
    exact jb_f12_pawnsKept_j20 h fin q1 M
  · refine j_aload_n h dX12_pawnsKept_11 rfl 1 rfl ?_
    refine j_iload_n h dX12_pawnsKept_12 rfl 2 rfl ?_
    refine j_iload_n h dX12_pawnsKept_13 rfl 3 rfl ?_
    refine j_callVi (n := 2) (As := [.int p0, .int p1]) (rest := []) h 0 tw_1661 tw_1663 tp_97 tw_14 tw_1664 ydf12_canPawn (by decide) (by decide) (by decide) rfl rfl (fun q hq => cf12_canPawn (ph_okZ h) (ph_okI h) hq) rfl (Nat.le_of_ble_eq_true rfl) rfl dX12_pawnsKept_14 (fun q2 => ?_)
    refine j_if_ne h 31 dX12_pawnsKept_17 (by decide) ?_ ?_
    · refine j_aload_n h dX12_pawnsKept_31 rfl 1 rfl ?_
      refine j_iconst (v := (0 : Int32)) h dX12_pawnsKept_32 (by decide) ?_
      refine j_callVv (n := 1) (As := [.int (0 : Int32)]) (rest := []) h 0 tw_1669 tw_1671 tp_99 tw_14 tw_1672 ydf12_keeps (by decide) (by decide) (by decide) rfl rfl (fun q hq => cf12_keeps (ph_okZ h) (ph_okI h) hq) rfl (Nat.le_of_ble_eq_true rfl) rfl dX12_pawnsKept_33 (fun q3 => ?_)
      refine j_aload_n h dX12_pawnsKept_36 rfl 1 rfl ?_
      refine j_iload_n h dX12_pawnsKept_37 rfl 2 rfl ?_
      refine j_iload_n h dX12_pawnsKept_38 rfl 3 rfl ?_
      refine j_callVi (n := 2) (As := [.int p0, .int p1]) (rest := []) h 0 tw_1673 tw_1675 tp_100 tw_14 tw_1676 ydf12_pawns (by decide) (by decide) (by decide) rfl rfl (fun q hq => cf12_pawns (ph_okZ h) (ph_okI h) hq) rfl (Nat.le_of_ble_eq_true rfl) rfl dX12_pawnsKept_39 (fun q4 => ?_)
      exact j_iret h rfl fin dX12_pawnsKept_42
    · refine j_sub [0] rfl ?_
      exact jb_f12_pawnsKept_j20 h fin q1 q2.2
theorem dX12_redeemsKept_0 : decode cX12_redeemsKept 0 = .ok (.aload_n 0, 1) := by decide +kernel
theorem dX12_redeemsKept_1 : decode cX12_redeemsKept 1 = .ok (.iload_n 1, 1) := by decide +kernel
theorem dX12_redeemsKept_2 : decode cX12_redeemsKept 2 = .ok (.iload_n 2, 1) := by decide +kernel
theorem dX12_redeemsKept_3 : decode cX12_redeemsKept 3 = .ok (.invokevirtual 338, 3) := by decide +kernel
theorem dX12_redeemsKept_6 : decode cX12_redeemsKept 6 = .ok (.istore_n 3, 1) := by decide +kernel
theorem dX12_redeemsKept_7 : decode cX12_redeemsKept 7 = .ok (.iload_n 3, 1) := by decide +kernel
theorem dX12_redeemsKept_8 : decode cX12_redeemsKept 8 = .ok (.ifCond .lt 12, 3) := by decide +kernel
theorem dX12_redeemsKept_11 : decode cX12_redeemsKept 11 = .ok (.aload_n 0, 1) := by decide +kernel
theorem dX12_redeemsKept_12 : decode cX12_redeemsKept 12 = .ok (.iload_n 1, 1) := by decide +kernel
theorem dX12_redeemsKept_13 : decode cX12_redeemsKept 13 = .ok (.iload_n 2, 1) := by decide +kernel
theorem dX12_redeemsKept_14 : decode cX12_redeemsKept 14 = .ok (.invokevirtual 350, 3) := by decide +kernel
theorem dX12_redeemsKept_17 : decode cX12_redeemsKept 17 = .ok (.ifCond .ne 14, 3) := by decide +kernel
theorem dX12_redeemsKept_20 : decode cX12_redeemsKept 20 = .ok (.iload_n 3, 1) := by decide +kernel
theorem dX12_redeemsKept_21 : decode cX12_redeemsKept 21 = .ok (.ifCond .ge 7, 3) := by decide +kernel
theorem dX12_redeemsKept_24 : decode cX12_redeemsKept 24 = .ok (.iload_n 3, 1) := by decide +kernel
theorem dX12_redeemsKept_25 : decode cX12_redeemsKept 25 = .ok (.goto 5, 3) := by decide +kernel
theorem dX12_redeemsKept_28 : decode cX12_redeemsKept 28 = .ok (.bipush (-3), 2) := by decide +kernel
theorem dX12_redeemsKept_30 : decode cX12_redeemsKept 30 = .ok (.ireturn, 1) := by decide +kernel
theorem dX12_redeemsKept_31 : decode cX12_redeemsKept 31 = .ok (.aload_n 0, 1) := by decide +kernel
theorem dX12_redeemsKept_32 : decode cX12_redeemsKept 32 = .ok (.iconst 1, 1) := by decide +kernel
theorem dX12_redeemsKept_33 : decode cX12_redeemsKept 33 = .ok (.invokevirtual 344, 3) := by decide +kernel
theorem dX12_redeemsKept_36 : decode cX12_redeemsKept 36 = .ok (.aload_n 0, 1) := by decide +kernel
theorem dX12_redeemsKept_37 : decode cX12_redeemsKept 37 = .ok (.iload_n 1, 1) := by decide +kernel
theorem dX12_redeemsKept_38 : decode cX12_redeemsKept 38 = .ok (.iload_n 2, 1) := by decide +kernel
theorem dX12_redeemsKept_39 : decode cX12_redeemsKept 39 = .ok (.invokevirtual 353, 3) := by decide +kernel
theorem dX12_redeemsKept_42 : decode cX12_redeemsKept 42 = .ok (.ireturn, 1) := by decide +kernel
def f12_redeemsKept_j20 (x3 : Int32) (M : ph_Mem) : Option (Int32 × ph_Mem) :=
  if 0 ≤ x3 then (some ((-3 : Int32), M)) else (some (x3, M))
set_option maxHeartbeats 4000000 in
theorem jb_f12_redeemsKept_j20 {Z : (Nat → Prop) → State → Prop} {X : ph_X} {ad : Nat → Nat} {o : (Int32 × ph_Mem)} (h : ph_ok Z X cX12_redeemsKept RX12 (some .int) 4 146 ph_NM ad) (fin : ph_fin X ph_kdM ph_NM ad (some (.int o.1)) o.2) : ∀ (x3 : Int32) (M : ph_Mem), ph_J X ph_kdM ph_NM ad o 20 [(3, .int x3)] [] M (f12_redeemsKept_j20 x3 M) := by
  intro x3 M
  unfold f12_redeemsKept_j20
  refine j_iload_n h dX12_redeemsKept_20 rfl 0 rfl ?_
  refine j_if_ge h 28 dX12_redeemsKept_21 (by decide) ?_ ?_
  · refine j_bipush (v := (-3 : Int32)) h dX12_redeemsKept_28 (by decide) ?_
    exact j_iret h rfl fin dX12_redeemsKept_30
  · refine j_iload_n h dX12_redeemsKept_24 rfl 0 rfl ?_
    refine j_goto h 30 dX12_redeemsKept_25 (by decide) ?_
    exact j_iret h rfl fin dX12_redeemsKept_30
theorem ydf12_redeemsKept : ph_yd yX12_redeemsKept 2 := ⟨by decide, by decide, by decide +kernel⟩
def f12_redeemsKept (M : ph_Mem) (p0 : Int32) (p1 : Int32) : Option (Int32 × ph_Mem) :=
  (f12_whyNot M p0 p1).bind fun q1 => if q1 < 0 then (f12_redeemsKept_j20 q1 M) else ((f12_canRedeem M p0 p1).bind fun q2 => if q2.1 = 0 then (f12_redeemsKept_j20 q1 q2.2) else ((f12_keeps q2.2 (1 : Int32)).bind fun q3 => (f12_redeems q3 p0 p1).bind fun q4 => some (q4.1, q4.2)))
set_option maxHeartbeats 4000000 in
theorem cf12_redeemsKept {Z : (Nat → Prop) → State → Prop} (hZ : ph_Zok Z) {l : Launch} {D : va_G} {cA : Nat → ClassId} {ad : Nat → Nat} (hinj : ∀ i j, i < ph_NM → j < ph_NM → ad i = ad j → i = j) {M : ph_Mem} {p0 : Int32} {p1 : Int32} {r : Int32} {M' : ph_Mem} (hf : f12_redeemsKept M p0 p1 = some (r, M')) : ph_C Z l 146 yX12_redeemsKept cX12_redeemsKept 4 (some .int) D cA ph_kdM ph_NM ad [.ref (ad 0), .int p0, .int p1] M (some (.int r)) M' := by
  refine ph_mk hZ hinj (by decide) (Nat.le_of_ble_eq_true rfl) fun X h fin hE => ?_
  refine (?_ : ph_J X ph_kdM ph_NM ad ((r, M') : (Int32 × ph_Mem)) 0 [(0, .ref (ad 0)), (1, .int p0), (2, .int p1)] [] M (f12_redeemsKept M p0 p1)) hf
  unfold f12_redeemsKept
  refine j_aload_n h dX12_redeemsKept_0 rfl 0 rfl ?_
  refine j_iload_n h dX12_redeemsKept_1 rfl 1 rfl ?_
  refine j_iload_n h dX12_redeemsKept_2 rfl 2 rfl ?_
  refine j_callViP (n := 2) (As := [.int p0, .int p1]) (rest := []) h 0 tw_1657 tw_1659 tp_96 tw_14 tw_1660 ydf12_whyNot (by decide) (by decide) (by decide) rfl rfl (fun q hq => cf12_whyNot (ph_okZ h) (ph_okI h) hq) rfl (Nat.le_of_ble_eq_true rfl) rfl dX12_redeemsKept_3 (fun q1 => ?_)
  refine j_istore_n h [(3, .int q1), (0, .ref (ad 0)), (1, .int p0), (2, .int p1)] dX12_redeemsKept_6 rfl (by decide) rfl ?_
  refine j_iload_n h dX12_redeemsKept_7 rfl 0 rfl ?_
  refine j_if_lt h 20 dX12_redeemsKept_8 (by decide) ?_ ?_
  · refine j_sub [0] rfl ?_
    exact jb_f12_redeemsKept_j20 h fin q1 M
  · refine j_aload_n h dX12_redeemsKept_11 rfl 1 rfl ?_
    refine j_iload_n h dX12_redeemsKept_12 rfl 2 rfl ?_
    refine j_iload_n h dX12_redeemsKept_13 rfl 3 rfl ?_
    refine j_callVi (n := 2) (As := [.int p0, .int p1]) (rest := []) h 0 tw_1692 tw_1694 tp_103 tw_14 tw_1695 ydf12_canRedeem (by decide) (by decide) (by decide) rfl rfl (fun q hq => cf12_canRedeem (ph_okZ h) (ph_okI h) hq) rfl (Nat.le_of_ble_eq_true rfl) rfl dX12_redeemsKept_14 (fun q2 => ?_)
    refine j_if_ne h 31 dX12_redeemsKept_17 (by decide) ?_ ?_
    · refine j_aload_n h dX12_redeemsKept_31 rfl 1 rfl ?_
      refine j_iconst (v := (1 : Int32)) h dX12_redeemsKept_32 (by decide) ?_
      refine j_callVv (n := 1) (As := [.int (1 : Int32)]) (rest := []) h 0 tw_1669 tw_1671 tp_99 tw_14 tw_1672 ydf12_keeps (by decide) (by decide) (by decide) rfl rfl (fun q hq => cf12_keeps (ph_okZ h) (ph_okI h) hq) rfl (Nat.le_of_ble_eq_true rfl) rfl dX12_redeemsKept_33 (fun q3 => ?_)
      refine j_aload_n h dX12_redeemsKept_36 rfl 1 rfl ?_
      refine j_iload_n h dX12_redeemsKept_37 rfl 2 rfl ?_
      refine j_iload_n h dX12_redeemsKept_38 rfl 3 rfl ?_
      refine j_callVi (n := 2) (As := [.int p0, .int p1]) (rest := []) h 0 tw_1696 tw_1698 tp_104 tw_14 tw_1699 ydf12_redeems (by decide) (by decide) (by decide) rfl rfl (fun q hq => cf12_redeems (ph_okZ h) (ph_okI h) hq) rfl (Nat.le_of_ble_eq_true rfl) rfl dX12_redeemsKept_39 (fun q4 => ?_)
      exact j_iret h rfl fin dX12_redeemsKept_42
    · refine j_sub [0] rfl ?_
      exact jb_f12_redeemsKept_j20 h fin q1 q2.2
theorem dX12_passesKept_0 : decode cX12_passesKept 0 = .ok (.aload_n 0, 1) := by decide +kernel
theorem dX12_passesKept_1 : decode cX12_passesKept 1 = .ok (.getfield 24, 3) := by decide +kernel
theorem dX12_passesKept_4 : decode cX12_passesKept 4 = .ok (.sipush 222, 3) := by decide +kernel
theorem dX12_passesKept_7 : decode cX12_passesKept 7 = .ok (.iaload, 1) := by decide +kernel
theorem dX12_passesKept_8 : decode cX12_passesKept 8 = .ok (.sipush 999, 3) := by decide +kernel
theorem dX12_passesKept_11 : decode cX12_passesKept 11 = .ok (.if_icmp .ne 6, 3) := by decide +kernel
theorem dX12_passesKept_14 : decode cX12_passesKept 14 = .ok (.bipush (-3), 2) := by decide +kernel
theorem dX12_passesKept_16 : decode cX12_passesKept 16 = .ok (.ireturn, 1) := by decide +kernel
theorem dX12_passesKept_17 : decode cX12_passesKept 17 = .ok (.aload_n 0, 1) := by decide +kernel
theorem dX12_passesKept_18 : decode cX12_passesKept 18 = .ok (.iconst 2, 1) := by decide +kernel
theorem dX12_passesKept_19 : decode cX12_passesKept 19 = .ok (.invokevirtual 344, 3) := by decide +kernel
theorem dX12_passesKept_22 : decode cX12_passesKept 22 = .ok (.aload_n 0, 1) := by decide +kernel
theorem dX12_passesKept_23 : decode cX12_passesKept 23 = .ok (.invokevirtual 356, 3) := by decide +kernel
theorem dX12_passesKept_26 : decode cX12_passesKept 26 = .ok (.aload_n 0, 1) := by decide +kernel
theorem dX12_passesKept_27 : decode cX12_passesKept 27 = .ok (.getfield 24, 3) := by decide +kernel
theorem dX12_passesKept_30 : decode cX12_passesKept 30 = .ok (.sipush 222, 3) := by decide +kernel
theorem dX12_passesKept_33 : decode cX12_passesKept 33 = .ok (.iaload, 1) := by decide +kernel
theorem dX12_passesKept_34 : decode cX12_passesKept 34 = .ok (.ireturn, 1) := by decide +kernel
theorem ydf12_passesKept : ph_yd yX12_passesKept 0 := ⟨by decide, by decide, by decide +kernel⟩
def f12_passesKept (M : ph_Mem) : Option (Int32 × ph_Mem) :=
  if (M.1 2 222) = (999 : Int32) then (some ((-3 : Int32), M)) else ((f12_keeps M (2 : Int32)).bind fun q1 => (f12_nextDay q1 ).bind fun q2 => some ((q2.1 2 222), q2))
set_option maxHeartbeats 4000000 in
theorem cf12_passesKept {Z : (Nat → Prop) → State → Prop} (hZ : ph_Zok Z) {l : Launch} {D : va_G} {cA : Nat → ClassId} {ad : Nat → Nat} (hinj : ∀ i j, i < ph_NM → j < ph_NM → ad i = ad j → i = j) {M : ph_Mem} {r : Int32} {M' : ph_Mem} (hf : f12_passesKept M  = some (r, M')) : ph_C Z l 2 yX12_passesKept cX12_passesKept 1 (some .int) D cA ph_kdM ph_NM ad [.ref (ad 0)] M (some (.int r)) M' := by
  refine ph_mk hZ hinj (by decide) (Nat.le_of_ble_eq_true rfl) fun X h fin hE => ?_
  refine (?_ : ph_J X ph_kdM ph_NM ad ((r, M') : (Int32 × ph_Mem)) 0 [(0, .ref (ad 0))] [] M (f12_passesKept M )) hf
  unfold f12_passesKept
  refine j_aload_n h dX12_passesKept_0 rfl 0 rfl ?_
  refine j_get (c := 0) (j := 2) (v := .ref (ad 2)) h (by decide) rfl rfl ph_inX12 rfl (by decide) tw_1201 rfl rfl dX12_passesKept_1 ?_
  refine j_sipush (v := (222 : Int32)) h dX12_passesKept_4 (by decide) ?_
  refine j_ialdK (c := 2) (n := 6085) (kn := 222) h (by decide) rfl rfl (by decide) dX12_passesKept_7 ?_
  refine j_sipush (v := (999 : Int32)) h dX12_passesKept_8 (by decide) ?_
  refine j_icmp_ne h 17 dX12_passesKept_11 (by decide) ?_ ?_
  · refine j_aload_n h dX12_passesKept_17 rfl 0 rfl ?_
    refine j_iconst (v := (2 : Int32)) h dX12_passesKept_18 (by decide) ?_
    refine j_callVv (n := 1) (As := [.int (2 : Int32)]) (rest := []) h 0 tw_1669 tw_1671 tp_99 tw_14 tw_1672 ydf12_keeps (by decide) (by decide) (by decide) rfl rfl (fun q hq => cf12_keeps (ph_okZ h) (ph_okI h) hq) rfl (Nat.le_of_ble_eq_true rfl) rfl dX12_passesKept_19 (fun q1 => ?_)
    refine j_aload_n h dX12_passesKept_22 rfl 0 rfl ?_
    refine j_callVv (n := 0) (As := []) (rest := []) h 0 tw_1708 tw_1710 tp_106 tw_14 tw_1711 ydf12_nextDay (by decide) (by decide) (by decide) rfl rfl (fun q hq => cf12_nextDay (ph_okZ h) (ph_okI h) hq) rfl (Nat.le_of_ble_eq_true rfl) rfl dX12_passesKept_23 (fun q2 => ?_)
    refine j_aload_n h dX12_passesKept_26 rfl 0 rfl ?_
    refine j_get (c := 0) (j := 2) (v := .ref (ad 2)) h (by decide) rfl rfl ph_inX12 rfl (by decide) tw_1201 rfl rfl dX12_passesKept_27 ?_
    refine j_sipush (v := (222 : Int32)) h dX12_passesKept_30 (by decide) ?_
    refine j_ialdK (c := 2) (n := 6085) (kn := 222) h (by decide) rfl rfl (by decide) dX12_passesKept_33 ?_
    exact j_iret h rfl fin dX12_passesKept_34
  · refine j_bipush (v := (-3 : Int32)) h dX12_passesKept_14 (by decide) ?_
    exact j_iret h rfl fin dX12_passesKept_16
theorem dX12_pawn_0 : decode cX12_pawn 0 = .ok (.aload_n 0, 1) := by decide +kernel
theorem dX12_pawn_1 : decode cX12_pawn 1 = .ok (.aload_n 0, 1) := by decide +kernel
theorem dX12_pawn_2 : decode cX12_pawn 2 = .ok (.iload_n 1, 1) := by decide +kernel
theorem dX12_pawn_3 : decode cX12_pawn 3 = .ok (.iload_n 2, 1) := by decide +kernel
theorem dX12_pawn_4 : decode cX12_pawn 4 = .ok (.invokevirtual 359, 3) := by decide +kernel
theorem dX12_pawn_7 : decode cX12_pawn 7 = .ok (.invokevirtual 362, 3) := by decide +kernel
theorem dX12_pawn_10 : decode cX12_pawn 10 = .ok (.ireturn, 1) := by decide +kernel
theorem ydf12_pawn : ph_yd yX12_pawn 2 := ⟨by decide, by decide, by decide +kernel⟩
def f12_pawn (M : ph_Mem) (p0 : Int32) (p1 : Int32) : Option (Int32 × ph_Mem) :=
  (f12_pawnsKept M p0 p1).bind fun q1 => (f12_goodOr q1.2 q1.1).bind fun q2 => some (q2.1, q2.2)
set_option maxHeartbeats 4000000 in
theorem cf12_pawn {Z : (Nat → Prop) → State → Prop} (hZ : ph_Zok Z) {l : Launch} {D : va_G} {cA : Nat → ClassId} {ad : Nat → Nat} (hinj : ∀ i j, i < ph_NM → j < ph_NM → ad i = ad j → i = j) {M : ph_Mem} {p0 : Int32} {p1 : Int32} {r : Int32} {M' : ph_Mem} (hf : f12_pawn M p0 p1 = some (r, M')) : ph_C Z l 147 yX12_pawn cX12_pawn 3 (some .int) D cA ph_kdM ph_NM ad [.ref (ad 0), .int p0, .int p1] M (some (.int r)) M' := by
  refine ph_mk hZ hinj (by decide) (Nat.le_of_ble_eq_true rfl) fun X h fin hE => ?_
  refine (?_ : ph_J X ph_kdM ph_NM ad ((r, M') : (Int32 × ph_Mem)) 0 [(0, .ref (ad 0)), (1, .int p0), (2, .int p1)] [] M (f12_pawn M p0 p1)) hf
  unfold f12_pawn
  refine j_aload_n h dX12_pawn_0 rfl 0 rfl ?_
  refine j_aload_n h dX12_pawn_1 rfl 0 rfl ?_
  refine j_iload_n h dX12_pawn_2 rfl 1 rfl ?_
  refine j_iload_n h dX12_pawn_3 rfl 2 rfl ?_
  refine j_callVi (n := 2) (As := [.int p0, .int p1]) (rest := [.ref (ad 0)]) h 0 tw_1653 tw_1655 tp_95 tw_14 tw_1656 ydf12_pawnsKept (by decide) (by decide) (by decide) rfl rfl (fun q hq => cf12_pawnsKept (ph_okZ h) (ph_okI h) hq) rfl (Nat.le_of_ble_eq_true rfl) rfl dX12_pawn_4 (fun q1 => ?_)
  refine j_callVi (n := 1) (As := [.int q1.1]) (rest := []) h 0 tw_1680 tw_1682 tp_101 tw_14 tw_1683 ydf12_goodOr (by decide) (by decide) (by decide) rfl rfl (fun q hq => cf12_goodOr (ph_okZ h) (ph_okI h) hq) rfl (Nat.le_of_ble_eq_true rfl) rfl dX12_pawn_7 (fun q2 => ?_)
  exact j_iret h rfl fin dX12_pawn_10
theorem dX12_redeem_0 : decode cX12_redeem 0 = .ok (.aload_n 0, 1) := by decide +kernel
theorem dX12_redeem_1 : decode cX12_redeem 1 = .ok (.aload_n 0, 1) := by decide +kernel
theorem dX12_redeem_2 : decode cX12_redeem 2 = .ok (.iload_n 1, 1) := by decide +kernel
theorem dX12_redeem_3 : decode cX12_redeem 3 = .ok (.iload_n 2, 1) := by decide +kernel
theorem dX12_redeem_4 : decode cX12_redeem 4 = .ok (.invokevirtual 365, 3) := by decide +kernel
theorem dX12_redeem_7 : decode cX12_redeem 7 = .ok (.invokevirtual 362, 3) := by decide +kernel
theorem dX12_redeem_10 : decode cX12_redeem 10 = .ok (.ireturn, 1) := by decide +kernel
theorem ydf12_redeem : ph_yd yX12_redeem 2 := ⟨by decide, by decide, by decide +kernel⟩
def f12_redeem (M : ph_Mem) (p0 : Int32) (p1 : Int32) : Option (Int32 × ph_Mem) :=
  (f12_redeemsKept M p0 p1).bind fun q1 => (f12_goodOr q1.2 q1.1).bind fun q2 => some (q2.1, q2.2)
set_option maxHeartbeats 4000000 in
theorem cf12_redeem {Z : (Nat → Prop) → State → Prop} (hZ : ph_Zok Z) {l : Launch} {D : va_G} {cA : Nat → ClassId} {ad : Nat → Nat} (hinj : ∀ i j, i < ph_NM → j < ph_NM → ad i = ad j → i = j) {M : ph_Mem} {p0 : Int32} {p1 : Int32} {r : Int32} {M' : ph_Mem} (hf : f12_redeem M p0 p1 = some (r, M')) : ph_C Z l 147 yX12_redeem cX12_redeem 3 (some .int) D cA ph_kdM ph_NM ad [.ref (ad 0), .int p0, .int p1] M (some (.int r)) M' := by
  refine ph_mk hZ hinj (by decide) (Nat.le_of_ble_eq_true rfl) fun X h fin hE => ?_
  refine (?_ : ph_J X ph_kdM ph_NM ad ((r, M') : (Int32 × ph_Mem)) 0 [(0, .ref (ad 0)), (1, .int p0), (2, .int p1)] [] M (f12_redeem M p0 p1)) hf
  unfold f12_redeem
  refine j_aload_n h dX12_redeem_0 rfl 0 rfl ?_
  refine j_aload_n h dX12_redeem_1 rfl 0 rfl ?_
  refine j_iload_n h dX12_redeem_2 rfl 1 rfl ?_
  refine j_iload_n h dX12_redeem_3 rfl 2 rfl ?_
  refine j_callVi (n := 2) (As := [.int p0, .int p1]) (rest := [.ref (ad 0)]) h 0 tw_1688 tw_1690 tp_102 tw_14 tw_1691 ydf12_redeemsKept (by decide) (by decide) (by decide) rfl rfl (fun q hq => cf12_redeemsKept (ph_okZ h) (ph_okI h) hq) rfl (Nat.le_of_ble_eq_true rfl) rfl dX12_redeem_4 (fun q1 => ?_)
  refine j_callVi (n := 1) (As := [.int q1.1]) (rest := []) h 0 tw_1680 tw_1682 tp_101 tw_14 tw_1683 ydf12_goodOr (by decide) (by decide) (by decide) rfl rfl (fun q hq => cf12_goodOr (ph_okZ h) (ph_okI h) hq) rfl (Nat.le_of_ble_eq_true rfl) rfl dX12_redeem_7 (fun q2 => ?_)
  exact j_iret h rfl fin dX12_redeem_10
theorem dX12_pass_0 : decode cX12_pass 0 = .ok (.aload_n 0, 1) := by decide +kernel
theorem dX12_pass_1 : decode cX12_pass 1 = .ok (.aload_n 0, 1) := by decide +kernel
theorem dX12_pass_2 : decode cX12_pass 2 = .ok (.invokevirtual 368, 3) := by decide +kernel
theorem dX12_pass_5 : decode cX12_pass 5 = .ok (.invokevirtual 362, 3) := by decide +kernel
theorem dX12_pass_8 : decode cX12_pass 8 = .ok (.ireturn, 1) := by decide +kernel
theorem ydf12_pass : ph_yd yX12_pass 0 := ⟨by decide, by decide, by decide +kernel⟩
def f12_pass (M : ph_Mem) : Option (Int32 × ph_Mem) :=
  (f12_passesKept M ).bind fun q1 => (f12_goodOr q1.2 q1.1).bind fun q2 => some (q2.1, q2.2)
set_option maxHeartbeats 4000000 in
theorem cf12_pass {Z : (Nat → Prop) → State → Prop} (hZ : ph_Zok Z) {l : Launch} {D : va_G} {cA : Nat → ClassId} {ad : Nat → Nat} (hinj : ∀ i j, i < ph_NM → j < ph_NM → ad i = ad j → i = j) {M : ph_Mem} {r : Int32} {M' : ph_Mem} (hf : f12_pass M  = some (r, M')) : ph_C Z l 3 yX12_pass cX12_pass 1 (some .int) D cA ph_kdM ph_NM ad [.ref (ad 0)] M (some (.int r)) M' := by
  refine ph_mk hZ hinj (by decide) (Nat.le_of_ble_eq_true rfl) fun X h fin hE => ?_
  refine (?_ : ph_J X ph_kdM ph_NM ad ((r, M') : (Int32 × ph_Mem)) 0 [(0, .ref (ad 0))] [] M (f12_pass M )) hf
  unfold f12_pass
  refine j_aload_n h dX12_pass_0 rfl 0 rfl ?_
  refine j_aload_n h dX12_pass_1 rfl 0 rfl ?_
  refine j_callVi (n := 0) (As := []) (rest := [.ref (ad 0)]) h 0 tw_1704 tw_1706 tp_105 tw_14 tw_1707 ydf12_passesKept (by decide) (by decide) (by decide) rfl rfl (fun q hq => cf12_passesKept (ph_okZ h) (ph_okI h) hq) rfl (Nat.le_of_ble_eq_true rfl) rfl dX12_pass_2 (fun q1 => ?_)
  refine j_callVi (n := 1) (As := [.int q1.1]) (rest := []) h 0 tw_1680 tw_1682 tp_101 tw_14 tw_1683 ydf12_goodOr (by decide) (by decide) (by decide) rfl rfl (fun q hq => cf12_goodOr (ph_okZ h) (ph_okI h) hq) rfl (Nat.le_of_ble_eq_true rfl) rfl dX12_pass_5 (fun q2 => ?_)
  exact j_iret h rfl fin dX12_pass_8
theorem dX12_auction_0 : decode cX12_auction 0 = .ok (.aload_n 0, 1) := by decide +kernel
theorem dX12_auction_1 : decode cX12_auction 1 = .ok (.iload_n 1, 1) := by decide +kernel
theorem dX12_auction_2 : decode cX12_auction 2 = .ok (.iload_n 2, 1) := by decide +kernel
theorem dX12_auction_3 : decode cX12_auction 3 = .ok (.invokevirtual 338, 3) := by decide +kernel
theorem dX12_auction_6 : decode cX12_auction 6 = .ok (.istore_n 3, 1) := by decide +kernel
theorem dX12_auction_7 : decode cX12_auction 7 = .ok (.iload_n 3, 1) := by decide +kernel
theorem dX12_auction_8 : decode cX12_auction 8 = .ok (.ifCond .ge 9, 3) := by decide +kernel
theorem dX12_auction_11 : decode cX12_auction 11 = .ok (.aload_n 0, 1) := by decide +kernel
theorem dX12_auction_12 : decode cX12_auction 12 = .ok (.iload_n 3, 1) := by decide +kernel
theorem dX12_auction_13 : decode cX12_auction 13 = .ok (.invokevirtual 112, 3) := by decide +kernel
theorem dX12_auction_16 : decode cX12_auction 16 = .ok (.ireturn, 1) := by decide +kernel
theorem dX12_auction_17 : decode cX12_auction 17 = .ok (.iload_n 1, 1) := by decide +kernel
theorem dX12_auction_18 : decode cX12_auction 18 = .ok (.iload_n 2, 1) := by decide +kernel
theorem dX12_auction_19 : decode cX12_auction 19 = .ok (.invokestatic 122, 3) := by decide +kernel
theorem dX12_auction_22 : decode cX12_auction 22 = .ok (.istore 4, 2) := by decide +kernel
theorem dX12_auction_24 : decode cX12_auction 24 = .ok (.aload_n 0, 1) := by decide +kernel
theorem dX12_auction_25 : decode cX12_auction 25 = .ok (.getfield 24, 3) := by decide +kernel
theorem dX12_auction_28 : decode cX12_auction 28 = .ok (.iconst 0, 1) := by decide +kernel
theorem dX12_auction_29 : decode cX12_auction 29 = .ok (.iload 4, 2) := by decide +kernel
theorem dX12_auction_31 : decode cX12_auction 31 = .ok (.iadd, 1) := by decide +kernel
theorem dX12_auction_32 : decode cX12_auction 32 = .ok (.iaload, 1) := by decide +kernel
theorem dX12_auction_33 : decode cX12_auction 33 = .ok (.iconst 1, 1) := by decide +kernel
theorem dX12_auction_34 : decode cX12_auction 34 = .ok (.if_icmp .ne 34, 3) := by decide +kernel
theorem dX12_auction_37 : decode cX12_auction 37 = .ok (.aload_n 0, 1) := by decide +kernel
theorem dX12_auction_38 : decode cX12_auction 38 = .ok (.getfield 24, 3) := by decide +kernel
theorem dX12_auction_41 : decode cX12_auction 41 = .ok (.sipush 222, 3) := by decide +kernel
theorem dX12_auction_44 : decode cX12_auction 44 = .ok (.iaload, 1) := by decide +kernel
theorem dX12_auction_45 : decode cX12_auction 45 = .ok (.aload_n 0, 1) := by decide +kernel
theorem dX12_auction_46 : decode cX12_auction 46 = .ok (.getfield 24, 3) := by decide +kernel
theorem dX12_auction_49 : decode cX12_auction 49 = .ok (.sipush 144, 3) := by decide +kernel
theorem dX12_auction_52 : decode cX12_auction 52 = .ok (.iload 4, 2) := by decide +kernel
theorem dX12_auction_54 : decode cX12_auction 54 = .ok (.iadd, 1) := by decide +kernel
theorem dX12_auction_55 : decode cX12_auction 55 = .ok (.iaload, 1) := by decide +kernel
theorem dX12_auction_56 : decode cX12_auction 56 = .ok (.isub, 1) := by decide +kernel
theorem dX12_auction_57 : decode cX12_auction 57 = .ok (.aload_n 0, 1) := by decide +kernel
theorem dX12_auction_58 : decode cX12_auction 58 = .ok (.getfield 24, 3) := by decide +kernel
theorem dX12_auction_61 : decode cX12_auction 61 = .ok (.sipush 472, 3) := by decide +kernel
theorem dX12_auction_64 : decode cX12_auction 64 = .ok (.iaload, 1) := by decide +kernel
theorem dX12_auction_65 : decode cX12_auction 65 = .ok (.if_icmp .ge 10, 3) := by decide +kernel
theorem dX12_auction_68 : decode cX12_auction 68 = .ok (.aload_n 0, 1) := by decide +kernel
theorem dX12_auction_69 : decode cX12_auction 69 = .ok (.bipush (-3), 2) := by decide +kernel
theorem dX12_auction_71 : decode cX12_auction 71 = .ok (.invokevirtual 112, 3) := by decide +kernel
theorem dX12_auction_74 : decode cX12_auction 74 = .ok (.ireturn, 1) := by decide +kernel
theorem dX12_auction_75 : decode cX12_auction 75 = .ok (.aload_n 0, 1) := by decide +kernel
theorem dX12_auction_76 : decode cX12_auction 76 = .ok (.iconst 3, 1) := by decide +kernel
theorem dX12_auction_77 : decode cX12_auction 77 = .ok (.invokevirtual 344, 3) := by decide +kernel
theorem dX12_auction_80 : decode cX12_auction 80 = .ok (.aload_n 0, 1) := by decide +kernel
theorem dX12_auction_81 : decode cX12_auction 81 = .ok (.getfield 24, 3) := by decide +kernel
theorem dX12_auction_84 : decode cX12_auction 84 = .ok (.iconst 0, 1) := by decide +kernel
theorem dX12_auction_85 : decode cX12_auction 85 = .ok (.iload 4, 2) := by decide +kernel
theorem dX12_auction_87 : decode cX12_auction 87 = .ok (.iadd, 1) := by decide +kernel
theorem dX12_auction_88 : decode cX12_auction 88 = .ok (.iconst 2, 1) := by decide +kernel
theorem dX12_auction_89 : decode cX12_auction 89 = .ok (.iastore, 1) := by decide +kernel
theorem dX12_auction_90 : decode cX12_auction 90 = .ok (.aload_n 0, 1) := by decide +kernel
theorem dX12_auction_91 : decode cX12_auction 91 = .ok (.aload_n 0, 1) := by decide +kernel
theorem dX12_auction_92 : decode cX12_auction 92 = .ok (.getfield 24, 3) := by decide +kernel
theorem dX12_auction_95 : decode cX12_auction 95 = .ok (.bipush 72, 2) := by decide +kernel
theorem dX12_auction_97 : decode cX12_auction 97 = .ok (.iload 4, 2) := by decide +kernel
theorem dX12_auction_99 : decode cX12_auction 99 = .ok (.iadd, 1) := by decide +kernel
theorem dX12_auction_100 : decode cX12_auction 100 = .ok (.iaload, 1) := by decide +kernel
theorem dX12_auction_101 : decode cX12_auction 101 = .ok (.invokevirtual 14, 3) := by decide +kernel
theorem dX12_auction_104 : decode cX12_auction 104 = .ok (.ireturn, 1) := by decide +kernel
def f12_auction_j68 (M : ph_Mem) : Option (Int32 × ph_Mem) :=
  (f12_refuses M (-3 : Int32)).bind fun q7 => some (q7.1, q7.2)
set_option maxHeartbeats 4000000 in
theorem jb_f12_auction_j68 {Z : (Nat → Prop) → State → Prop} {X : ph_X} {ad : Nat → Nat} {o : (Int32 × ph_Mem)} (h : ph_ok Z X cX12_auction RX12 (some .int) 5 3 ph_NM ad) (fin : ph_fin X ph_kdM ph_NM ad (some (.int o.1)) o.2) : ∀ (M : ph_Mem), ph_J X ph_kdM ph_NM ad o 68 [(0, .ref (ad 0))] [] M (f12_auction_j68 M) := by
  intro M
  unfold f12_auction_j68
  refine j_aload_n h dX12_auction_68 rfl 0 rfl ?_
  refine j_bipush (v := (-3 : Int32)) h dX12_auction_69 (by decide) ?_
  refine j_callVi (n := 1) (As := [.int (-3 : Int32)]) (rest := []) h 0 tw_1369 tw_1371 tp_49 tw_14 tw_1372 ydf12_refuses (by decide) (by decide) (by decide) rfl rfl (fun q hq => cf12_refuses (ph_okZ h) (ph_okI h) hq) rfl (Nat.le_of_ble_eq_true rfl) rfl dX12_auction_71 (fun q7 => ?_)
  exact j_iret h rfl fin dX12_auction_74
theorem ydf12_auction : ph_yd yX12_auction 2 := ⟨by decide, by decide, by decide +kernel⟩
def f12_auction (M : ph_Mem) (p0 : Int32) (p1 : Int32) : Option (Int32 × ph_Mem) :=
  (f12_whyNot M p0 p1).bind fun q1 => if 0 ≤ q1 then ((f12_placeOf M p0 p1).bind fun q2 => cond (ph_ib ((0 : Int32) + q2) 6085) (if (M.1 2 ((0 : Int32) + q2).toNatClampNeg) = (1 : Int32) then (cond (ph_ib ((144 : Int32) + q2) 6085) (if (M.1 2 472) ≤ ((M.1 2 222) - (M.1 2 ((144 : Int32) + q2).toNatClampNeg)) then ((f12_keeps M (3 : Int32)).bind fun q3 => cond (ph_ib ((0 : Int32) + q2) 6085) (ph_let (ph_wi q3 2 ((0 : Int32) + q2).toNatClampNeg (2 : Int32)) fun M4 => cond (ph_ib ((72 : Int32) + q2) 6085) ((f12_good M4 (M4.1 2 ((72 : Int32) + q2).toNatClampNeg)).bind fun q5 => some (q5.1, q5.2)) none) none) else (f12_auction_j68  M)) none) else (f12_auction_j68  M)) none) else ((f12_refuses M q1).bind fun q6 => some (q6.1, q6.2))
set_option maxHeartbeats 4000000 in
theorem cf12_auction {Z : (Nat → Prop) → State → Prop} (hZ : ph_Zok Z) {l : Launch} {D : va_G} {cA : Nat → ClassId} {ad : Nat → Nat} (hinj : ∀ i j, i < ph_NM → j < ph_NM → ad i = ad j → i = j) {M : ph_Mem} {p0 : Int32} {p1 : Int32} {r : Int32} {M' : ph_Mem} (hf : f12_auction M p0 p1 = some (r, M')) : ph_C Z l 3 yX12_auction cX12_auction 5 (some .int) D cA ph_kdM ph_NM ad [.ref (ad 0), .int p0, .int p1] M (some (.int r)) M' := by
  refine ph_mk hZ hinj (by decide) (Nat.le_of_ble_eq_true rfl) fun X h fin hE => ?_
  refine (?_ : ph_J X ph_kdM ph_NM ad ((r, M') : (Int32 × ph_Mem)) 0 [(0, .ref (ad 0)), (1, .int p0), (2, .int p1)] [] M (f12_auction M p0 p1)) hf
  unfold f12_auction
  refine j_aload_n h dX12_auction_0 rfl 0 rfl ?_
  refine j_iload_n h dX12_auction_1 rfl 1 rfl ?_
  refine j_iload_n h dX12_auction_2 rfl 2 rfl ?_
  refine j_callViP (n := 2) (As := [.int p0, .int p1]) (rest := []) h 0 tw_1657 tw_1659 tp_96 tw_14 tw_1660 ydf12_whyNot (by decide) (by decide) (by decide) rfl rfl (fun q hq => cf12_whyNot (ph_okZ h) (ph_okI h) hq) rfl (Nat.le_of_ble_eq_true rfl) rfl dX12_auction_3 (fun q1 => ?_)
  refine j_istore_n h [(3, .int q1), (0, .ref (ad 0)), (1, .int p0), (2, .int p1)] dX12_auction_6 rfl (by decide) rfl ?_
  refine j_iload_n h dX12_auction_7 rfl 0 rfl ?_
  refine j_if_ge h 17 dX12_auction_8 (by decide) ?_ ?_
  · refine j_iload_n h dX12_auction_17 rfl 2 rfl ?_
    refine j_iload_n h dX12_auction_18 rfl 3 rfl ?_
    refine j_callSiP (n := 2) (As := [.int p0, .int p1]) (rest := []) h tw_1393 tw_1394 tw_14 tw_1395 ydf12_placeOf (by decide) (by decide) (fun q hq => cf12_placeOf (ph_okZ h) (ph_okI h) hq) rfl (Nat.le_of_ble_eq_true rfl) rfl dX12_auction_19 (fun q2 => ?_)
    refine j_istore h [(4, .int q2), (3, .int q1), (0, .ref (ad 0)), (1, .int p0), (2, .int p1)] dX12_auction_22 (by decide) rfl ?_
    refine j_aload_n h dX12_auction_24 rfl 2 rfl ?_
    refine j_get (c := 0) (j := 2) (v := .ref (ad 2)) h (by decide) rfl rfl ph_inX12 rfl (by decide) tw_1201 rfl rfl dX12_auction_25 ?_
    refine j_iconst (v := (0 : Int32)) h dX12_auction_28 (by decide) ?_
    refine j_iload h dX12_auction_29 0 rfl ?_
    refine j_iadd h dX12_auction_31 ?_
    refine j_iald (c := 2) (n := 6085) h (by decide) rfl dX12_auction_32 ?_
    refine j_iconst (v := (1 : Int32)) h dX12_auction_33 (by decide) ?_
    refine j_icmp_ne h 68 dX12_auction_34 (by decide) ?_ ?_
    · refine j_sub [2] rfl ?_
      exact jb_f12_auction_j68 h fin  M
    · refine j_aload_n h dX12_auction_37 rfl 2 rfl ?_
      refine j_get (c := 0) (j := 2) (v := .ref (ad 2)) h (by decide) rfl rfl ph_inX12 rfl (by decide) tw_1201 rfl rfl dX12_auction_38 ?_
      refine j_sipush (v := (222 : Int32)) h dX12_auction_41 (by decide) ?_
      refine j_ialdK (c := 2) (n := 6085) (kn := 222) h (by decide) rfl rfl (by decide) dX12_auction_44 ?_
      refine j_aload_n h dX12_auction_45 rfl 2 rfl ?_
      refine j_get (c := 0) (j := 2) (v := .ref (ad 2)) h (by decide) rfl rfl ph_inX12 rfl (by decide) tw_1201 rfl rfl dX12_auction_46 ?_
      refine j_sipush (v := (144 : Int32)) h dX12_auction_49 (by decide) ?_
      refine j_iload h dX12_auction_52 0 rfl ?_
      refine j_iadd h dX12_auction_54 ?_
      refine j_iald (c := 2) (n := 6085) h (by decide) rfl dX12_auction_55 ?_
      refine j_isub h dX12_auction_56 ?_
      refine j_aload_n h dX12_auction_57 rfl 2 rfl ?_
      refine j_get (c := 0) (j := 2) (v := .ref (ad 2)) h (by decide) rfl rfl ph_inX12 rfl (by decide) tw_1201 rfl rfl dX12_auction_58 ?_
      refine j_sipush (v := (472 : Int32)) h dX12_auction_61 (by decide) ?_
      refine j_ialdK (c := 2) (n := 6085) (kn := 472) h (by decide) rfl rfl (by decide) dX12_auction_64 ?_
      refine j_icmp_ge h 75 dX12_auction_65 (by decide) ?_ ?_
      · refine j_aload_n h dX12_auction_75 rfl 2 rfl ?_
        refine j_iconst (v := (3 : Int32)) h dX12_auction_76 (by decide) ?_
        refine j_callVv (n := 1) (As := [.int (3 : Int32)]) (rest := []) h 0 tw_1669 tw_1671 tp_99 tw_14 tw_1672 ydf12_keeps (by decide) (by decide) (by decide) rfl rfl (fun q hq => cf12_keeps (ph_okZ h) (ph_okI h) hq) rfl (Nat.le_of_ble_eq_true rfl) rfl dX12_auction_77 (fun q3 => ?_)
        refine j_aload_n h dX12_auction_80 rfl 2 rfl ?_
        refine j_get (c := 0) (j := 2) (v := .ref (ad 2)) h (by decide) rfl rfl ph_inX12 rfl (by decide) tw_1201 rfl rfl dX12_auction_81 ?_
        refine j_iconst (v := (0 : Int32)) h dX12_auction_84 (by decide) ?_
        refine j_iload h dX12_auction_85 0 rfl ?_
        refine j_iadd h dX12_auction_87 ?_
        refine j_iconst (v := (2 : Int32)) h dX12_auction_88 (by decide) ?_
        refine j_iast (c := 2) (n := 6085) h (by decide) rfl dX12_auction_89 ?_
        refine j_letM (fun M4 => ?_)
        refine j_aload_n h dX12_auction_90 rfl 2 rfl ?_
        refine j_aload_n h dX12_auction_91 rfl 2 rfl ?_
        refine j_get (c := 0) (j := 2) (v := .ref (ad 2)) h (by decide) rfl rfl ph_inX12 rfl (by decide) tw_1201 rfl rfl dX12_auction_92 ?_
        refine j_bipush (v := (72 : Int32)) h dX12_auction_95 (by decide) ?_
        refine j_iload h dX12_auction_97 0 rfl ?_
        refine j_iadd h dX12_auction_99 ?_
        refine j_iald (c := 2) (n := 6085) h (by decide) rfl dX12_auction_100 ?_
        refine j_callVi (n := 1) (As := [.int (M4.1 2 ((72 : Int32) + q2).toNatClampNeg)]) (rest := []) h 0 tw_1373 tw_1375 tp_50 tw_14 tw_1376 ydf12_good (by decide) (by decide) (by decide) rfl rfl (fun q hq => cf12_good (ph_okZ h) (ph_okI h) hq) rfl (Nat.le_of_ble_eq_true rfl) rfl dX12_auction_101 (fun q5 => ?_)
        exact j_iret h rfl fin dX12_auction_104
      · refine j_sub [2] rfl ?_
        exact jb_f12_auction_j68 h fin  M
  · refine j_aload_n h dX12_auction_11 rfl 1 rfl ?_
    refine j_iload_n h dX12_auction_12 rfl 0 rfl ?_
    refine j_callVi (n := 1) (As := [.int q1]) (rest := []) h 0 tw_1369 tw_1371 tp_49 tw_14 tw_1372 ydf12_refuses (by decide) (by decide) (by decide) rfl rfl (fun q hq => cf12_refuses (ph_okZ h) (ph_okI h) hq) rfl (Nat.le_of_ble_eq_true rfl) rfl dX12_auction_13 (fun q6 => ?_)
    exact j_iret h rfl fin dX12_auction_16
theorem dX12_laysKnown_0 : decode cX12_laysKnown 0 = .ok (.iconst 0, 1) := by decide +kernel
theorem dX12_laysKnown_1 : decode cX12_laysKnown 1 = .ok (.istore_n 1, 1) := by decide +kernel
theorem dX12_laysKnown_2 : decode cX12_laysKnown 2 = .ok (.iload_n 1, 1) := by decide +kernel
theorem dX12_laysKnown_3 : decode cX12_laysKnown 3 = .ok (.aload_n 0, 1) := by decide +kernel
theorem dX12_laysKnown_4 : decode cX12_laysKnown 4 = .ok (.invokevirtual 118, 3) := by decide +kernel
theorem dX12_laysKnown_7 : decode cX12_laysKnown 7 = .ok (.if_icmp .ge 26, 3) := by decide +kernel
theorem dX12_laysKnown_10 : decode cX12_laysKnown 10 = .ok (.aload_n 0, 1) := by decide +kernel
theorem dX12_laysKnown_11 : decode cX12_laysKnown 11 = .ok (.getfield 71, 3) := by decide +kernel
theorem dX12_laysKnown_14 : decode cX12_laysKnown 14 = .ok (.iload_n 1, 1) := by decide +kernel
theorem dX12_laysKnown_15 : decode cX12_laysKnown 15 = .ok (.aload_n 0, 1) := by decide +kernel
theorem dX12_laysKnown_16 : decode cX12_laysKnown 16 = .ok (.iload_n 1, 1) := by decide +kernel
theorem dX12_laysKnown_17 : decode cX12_laysKnown 17 = .ok (.aload_n 0, 1) := by decide +kernel
theorem dX12_laysKnown_18 : decode cX12_laysKnown 18 = .ok (.iload_n 1, 1) := by decide +kernel
theorem dX12_laysKnown_19 : decode cX12_laysKnown 19 = .ok (.iconst 0, 1) := by decide +kernel
theorem dX12_laysKnown_20 : decode cX12_laysKnown 20 = .ok (.invokevirtual 159, 3) := by decide +kernel
theorem dX12_laysKnown_23 : decode cX12_laysKnown 23 = .ok (.invokevirtual 165, 3) := by decide +kernel
theorem dX12_laysKnown_26 : decode cX12_laysKnown 26 = .ok (.iastore, 1) := by decide +kernel
theorem dX12_laysKnown_27 : decode cX12_laysKnown 27 = .ok (.iinc 1 1, 3) := by decide +kernel
theorem dX12_laysKnown_30 : decode cX12_laysKnown 30 = .ok (.goto (-28), 3) := by decide +kernel
theorem dX12_laysKnown_33 : decode cX12_laysKnown 33 = .ok (.return_, 1) := by decide +kernel
def f12_laysKnown_l2 : Nat → Int32 → ph_Mem → Option ph_Mem
  | 0, _, _ => none
  | n + 1, x1, M => (f12_people M ).bind fun q1 => if q1 ≤ x1 then (some M) else ((f12_hoursIn M x1 (0 : Int32)).bind fun q2 => (f12_knownBy M x1 q2).bind fun q3 => cond (ph_ib x1 6) (ph_let (ph_wi q3.2 16 x1.toNatClampNeg q3.1) fun M4 => (f12_laysKnown_l2 n) (x1 + (1 : Int32)) M4) none)
set_option maxHeartbeats 4000000 in
theorem jb_f12_laysKnown_l2 {Z : (Nat → Prop) → State → Prop} {X : ph_X} {ad : Nat → Nat} {o : ph_Mem} (h : ph_ok Z X cX12_laysKnown RX12 none 2 3 ph_NM ad) (fin : ph_fin X ph_kdM ph_NM ad none o) : ∀ (n : Nat) (x1 : Int32) (M : ph_Mem), ph_J X ph_kdM ph_NM ad o 2 [(0, .ref (ad 0)), (1, .int x1)] [] M (f12_laysKnown_l2 n x1 M) := by
  intro n
  induction n with
  | zero => intro x1 M; exact j_none
  | succ n hrc2 =>
    intro x1 M
    unfold f12_laysKnown_l2
    refine j_iload_n h dX12_laysKnown_2 rfl 1 rfl ?_
    refine j_aload_n h dX12_laysKnown_3 rfl 0 rfl ?_
    refine j_callViP (n := 0) (As := []) (rest := [.int x1]) h 0 tw_1389 tw_1391 tp_52 tw_14 tw_1392 ydf12_people (by decide) (by decide) (by decide) rfl rfl (fun q hq => cf12_people (ph_okZ h) (ph_okI h) hq) rfl (Nat.le_of_ble_eq_true rfl) rfl dX12_laysKnown_4 (fun q1 => ?_)
    refine j_icmp_ge h 33 dX12_laysKnown_7 (by decide) ?_ ?_
    · exact j_vret h rfl fin dX12_laysKnown_33
    · refine j_aload_n h dX12_laysKnown_10 rfl 0 rfl ?_
      refine j_get (c := 0) (j := 30) (v := .ref (ad 16)) h (by decide) rfl rfl ph_inX12 rfl (by decide) tw_1229 rfl rfl dX12_laysKnown_11 ?_
      refine j_iload_n h dX12_laysKnown_14 rfl 1 rfl ?_
      refine j_aload_n h dX12_laysKnown_15 rfl 0 rfl ?_
      refine j_iload_n h dX12_laysKnown_16 rfl 1 rfl ?_
      refine j_aload_n h dX12_laysKnown_17 rfl 0 rfl ?_
      refine j_iload_n h dX12_laysKnown_18 rfl 1 rfl ?_
      refine j_iconst (v := (0 : Int32)) h dX12_laysKnown_19 (by decide) ?_
      refine j_callViP (n := 2) (As := [.int x1, .int (0 : Int32)]) (rest := [.int x1, .ref (ad 0), .int x1, .ref (ad 16)]) h 0 tw_1469 tw_1471 tp_66 tw_14 tw_1472 ydf12_hoursIn (by decide) (by decide) (by decide) rfl rfl (fun q hq => cf12_hoursIn (ph_okZ h) (ph_okI h) hq) rfl (Nat.le_of_ble_eq_true rfl) rfl dX12_laysKnown_20 (fun q2 => ?_)
      refine j_callVi (n := 2) (As := [.int x1, .int q2]) (rest := [.int x1, .ref (ad 16)]) h 0 tw_1473 tw_1475 tp_67 tw_14 tw_1476 ydf12_knownBy (by decide) (by decide) (by decide) rfl rfl (fun q hq => cf12_knownBy (ph_okZ h) (ph_okI h) hq) rfl (Nat.le_of_ble_eq_true rfl) rfl dX12_laysKnown_23 (fun q3 => ?_)
      refine j_iast (c := 16) (n := 6) h (by decide) rfl dX12_laysKnown_26 ?_
      refine j_letM (fun M4 => ?_)
      refine j_iinc h [(1, .int (x1 + (1 : Int32))), (0, .ref (ad 0))] dX12_laysKnown_27 1 rfl rfl (by decide) rfl ?_
      refine j_goto h 2 dX12_laysKnown_30 (by decide) ?_
      refine j_sub [1, 0] rfl ?_
      exact hrc2 (x1 + (1 : Int32)) M4
theorem ydf12_laysKnown : ph_yd yX12_laysKnown 0 := ⟨by decide, by decide, by decide +kernel⟩
def f12_laysKnown (M : ph_Mem) : Option ph_Mem :=
  f12_laysKnown_l2 10000 (0 : Int32) M
set_option maxHeartbeats 4000000 in
theorem cf12_laysKnown {Z : (Nat → Prop) → State → Prop} (hZ : ph_Zok Z) {l : Launch} {D : va_G} {cA : Nat → ClassId} {ad : Nat → Nat} (hinj : ∀ i j, i < ph_NM → j < ph_NM → ad i = ad j → i = j) {M : ph_Mem} {M' : ph_Mem} (hf : f12_laysKnown M  = some M') : ph_C Z l 3 yX12_laysKnown cX12_laysKnown 2 none D cA ph_kdM ph_NM ad [.ref (ad 0)] M none M' := by
  refine ph_mk hZ hinj (by decide) (Nat.le_of_ble_eq_true rfl) fun X h fin hE => ?_
  refine (?_ : ph_J X ph_kdM ph_NM ad (M' : ph_Mem) 0 [(0, .ref (ad 0))] [] M (f12_laysKnown M )) hf
  unfold f12_laysKnown
  refine j_iconst (v := (0 : Int32)) h dX12_laysKnown_0 (by decide) ?_
  refine j_istore_n h [(1, .int (0 : Int32)), (0, .ref (ad 0))] dX12_laysKnown_1 rfl (by decide) rfl ?_
  refine j_sub [1, 0] rfl ?_
  exact jb_f12_laysKnown_l2 h fin 10000 (0 : Int32) M
theorem dX12_metIn_0 : decode cX12_metIn 0 = .ok (.aload_n 0, 1) := by decide +kernel
theorem dX12_metIn_1 : decode cX12_metIn 1 = .ok (.iload_n 1, 1) := by decide +kernel
theorem dX12_metIn_2 : decode cX12_metIn 2 = .ok (.iload_n 3, 1) := by decide +kernel
theorem dX12_metIn_3 : decode cX12_metIn 3 = .ok (.invokevirtual 332, 3) := by decide +kernel
theorem dX12_metIn_6 : decode cX12_metIn 6 = .ok (.ifCond .eq 58, 3) := by decide +kernel
theorem dX12_metIn_9 : decode cX12_metIn 9 = .ok (.aload_n 0, 1) := by decide +kernel
theorem dX12_metIn_10 : decode cX12_metIn 10 = .ok (.iload_n 2, 1) := by decide +kernel
theorem dX12_metIn_11 : decode cX12_metIn 11 = .ok (.iload_n 3, 1) := by decide +kernel
theorem dX12_metIn_12 : decode cX12_metIn 12 = .ok (.invokevirtual 332, 3) := by decide +kernel
theorem dX12_metIn_15 : decode cX12_metIn 15 = .ok (.ifCond .eq 49, 3) := by decide +kernel
theorem dX12_metIn_18 : decode cX12_metIn 18 = .ok (.aload_n 0, 1) := by decide +kernel
theorem dX12_metIn_19 : decode cX12_metIn 19 = .ok (.getfield 24, 3) := by decide +kernel
theorem dX12_metIn_22 : decode cX12_metIn 22 = .ok (.sipush 295, 3) := by decide +kernel
theorem dX12_metIn_25 : decode cX12_metIn 25 = .ok (.iload_n 1, 1) := by decide +kernel
theorem dX12_metIn_26 : decode cX12_metIn 26 = .ok (.iload_n 3, 1) := by decide +kernel
theorem dX12_metIn_27 : decode cX12_metIn 27 = .ok (.invokestatic 122, 3) := by decide +kernel
theorem dX12_metIn_30 : decode cX12_metIn 30 = .ok (.iadd, 1) := by decide +kernel
theorem dX12_metIn_31 : decode cX12_metIn 31 = .ok (.iaload, 1) := by decide +kernel
theorem dX12_metIn_32 : decode cX12_metIn 32 = .ok (.iload_n 2, 1) := by decide +kernel
theorem dX12_metIn_33 : decode cX12_metIn 33 = .ok (.invokestatic 133, 3) := by decide +kernel
theorem dX12_metIn_36 : decode cX12_metIn 36 = .ok (.ifCond .eq 28, 3) := by decide +kernel
theorem dX12_metIn_39 : decode cX12_metIn 39 = .ok (.aload_n 0, 1) := by decide +kernel
theorem dX12_metIn_40 : decode cX12_metIn 40 = .ok (.getfield 24, 3) := by decide +kernel
theorem dX12_metIn_43 : decode cX12_metIn 43 = .ok (.sipush 295, 3) := by decide +kernel
theorem dX12_metIn_46 : decode cX12_metIn 46 = .ok (.iload_n 2, 1) := by decide +kernel
theorem dX12_metIn_47 : decode cX12_metIn 47 = .ok (.iload_n 3, 1) := by decide +kernel
theorem dX12_metIn_48 : decode cX12_metIn 48 = .ok (.invokestatic 122, 3) := by decide +kernel
theorem dX12_metIn_51 : decode cX12_metIn 51 = .ok (.iadd, 1) := by decide +kernel
theorem dX12_metIn_52 : decode cX12_metIn 52 = .ok (.iaload, 1) := by decide +kernel
theorem dX12_metIn_53 : decode cX12_metIn 53 = .ok (.iload_n 1, 1) := by decide +kernel
theorem dX12_metIn_54 : decode cX12_metIn 54 = .ok (.invokestatic 133, 3) := by decide +kernel
theorem dX12_metIn_57 : decode cX12_metIn 57 = .ok (.ifCond .eq 7, 3) := by decide +kernel
theorem dX12_metIn_60 : decode cX12_metIn 60 = .ok (.iconst 1, 1) := by decide +kernel
theorem dX12_metIn_61 : decode cX12_metIn 61 = .ok (.goto 4, 3) := by decide +kernel
theorem dX12_metIn_64 : decode cX12_metIn 64 = .ok (.iconst 0, 1) := by decide +kernel
theorem dX12_metIn_65 : decode cX12_metIn 65 = .ok (.ireturn, 1) := by decide +kernel
theorem ydf12_metIn : ph_yd yX12_metIn 3 := ⟨by decide, by decide, by decide +kernel⟩
def f12_metIn (M : ph_Mem) (p0 : Int32) (p1 : Int32) (p2 : Int32) : Option Int32 :=
  (f12_holds M p0 p2).bind fun q1 => if q1 = 0 then (some (0 : Int32)) else ((f12_holds M p1 p2).bind fun q2 => if q2 = 0 then (some (0 : Int32)) else ((f12_placeOf M p0 p2).bind fun q3 => cond (ph_ib ((295 : Int32) + q3) 6085) ((f12_isIn M (M.1 2 ((295 : Int32) + q3).toNatClampNeg) p1).bind fun q4 => if q4 = 0 then (some (0 : Int32)) else ((f12_placeOf M p1 p2).bind fun q5 => cond (ph_ib ((295 : Int32) + q5) 6085) ((f12_isIn M (M.1 2 ((295 : Int32) + q5).toNatClampNeg) p0).bind fun q6 => if q6 = 0 then (some (0 : Int32)) else (some (1 : Int32))) none)) none))
set_option maxHeartbeats 4000000 in
theorem cf12_metIn {Z : (Nat → Prop) → State → Prop} (hZ : ph_Zok Z) {l : Launch} {D : va_G} {cA : Nat → ClassId} {ad : Nat → Nat} (hinj : ∀ i j, i < ph_NM → j < ph_NM → ad i = ad j → i = j) {M : ph_Mem} {p0 : Int32} {p1 : Int32} {p2 : Int32} {r : Int32} (hf : f12_metIn M p0 p1 p2 = some r) : ph_C Z l 3 yX12_metIn cX12_metIn 4 (some .boolean) D cA ph_kdM ph_NM ad [.ref (ad 0), .int p0, .int p1, .int p2] M (some (.int r)) M := by
  refine ph_mk hZ hinj (by decide) (Nat.le_of_ble_eq_true rfl) fun X h fin hE => ?_
  refine (?_ : ph_J X ph_kdM ph_NM ad (r : Int32) 0 [(0, .ref (ad 0)), (1, .int p0), (2, .int p1), (3, .int p2)] [] M (f12_metIn M p0 p1 p2)) hf
  unfold f12_metIn
  refine j_aload_n h dX12_metIn_0 rfl 0 rfl ?_
  refine j_iload_n h dX12_metIn_1 rfl 1 rfl ?_
  refine j_iload_n h dX12_metIn_2 rfl 3 rfl ?_
  refine j_callViP (n := 2) (As := [.int p0, .int p2]) (rest := []) h 0 tw_1665 tw_1667 tp_98 tw_14 tw_1668 ydf12_holds (by decide) (by decide) (by decide) rfl rfl (fun q hq => cf12_holds (ph_okZ h) (ph_okI h) hq) rfl (Nat.le_of_ble_eq_true rfl) rfl dX12_metIn_3 (fun q1 => ?_)
  refine j_if_eq h 64 dX12_metIn_6 (by decide) ?_ ?_
  · refine j_iconst (v := (0 : Int32)) h dX12_metIn_64 (by decide) ?_
    exact j_zretPC h rfl (by decide) fin dX12_metIn_65
  · refine j_aload_n h dX12_metIn_9 rfl 0 rfl ?_
    refine j_iload_n h dX12_metIn_10 rfl 2 rfl ?_
    refine j_iload_n h dX12_metIn_11 rfl 3 rfl ?_
    refine j_callViP (n := 2) (As := [.int p1, .int p2]) (rest := []) h 0 tw_1665 tw_1667 tp_98 tw_14 tw_1668 ydf12_holds (by decide) (by decide) (by decide) rfl rfl (fun q hq => cf12_holds (ph_okZ h) (ph_okI h) hq) rfl (Nat.le_of_ble_eq_true rfl) rfl dX12_metIn_12 (fun q2 => ?_)
    refine j_if_eq h 64 dX12_metIn_15 (by decide) ?_ ?_
    · refine j_iconst (v := (0 : Int32)) h dX12_metIn_64 (by decide) ?_
      exact j_zretPC h rfl (by decide) fin dX12_metIn_65
    · refine j_aload_n h dX12_metIn_18 rfl 0 rfl ?_
      refine j_get (c := 0) (j := 2) (v := .ref (ad 2)) h (by decide) rfl rfl ph_inX12 rfl (by decide) tw_1201 rfl rfl dX12_metIn_19 ?_
      refine j_sipush (v := (295 : Int32)) h dX12_metIn_22 (by decide) ?_
      refine j_iload_n h dX12_metIn_25 rfl 1 rfl ?_
      refine j_iload_n h dX12_metIn_26 rfl 3 rfl ?_
      refine j_callSiP (n := 2) (As := [.int p0, .int p2]) (rest := [.int (295 : Int32), .ref (ad 2)]) h tw_1393 tw_1394 tw_14 tw_1395 ydf12_placeOf (by decide) (by decide) (fun q hq => cf12_placeOf (ph_okZ h) (ph_okI h) hq) rfl (Nat.le_of_ble_eq_true rfl) rfl dX12_metIn_27 (fun q3 => ?_)
      refine j_iadd h dX12_metIn_30 ?_
      refine j_iald (c := 2) (n := 6085) h (by decide) rfl dX12_metIn_31 ?_
      refine j_iload_n h dX12_metIn_32 rfl 2 rfl ?_
      refine j_callSiP (n := 2) (As := [.int (M.1 2 ((295 : Int32) + q3).toNatClampNeg), .int p1]) (rest := []) h tw_1415 tw_1416 tw_14 tw_1417 ydf12_isIn (by decide) (by decide) (fun q hq => cf12_isIn (ph_okZ h) (ph_okI h) hq) rfl (Nat.le_of_ble_eq_true rfl) rfl dX12_metIn_33 (fun q4 => ?_)
      refine j_if_eq h 64 dX12_metIn_36 (by decide) ?_ ?_
      · refine j_iconst (v := (0 : Int32)) h dX12_metIn_64 (by decide) ?_
        exact j_zretPC h rfl (by decide) fin dX12_metIn_65
      · refine j_aload_n h dX12_metIn_39 rfl 0 rfl ?_
        refine j_get (c := 0) (j := 2) (v := .ref (ad 2)) h (by decide) rfl rfl ph_inX12 rfl (by decide) tw_1201 rfl rfl dX12_metIn_40 ?_
        refine j_sipush (v := (295 : Int32)) h dX12_metIn_43 (by decide) ?_
        refine j_iload_n h dX12_metIn_46 rfl 2 rfl ?_
        refine j_iload_n h dX12_metIn_47 rfl 3 rfl ?_
        refine j_callSiP (n := 2) (As := [.int p1, .int p2]) (rest := [.int (295 : Int32), .ref (ad 2)]) h tw_1393 tw_1394 tw_14 tw_1395 ydf12_placeOf (by decide) (by decide) (fun q hq => cf12_placeOf (ph_okZ h) (ph_okI h) hq) rfl (Nat.le_of_ble_eq_true rfl) rfl dX12_metIn_48 (fun q5 => ?_)
        refine j_iadd h dX12_metIn_51 ?_
        refine j_iald (c := 2) (n := 6085) h (by decide) rfl dX12_metIn_52 ?_
        refine j_iload_n h dX12_metIn_53 rfl 1 rfl ?_
        refine j_callSiP (n := 2) (As := [.int (M.1 2 ((295 : Int32) + q5).toNatClampNeg), .int p0]) (rest := []) h tw_1415 tw_1416 tw_14 tw_1417 ydf12_isIn (by decide) (by decide) (fun q hq => cf12_isIn (ph_okZ h) (ph_okI h) hq) rfl (Nat.le_of_ble_eq_true rfl) rfl dX12_metIn_54 (fun q6 => ?_)
        refine j_if_eq h 64 dX12_metIn_57 (by decide) ?_ ?_
        · refine j_iconst (v := (0 : Int32)) h dX12_metIn_64 (by decide) ?_
          exact j_zretPC h rfl (by decide) fin dX12_metIn_65
        · refine j_iconst (v := (1 : Int32)) h dX12_metIn_60 (by decide) ?_
          refine j_goto h 65 dX12_metIn_61 (by decide) ?_
          exact j_zretPC h rfl (by decide) fin dX12_metIn_65
theorem dX12_areTogether_0 : decode cX12_areTogether 0 = .ok (.iload_n 1, 1) := by decide +kernel
theorem dX12_areTogether_1 : decode cX12_areTogether 1 = .ok (.iload_n 2, 1) := by decide +kernel
theorem dX12_areTogether_2 : decode cX12_areTogether 2 = .ok (.if_icmp .eq 13, 3) := by decide +kernel
theorem dX12_areTogether_5 : decode cX12_areTogether 5 = .ok (.aload_n 0, 1) := by decide +kernel
theorem dX12_areTogether_6 : decode cX12_areTogether 6 = .ok (.iload_n 1, 1) := by decide +kernel
theorem dX12_areTogether_7 : decode cX12_areTogether 7 = .ok (.iload_n 2, 1) := by decide +kernel
theorem dX12_areTogether_8 : decode cX12_areTogether 8 = .ok (.iload_n 3, 1) := by decide +kernel
theorem dX12_areTogether_9 : decode cX12_areTogether 9 = .ok (.invokevirtual 371, 3) := by decide +kernel
theorem dX12_areTogether_12 : decode cX12_areTogether 12 = .ok (.ifCond .eq 7, 3) := by decide +kernel
theorem dX12_areTogether_15 : decode cX12_areTogether 15 = .ok (.iconst 1, 1) := by decide +kernel
theorem dX12_areTogether_16 : decode cX12_areTogether 16 = .ok (.goto 4, 3) := by decide +kernel
theorem dX12_areTogether_19 : decode cX12_areTogether 19 = .ok (.iconst 0, 1) := by decide +kernel
theorem dX12_areTogether_20 : decode cX12_areTogether 20 = .ok (.ireturn, 1) := by decide +kernel
theorem ydf12_areTogether : ph_yd yX12_areTogether 3 := ⟨by decide, by decide, by decide +kernel⟩
def f12_areTogether (M : ph_Mem) (p0 : Int32) (p1 : Int32) (p2 : Int32) : Option Int32 :=
  if p0 = p1 then (some (1 : Int32)) else ((f12_metIn M p0 p1 p2).bind fun q1 => if q1 = 0 then (some (0 : Int32)) else (some (1 : Int32)))
set_option maxHeartbeats 4000000 in
theorem cf12_areTogether {Z : (Nat → Prop) → State → Prop} (hZ : ph_Zok Z) {l : Launch} {D : va_G} {cA : Nat → ClassId} {ad : Nat → Nat} (hinj : ∀ i j, i < ph_NM → j < ph_NM → ad i = ad j → i = j) {M : ph_Mem} {p0 : Int32} {p1 : Int32} {p2 : Int32} {r : Int32} (hf : f12_areTogether M p0 p1 p2 = some r) : ph_C Z l 4 yX12_areTogether cX12_areTogether 4 (some .boolean) D cA ph_kdM ph_NM ad [.ref (ad 0), .int p0, .int p1, .int p2] M (some (.int r)) M := by
  refine ph_mk hZ hinj (by decide) (Nat.le_of_ble_eq_true rfl) fun X h fin hE => ?_
  refine (?_ : ph_J X ph_kdM ph_NM ad (r : Int32) 0 [(0, .ref (ad 0)), (1, .int p0), (2, .int p1), (3, .int p2)] [] M (f12_areTogether M p0 p1 p2)) hf
  unfold f12_areTogether
  refine j_iload_n h dX12_areTogether_0 rfl 1 rfl ?_
  refine j_iload_n h dX12_areTogether_1 rfl 2 rfl ?_
  refine j_icmp_eq h 15 dX12_areTogether_2 (by decide) ?_ ?_
  · refine j_iconst (v := (1 : Int32)) h dX12_areTogether_15 (by decide) ?_
    refine j_goto h 20 dX12_areTogether_16 (by decide) ?_
    exact j_zretPC h rfl (by decide) fin dX12_areTogether_20
  · refine j_aload_n h dX12_areTogether_5 rfl 0 rfl ?_
    refine j_iload_n h dX12_areTogether_6 rfl 1 rfl ?_
    refine j_iload_n h dX12_areTogether_7 rfl 2 rfl ?_
    refine j_iload_n h dX12_areTogether_8 rfl 3 rfl ?_
    refine j_callViP (n := 3) (As := [.int p0, .int p1, .int p2]) (rest := []) h 0 tw_1736 tw_1738 tp_111 tw_14 tw_1739 ydf12_metIn (by decide) (by decide) (by decide) rfl rfl (fun q hq => cf12_metIn (ph_okZ h) (ph_okI h) hq) rfl (Nat.le_of_ble_eq_true rfl) rfl dX12_areTogether_9 (fun q1 => ?_)
    refine j_if_eq h 19 dX12_areTogether_12 (by decide) ?_ ?_
    · refine j_iconst (v := (0 : Int32)) h dX12_areTogether_19 (by decide) ?_
      exact j_zretPC h rfl (by decide) fin dX12_areTogether_20
    · refine j_iconst (v := (1 : Int32)) h dX12_areTogether_15 (by decide) ?_
      refine j_goto h 20 dX12_areTogether_16 (by decide) ?_
      exact j_zretPC h rfl (by decide) fin dX12_areTogether_20
