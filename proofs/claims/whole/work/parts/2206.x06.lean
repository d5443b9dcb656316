theorem dX6_isNumber_0 : decode cX6_isNumber 0 = .ok (.aload_n 0, 1) := by decide +kernel
theorem dX6_isNumber_1 : decode cX6_isNumber 1 = .ok (.getfield 40, 3) := by decide +kernel
theorem dX6_isNumber_4 : decode cX6_isNumber 4 = .ok (.iconst (-1), 1) := by decide +kernel
theorem dX6_isNumber_5 : decode cX6_isNumber 5 = .ok (.if_icmp .ne 20, 3) := by decide +kernel
theorem dX6_isNumber_8 : decode cX6_isNumber 8 = .ok (.aload_n 0, 1) := by decide +kernel
theorem dX6_isNumber_9 : decode cX6_isNumber 9 = .ok (.getfield 21, 3) := by decide +kernel
theorem dX6_isNumber_12 : decode cX6_isNumber 12 = .ok (.aload_n 0, 1) := by decide +kernel
theorem dX6_isNumber_13 : decode cX6_isNumber 13 = .ok (.getfield 70, 3) := by decide +kernel
theorem dX6_isNumber_16 : decode cX6_isNumber 16 = .ok (.iaload, 1) := by decide +kernel
theorem dX6_isNumber_17 : decode cX6_isNumber 17 = .ok (.iconst 1, 1) := by decide +kernel
theorem dX6_isNumber_18 : decode cX6_isNumber 18 = .ok (.if_icmp .ne 7, 3) := by decide +kernel
theorem dX6_isNumber_21 : decode cX6_isNumber 21 = .ok (.iconst 1, 1) := by decide +kernel
theorem dX6_isNumber_22 : decode cX6_isNumber 22 = .ok (.goto 4, 3) := by decide +kernel
theorem dX6_isNumber_25 : decode cX6_isNumber 25 = .ok (.iconst 0, 1) := by decide +kernel
theorem dX6_isNumber_26 : decode cX6_isNumber 26 = .ok (.ireturn, 1) := by decide +kernel
theorem ydf6_isNumber : ph_yd yX6_isNumber 0 := ⟨by decide, by decide, by decide +kernel⟩
def f6_isNumber (S : ph_Sh) (M : ph_Mem) : Option Int32 :=
  if (M.1 63 2) = (-1 : Int32) then (cond (ph_ib (M.1 63 8) 401) (if (M.1 67 (M.1 63 8).toNatClampNeg) = (1 : Int32) then (some (1 : Int32)) else (some (0 : Int32))) none) else (some (0 : Int32))
set_option maxHeartbeats 4000000 in
theorem cf6_isNumber {tb adK adV : Nat → Nat} {S : ph_Sh} {l : Launch} {D : va_G} {cA : Nat → ClassId} {ad : Nat → Nat} (hinj : ∀ i j, i < S.2 → j < S.2 → ad i = ad j → i = j) (hS : ph_SX S) {M : ph_Mem} {r : Int32} (hf : f6_isNumber S M  = some r) : ph_C (ph_ZX tb adK adV) l 0 yX6_isNumber cX6_isNumber 1 (some .boolean) D cA S.1 S.2 ad [.ref (ad 63)] M (some (.int r)) M := by
  refine ph_mk ph_ZX_ok hinj (by decide) (Nat.le_of_ble_eq_true rfl) fun X h fin hE => ?_
  refine (?_ : ph_J X S.1 S.2 ad (r : Int32) 0 [(0, .ref (ad 63))] [] M (f6_isNumber S M )) hf
  unfold f6_isNumber
  refine j_aload_n h dX6_isNumber_0 rfl 0 rfl ?_
  refine j_get (c := 63) (j := 2) (v := .int (M.1 63 2)) h (ph_xlt hS (by decide)) (ph_kc63 hS) rfl ph_inX6 rfl (by decide) tw_170 rfl rfl dX6_isNumber_1 ?_
  refine j_iconst (v := (-1 : Int32)) h dX6_isNumber_4 (by decide) ?_
  refine j_icmp_ne h 25 dX6_isNumber_5 (by decide) ?_ ?_
  · refine j_iconst (v := (0 : Int32)) h dX6_isNumber_25 (by decide) ?_
    exact j_zretPC h rfl (by decide) fin dX6_isNumber_26
  · refine j_aload_n h dX6_isNumber_8 rfl 0 rfl ?_
    refine j_get (c := 63) (j := 6) (v := .ref (ad 67)) h (ph_xlt hS (by decide)) (ph_kc63 hS) rfl ph_inX6 rfl (by decide) tw_175 rfl rfl dX6_isNumber_9 ?_
    refine j_aload_n h dX6_isNumber_12 rfl 0 rfl ?_
    refine j_get (c := 63) (j := 8) (v := .int (M.1 63 8)) h (ph_xlt hS (by decide)) (ph_kc63 hS) rfl ph_inX6 rfl (by decide) tw_177 rfl rfl dX6_isNumber_13 ?_
    refine j_iald (c := 67) (n := 401) h (ph_xlt hS (by decide)) (ph_kc67 hS) dX6_isNumber_16 ?_
    refine j_iconst (v := (1 : Int32)) h dX6_isNumber_17 (by decide) ?_
    refine j_icmp_ne h 25 dX6_isNumber_18 (by decide) ?_ ?_
    · refine j_iconst (v := (0 : Int32)) h dX6_isNumber_25 (by decide) ?_
      exact j_zretPC h rfl (by decide) fin dX6_isNumber_26
    · refine j_iconst (v := (1 : Int32)) h dX6_isNumber_21 (by decide) ?_
      refine j_goto h 26 dX6_isNumber_22 (by decide) ?_
      exact j_zretPC h rfl (by decide) fin dX6_isNumber_26
theorem dX6_wordOfOrders_0 : decode cX6_wordOfOrders 0 = .ok (.aload_n 0, 1) := by decide +kernel
theorem dX6_wordOfOrders_1 : decode cX6_wordOfOrders 1 = .ok (.ldc 235, 2) := by decide +kernel
theorem dX6_wordOfOrders_3 : decode cX6_wordOfOrders 3 = .ok (.invokevirtual 63, 3) := by decide +kernel
theorem dX6_wordOfOrders_6 : decode cX6_wordOfOrders 6 = .ok (.ifCond .eq 5, 3) := by decide +kernel
theorem dX6_wordOfOrders_9 : decode cX6_wordOfOrders 9 = .ok (.iconst 0, 1) := by decide +kernel
theorem dX6_wordOfOrders_10 : decode cX6_wordOfOrders 10 = .ok (.ireturn, 1) := by decide +kernel
theorem dX6_wordOfOrders_11 : decode cX6_wordOfOrders 11 = .ok (.aload_n 0, 1) := by decide +kernel
theorem dX6_wordOfOrders_12 : decode cX6_wordOfOrders 12 = .ok (.ldc 237, 2) := by decide +kernel
theorem dX6_wordOfOrders_14 : decode cX6_wordOfOrders 14 = .ok (.invokevirtual 63, 3) := by decide +kernel
theorem dX6_wordOfOrders_17 : decode cX6_wordOfOrders 17 = .ok (.ifCond .eq 5, 3) := by decide +kernel
theorem dX6_wordOfOrders_20 : decode cX6_wordOfOrders 20 = .ok (.iconst 1, 1) := by decide +kernel
theorem dX6_wordOfOrders_21 : decode cX6_wordOfOrders 21 = .ok (.ireturn, 1) := by decide +kernel
theorem dX6_wordOfOrders_22 : decode cX6_wordOfOrders 22 = .ok (.aload_n 0, 1) := by decide +kernel
theorem dX6_wordOfOrders_23 : decode cX6_wordOfOrders 23 = .ok (.ldc 239, 2) := by decide +kernel
theorem dX6_wordOfOrders_25 : decode cX6_wordOfOrders 25 = .ok (.invokevirtual 63, 3) := by decide +kernel
theorem dX6_wordOfOrders_28 : decode cX6_wordOfOrders 28 = .ok (.ifCond .eq 5, 3) := by decide +kernel
theorem dX6_wordOfOrders_31 : decode cX6_wordOfOrders 31 = .ok (.iconst 2, 1) := by decide +kernel
theorem dX6_wordOfOrders_32 : decode cX6_wordOfOrders 32 = .ok (.ireturn, 1) := by decide +kernel
theorem dX6_wordOfOrders_33 : decode cX6_wordOfOrders 33 = .ok (.aload_n 0, 1) := by decide +kernel
theorem dX6_wordOfOrders_34 : decode cX6_wordOfOrders 34 = .ok (.ldc 241, 2) := by decide +kernel
theorem dX6_wordOfOrders_36 : decode cX6_wordOfOrders 36 = .ok (.invokevirtual 63, 3) := by decide +kernel
theorem dX6_wordOfOrders_39 : decode cX6_wordOfOrders 39 = .ok (.ifCond .eq 5, 3) := by decide +kernel
theorem dX6_wordOfOrders_42 : decode cX6_wordOfOrders 42 = .ok (.iconst 3, 1) := by decide +kernel
theorem dX6_wordOfOrders_43 : decode cX6_wordOfOrders 43 = .ok (.ireturn, 1) := by decide +kernel
theorem dX6_wordOfOrders_44 : decode cX6_wordOfOrders 44 = .ok (.aload_n 0, 1) := by decide +kernel
theorem dX6_wordOfOrders_45 : decode cX6_wordOfOrders 45 = .ok (.ldc 243, 2) := by decide +kernel
theorem dX6_wordOfOrders_47 : decode cX6_wordOfOrders 47 = .ok (.invokevirtual 63, 3) := by decide +kernel
theorem dX6_wordOfOrders_50 : decode cX6_wordOfOrders 50 = .ok (.ifCond .eq 6, 3) := by decide +kernel
theorem dX6_wordOfOrders_53 : decode cX6_wordOfOrders 53 = .ok (.bipush 9, 2) := by decide +kernel
theorem dX6_wordOfOrders_55 : decode cX6_wordOfOrders 55 = .ok (.ireturn, 1) := by decide +kernel
theorem dX6_wordOfOrders_56 : decode cX6_wordOfOrders 56 = .ok (.aload_n 0, 1) := by decide +kernel
theorem dX6_wordOfOrders_57 : decode cX6_wordOfOrders 57 = .ok (.ldc 245, 2) := by decide +kernel
theorem dX6_wordOfOrders_59 : decode cX6_wordOfOrders 59 = .ok (.invokevirtual 63, 3) := by decide +kernel
theorem dX6_wordOfOrders_62 : decode cX6_wordOfOrders 62 = .ok (.ifCond .eq 8, 3) := by decide +kernel
theorem dX6_wordOfOrders_65 : decode cX6_wordOfOrders 65 = .ok (.bipush 15, 2) := by decide +kernel
theorem dX6_wordOfOrders_67 : decode cX6_wordOfOrders 67 = .ok (.goto 4, 3) := by decide +kernel
theorem dX6_wordOfOrders_70 : decode cX6_wordOfOrders 70 = .ok (.iconst (-1), 1) := by decide +kernel
theorem dX6_wordOfOrders_71 : decode cX6_wordOfOrders 71 = .ok (.ireturn, 1) := by decide +kernel
theorem ydf6_wordOfOrders : ph_yd yX6_wordOfOrders 0 := ⟨by decide, by decide, by decide +kernel⟩
def f6_wordOfOrders (S : ph_Sh) (M : ph_Mem) : Option Int32 :=
  (f6_says S M 8).bind fun q1 => if q1 = 0 then ((f6_says S M 9).bind fun q2 => if q2 = 0 then ((f6_says S M 10).bind fun q3 => if q3 = 0 then ((f6_says S M 11).bind fun q4 => if q4 = 0 then ((f6_says S M 12).bind fun q5 => if q5 = 0 then ((f6_says S M 13).bind fun q6 => if q6 = 0 then (some (-1 : Int32)) else (some (15 : Int32))) else (some (9 : Int32))) else (some (3 : Int32))) else (some (2 : Int32))) else (some (1 : Int32))) else (some (0 : Int32))
set_option maxHeartbeats 4000000 in
theorem cf6_wordOfOrders {tb adK adV : Nat → Nat} {S : ph_Sh} {l : Launch} {D : va_G} {cA : Nat → ClassId} {ad : Nat → Nat} (hinj : ∀ i j, i < S.2 → j < S.2 → ad i = ad j → i = j) (hS : ph_SX S) {M : ph_Mem} {r : Int32} (hf : f6_wordOfOrders S M  = some r) : ph_C (ph_ZX tb adK adV) l 5 yX6_wordOfOrders cX6_wordOfOrders 1 (some .int) D cA S.1 S.2 ad [.ref (ad 63)] M (some (.int r)) M := by
  refine ph_mk ph_ZX_ok hinj (by decide) (Nat.le_of_ble_eq_true rfl) fun X h fin hE => ?_
  refine (?_ : ph_J X S.1 S.2 ad (r : Int32) 0 [(0, .ref (ad 63))] [] M (f6_wordOfOrders S M )) hf
  unfold f6_wordOfOrders
  refine j_aload_n h dX6_wordOfOrders_0 rfl 0 rfl ?_
  refine j_ldcs h 8 (by decide) rfl rfl dX6_wordOfOrders_1 ?_
  refine j_callViP (n := 1) (As := [.ref (adK 8)]) (rest := []) h 63 tw_626 tw_628 tp_9 tw_7 tw_629 ydf6_says (by decide) (by decide) (ph_xlt hS (by decide)) (ph_kc63 hS) rfl (fun q hq => cf6_says (ph_okI h) hS (by decide) hq) rfl (Nat.le_of_ble_eq_true rfl) rfl dX6_wordOfOrders_3 (fun q1 => ?_)
  refine j_if_eq h 11 dX6_wordOfOrders_6 (by decide) ?_ ?_
  · refine j_aload_n h dX6_wordOfOrders_11 rfl 0 rfl ?_
    refine j_ldcs h 9 (by decide) rfl rfl dX6_wordOfOrders_12 ?_
    refine j_callViP (n := 1) (As := [.ref (adK 9)]) (rest := []) h 63 tw_626 tw_628 tp_9 tw_7 tw_629 ydf6_says (by decide) (by decide) (ph_xlt hS (by decide)) (ph_kc63 hS) rfl (fun q hq => cf6_says (ph_okI h) hS (by decide) hq) rfl (Nat.le_of_ble_eq_true rfl) rfl dX6_wordOfOrders_14 (fun q2 => ?_)
    refine j_if_eq h 22 dX6_wordOfOrders_17 (by decide) ?_ ?_
    · refine j_aload_n h dX6_wordOfOrders_22 rfl 0 rfl ?_
      refine j_ldcs h 10 (by decide) rfl rfl dX6_wordOfOrders_23 ?_
      refine j_callViP (n := 1) (As := [.ref (adK 10)]) (rest := []) h 63 tw_626 tw_628 tp_9 tw_7 tw_629 ydf6_says (by decide) (by decide) (ph_xlt hS (by decide)) (ph_kc63 hS) rfl (fun q hq => cf6_says (ph_okI h) hS (by decide) hq) rfl (Nat.le_of_ble_eq_true rfl) rfl dX6_wordOfOrders_25 (fun q3 => ?_)
      refine j_if_eq h 33 dX6_wordOfOrders_28 (by decide) ?_ ?_
      · refine j_aload_n h dX6_wordOfOrders_33 rfl 0 rfl ?_
        refine j_ldcs h 11 (by decide) rfl rfl dX6_wordOfOrders_34 ?_
        refine j_callViP (n := 1) (As := [.ref (adK 11)]) (rest := []) h 63 tw_626 tw_628 tp_9 tw_7 tw_629 ydf6_says (by decide) (by decide) (ph_xlt hS (by decide)) (ph_kc63 hS) rfl (fun q hq => cf6_says (ph_okI h) hS (by decide) hq) rfl (Nat.le_of_ble_eq_true rfl) rfl dX6_wordOfOrders_36 (fun q4 => ?_)
        refine j_if_eq h 44 dX6_wordOfOrders_39 (by decide) ?_ ?_
        · refine j_aload_n h dX6_wordOfOrders_44 rfl 0 rfl ?_
          refine j_ldcs h 12 (by decide) rfl rfl dX6_wordOfOrders_45 ?_
          refine j_callViP (n := 1) (As := [.ref (adK 12)]) (rest := []) h 63 tw_626 tw_628 tp_9 tw_7 tw_629 ydf6_says (by decide) (by decide) (ph_xlt hS (by decide)) (ph_kc63 hS) rfl (fun q hq => cf6_says (ph_okI h) hS (by decide) hq) rfl (Nat.le_of_ble_eq_true rfl) rfl dX6_wordOfOrders_47 (fun q5 => ?_)
          refine j_if_eq h 56 dX6_wordOfOrders_50 (by decide) ?_ ?_
          · refine j_aload_n h dX6_wordOfOrders_56 rfl 0 rfl ?_
            refine j_ldcs h 13 (by decide) rfl rfl dX6_wordOfOrders_57 ?_
            refine j_callViP (n := 1) (As := [.ref (adK 13)]) (rest := []) h 63 tw_626 tw_628 tp_9 tw_7 tw_629 ydf6_says (by decide) (by decide) (ph_xlt hS (by decide)) (ph_kc63 hS) rfl (fun q hq => cf6_says (ph_okI h) hS (by decide) hq) rfl (Nat.le_of_ble_eq_true rfl) rfl dX6_wordOfOrders_59 (fun q6 => ?_)
            refine j_if_eq h 70 dX6_wordOfOrders_62 (by decide) ?_ ?_
            · refine j_iconst (v := (-1 : Int32)) h dX6_wordOfOrders_70 (by decide) ?_
              exact j_iretP h rfl fin dX6_wordOfOrders_71
            · refine j_bipush (v := (15 : Int32)) h dX6_wordOfOrders_65 (by decide) ?_
              refine j_goto h 71 dX6_wordOfOrders_67 (by decide) ?_
              exact j_iretP h rfl fin dX6_wordOfOrders_71
          · refine j_bipush (v := (9 : Int32)) h dX6_wordOfOrders_53 (by decide) ?_
            exact j_iretP h rfl fin dX6_wordOfOrders_55
        · refine j_iconst (v := (3 : Int32)) h dX6_wordOfOrders_42 (by decide) ?_
          exact j_iretP h rfl fin dX6_wordOfOrders_43
      · refine j_iconst (v := (2 : Int32)) h dX6_wordOfOrders_31 (by decide) ?_
        exact j_iretP h rfl fin dX6_wordOfOrders_32
    · refine j_iconst (v := (1 : Int32)) h dX6_wordOfOrders_20 (by decide) ?_
      exact j_iretP h rfl fin dX6_wordOfOrders_21
  · refine j_iconst (v := (0 : Int32)) h dX6_wordOfOrders_9 (by decide) ?_
    exact j_iretP h rfl fin dX6_wordOfOrders_10
theorem dX6_wordOfLaw_0 : decode cX6_wordOfLaw 0 = .ok (.aload_n 0, 1) := by decide +kernel
theorem dX6_wordOfLaw_1 : decode cX6_wordOfLaw 1 = .ok (.ldc 217, 2) := by decide +kernel
theorem dX6_wordOfLaw_3 : decode cX6_wordOfLaw 3 = .ok (.invokevirtual 63, 3) := by decide +kernel
theorem dX6_wordOfLaw_6 : decode cX6_wordOfLaw 6 = .ok (.ifCond .eq 5, 3) := by decide +kernel
theorem dX6_wordOfLaw_9 : decode cX6_wordOfLaw 9 = .ok (.iconst 0, 1) := by decide +kernel
theorem dX6_wordOfLaw_10 : decode cX6_wordOfLaw 10 = .ok (.ireturn, 1) := by decide +kernel
theorem dX6_wordOfLaw_11 : decode cX6_wordOfLaw 11 = .ok (.aload_n 0, 1) := by decide +kernel
theorem dX6_wordOfLaw_12 : decode cX6_wordOfLaw 12 = .ok (.ldc 219, 2) := by decide +kernel
theorem dX6_wordOfLaw_14 : decode cX6_wordOfLaw 14 = .ok (.invokevirtual 63, 3) := by decide +kernel
theorem dX6_wordOfLaw_17 : decode cX6_wordOfLaw 17 = .ok (.ifCond .eq 5, 3) := by decide +kernel
theorem dX6_wordOfLaw_20 : decode cX6_wordOfLaw 20 = .ok (.iconst 1, 1) := by decide +kernel
theorem dX6_wordOfLaw_21 : decode cX6_wordOfLaw 21 = .ok (.ireturn, 1) := by decide +kernel
theorem dX6_wordOfLaw_22 : decode cX6_wordOfLaw 22 = .ok (.aload_n 0, 1) := by decide +kernel
theorem dX6_wordOfLaw_23 : decode cX6_wordOfLaw 23 = .ok (.ldc 221, 2) := by decide +kernel
theorem dX6_wordOfLaw_25 : decode cX6_wordOfLaw 25 = .ok (.invokevirtual 63, 3) := by decide +kernel
theorem dX6_wordOfLaw_28 : decode cX6_wordOfLaw 28 = .ok (.ifCond .eq 5, 3) := by decide +kernel
theorem dX6_wordOfLaw_31 : decode cX6_wordOfLaw 31 = .ok (.iconst 2, 1) := by decide +kernel
theorem dX6_wordOfLaw_32 : decode cX6_wordOfLaw 32 = .ok (.ireturn, 1) := by decide +kernel
theorem dX6_wordOfLaw_33 : decode cX6_wordOfLaw 33 = .ok (.aload_n 0, 1) := by decide +kernel
theorem dX6_wordOfLaw_34 : decode cX6_wordOfLaw 34 = .ok (.ldc 223, 2) := by decide +kernel
theorem dX6_wordOfLaw_36 : decode cX6_wordOfLaw 36 = .ok (.invokevirtual 63, 3) := by decide +kernel
theorem dX6_wordOfLaw_39 : decode cX6_wordOfLaw 39 = .ok (.ifCond .eq 5, 3) := by decide +kernel
theorem dX6_wordOfLaw_42 : decode cX6_wordOfLaw 42 = .ok (.iconst 3, 1) := by decide +kernel
theorem dX6_wordOfLaw_43 : decode cX6_wordOfLaw 43 = .ok (.ireturn, 1) := by decide +kernel
theorem dX6_wordOfLaw_44 : decode cX6_wordOfLaw 44 = .ok (.aload_n 0, 1) := by decide +kernel
theorem dX6_wordOfLaw_45 : decode cX6_wordOfLaw 45 = .ok (.ldc 225, 2) := by decide +kernel
theorem dX6_wordOfLaw_47 : decode cX6_wordOfLaw 47 = .ok (.invokevirtual 63, 3) := by decide +kernel
theorem dX6_wordOfLaw_50 : decode cX6_wordOfLaw 50 = .ok (.ifCond .eq 5, 3) := by decide +kernel
theorem dX6_wordOfLaw_53 : decode cX6_wordOfLaw 53 = .ok (.iconst 4, 1) := by decide +kernel
theorem dX6_wordOfLaw_54 : decode cX6_wordOfLaw 54 = .ok (.ireturn, 1) := by decide +kernel
theorem dX6_wordOfLaw_55 : decode cX6_wordOfLaw 55 = .ok (.aload_n 0, 1) := by decide +kernel
theorem dX6_wordOfLaw_56 : decode cX6_wordOfLaw 56 = .ok (.ldc 227, 2) := by decide +kernel
theorem dX6_wordOfLaw_58 : decode cX6_wordOfLaw 58 = .ok (.invokevirtual 63, 3) := by decide +kernel
theorem dX6_wordOfLaw_61 : decode cX6_wordOfLaw 61 = .ok (.ifCond .eq 5, 3) := by decide +kernel
theorem dX6_wordOfLaw_64 : decode cX6_wordOfLaw 64 = .ok (.iconst 5, 1) := by decide +kernel
theorem dX6_wordOfLaw_65 : decode cX6_wordOfLaw 65 = .ok (.ireturn, 1) := by decide +kernel
theorem dX6_wordOfLaw_66 : decode cX6_wordOfLaw 66 = .ok (.aload_n 0, 1) := by decide +kernel
theorem dX6_wordOfLaw_67 : decode cX6_wordOfLaw 67 = .ok (.ldc 229, 2) := by decide +kernel
theorem dX6_wordOfLaw_69 : decode cX6_wordOfLaw 69 = .ok (.invokevirtual 63, 3) := by decide +kernel
theorem dX6_wordOfLaw_72 : decode cX6_wordOfLaw 72 = .ok (.ifCond .eq 6, 3) := by decide +kernel
theorem dX6_wordOfLaw_75 : decode cX6_wordOfLaw 75 = .ok (.bipush 6, 2) := by decide +kernel
theorem dX6_wordOfLaw_77 : decode cX6_wordOfLaw 77 = .ok (.ireturn, 1) := by decide +kernel
theorem dX6_wordOfLaw_78 : decode cX6_wordOfLaw 78 = .ok (.aload_n 0, 1) := by decide +kernel
theorem dX6_wordOfLaw_79 : decode cX6_wordOfLaw 79 = .ok (.ldc 231, 2) := by decide +kernel
theorem dX6_wordOfLaw_81 : decode cX6_wordOfLaw 81 = .ok (.invokevirtual 63, 3) := by decide +kernel
theorem dX6_wordOfLaw_84 : decode cX6_wordOfLaw 84 = .ok (.ifCond .eq 6, 3) := by decide +kernel
theorem dX6_wordOfLaw_87 : decode cX6_wordOfLaw 87 = .ok (.bipush 7, 2) := by decide +kernel
theorem dX6_wordOfLaw_89 : decode cX6_wordOfLaw 89 = .ok (.ireturn, 1) := by decide +kernel
theorem dX6_wordOfLaw_90 : decode cX6_wordOfLaw 90 = .ok (.aload_n 0, 1) := by decide +kernel
theorem dX6_wordOfLaw_91 : decode cX6_wordOfLaw 91 = .ok (.ldc 233, 2) := by decide +kernel
theorem dX6_wordOfLaw_93 : decode cX6_wordOfLaw 93 = .ok (.invokevirtual 63, 3) := by decide +kernel
theorem dX6_wordOfLaw_96 : decode cX6_wordOfLaw 96 = .ok (.ifCond .eq 8, 3) := by decide +kernel
theorem dX6_wordOfLaw_99 : decode cX6_wordOfLaw 99 = .ok (.bipush 8, 2) := by decide +kernel
theorem dX6_wordOfLaw_101 : decode cX6_wordOfLaw 101 = .ok (.goto 4, 3) := by decide +kernel
theorem dX6_wordOfLaw_104 : decode cX6_wordOfLaw 104 = .ok (.iconst (-1), 1) := by decide +kernel
theorem dX6_wordOfLaw_105 : decode cX6_wordOfLaw 105 = .ok (.ireturn, 1) := by decide +kernel
theorem ydf6_wordOfLaw : ph_yd yX6_wordOfLaw 0 := ⟨by decide, by decide, by decide +kernel⟩
def f6_wordOfLaw (S : ph_Sh) (M : ph_Mem) : Option Int32 :=
  (f6_says S M 14).bind fun q1 => if q1 = 0 then ((f6_says S M 15).bind fun q2 => if q2 = 0 then ((f6_says S M 16).bind fun q3 => if q3 = 0 then ((f6_says S M 17).bind fun q4 => if q4 = 0 then ((f6_says S M 18).bind fun q5 => if q5 = 0 then ((f6_says S M 19).bind fun q6 => if q6 = 0 then ((f6_says S M 20).bind fun q7 => if q7 = 0 then ((f6_says S M 21).bind fun q8 => if q8 = 0 then ((f6_says S M 22).bind fun q9 => if q9 = 0 then (some (-1 : Int32)) else (some (8 : Int32))) else (some (7 : Int32))) else (some (6 : Int32))) else (some (5 : Int32))) else (some (4 : Int32))) else (some (3 : Int32))) else (some (2 : Int32))) else (some (1 : Int32))) else (some (0 : Int32))
set_option maxHeartbeats 4000000 in
theorem cf6_wordOfLaw {tb adK adV : Nat → Nat} {S : ph_Sh} {l : Launch} {D : va_G} {cA : Nat → ClassId} {ad : Nat → Nat} (hinj : ∀ i j, i < S.2 → j < S.2 → ad i = ad j → i = j) (hS : ph_SX S) {M : ph_Mem} {r : Int32} (hf : f6_wordOfLaw S M  = some r) : ph_C (ph_ZX tb adK adV) l 5 yX6_wordOfLaw cX6_wordOfLaw 1 (some .int) D cA S.1 S.2 ad [.ref (ad 63)] M (some (.int r)) M := by
  refine ph_mk ph_ZX_ok hinj (by decide) (Nat.le_of_ble_eq_true rfl) fun X h fin hE => ?_
  refine (?_ : ph_J X S.1 S.2 ad (r : Int32) 0 [(0, .ref (ad 63))] [] M (f6_wordOfLaw S M )) hf
  unfold f6_wordOfLaw
  refine j_aload_n h dX6_wordOfLaw_0 rfl 0 rfl ?_
  refine j_ldcs h 14 (by decide) rfl rfl dX6_wordOfLaw_1 ?_
  refine j_callViP (n := 1) (As := [.ref (adK 14)]) (rest := []) h 63 tw_626 tw_628 tp_9 tw_7 tw_629 ydf6_says (by decide) (by decide) (ph_xlt hS (by decide)) (ph_kc63 hS) rfl (fun q hq => cf6_says (ph_okI h) hS (by decide) hq) rfl (Nat.le_of_ble_eq_true rfl) rfl dX6_wordOfLaw_3 (fun q1 => ?_)
  refine j_if_eq h 11 dX6_wordOfLaw_6 (by decide) ?_ ?_
  · refine j_aload_n h dX6_wordOfLaw_11 rfl 0 rfl ?_
    refine j_ldcs h 15 (by decide) rfl rfl dX6_wordOfLaw_12 ?_
    refine j_callViP (n := 1) (As := [.ref (adK 15)]) (rest := []) h 63 tw_626 tw_628 tp_9 tw_7 tw_629 ydf6_says (by decide) (by decide) (ph_xlt hS (by decide)) (ph_kc63 hS) rfl (fun q hq => cf6_says (ph_okI h) hS (by decide) hq) rfl (Nat.le_of_ble_eq_true rfl) rfl dX6_wordOfLaw_14 (fun q2 => ?_)
    refine j_if_eq h 22 dX6_wordOfLaw_17 (by decide) ?_ ?_
    · refine j_aload_n h dX6_wordOfLaw_22 rfl 0 rfl ?_
      refine j_ldcs h 16 (by decide) rfl rfl dX6_wordOfLaw_23 ?_
      refine j_callViP (n := 1) (As := [.ref (adK 16)]) (rest := []) h 63 tw_626 tw_628 tp_9 tw_7 tw_629 ydf6_says (by decide) (by decide) (ph_xlt hS (by decide)) (ph_kc63 hS) rfl (fun q hq => cf6_says (ph_okI h) hS (by decide) hq) rfl (Nat.le_of_ble_eq_true rfl) rfl dX6_wordOfLaw_25 (fun q3 => ?_)
      refine j_if_eq h 33 dX6_wordOfLaw_28 (by decide) ?_ ?_
      · refine j_aload_n h dX6_wordOfLaw_33 rfl 0 rfl ?_
        refine j_ldcs h 17 (by decide) rfl rfl dX6_wordOfLaw_34 ?_
        refine j_callViP (n := 1) (As := [.ref (adK 17)]) (rest := []) h 63 tw_626 tw_628 tp_9 tw_7 tw_629 ydf6_says (by decide) (by decide) (ph_xlt hS (by decide)) (ph_kc63 hS) rfl (fun q hq => cf6_says (ph_okI h) hS (by decide) hq) rfl (Nat.le_of_ble_eq_true rfl) rfl dX6_wordOfLaw_36 (fun q4 => ?_)
        refine j_if_eq h 44 dX6_wordOfLaw_39 (by decide) ?_ ?_
        · refine j_aload_n h dX6_wordOfLaw_44 rfl 0 rfl ?_
          refine j_ldcs h 18 (by decide) rfl rfl dX6_wordOfLaw_45 ?_
          refine j_callViP (n := 1) (As := [.ref (adK 18)]) (rest := []) h 63 tw_626 tw_628 tp_9 tw_7 tw_629 ydf6_says (by decide) (by decide) (ph_xlt hS (by decide)) (ph_kc63 hS) rfl (fun q hq => cf6_says (ph_okI h) hS (by decide) hq) rfl (Nat.le_of_ble_eq_true rfl) rfl dX6_wordOfLaw_47 (fun q5 => ?_)
          refine j_if_eq h 55 dX6_wordOfLaw_50 (by decide) ?_ ?_
          · refine j_aload_n h dX6_wordOfLaw_55 rfl 0 rfl ?_
            refine j_ldcs h 19 (by decide) rfl rfl dX6_wordOfLaw_56 ?_
            refine j_callViP (n := 1) (As := [.ref (adK 19)]) (rest := []) h 63 tw_626 tw_628 tp_9 tw_7 tw_629 ydf6_says (by decide) (by decide) (ph_xlt hS (by decide)) (ph_kc63 hS) rfl (fun q hq => cf6_says (ph_okI h) hS (by decide) hq) rfl (Nat.le_of_ble_eq_true rfl) rfl dX6_wordOfLaw_58 (fun q6 => ?_)
            refine j_if_eq h 66 dX6_wordOfLaw_61 (by decide) ?_ ?_
            · refine j_aload_n h dX6_wordOfLaw_66 rfl 0 rfl ?_
              refine j_ldcs h 20 (by decide) rfl rfl dX6_wordOfLaw_67 ?_
              refine j_callViP (n := 1) (As := [.ref (adK 20)]) (rest := []) h 63 tw_626 tw_628 tp_9 tw_7 tw_629 ydf6_says (by decide) (by decide) (ph_xlt hS (by decide)) (ph_kc63 hS) rfl (fun q hq => cf6_says (ph_okI h) hS (by decide) hq) rfl (Nat.le_of_ble_eq_true rfl) rfl dX6_wordOfLaw_69 (fun q7 => ?_)
              refine j_if_eq h 78 dX6_wordOfLaw_72 (by decide) ?_ ?_
              · refine j_aload_n h dX6_wordOfLaw_78 rfl 0 rfl ?_
                refine j_ldcs h 21 (by decide) rfl rfl dX6_wordOfLaw_79 ?_
                refine j_callViP (n := 1) (As := [.ref (adK 21)]) (rest := []) h 63 tw_626 tw_628 tp_9 tw_7 tw_629 ydf6_says (by decide) (by decide) (ph_xlt hS (by decide)) (ph_kc63 hS) rfl (fun q hq => cf6_says (ph_okI h) hS (by decide) hq) rfl (Nat.le_of_ble_eq_true rfl) rfl dX6_wordOfLaw_81 (fun q8 => ?_)
                refine j_if_eq h 90 dX6_wordOfLaw_84 (by decide) ?_ ?_
                · refine j_aload_n h dX6_wordOfLaw_90 rfl 0 rfl ?_
                  refine j_ldcs h 22 (by decide) rfl rfl dX6_wordOfLaw_91 ?_
                  refine j_callViP (n := 1) (As := [.ref (adK 22)]) (rest := []) h 63 tw_626 tw_628 tp_9 tw_7 tw_629 ydf6_says (by decide) (by decide) (ph_xlt hS (by decide)) (ph_kc63 hS) rfl (fun q hq => cf6_says (ph_okI h) hS (by decide) hq) rfl (Nat.le_of_ble_eq_true rfl) rfl dX6_wordOfLaw_93 (fun q9 => ?_)
                  refine j_if_eq h 104 dX6_wordOfLaw_96 (by decide) ?_ ?_
                  · refine j_iconst (v := (-1 : Int32)) h dX6_wordOfLaw_104 (by decide) ?_
                    exact j_iretP h rfl fin dX6_wordOfLaw_105
                  · refine j_bipush (v := (8 : Int32)) h dX6_wordOfLaw_99 (by decide) ?_
                    refine j_goto h 105 dX6_wordOfLaw_101 (by decide) ?_
                    exact j_iretP h rfl fin dX6_wordOfLaw_105
                · refine j_bipush (v := (7 : Int32)) h dX6_wordOfLaw_87 (by decide) ?_
                  exact j_iretP h rfl fin dX6_wordOfLaw_89
              · refine j_bipush (v := (6 : Int32)) h dX6_wordOfLaw_75 (by decide) ?_
                exact j_iretP h rfl fin dX6_wordOfLaw_77
            · refine j_iconst (v := (5 : Int32)) h dX6_wordOfLaw_64 (by decide) ?_
              exact j_iretP h rfl fin dX6_wordOfLaw_65
          · refine j_iconst (v := (4 : Int32)) h dX6_wordOfLaw_53 (by decide) ?_
            exact j_iretP h rfl fin dX6_wordOfLaw_54
        · refine j_iconst (v := (3 : Int32)) h dX6_wordOfLaw_42 (by decide) ?_
          exact j_iretP h rfl fin dX6_wordOfLaw_43
      · refine j_iconst (v := (2 : Int32)) h dX6_wordOfLaw_31 (by decide) ?_
        exact j_iretP h rfl fin dX6_wordOfLaw_32
    · refine j_iconst (v := (1 : Int32)) h dX6_wordOfLaw_20 (by decide) ?_
      exact j_iretP h rfl fin dX6_wordOfLaw_21
  · refine j_iconst (v := (0 : Int32)) h dX6_wordOfLaw_9 (by decide) ?_
    exact j_iretP h rfl fin dX6_wordOfLaw_10
theorem dX6_readNumber_0 : decode cX6_readNumber 0 = .ok (.aload_n 0, 1) := by decide +kernel
theorem dX6_readNumber_1 : decode cX6_readNumber 1 = .ok (.invokevirtual 107, 3) := by decide +kernel
theorem dX6_readNumber_4 : decode cX6_readNumber 4 = .ok (.ifCond .eq 7, 3) := by decide +kernel
theorem dX6_readNumber_7 : decode cX6_readNumber 7 = .ok (.iconst 0, 1) := by decide +kernel
theorem dX6_readNumber_8 : decode cX6_readNumber 8 = .ok (.goto 4, 3) := by decide +kernel
theorem dX6_readNumber_11 : decode cX6_readNumber 11 = .ok (.iconst (-1), 1) := by decide +kernel
theorem dX6_readNumber_12 : decode cX6_readNumber 12 = .ok (.istore_n 3, 1) := by decide +kernel
theorem dX6_readNumber_13 : decode cX6_readNumber 13 = .ok (.aload_n 0, 1) := by decide +kernel
theorem dX6_readNumber_14 : decode cX6_readNumber 14 = .ok (.getfield 15, 3) := by decide +kernel
theorem dX6_readNumber_17 : decode cX6_readNumber 17 = .ok (.aload_n 0, 1) := by decide +kernel
theorem dX6_readNumber_18 : decode cX6_readNumber 18 = .ok (.getfield 70, 3) := by decide +kernel
theorem dX6_readNumber_21 : decode cX6_readNumber 21 = .ok (.iaload, 1) := by decide +kernel
theorem dX6_readNumber_22 : decode cX6_readNumber 22 = .ok (.istore 4, 2) := by decide +kernel
theorem dX6_readNumber_24 : decode cX6_readNumber 24 = .ok (.iload 4, 2) := by decide +kernel
theorem dX6_readNumber_26 : decode cX6_readNumber 26 = .ok (.aload_n 0, 1) := by decide +kernel
theorem dX6_readNumber_27 : decode cX6_readNumber 27 = .ok (.getfield 18, 3) := by decide +kernel
theorem dX6_readNumber_30 : decode cX6_readNumber 30 = .ok (.aload_n 0, 1) := by decide +kernel
theorem dX6_readNumber_31 : decode cX6_readNumber 31 = .ok (.getfield 70, 3) := by decide +kernel
theorem dX6_readNumber_34 : decode cX6_readNumber 34 = .ok (.iaload, 1) := by decide +kernel
theorem dX6_readNumber_35 : decode cX6_readNumber 35 = .ok (.if_icmp .ge 36, 3) := by decide +kernel
theorem dX6_readNumber_38 : decode cX6_readNumber 38 = .ok (.iload_n 3, 1) := by decide +kernel
theorem dX6_readNumber_39 : decode cX6_readNumber 39 = .ok (.iconst (-1), 1) := by decide +kernel
theorem dX6_readNumber_40 : decode cX6_readNumber 40 = .ok (.if_icmp .eq 31, 3) := by decide +kernel
theorem dX6_readNumber_43 : decode cX6_readNumber 43 = .ok (.sipush 1001, 3) := by decide +kernel
theorem dX6_readNumber_46 : decode cX6_readNumber 46 = .ok (.iload_n 3, 1) := by decide +kernel
theorem dX6_readNumber_47 : decode cX6_readNumber 47 = .ok (.bipush 10, 2) := by decide +kernel
theorem dX6_readNumber_49 : decode cX6_readNumber 49 = .ok (.imul, 1) := by decide +kernel
theorem dX6_readNumber_50 : decode cX6_readNumber 50 = .ok (.aload_n 0, 1) := by decide +kernel
theorem dX6_readNumber_51 : decode cX6_readNumber 51 = .ok (.getfield 9, 3) := by decide +kernel
theorem dX6_readNumber_54 : decode cX6_readNumber 54 = .ok (.iload 4, 2) := by decide +kernel
theorem dX6_readNumber_56 : decode cX6_readNumber 56 = .ok (.iaload, 1) := by decide +kernel
theorem dX6_readNumber_57 : decode cX6_readNumber 57 = .ok (.iadd, 1) := by decide +kernel
theorem dX6_readNumber_58 : decode cX6_readNumber 58 = .ok (.bipush 48, 2) := by decide +kernel
theorem dX6_readNumber_60 : decode cX6_readNumber 60 = .ok (.isub, 1) := by decide +kernel
theorem dX6_readNumber_61 : decode cX6_readNumber 61 = .ok (.invokestatic 92, 3) := by decide +kernel
theorem dX6_readNumber_64 : decode cX6_readNumber 64 = .ok (.istore_n 3, 1) := by decide +kernel
theorem dX6_readNumber_65 : decode cX6_readNumber 65 = .ok (.iinc 4 1, 3) := by decide +kernel
theorem dX6_readNumber_68 : decode cX6_readNumber 68 = .ok (.goto (-44), 3) := by decide +kernel
theorem dX6_readNumber_71 : decode cX6_readNumber 71 = .ok (.iload_n 3, 1) := by decide +kernel
theorem dX6_readNumber_72 : decode cX6_readNumber 72 = .ok (.iload_n 1, 1) := by decide +kernel
theorem dX6_readNumber_73 : decode cX6_readNumber 73 = .ok (.if_icmp .lt 8, 3) := by decide +kernel
theorem dX6_readNumber_76 : decode cX6_readNumber 76 = .ok (.iload_n 3, 1) := by decide +kernel
theorem dX6_readNumber_77 : decode cX6_readNumber 77 = .ok (.iload_n 2, 1) := by decide +kernel
theorem dX6_readNumber_78 : decode cX6_readNumber 78 = .ok (.if_icmp .le 9, 3) := by decide +kernel
theorem dX6_readNumber_81 : decode cX6_readNumber 81 = .ok (.aload_n 0, 1) := by decide +kernel
theorem dX6_readNumber_82 : decode cX6_readNumber 82 = .ok (.invokevirtual 76, 3) := by decide +kernel
theorem dX6_readNumber_85 : decode cX6_readNumber 85 = .ok (.iconst 0, 1) := by decide +kernel
theorem dX6_readNumber_86 : decode cX6_readNumber 86 = .ok (.ireturn, 1) := by decide +kernel
theorem dX6_readNumber_87 : decode cX6_readNumber 87 = .ok (.aload_n 0, 1) := by decide +kernel
theorem dX6_readNumber_88 : decode cX6_readNumber 88 = .ok (.invokevirtual 67, 3) := by decide +kernel
theorem dX6_readNumber_91 : decode cX6_readNumber 91 = .ok (.iload_n 3, 1) := by decide +kernel
theorem dX6_readNumber_92 : decode cX6_readNumber 92 = .ok (.ireturn, 1) := by decide +kernel
def f6_readNumber_j81 (S : ph_Sh) (M : ph_Mem) : Option (Int32 × ph_Mem) :=
  (f6_fail S M ).bind fun q5 => some ((0 : Int32), q5)
set_option maxHeartbeats 4000000 in
theorem jb_f6_readNumber_j81 {tb adK adV : Nat → Nat} {S : ph_Sh} {X : ph_X} {ad : Nat → Nat} {o : (Int32 × ph_Mem)} (h : ph_ok (ph_ZX tb adK adV) X cX6_readNumber RX6 (some .int) 5 2 S.2 ad) (fin : ph_fin X S.1 S.2 ad (some (.int o.1)) o.2) (hS : ph_SX S) : ∀ (M : ph_Mem), ph_J X S.1 S.2 ad o 81 [(0, .ref (ad 63))] [] M (f6_readNumber_j81 S M) := by
  intro M
  unfold f6_readNumber_j81
  refine j_aload_n h dX6_readNumber_81 rfl 0 rfl ?_
  refine j_callVv (n := 0) (As := []) (rest := []) h 63 tw_682 tw_684 tp_10 tw_7 tw_685 ydf6_fail (by decide) (by decide) (ph_xlt hS (by decide)) (ph_kc63 hS) rfl (fun q hq => cf6_fail (ph_okI h) hS hq) rfl (Nat.le_of_ble_eq_true rfl) rfl dX6_readNumber_82 (fun q5 => ?_)
  refine j_iconst (v := (0 : Int32)) h dX6_readNumber_85 (by decide) ?_
  exact j_iret h rfl fin dX6_readNumber_86
def f6_readNumber_j71 (S : ph_Sh) (x1 : Int32) (x2 : Int32) (x3 : Int32) (M : ph_Mem) : Option (Int32 × ph_Mem) :=
  if x3 < x1 then (f6_readNumber_j81 S  M) else (if x3 ≤ x2 then ((f6_advance S M ).bind fun q4 => some (x3, q4)) else (f6_readNumber_j81 S  M))
set_option maxHeartbeats 4000000 in
theorem jb_f6_readNumber_j71 {tb adK adV : Nat → Nat} {S : ph_Sh} {X : ph_X} {ad : Nat → Nat} {o : (Int32 × ph_Mem)} (h : ph_ok (ph_ZX tb adK adV) X cX6_readNumber RX6 (some .int) 5 2 S.2 ad) (fin : ph_fin X S.1 S.2 ad (some (.int o.1)) o.2) (hS : ph_SX S) : ∀ (x1 : Int32) (x2 : Int32) (x3 : Int32) (M : ph_Mem), ph_J X S.1 S.2 ad o 71 [(0, .ref (ad 63)), (1, .int x1), (2, .int x2), (3, .int x3)] [] M (f6_readNumber_j71 S x1 x2 x3 M) := by
  intro x1 x2 x3 M
  unfold f6_readNumber_j71
  refine j_iload_n h dX6_readNumber_71 rfl 3 rfl ?_
  refine j_iload_n h dX6_readNumber_72 rfl 1 rfl ?_
  refine j_icmp_lt h 81 dX6_readNumber_73 (by decide) ?_ ?_
  · refine j_sub [0] rfl ?_
    exact jb_f6_readNumber_j81 h fin hS  M
  · refine j_iload_n h dX6_readNumber_76 rfl 3 rfl ?_
    refine j_iload_n h dX6_readNumber_77 rfl 2 rfl ?_
    refine j_icmp_le h 87 dX6_readNumber_78 (by decide) ?_ ?_
    · refine j_aload_n h dX6_readNumber_87 rfl 0 rfl ?_
      refine j_callVv (n := 0) (As := []) (rest := []) h 63 tw_686 tw_688 tp_11 tw_7 tw_689 ydf6_advance (by decide) (by decide) (ph_xlt hS (by decide)) (ph_kc63 hS) rfl (fun q hq => cf6_advance (ph_okI h) hS hq) rfl (Nat.le_of_ble_eq_true rfl) rfl dX6_readNumber_88 (fun q4 => ?_)
      refine j_iload_n h dX6_readNumber_91 rfl 3 rfl ?_
      exact j_iret h rfl fin dX6_readNumber_92
    · refine j_sub [0] rfl ?_
      exact jb_f6_readNumber_j81 h fin hS  M
def f6_readNumber_l24 (S : ph_Sh) : Nat → Int32 → Int32 → Int32 → Int32 → ph_Mem → Option (Int32 × ph_Mem)
  | 0, _, _, _, _, _ => none
  | n + 1, x1, x2, x3, x4, M => cond (ph_ib (M.1 63 8) 401) (if (M.1 66 (M.1 63 8).toNatClampNeg) ≤ x4 then (f6_readNumber_j71 S x1 x2 x3 M) else (if x3 = (-1 : Int32) then (f6_readNumber_j71 S x1 x2 x3 M) else (cond (ph_ib x4 400) ((f9_min_7cf53 S M (1001 : Int32) (((x3 * (10 : Int32)) + (M.1 64 x4.toNatClampNeg)) - (48 : Int32))).bind fun q3 => (f6_readNumber_l24 S n) x1 x2 q3 (x4 + (1 : Int32)) M) none))) none
set_option maxHeartbeats 4000000 in
theorem jb_f6_readNumber_l24 {tb adK adV : Nat → Nat} {S : ph_Sh} {X : ph_X} {ad : Nat → Nat} {o : (Int32 × ph_Mem)} (h : ph_ok (ph_ZX tb adK adV) X cX6_readNumber RX6 (some .int) 5 2 S.2 ad) (fin : ph_fin X S.1 S.2 ad (some (.int o.1)) o.2) (hS : ph_SX S) : ∀ (n : Nat) (x1 : Int32) (x2 : Int32) (x3 : Int32) (x4 : Int32) (M : ph_Mem), ph_J X S.1 S.2 ad o 24 [(0, .ref (ad 63)), (1, .int x1), (2, .int x2), (3, .int x3), (4, .int x4)] [] M (f6_readNumber_l24 S n x1 x2 x3 x4 M) := by
  intro n
  induction n with
  | zero => intro x1 x2 x3 x4 M; exact j_none
  | succ n hrc24 =>
    intro x1 x2 x3 x4 M
    unfold f6_readNumber_l24
    refine j_iload h dX6_readNumber_24 4 rfl ?_
    refine j_aload_n h dX6_readNumber_26 rfl 0 rfl ?_
    refine j_get (c := 63) (j := 5) (v := .ref (ad 66)) h (ph_xlt hS (by decide)) (ph_kc63 hS) rfl ph_inX6 rfl (by decide) tw_174 rfl rfl dX6_readNumber_27 ?_
    refine j_aload_n h dX6_readNumber_30 rfl 0 rfl ?_
    refine j_get (c := 63) (j := 8) (v := .int (M.1 63 8)) h (ph_xlt hS (by decide)) (ph_kc63 hS) rfl ph_inX6 rfl (by decide) tw_177 rfl rfl dX6_readNumber_31 ?_
    refine j_iald (c := 66) (n := 401) h (ph_xlt hS (by decide)) (ph_kc66 hS) dX6_readNumber_34 ?_
    refine j_icmp_ge h 71 dX6_readNumber_35 (by decide) ?_ ?_
    · refine j_sub [0, 1, 2, 3] rfl ?_
      exact jb_f6_readNumber_j71 h fin hS x1 x2 x3 M
    · refine j_iload_n h dX6_readNumber_38 rfl 3 rfl ?_
      refine j_iconst (v := (-1 : Int32)) h dX6_readNumber_39 (by decide) ?_
      refine j_icmp_eq h 71 dX6_readNumber_40 (by decide) ?_ ?_
      · refine j_sub [0, 1, 2, 3] rfl ?_
        exact jb_f6_readNumber_j71 h fin hS x1 x2 x3 M
      · refine j_sipush (v := (1001 : Int32)) h dX6_readNumber_43 (by decide) ?_
        refine j_iload_n h dX6_readNumber_46 rfl 3 rfl ?_
        refine j_bipush (v := (10 : Int32)) h dX6_readNumber_47 (by decide) ?_
        refine j_imul h dX6_readNumber_49 ?_
        refine j_aload_n h dX6_readNumber_50 rfl 0 rfl ?_
        refine j_get (c := 63) (j := 0) (v := .ref (ad 64)) h (ph_xlt hS (by decide)) (ph_kc63 hS) rfl ph_inX6 rfl (by decide) tw_166 rfl rfl dX6_readNumber_51 ?_
        refine j_iload h dX6_readNumber_54 4 rfl ?_
        refine j_iald (c := 64) (n := 400) h (ph_xlt hS (by decide)) (ph_kc64 hS) dX6_readNumber_56 ?_
        refine j_iadd h dX6_readNumber_57 ?_
        refine j_bipush (v := (48 : Int32)) h dX6_readNumber_58 (by decide) ?_
        refine j_isub h dX6_readNumber_60 ?_
        refine j_callSiP (n := 2) (As := [.int (1001 : Int32), .int (((x3 * (10 : Int32)) + (M.1 64 x4.toNatClampNeg)) - (48 : Int32))]) (rest := []) h tw_690 tw_508 tw_16 tw_509 ydf9_min_7cf53 (by decide) (by decide) (fun q hq => cf9_min_7cf53 (ph_okI h) trivial hq) rfl (Nat.le_of_ble_eq_true rfl) rfl dX6_readNumber_61 (fun q3 => ?_)
        refine j_istore_n h [(3, .int q3), (0, .ref (ad 63)), (1, .int x1), (2, .int x2), (4, .int x4)] dX6_readNumber_64 rfl (by decide) rfl ?_
        refine j_iinc h [(4, .int (x4 + (1 : Int32))), (3, .int q3), (0, .ref (ad 63)), (1, .int x1), (2, .int x2)] dX6_readNumber_65 4 rfl rfl (by decide) rfl ?_
        refine j_goto h 24 dX6_readNumber_68 (by decide) ?_
        refine j_sub [2, 3, 4, 1, 0] rfl ?_
        exact hrc24 x1 x2 q3 (x4 + (1 : Int32)) M
def f6_readNumber_j12 (S : ph_Sh) (x1 : Int32) (x2 : Int32) (s0 : Int32) (M : ph_Mem) : Option (Int32 × ph_Mem) :=
  cond (ph_ib (M.1 63 8) 401) (ph_let (M.1 65 (M.1 63 8).toNatClampNeg) fun z2 => f6_readNumber_l24 S 10000 x1 x2 s0 z2 M) none
set_option maxHeartbeats 4000000 in
theorem jb_f6_readNumber_j12 {tb adK adV : Nat → Nat} {S : ph_Sh} {X : ph_X} {ad : Nat → Nat} {o : (Int32 × ph_Mem)} (h : ph_ok (ph_ZX tb adK adV) X cX6_readNumber RX6 (some .int) 5 2 S.2 ad) (fin : ph_fin X S.1 S.2 ad (some (.int o.1)) o.2) (hS : ph_SX S) : ∀ (x1 : Int32) (x2 : Int32) (s0 : Int32) (M : ph_Mem), ph_J X S.1 S.2 ad o 12 [(0, .ref (ad 63)), (1, .int x1), (2, .int x2)] [.int s0] M (f6_readNumber_j12 S x1 x2 s0 M) := by
  intro x1 x2 s0 M
  unfold f6_readNumber_j12
  refine j_istore_n h [(3, .int s0), (0, .ref (ad 63)), (1, .int x1), (2, .int x2)] dX6_readNumber_12 rfl (by decide) rfl ?_
  refine j_aload_n h dX6_readNumber_13 rfl 1 rfl ?_
  refine j_get (c := 63) (j := 4) (v := .ref (ad 65)) h (ph_xlt hS (by decide)) (ph_kc63 hS) rfl ph_inX6 rfl (by decide) tw_173 rfl rfl dX6_readNumber_14 ?_
  refine j_aload_n h dX6_readNumber_17 rfl 1 rfl ?_
  refine j_get (c := 63) (j := 8) (v := .int (M.1 63 8)) h (ph_xlt hS (by decide)) (ph_kc63 hS) rfl ph_inX6 rfl (by decide) tw_177 rfl rfl dX6_readNumber_18 ?_
  refine j_iald (c := 65) (n := 401) h (ph_xlt hS (by decide)) (ph_kc65 hS) dX6_readNumber_21 ?_
  refine j_istore h [(4, .int (M.1 65 (M.1 63 8).toNatClampNeg)), (3, .int s0), (0, .ref (ad 63)), (1, .int x1), (2, .int x2)] dX6_readNumber_22 (by decide) rfl ?_
  refine j_letI (lvf := fun z2 => [(4, .int z2), (3, .int s0), (0, .ref (ad 63)), (1, .int x1), (2, .int x2)]) (fun z2 => ?_)
  refine j_sub [2, 3, 4, 1, 0] rfl ?_
  exact jb_f6_readNumber_l24 h fin hS 10000 x1 x2 s0 z2 M
theorem ydf6_readNumber : ph_yd yX6_readNumber 2 := ⟨by decide, by decide, by decide +kernel⟩
def f6_readNumber (S : ph_Sh) (M : ph_Mem) (p0 : Int32) (p1 : Int32) : Option (Int32 × ph_Mem) :=
  (f6_isNumber S M ).bind fun q1 => if q1 = 0 then (f6_readNumber_j12 S p0 p1 (-1 : Int32) M) else (f6_readNumber_j12 S p0 p1 (0 : Int32) M)
set_option maxHeartbeats 4000000 in
theorem cf6_readNumber {tb adK adV : Nat → Nat} {S : ph_Sh} {l : Launch} {D : va_G} {cA : Nat → ClassId} {ad : Nat → Nat} (hinj : ∀ i j, i < S.2 → j < S.2 → ad i = ad j → i = j) (hS : ph_SX S) {M : ph_Mem} {p0 : Int32} {p1 : Int32} {r : Int32} {M' : ph_Mem} (hf : f6_readNumber S M p0 p1 = some (r, M')) : ph_C (ph_ZX tb adK adV) l 2 yX6_readNumber cX6_readNumber 5 (some .int) D cA S.1 S.2 ad [.ref (ad 63), .int p0, .int p1] M (some (.int r)) M' := by
  refine ph_mk ph_ZX_ok hinj (by decide) (Nat.le_of_ble_eq_true rfl) fun X h fin hE => ?_
  refine (?_ : ph_J X S.1 S.2 ad ((r, M') : (Int32 × ph_Mem)) 0 [(0, .ref (ad 63)), (1, .int p0), (2, .int p1)] [] M (f6_readNumber S M p0 p1)) hf
  unfold f6_readNumber
  refine j_aload_n h dX6_readNumber_0 rfl 0 rfl ?_
  refine j_callViP (n := 0) (As := []) (rest := []) h 63 tw_717 tw_719 tp_18 tw_7 tw_720 ydf6_isNumber (by decide) (by decide) (ph_xlt hS (by decide)) (ph_kc63 hS) rfl (fun q hq => cf6_isNumber (ph_okI h) hS hq) rfl (Nat.le_of_ble_eq_true rfl) rfl dX6_readNumber_1 (fun q1 => ?_)
  refine j_if_eq h 11 dX6_readNumber_4 (by decide) ?_ ?_
  · refine j_iconst (v := (-1 : Int32)) h dX6_readNumber_11 (by decide) ?_
    refine j_sub [0, 1, 2] rfl ?_
    exact jb_f6_readNumber_j12 h fin hS p0 p1 (-1 : Int32) M
  · refine j_iconst (v := (0 : Int32)) h dX6_readNumber_7 (by decide) ?_
    refine j_goto h 12 dX6_readNumber_8 (by decide) ?_
    refine j_sub [0, 1, 2] rfl ?_
    exact jb_f6_readNumber_j12 h fin hS p0 p1 (0 : Int32) M
theorem dX6_add_0 : decode cX6_add 0 = .ok (.aload_n 0, 1) := by decide +kernel
theorem dX6_add_1 : decode cX6_add 1 = .ok (.getfield 40, 3) := by decide +kernel
theorem dX6_add_4 : decode cX6_add 4 = .ok (.iconst (-1), 1) := by decide +kernel
theorem dX6_add_5 : decode cX6_add 5 = .ok (.if_icmp .ne 38, 3) := by decide +kernel
theorem dX6_add_8 : decode cX6_add 8 = .ok (.aload_n 0, 1) := by decide +kernel
theorem dX6_add_9 : decode cX6_add 9 = .ok (.getfield 49, 3) := by decide +kernel
theorem dX6_add_12 : decode cX6_add 12 = .ok (.sipush 400, 3) := by decide +kernel
theorem dX6_add_15 : decode cX6_add 15 = .ok (.if_icmp .ge 28, 3) := by decide +kernel
theorem dX6_add_18 : decode cX6_add 18 = .ok (.aload_n 0, 1) := by decide +kernel
theorem dX6_add_19 : decode cX6_add 19 = .ok (.getfield 29, 3) := by decide +kernel
theorem dX6_add_22 : decode cX6_add 22 = .ok (.aload_n 0, 1) := by decide +kernel
theorem dX6_add_23 : decode cX6_add 23 = .ok (.getfield 49, 3) := by decide +kernel
theorem dX6_add_26 : decode cX6_add 26 = .ok (.iload_n 2, 1) := by decide +kernel
theorem dX6_add_27 : decode cX6_add 27 = .ok (.bipush 32, 2) := by decide +kernel
theorem dX6_add_29 : decode cX6_add 29 = .ok (.imul, 1) := by decide +kernel
theorem dX6_add_30 : decode cX6_add 30 = .ok (.iload_n 1, 1) := by decide +kernel
theorem dX6_add_31 : decode cX6_add 31 = .ok (.iadd, 1) := by decide +kernel
theorem dX6_add_32 : decode cX6_add 32 = .ok (.iastore, 1) := by decide +kernel
theorem dX6_add_33 : decode cX6_add 33 = .ok (.aload_n 0, 1) := by decide +kernel
theorem dX6_add_34 : decode cX6_add 34 = .ok (.dup, 1) := by decide +kernel
theorem dX6_add_35 : decode cX6_add 35 = .ok (.getfield 49, 3) := by decide +kernel
theorem dX6_add_38 : decode cX6_add 38 = .ok (.iconst 1, 1) := by decide +kernel
theorem dX6_add_39 : decode cX6_add 39 = .ok (.iadd, 1) := by decide +kernel
theorem dX6_add_40 : decode cX6_add 40 = .ok (.putfield 49, 3) := by decide +kernel
theorem dX6_add_43 : decode cX6_add 43 = .ok (.return_, 1) := by decide +kernel
theorem ydf6_add : ph_yd yX6_add 2 := ⟨by decide, by decide, by decide +kernel⟩
def f6_add (S : ph_Sh) (M : ph_Mem) (p0 : Int32) (p1 : Int32) : Option ph_Mem :=
  if (M.1 63 2) = (-1 : Int32) then (if (400 : Int32) ≤ (M.1 63 14) then (some M) else (cond (ph_ib (M.1 63 14) 400) (ph_let (ph_wi M 69 (M.1 63 14).toNatClampNeg ((p1 * (32 : Int32)) + p0)) fun M1 => ph_let (ph_wi M1 63 14 ((M1.1 63 14) + (1 : Int32))) fun M2 => some M2) none)) else (some M)
set_option maxHeartbeats 4000000 in
theorem cf6_add {tb adK adV : Nat → Nat} {S : ph_Sh} {l : Launch} {D : va_G} {cA : Nat → ClassId} {ad : Nat → Nat} (hinj : ∀ i j, i < S.2 → j < S.2 → ad i = ad j → i = j) (hS : ph_SX S) {M : ph_Mem} {p0 : Int32} {p1 : Int32} {M' : ph_Mem} (hf : f6_add S M p0 p1 = some M') : ph_C (ph_ZX tb adK adV) l 0 yX6_add cX6_add 3 none D cA S.1 S.2 ad [.ref (ad 63), .int p0, .int p1] M none M' := by
  refine ph_mk ph_ZX_ok hinj (by decide) (Nat.le_of_ble_eq_true rfl) fun X h fin hE => ?_
  refine (?_ : ph_J X S.1 S.2 ad (M' : ph_Mem) 0 [(0, .ref (ad 63)), (1, .int p0), (2, .int p1)] [] M (f6_add S M p0 p1)) hf
  unfold f6_add
  refine j_aload_n h dX6_add_0 rfl 0 rfl ?_
  refine j_get (c := 63) (j := 2) (v := .int (M.1 63 2)) h (ph_xlt hS (by decide)) (ph_kc63 hS) rfl ph_inX6 rfl (by decide) tw_170 rfl rfl dX6_add_1 ?_
  refine j_iconst (v := (-1 : Int32)) h dX6_add_4 (by decide) ?_
  refine j_icmp_ne h 43 dX6_add_5 (by decide) ?_ ?_
  · exact j_vret h rfl fin dX6_add_43
  · refine j_aload_n h dX6_add_8 rfl 0 rfl ?_
    refine j_get (c := 63) (j := 14) (v := .int (M.1 63 14)) h (ph_xlt hS (by decide)) (ph_kc63 hS) rfl ph_inX6 rfl (by decide) tw_183 rfl rfl dX6_add_9 ?_
    refine j_sipush (v := (400 : Int32)) h dX6_add_12 (by decide) ?_
    refine j_icmp_ge h 43 dX6_add_15 (by decide) ?_ ?_
    · exact j_vret h rfl fin dX6_add_43
    · refine j_aload_n h dX6_add_18 rfl 0 rfl ?_
      refine j_get (c := 63) (j := 13) (v := .ref (ad 69)) h (ph_xlt hS (by decide)) (ph_kc63 hS) rfl ph_inX6 rfl (by decide) tw_182 rfl rfl dX6_add_19 ?_
      refine j_aload_n h dX6_add_22 rfl 0 rfl ?_
      refine j_get (c := 63) (j := 14) (v := .int (M.1 63 14)) h (ph_xlt hS (by decide)) (ph_kc63 hS) rfl ph_inX6 rfl (by decide) tw_183 rfl rfl dX6_add_23 ?_
      refine j_iload_n h dX6_add_26 rfl 2 rfl ?_
      refine j_bipush (v := (32 : Int32)) h dX6_add_27 (by decide) ?_
      refine j_imul h dX6_add_29 ?_
      refine j_iload_n h dX6_add_30 rfl 1 rfl ?_
      refine j_iadd h dX6_add_31 ?_
      refine j_iast (c := 69) (n := 400) h (ph_xlt hS (by decide)) (ph_kc69 hS) dX6_add_32 ?_
      refine j_letM (fun M1 => ?_)
      refine j_aload_n h dX6_add_33 rfl 0 rfl ?_
      refine j_dup h dX6_add_34 rfl ?_
      refine j_get (c := 63) (j := 14) (v := .int (M1.1 63 14)) h (ph_xlt hS (by decide)) (ph_kc63 hS) rfl ph_inX6 rfl (by decide) tw_183 rfl rfl dX6_add_35 ?_
      refine j_iconst (v := (1 : Int32)) h dX6_add_38 (by decide) ?_
      refine j_iadd h dX6_add_39 ?_
      refine j_puti (c := 63) (j := 14) (ty := .int) h (ph_xlt hS (by decide)) (ph_kc63 hS) rfl ph_inX6 tyX6 tyX6_ok nmX6 rfl (by decide) tw_183 rfl rfl (tyX6_ok 14 (by decide)) rfl rfl dX6_add_40 ?_
      refine j_letM (fun M2 => ?_)
      exact j_vret h rfl fin dX6_add_43
theorem dX6_readPart_0 : decode cX6_readPart 0 = .ok (.aload_n 0, 1) := by decide +kernel
theorem dX6_readPart_1 : decode cX6_readPart 1 = .ok (.ldc 205, 2) := by decide +kernel
theorem dX6_readPart_3 : decode cX6_readPart 3 = .ok (.invokevirtual 63, 3) := by decide +kernel
theorem dX6_readPart_6 : decode cX6_readPart 6 = .ok (.ifCond .eq 28, 3) := by decide +kernel
theorem dX6_readPart_9 : decode cX6_readPart 9 = .ok (.aload_n 0, 1) := by decide +kernel
theorem dX6_readPart_10 : decode cX6_readPart 10 = .ok (.invokevirtual 172, 3) := by decide +kernel
theorem dX6_readPart_13 : decode cX6_readPart 13 = .ok (.aload_n 0, 1) := by decide +kernel
theorem dX6_readPart_14 : decode cX6_readPart 14 = .ok (.invokevirtual 118, 3) := by decide +kernel
theorem dX6_readPart_17 : decode cX6_readPart 17 = .ok (.aload_n 0, 1) := by decide +kernel
theorem dX6_readPart_18 : decode cX6_readPart 18 = .ok (.dup, 1) := by decide +kernel
theorem dX6_readPart_19 : decode cX6_readPart 19 = .ok (.getfield 46, 3) := by decide +kernel
theorem dX6_readPart_22 : decode cX6_readPart 22 = .ok (.iconst 1, 1) := by decide +kernel
theorem dX6_readPart_23 : decode cX6_readPart 23 = .ok (.isub, 1) := by decide +kernel
theorem dX6_readPart_24 : decode cX6_readPart 24 = .ok (.putfield 46, 3) := by decide +kernel
theorem dX6_readPart_27 : decode cX6_readPart 27 = .ok (.aload_n 0, 1) := by decide +kernel
theorem dX6_readPart_28 : decode cX6_readPart 28 = .ok (.ldc 207, 2) := by decide +kernel
theorem dX6_readPart_30 : decode cX6_readPart 30 = .ok (.invokevirtual 123, 3) := by decide +kernel
theorem dX6_readPart_33 : decode cX6_readPart 33 = .ok (.return_, 1) := by decide +kernel
theorem dX6_readPart_34 : decode cX6_readPart 34 = .ok (.aload_n 0, 1) := by decide +kernel
theorem dX6_readPart_35 : decode cX6_readPart 35 = .ok (.dup, 1) := by decide +kernel
theorem dX6_readPart_36 : decode cX6_readPart 36 = .ok (.getfield 43, 3) := by decide +kernel
theorem dX6_readPart_39 : decode cX6_readPart 39 = .ok (.iconst 1, 1) := by decide +kernel
theorem dX6_readPart_40 : decode cX6_readPart 40 = .ok (.iadd, 1) := by decide +kernel
theorem dX6_readPart_41 : decode cX6_readPart 41 = .ok (.putfield 43, 3) := by decide +kernel
theorem dX6_readPart_44 : decode cX6_readPart 44 = .ok (.aload_n 0, 1) := by decide +kernel
theorem dX6_readPart_45 : decode cX6_readPart 45 = .ok (.invokevirtual 107, 3) := by decide +kernel
theorem dX6_readPart_48 : decode cX6_readPart 48 = .ok (.istore_n 1, 1) := by decide +kernel
theorem dX6_readPart_49 : decode cX6_readPart 49 = .ok (.iload_n 1, 1) := by decide +kernel
theorem dX6_readPart_50 : decode cX6_readPart 50 = .ok (.ifCond .eq 7, 3) := by decide +kernel
theorem dX6_readPart_53 : decode cX6_readPart 53 = .ok (.iconst (-1), 1) := by decide +kernel
theorem dX6_readPart_54 : decode cX6_readPart 54 = .ok (.goto 21, 3) := by decide +kernel
theorem dX6_readPart_57 : decode cX6_readPart 57 = .ok (.aload_n 0, 1) := by decide +kernel
theorem dX6_readPart_58 : decode cX6_readPart 58 = .ok (.getfield 36, 3) := by decide +kernel
theorem dX6_readPart_61 : decode cX6_readPart 61 = .ok (.ifCond .eq 10, 3) := by decide +kernel
theorem dX6_readPart_64 : decode cX6_readPart 64 = .ok (.aload_n 0, 1) := by decide +kernel
theorem dX6_readPart_65 : decode cX6_readPart 65 = .ok (.invokevirtual 209, 3) := by decide +kernel
theorem dX6_readPart_68 : decode cX6_readPart 68 = .ok (.goto 7, 3) := by decide +kernel
theorem dX6_readPart_71 : decode cX6_readPart 71 = .ok (.aload_n 0, 1) := by decide +kernel
theorem dX6_readPart_72 : decode cX6_readPart 72 = .ok (.invokevirtual 212, 3) := by decide +kernel
theorem dX6_readPart_75 : decode cX6_readPart 75 = .ok (.istore_n 2, 1) := by decide +kernel
theorem dX6_readPart_76 : decode cX6_readPart 76 = .ok (.aload_n 0, 1) := by decide +kernel
theorem dX6_readPart_77 : decode cX6_readPart 77 = .ok (.getfield 43, 3) := by decide +kernel
theorem dX6_readPart_80 : decode cX6_readPart 80 = .ok (.bipush 50, 2) := by decide +kernel
theorem dX6_readPart_82 : decode cX6_readPart 82 = .ok (.if_icmp .gt 12, 3) := by decide +kernel
theorem dX6_readPart_85 : decode cX6_readPart 85 = .ok (.iload_n 1, 1) := by decide +kernel
theorem dX6_readPart_86 : decode cX6_readPart 86 = .ok (.ifCond .ne 15, 3) := by decide +kernel
theorem dX6_readPart_89 : decode cX6_readPart 89 = .ok (.iload_n 2, 1) := by decide +kernel
theorem dX6_readPart_90 : decode cX6_readPart 90 = .ok (.iconst (-1), 1) := by decide +kernel
theorem dX6_readPart_91 : decode cX6_readPart 91 = .ok (.if_icmp .ne 10, 3) := by decide +kernel
theorem dX6_readPart_94 : decode cX6_readPart 94 = .ok (.aload_n 0, 1) := by decide +kernel
theorem dX6_readPart_95 : decode cX6_readPart 95 = .ok (.invokevirtual 76, 3) := by decide +kernel
theorem dX6_readPart_98 : decode cX6_readPart 98 = .ok (.goto 91, 3) := by decide +kernel
theorem dX6_readPart_101 : decode cX6_readPart 101 = .ok (.iload_n 1, 1) := by decide +kernel
theorem dX6_readPart_102 : decode cX6_readPart 102 = .ok (.ifCond .eq 19, 3) := by decide +kernel
theorem dX6_readPart_105 : decode cX6_readPart 105 = .ok (.aload_n 0, 1) := by decide +kernel
theorem dX6_readPart_106 : decode cX6_readPart 106 = .ok (.iconst 0, 1) := by decide +kernel
theorem dX6_readPart_107 : decode cX6_readPart 107 = .ok (.aload_n 0, 1) := by decide +kernel
theorem dX6_readPart_108 : decode cX6_readPart 108 = .ok (.iconst 0, 1) := by decide +kernel
theorem dX6_readPart_109 : decode cX6_readPart 109 = .ok (.sipush 1000, 3) := by decide +kernel
theorem dX6_readPart_112 : decode cX6_readPart 112 = .ok (.invokevirtual 129, 3) := by decide +kernel
theorem dX6_readPart_115 : decode cX6_readPart 115 = .ok (.invokevirtual 180, 3) := by decide +kernel
theorem dX6_readPart_118 : decode cX6_readPart 118 = .ok (.goto 71, 3) := by decide +kernel
theorem dX6_readPart_121 : decode cX6_readPart 121 = .ok (.aload_n 0, 1) := by decide +kernel
theorem dX6_readPart_122 : decode cX6_readPart 122 = .ok (.invokevirtual 67, 3) := by decide +kernel
theorem dX6_readPart_125 : decode cX6_readPart 125 = .ok (.aload_n 0, 1) := by decide +kernel
theorem dX6_readPart_126 : decode cX6_readPart 126 = .ok (.getfield 36, 3) := by decide +kernel
theorem dX6_readPart_129 : decode cX6_readPart 129 = .ok (.ifCond .eq 17, 3) := by decide +kernel
theorem dX6_readPart_132 : decode cX6_readPart 132 = .ok (.iload_n 2, 1) := by decide +kernel
theorem dX6_readPart_133 : decode cX6_readPart 133 = .ok (.iconst 3, 1) := by decide +kernel
theorem dX6_readPart_134 : decode cX6_readPart 134 = .ok (.if_icmp .lt 12, 3) := by decide +kernel
theorem dX6_readPart_137 : decode cX6_readPart 137 = .ok (.aload_n 0, 1) := by decide +kernel
theorem dX6_readPart_138 : decode cX6_readPart 138 = .ok (.iconst 0, 1) := by decide +kernel
theorem dX6_readPart_139 : decode cX6_readPart 139 = .ok (.iconst 5, 1) := by decide +kernel
theorem dX6_readPart_140 : decode cX6_readPart 140 = .ok (.invokevirtual 129, 3) := by decide +kernel
theorem dX6_readPart_143 : decode cX6_readPart 143 = .ok (.goto 4, 3) := by decide +kernel
theorem dX6_readPart_146 : decode cX6_readPart 146 = .ok (.iconst 0, 1) := by decide +kernel
theorem dX6_readPart_147 : decode cX6_readPart 147 = .ok (.istore_n 3, 1) := by decide +kernel
theorem dX6_readPart_148 : decode cX6_readPart 148 = .ok (.aload_n 0, 1) := by decide +kernel
theorem dX6_readPart_149 : decode cX6_readPart 149 = .ok (.getfield 36, 3) := by decide +kernel
theorem dX6_readPart_152 : decode cX6_readPart 152 = .ok (.ifCond .eq 29, 3) := by decide +kernel
theorem dX6_readPart_155 : decode cX6_readPart 155 = .ok (.iload_n 2, 1) := by decide +kernel
theorem dX6_readPart_156 : decode cX6_readPart 156 = .ok (.bipush 15, 2) := by decide +kernel
theorem dX6_readPart_158 : decode cX6_readPart 158 = .ok (.if_icmp .ne 23, 3) := by decide +kernel
theorem dX6_readPart_161 : decode cX6_readPart 161 = .ok (.aload_n 0, 1) := by decide +kernel
theorem dX6_readPart_162 : decode cX6_readPart 162 = .ok (.iconst 2, 1) := by decide +kernel
theorem dX6_readPart_163 : decode cX6_readPart 163 = .ok (.iload_n 3, 1) := by decide +kernel
theorem dX6_readPart_164 : decode cX6_readPart 164 = .ok (.bipush 8, 2) := by decide +kernel
theorem dX6_readPart_166 : decode cX6_readPart 166 = .ok (.imul, 1) := by decide +kernel
theorem dX6_readPart_167 : decode cX6_readPart 167 = .ok (.aload_n 0, 1) := by decide +kernel
theorem dX6_readPart_168 : decode cX6_readPart 168 = .ok (.iconst 0, 1) := by decide +kernel
theorem dX6_readPart_169 : decode cX6_readPart 169 = .ok (.bipush 7, 2) := by decide +kernel
theorem dX6_readPart_171 : decode cX6_readPart 171 = .ok (.invokevirtual 129, 3) := by decide +kernel
theorem dX6_readPart_174 : decode cX6_readPart 174 = .ok (.iadd, 1) := by decide +kernel
theorem dX6_readPart_175 : decode cX6_readPart 175 = .ok (.invokevirtual 180, 3) := by decide +kernel
theorem dX6_readPart_178 : decode cX6_readPart 178 = .ok (.goto 11, 3) := by decide +kernel
theorem dX6_readPart_181 : decode cX6_readPart 181 = .ok (.aload_n 0, 1) := by decide +kernel
theorem dX6_readPart_182 : decode cX6_readPart 182 = .ok (.iconst 1, 1) := by decide +kernel
theorem dX6_readPart_183 : decode cX6_readPart 183 = .ok (.iload_n 2, 1) := by decide +kernel
theorem dX6_readPart_184 : decode cX6_readPart 184 = .ok (.iload_n 3, 1) := by decide +kernel
theorem dX6_readPart_185 : decode cX6_readPart 185 = .ok (.iadd, 1) := by decide +kernel
theorem dX6_readPart_186 : decode cX6_readPart 186 = .ok (.invokevirtual 180, 3) := by decide +kernel
theorem dX6_readPart_189 : decode cX6_readPart 189 = .ok (.return_, 1) := by decide +kernel
def f6_readPart_j94 (S : ph_Sh) (rs : ph_Mem → Option ph_Mem) (M : ph_Mem) : Option ph_Mem :=
  (f6_fail S M ).bind fun q17 => some q17
set_option maxHeartbeats 4000000 in
theorem jb_f6_readPart_j94 {tb adK adV : Nat → Nat} {S : ph_Sh} {X : ph_X} {ad : Nat → Nat} {o : ph_Mem} {rs : ph_Mem → Option ph_Mem} {dr : Nat} (h : ph_ok (ph_ZX tb adK adV) X cX6_readPart RX6 none 4 (dr + 1) S.2 ad) (fin : ph_fin X S.1 S.2 ad none o) (hS : ph_SX S) (hB : 5 ≤ dr) (hrs : ∀ (M : ph_Mem) (q : ph_Mem), rs M  = some q → ph_CX (ph_ZX tb adK adV) X dr yX6_readSum cX6_readSum 3 none  S.1 S.2 ad [.ref (ad 63)] M none q) : ∀ (M : ph_Mem), ph_J X S.1 S.2 ad o 94 [(0, .ref (ad 63))] [] M (f6_readPart_j94 S rs M) := by
  intro M
  unfold f6_readPart_j94
  refine j_aload_n h dX6_readPart_94 rfl 0 rfl ?_
  refine j_callVv (n := 0) (As := []) (rest := []) h 63 tw_682 tw_684 tp_10 tw_7 tw_685 ydf6_fail (by omega) (by decide) (ph_xlt hS (by decide)) (ph_kc63 hS) rfl (fun q hq => cf6_fail (ph_okI h) hS hq) rfl (Nat.le_of_ble_eq_true rfl) rfl dX6_readPart_95 (fun q17 => ?_)
  refine j_goto h 189 dX6_readPart_98 (by decide) ?_
  exact j_vret h rfl fin dX6_readPart_189
def f6_readPart_j181 (S : ph_Sh) (rs : ph_Mem → Option ph_Mem) (x2 : Int32) (x3 : Int32) (M : ph_Mem) : Option ph_Mem :=
  (f6_add S M (1 : Int32) (x2 + x3)).bind fun q16 => some q16
set_option maxHeartbeats 4000000 in
theorem jb_f6_readPart_j181 {tb adK adV : Nat → Nat} {S : ph_Sh} {X : ph_X} {ad : Nat → Nat} {o : ph_Mem} {rs : ph_Mem → Option ph_Mem} {dr : Nat} (h : ph_ok (ph_ZX tb adK adV) X cX6_readPart RX6 none 4 (dr + 1) S.2 ad) (fin : ph_fin X S.1 S.2 ad none o) (hS : ph_SX S) (hB : 5 ≤ dr) (hrs : ∀ (M : ph_Mem) (q : ph_Mem), rs M  = some q → ph_CX (ph_ZX tb adK adV) X dr yX6_readSum cX6_readSum 3 none  S.1 S.2 ad [.ref (ad 63)] M none q) : ∀ (x2 : Int32) (x3 : Int32) (M : ph_Mem), ph_J X S.1 S.2 ad o 181 [(0, .ref (ad 63)), (2, .int x2), (3, .int x3)] [] M (f6_readPart_j181 S rs x2 x3 M) := by
  intro x2 x3 M
  unfold f6_readPart_j181
  refine j_aload_n h dX6_readPart_181 rfl 0 rfl ?_
  refine j_iconst (v := (1 : Int32)) h dX6_readPart_182 (by decide) ?_
  refine j_iload_n h dX6_readPart_183 rfl 1 rfl ?_
  refine j_iload_n h dX6_readPart_184 rfl 2 rfl ?_
  refine j_iadd h dX6_readPart_185 ?_
  refine j_callVv (n := 2) (As := [.int (1 : Int32), .int (x2 + x3)]) (rest := []) h 63 tw_748 tw_750 tp_22 tw_7 tw_751 ydf6_add (by omega) (by decide) (ph_xlt hS (by decide)) (ph_kc63 hS) rfl (fun q hq => cf6_add (ph_okI h) hS hq) rfl (Nat.le_of_ble_eq_true rfl) rfl dX6_readPart_186 (fun q16 => ?_)
  exact j_vret h rfl fin dX6_readPart_189
def f6_readPart_j147 (S : ph_Sh) (rs : ph_Mem → Option ph_Mem) (x2 : Int32) (s0 : Int32) (M : ph_Mem) : Option ph_Mem :=
  if (M.1 63 3) = 0 then (f6_readPart_j181 S rs x2 s0 M) else (if x2 = (15 : Int32) then ((f6_readNumber S M (0 : Int32) (7 : Int32)).bind fun q14 => (f6_add S q14.2 (2 : Int32) ((s0 * (8 : Int32)) + q14.1)).bind fun q15 => some q15) else (f6_readPart_j181 S rs x2 s0 M))
set_option maxHeartbeats 4000000 in
theorem jb_f6_readPart_j147 {tb adK adV : Nat → Nat} {S : ph_Sh} {X : ph_X} {ad : Nat → Nat} {o : ph_Mem} {rs : ph_Mem → Option ph_Mem} {dr : Nat} (h : ph_ok (ph_ZX tb adK adV) X cX6_readPart RX6 none 4 (dr + 1) S.2 ad) (fin : ph_fin X S.1 S.2 ad none o) (hS : ph_SX S) (hB : 5 ≤ dr) (hrs : ∀ (M : ph_Mem) (q : ph_Mem), rs M  = some q → ph_CX (ph_ZX tb adK adV) X dr yX6_readSum cX6_readSum 3 none  S.1 S.2 ad [.ref (ad 63)] M none q) : ∀ (x2 : Int32) (s0 : Int32) (M : ph_Mem), ph_J X S.1 S.2 ad o 147 [(0, .ref (ad 63)), (2, .int x2)] [.int s0] M (f6_readPart_j147 S rs x2 s0 M) := by
  intro x2 s0 M
  unfold f6_readPart_j147
  refine j_istore_n h [(3, .int s0), (0, .ref (ad 63)), (2, .int x2)] dX6_readPart_147 rfl (by decide) rfl ?_
  refine j_aload_n h dX6_readPart_148 rfl 1 rfl ?_
  refine j_get (c := 63) (j := 3) (v := .int (M.1 63 3)) h (ph_xlt hS (by decide)) (ph_kc63 hS) rfl ph_inX6 rfl (by decide) tw_172 rfl rfl dX6_readPart_149 ?_
  refine j_if_eq h 181 dX6_readPart_152 (by decide) ?_ ?_
  · refine j_sub [1, 2, 0] rfl ?_
    exact jb_f6_readPart_j181 h fin hS hB hrs x2 s0 M
  · refine j_iload_n h dX6_readPart_155 rfl 2 rfl ?_
    refine j_bipush (v := (15 : Int32)) h dX6_readPart_156 (by decide) ?_
    refine j_icmp_ne h 181 dX6_readPart_158 (by decide) ?_ ?_
    · refine j_sub [1, 2, 0] rfl ?_
      exact jb_f6_readPart_j181 h fin hS hB hrs x2 s0 M
    · refine j_aload_n h dX6_readPart_161 rfl 1 rfl ?_
      refine j_iconst (v := (2 : Int32)) h dX6_readPart_162 (by decide) ?_
      refine j_iload_n h dX6_readPart_163 rfl 0 rfl ?_
      refine j_bipush (v := (8 : Int32)) h dX6_readPart_164 (by decide) ?_
      refine j_imul h dX6_readPart_166 ?_
      refine j_aload_n h dX6_readPart_167 rfl 1 rfl ?_
      refine j_iconst (v := (0 : Int32)) h dX6_readPart_168 (by decide) ?_
      refine j_bipush (v := (7 : Int32)) h dX6_readPart_169 (by decide) ?_
      refine j_callVi (n := 2) (As := [.int (0 : Int32), .int (7 : Int32)]) (rest := [.int (s0 * (8 : Int32)), .int (2 : Int32), .ref (ad 63)]) h 63 tw_744 tw_746 tp_21 tw_7 tw_747 ydf6_readNumber (by omega) (by decide) (ph_xlt hS (by decide)) (ph_kc63 hS) rfl (fun q hq => cf6_readNumber (ph_okI h) hS hq) rfl (Nat.le_of_ble_eq_true rfl) rfl dX6_readPart_171 (fun q14 => ?_)
      refine j_iadd h dX6_readPart_174 ?_
      refine j_callVv (n := 2) (As := [.int (2 : Int32), .int ((s0 * (8 : Int32)) + q14.1)]) (rest := []) h 63 tw_748 tw_750 tp_22 tw_7 tw_751 ydf6_add (by omega) (by decide) (ph_xlt hS (by decide)) (ph_kc63 hS) rfl (fun q hq => cf6_add (ph_okI h) hS hq) rfl (Nat.le_of_ble_eq_true rfl) rfl dX6_readPart_175 (fun q15 => ?_)
      refine j_goto h 189 dX6_readPart_178 (by decide) ?_
      exact j_vret h rfl fin dX6_readPart_189
def f6_readPart_j146 (S : ph_Sh) (rs : ph_Mem → Option ph_Mem) (x2 : Int32) (M : ph_Mem) : Option ph_Mem :=
  f6_readPart_j147 S rs x2 (0 : Int32) M
set_option maxHeartbeats 4000000 in
theorem jb_f6_readPart_j146 {tb adK adV : Nat → Nat} {S : ph_Sh} {X : ph_X} {ad : Nat → Nat} {o : ph_Mem} {rs : ph_Mem → Option ph_Mem} {dr : Nat} (h : ph_ok (ph_ZX tb adK adV) X cX6_readPart RX6 none 4 (dr + 1) S.2 ad) (fin : ph_fin X S.1 S.2 ad none o) (hS : ph_SX S) (hB : 5 ≤ dr) (hrs : ∀ (M : ph_Mem) (q : ph_Mem), rs M  = some q → ph_CX (ph_ZX tb adK adV) X dr yX6_readSum cX6_readSum 3 none  S.1 S.2 ad [.ref (ad 63)] M none q) : ∀ (x2 : Int32) (M : ph_Mem), ph_J X S.1 S.2 ad o 146 [(0, .ref (ad 63)), (2, .int x2)] [] M (f6_readPart_j146 S rs x2 M) := by
  intro x2 M
  unfold f6_readPart_j146
  refine j_iconst (v := (0 : Int32)) h dX6_readPart_146 (by decide) ?_
  refine j_sub [0, 1] rfl ?_
  exact jb_f6_readPart_j147 h fin hS hB hrs x2 (0 : Int32) M
def f6_readPart_j101 (S : ph_Sh) (rs : ph_Mem → Option ph_Mem) (x1 : Int32) (x2 : Int32) (M : ph_Mem) : Option ph_Mem :=
  if x1 = 0 then ((f6_advance S M ).bind fun q10 => if (q10.1 63 3) = 0 then (f6_readPart_j146 S rs x2 q10) else (if x2 < (3 : Int32) then (f6_readPart_j146 S rs x2 q10) else ((f6_readNumber S q10 (0 : Int32) (5 : Int32)).bind fun q11 => f6_readPart_j147 S rs x2 q11.1 q11.2))) else ((f6_readNumber S M (0 : Int32) (1000 : Int32)).bind fun q12 => (f6_add S q12.2 (0 : Int32) q12.1).bind fun q13 => some q13)
set_option maxHeartbeats 4000000 in
theorem jb_f6_readPart_j101 {tb adK adV : Nat → Nat} {S : ph_Sh} {X : ph_X} {ad : Nat → Nat} {o : ph_Mem} {rs : ph_Mem → Option ph_Mem} {dr : Nat} (h : ph_ok (ph_ZX tb adK adV) X cX6_readPart RX6 none 4 (dr + 1) S.2 ad) (fin : ph_fin X S.1 S.2 ad none o) (hS : ph_SX S) (hB : 5 ≤ dr) (hrs : ∀ (M : ph_Mem) (q : ph_Mem), rs M  = some q → ph_CX (ph_ZX tb adK adV) X dr yX6_readSum cX6_readSum 3 none  S.1 S.2 ad [.ref (ad 63)] M none q) : ∀ (x1 : Int32) (x2 : Int32) (M : ph_Mem), ph_J X S.1 S.2 ad o 101 [(0, .ref (ad 63)), (1, .int x1), (2, .int x2)] [] M (f6_readPart_j101 S rs x1 x2 M) := by
  intro x1 x2 M
  unfold f6_readPart_j101
  refine j_iload_n h dX6_readPart_101 rfl 1 rfl ?_
  refine j_if_eq h 121 dX6_readPart_102 (by decide) ?_ ?_
  · refine j_aload_n h dX6_readPart_121 rfl 0 rfl ?_
    refine j_callVv (n := 0) (As := []) (rest := []) h 63 tw_686 tw_688 tp_11 tw_7 tw_689 ydf6_advance (by omega) (by decide) (ph_xlt hS (by decide)) (ph_kc63 hS) rfl (fun q hq => cf6_advance (ph_okI h) hS hq) rfl (Nat.le_of_ble_eq_true rfl) rfl dX6_readPart_122 (fun q10 => ?_)
    refine j_aload_n h dX6_readPart_125 rfl 0 rfl ?_
    refine j_get (c := 63) (j := 3) (v := .int (q10.1 63 3)) h (ph_xlt hS (by decide)) (ph_kc63 hS) rfl ph_inX6 rfl (by decide) tw_172 rfl rfl dX6_readPart_126 ?_
    refine j_if_eq h 146 dX6_readPart_129 (by decide) ?_ ?_
    · refine j_sub [0, 2] rfl ?_
      exact jb_f6_readPart_j146 h fin hS hB hrs x2 q10
    · refine j_iload_n h dX6_readPart_132 rfl 2 rfl ?_
      refine j_iconst (v := (3 : Int32)) h dX6_readPart_133 (by decide) ?_
      refine j_icmp_lt h 146 dX6_readPart_134 (by decide) ?_ ?_
      · refine j_sub [0, 2] rfl ?_
        exact jb_f6_readPart_j146 h fin hS hB hrs x2 q10
      · refine j_aload_n h dX6_readPart_137 rfl 0 rfl ?_
        refine j_iconst (v := (0 : Int32)) h dX6_readPart_138 (by decide) ?_
        refine j_iconst (v := (5 : Int32)) h dX6_readPart_139 (by decide) ?_
        refine j_callVi (n := 2) (As := [.int (0 : Int32), .int (5 : Int32)]) (rest := []) h 63 tw_744 tw_746 tp_21 tw_7 tw_747 ydf6_readNumber (by omega) (by decide) (ph_xlt hS (by decide)) (ph_kc63 hS) rfl (fun q hq => cf6_readNumber (ph_okI h) hS hq) rfl (Nat.le_of_ble_eq_true rfl) rfl dX6_readPart_140 (fun q11 => ?_)
        refine j_goto h 147 dX6_readPart_143 (by decide) ?_
        refine j_sub [0, 2] rfl ?_
        exact jb_f6_readPart_j147 h fin hS hB hrs x2 q11.1 q11.2
  · refine j_aload_n h dX6_readPart_105 rfl 0 rfl ?_
    refine j_iconst (v := (0 : Int32)) h dX6_readPart_106 (by decide) ?_
    refine j_aload_n h dX6_readPart_107 rfl 0 rfl ?_
    refine j_iconst (v := (0 : Int32)) h dX6_readPart_108 (by decide) ?_
    refine j_sipush (v := (1000 : Int32)) h dX6_readPart_109 (by decide) ?_
    refine j_callVi (n := 2) (As := [.int (0 : Int32), .int (1000 : Int32)]) (rest := [.int (0 : Int32), .ref (ad 63)]) h 63 tw_744 tw_746 tp_21 tw_7 tw_747 ydf6_readNumber (by omega) (by decide) (ph_xlt hS (by decide)) (ph_kc63 hS) rfl (fun q hq => cf6_readNumber (ph_okI h) hS hq) rfl (Nat.le_of_ble_eq_true rfl) rfl dX6_readPart_112 (fun q12 => ?_)
    refine j_callVv (n := 2) (As := [.int (0 : Int32), .int q12.1]) (rest := []) h 63 tw_748 tw_750 tp_22 tw_7 tw_751 ydf6_add (by omega) (by decide) (ph_xlt hS (by decide)) (ph_kc63 hS) rfl (fun q hq => cf6_add (ph_okI h) hS hq) rfl (Nat.le_of_ble_eq_true rfl) rfl dX6_readPart_115 (fun q13 => ?_)
    refine j_goto h 189 dX6_readPart_118 (by decide) ?_
    exact j_vret h rfl fin dX6_readPart_189
def f6_readPart_j75 (S : ph_Sh) (rs : ph_Mem → Option ph_Mem) (x1 : Int32) (s0 : Int32) (M : ph_Mem) : Option ph_Mem :=
  if (50 : Int32) < (M.1 63 9) then (f6_readPart_j94 S rs  M) else (if x1 = 0 then (if s0 = (-1 : Int32) then (f6_readPart_j94 S rs  M) else (f6_readPart_j101 S rs x1 s0 M)) else (f6_readPart_j101 S rs x1 s0 M))
set_option maxHeartbeats 4000000 in
theorem jb_f6_readPart_j75 {tb adK adV : Nat → Nat} {S : ph_Sh} {X : ph_X} {ad : Nat → Nat} {o : ph_Mem} {rs : ph_Mem → Option ph_Mem} {dr : Nat} (h : ph_ok (ph_ZX tb adK adV) X cX6_readPart RX6 none 4 (dr + 1) S.2 ad) (fin : ph_fin X S.1 S.2 ad none o) (hS : ph_SX S) (hB : 5 ≤ dr) (hrs : ∀ (M : ph_Mem) (q : ph_Mem), rs M  = some q → ph_CX (ph_ZX tb adK adV) X dr yX6_readSum cX6_readSum 3 none  S.1 S.2 ad [.ref (ad 63)] M none q) : ∀ (x1 : Int32) (s0 : Int32) (M : ph_Mem), ph_J X S.1 S.2 ad o 75 [(0, .ref (ad 63)), (1, .int x1)] [.int s0] M (f6_readPart_j75 S rs x1 s0 M) := by
  intro x1 s0 M
  unfold f6_readPart_j75
  refine j_istore_n h [(2, .int s0), (0, .ref (ad 63)), (1, .int x1)] dX6_readPart_75 rfl (by decide) rfl ?_
  refine j_aload_n h dX6_readPart_76 rfl 1 rfl ?_
  refine j_get (c := 63) (j := 9) (v := .int (M.1 63 9)) h (ph_xlt hS (by decide)) (ph_kc63 hS) rfl ph_inX6 rfl (by decide) tw_178 rfl rfl dX6_readPart_77 ?_
  refine j_bipush (v := (50 : Int32)) h dX6_readPart_80 (by decide) ?_
  refine j_icmp_gt h 94 dX6_readPart_82 (by decide) ?_ ?_
  · refine j_sub [1] rfl ?_
    exact jb_f6_readPart_j94 h fin hS hB hrs  M
  · refine j_iload_n h dX6_readPart_85 rfl 2 rfl ?_
    refine j_if_ne h 101 dX6_readPart_86 (by decide) ?_ ?_
    · refine j_sub [1, 2, 0] rfl ?_
      exact jb_f6_readPart_j101 h fin hS hB hrs x1 s0 M
    · refine j_iload_n h dX6_readPart_89 rfl 0 rfl ?_
      refine j_iconst (v := (-1 : Int32)) h dX6_readPart_90 (by decide) ?_
      refine j_icmp_ne h 101 dX6_readPart_91 (by decide) ?_ ?_
      · refine j_sub [1, 2, 0] rfl ?_
        exact jb_f6_readPart_j101 h fin hS hB hrs x1 s0 M
      · refine j_sub [1] rfl ?_
        exact jb_f6_readPart_j94 h fin hS hB hrs  M
theorem ydf6_readPart : ph_yd yX6_readPart 0 := ⟨by decide, by decide, by decide +kernel⟩
def f6_readPart (S : ph_Sh) (rs : ph_Mem → Option ph_Mem) (M : ph_Mem) : Option ph_Mem :=
  (f6_says S M 6).bind fun q1 => if q1 = 0 then (ph_let (ph_wi M 63 9 ((M.1 63 9) + (1 : Int32))) fun M2 => (f6_isNumber S M2 ).bind fun q3 => if q3 = 0 then (if (M2.1 63 3) = 0 then ((f6_wordOfLaw S M2 ).bind fun q4 => f6_readPart_j75 S rs q3 q4 M2) else ((f6_wordOfOrders S M2 ).bind fun q5 => f6_readPart_j75 S rs q3 q5 M2)) else (f6_readPart_j75 S rs q3 (-1 : Int32) M2)) else ((f6_open S M ).bind fun q6 => (rs q6 ).bind fun q7 => ph_let (ph_wi q7 63 10 ((q7.1 63 10) - (1 : Int32))) fun M8 => (f6_expect S M8 7).bind fun q9 => some q9)
set_option maxHeartbeats 4000000 in
theorem cf6_readPart {tb adK adV : Nat → Nat} {S : ph_Sh} {l : Launch} {D : va_G} {cA : Nat → ClassId} {ad : Nat → Nat} (hinj : ∀ i j, i < S.2 → j < S.2 → ad i = ad j → i = j) (hS : ph_SX S) {rs : ph_Mem → Option ph_Mem} {dr : Nat} (hB : 5 ≤ dr) (hrs : ∀ (M : ph_Mem) (q : ph_Mem), rs M  = some q → ph_C (ph_ZX tb adK adV) l dr yX6_readSum cX6_readSum 3 none D cA S.1 S.2 ad [.ref (ad 63)] M none q) {M : ph_Mem} {M' : ph_Mem} (hf : f6_readPart S rs M  = some M') : ph_C (ph_ZX tb adK adV) l (dr + 1) yX6_readPart cX6_readPart 4 none D cA S.1 S.2 ad [.ref (ad 63)] M none M' := by
  refine ph_mk ph_ZX_ok hinj (by decide) (Nat.le_of_ble_eq_true rfl) fun X h fin hE => ?_
  obtain ⟨rfl, rfl, rfl⟩ := hE
  refine (?_ : ph_J X S.1 S.2 ad (M' : ph_Mem) 0 [(0, .ref (ad 63))] [] M (f6_readPart S rs M )) hf
  unfold f6_readPart
  refine j_aload_n h dX6_readPart_0 rfl 0 rfl ?_
  refine j_ldcs h 6 (by decide) rfl rfl dX6_readPart_1 ?_
  refine j_callViP (n := 1) (As := [.ref (adK 6)]) (rest := []) h 63 tw_626 tw_628 tp_9 tw_7 tw_629 ydf6_says (by omega) (by decide) (ph_xlt hS (by decide)) (ph_kc63 hS) rfl (fun q hq => cf6_says (ph_okI h) hS (by decide) hq) rfl (Nat.le_of_ble_eq_true rfl) rfl dX6_readPart_3 (fun q1 => ?_)
  refine j_if_eq h 34 dX6_readPart_6 (by decide) ?_ ?_
  · refine j_aload_n h dX6_readPart_34 rfl 0 rfl ?_
    refine j_dup h dX6_readPart_35 rfl ?_
    refine j_get (c := 63) (j := 9) (v := .int (M.1 63 9)) h (ph_xlt hS (by decide)) (ph_kc63 hS) rfl ph_inX6 rfl (by decide) tw_178 rfl rfl dX6_readPart_36 ?_
    refine j_iconst (v := (1 : Int32)) h dX6_readPart_39 (by decide) ?_
    refine j_iadd h dX6_readPart_40 ?_
    refine j_puti (c := 63) (j := 9) (ty := .int) h (ph_xlt hS (by decide)) (ph_kc63 hS) rfl ph_inX6 tyX6 tyX6_ok nmX6 rfl (by decide) tw_178 rfl rfl (tyX6_ok 9 (by decide)) rfl rfl dX6_readPart_41 ?_
    refine j_letM (fun M2 => ?_)
    refine j_aload_n h dX6_readPart_44 rfl 0 rfl ?_
    refine j_callViP (n := 0) (As := []) (rest := []) h 63 tw_717 tw_719 tp_18 tw_7 tw_720 ydf6_isNumber (by omega) (by decide) (ph_xlt hS (by decide)) (ph_kc63 hS) rfl (fun q hq => cf6_isNumber (ph_okI h) hS hq) rfl (Nat.le_of_ble_eq_true rfl) rfl dX6_readPart_45 (fun q3 => ?_)
    refine j_istore_n h [(1, .int q3), (0, .ref (ad 63))] dX6_readPart_48 rfl (by decide) rfl ?_
    refine j_iload_n h dX6_readPart_49 rfl 0 rfl ?_
    refine j_if_eq h 57 dX6_readPart_50 (by decide) ?_ ?_
    · refine j_aload_n h dX6_readPart_57 rfl 1 rfl ?_
      refine j_get (c := 63) (j := 3) (v := .int (M2.1 63 3)) h (ph_xlt hS (by decide)) (ph_kc63 hS) rfl ph_inX6 rfl (by decide) tw_172 rfl rfl dX6_readPart_58 ?_
      refine j_if_eq h 71 dX6_readPart_61 (by decide) ?_ ?_
      · refine j_aload_n h dX6_readPart_71 rfl 1 rfl ?_
        refine j_callViP (n := 0) (As := []) (rest := []) h 63 tw_731 tw_733 tp_20 tw_7 tw_734 ydf6_wordOfLaw (by omega) (by decide) (ph_xlt hS (by decide)) (ph_kc63 hS) rfl (fun q hq => cf6_wordOfLaw (ph_okI h) hS hq) rfl (Nat.le_of_ble_eq_true rfl) rfl dX6_readPart_72 (fun q4 => ?_)
        refine j_sub [1, 0] rfl ?_
        exact jb_f6_readPart_j75 h fin hS hB hrs q3 q4 M2
      · refine j_aload_n h dX6_readPart_64 rfl 1 rfl ?_
        refine j_callViP (n := 0) (As := []) (rest := []) h 63 tw_721 tw_723 tp_19 tw_7 tw_724 ydf6_wordOfOrders (by omega) (by decide) (ph_xlt hS (by decide)) (ph_kc63 hS) rfl (fun q hq => cf6_wordOfOrders (ph_okI h) hS hq) rfl (Nat.le_of_ble_eq_true rfl) rfl dX6_readPart_65 (fun q5 => ?_)
        refine j_goto h 75 dX6_readPart_68 (by decide) ?_
        refine j_sub [1, 0] rfl ?_
        exact jb_f6_readPart_j75 h fin hS hB hrs q3 q5 M2
    · refine j_iconst (v := (-1 : Int32)) h dX6_readPart_53 (by decide) ?_
      refine j_goto h 75 dX6_readPart_54 (by decide) ?_
      refine j_sub [1, 0] rfl ?_
      exact jb_f6_readPart_j75 h fin hS hB hrs q3 (-1 : Int32) M2
  · refine j_aload_n h dX6_readPart_9 rfl 0 rfl ?_
    refine j_callVv (n := 0) (As := []) (rest := []) h 63 tw_708 tw_710 tp_16 tw_7 tw_711 ydf6_open (by omega) (by decide) (ph_xlt hS (by decide)) (ph_kc63 hS) rfl (fun q hq => cf6_open (ph_okI h) hS hq) rfl (Nat.le_of_ble_eq_true rfl) rfl dX6_readPart_10 (fun q6 => ?_)
    refine j_aload_n h dX6_readPart_13 rfl 0 rfl ?_
    refine j_callVv (n := 0) (As := []) (rest := []) h 63 tw_695 tw_697 tp_13 tw_7 tw_698 ydf6_readSum (by omega) (by decide) (ph_xlt hS (by decide)) (ph_kc63 hS) rfl (fun q hq => hrs _  q hq) rfl (Nat.le_of_ble_eq_true rfl) rfl dX6_readPart_14 (fun q7 => ?_)
    refine j_aload_n h dX6_readPart_17 rfl 0 rfl ?_
    refine j_dup h dX6_readPart_18 rfl ?_
    refine j_get (c := 63) (j := 10) (v := .int (q7.1 63 10)) h (ph_xlt hS (by decide)) (ph_kc63 hS) rfl ph_inX6 rfl (by decide) tw_179 rfl rfl dX6_readPart_19 ?_
    refine j_iconst (v := (1 : Int32)) h dX6_readPart_22 (by decide) ?_
    refine j_isub h dX6_readPart_23 ?_
    refine j_puti (c := 63) (j := 10) (ty := .int) h (ph_xlt hS (by decide)) (ph_kc63 hS) rfl ph_inX6 tyX6 tyX6_ok nmX6 rfl (by decide) tw_179 rfl rfl (tyX6_ok 10 (by decide)) rfl rfl dX6_readPart_24 ?_
    refine j_letM (fun M8 => ?_)
    refine j_aload_n h dX6_readPart_27 rfl 0 rfl ?_
    refine j_ldcs h 7 (by decide) rfl rfl dX6_readPart_28 ?_
    refine j_callVv (n := 1) (As := [.ref (adK 7)]) (rest := []) h 63 tw_713 tw_715 tp_17 tw_7 tw_716 ydf6_expect (by omega) (by decide) (ph_xlt hS (by decide)) (ph_kc63 hS) rfl (fun q hq => cf6_expect (ph_okI h) hS (by decide) hq) rfl (Nat.le_of_ble_eq_true rfl) rfl dX6_readPart_30 (fun q9 => ?_)
    exact j_vret h rfl fin dX6_readPart_33
theorem dX6_readTerm_0 : decode cX6_readTerm 0 = .ok (.aload_n 0, 1) := by decide +kernel
theorem dX6_readTerm_1 : decode cX6_readTerm 1 = .ok (.invokevirtual 196, 3) := by decide +kernel
theorem dX6_readTerm_4 : decode cX6_readTerm 4 = .ok (.iconst 0, 1) := by decide +kernel
theorem dX6_readTerm_5 : decode cX6_readTerm 5 = .ok (.istore_n 1, 1) := by decide +kernel
theorem dX6_readTerm_6 : decode cX6_readTerm 6 = .ok (.iload_n 1, 1) := by decide +kernel
theorem dX6_readTerm_7 : decode cX6_readTerm 7 = .ok (.sipush 400, 3) := by decide +kernel
theorem dX6_readTerm_10 : decode cX6_readTerm 10 = .ok (.if_icmp .ge 81, 3) := by decide +kernel
theorem dX6_readTerm_13 : decode cX6_readTerm 13 = .ok (.aload_n 0, 1) := by decide +kernel
theorem dX6_readTerm_14 : decode cX6_readTerm 14 = .ok (.ldc 199, 2) := by decide +kernel
theorem dX6_readTerm_16 : decode cX6_readTerm 16 = .ok (.invokevirtual 63, 3) := by decide +kernel
theorem dX6_readTerm_19 : decode cX6_readTerm 19 = .ok (.ifCond .ne 21, 3) := by decide +kernel
theorem dX6_readTerm_22 : decode cX6_readTerm 22 = .ok (.aload_n 0, 1) := by decide +kernel
theorem dX6_readTerm_23 : decode cX6_readTerm 23 = .ok (.ldc 201, 2) := by decide +kernel
theorem dX6_readTerm_25 : decode cX6_readTerm 25 = .ok (.invokevirtual 63, 3) := by decide +kernel
theorem dX6_readTerm_28 : decode cX6_readTerm 28 = .ok (.ifCond .ne 12, 3) := by decide +kernel
theorem dX6_readTerm_31 : decode cX6_readTerm 31 = .ok (.aload_n 0, 1) := by decide +kernel
theorem dX6_readTerm_32 : decode cX6_readTerm 32 = .ok (.ldc 203, 2) := by decide +kernel
theorem dX6_readTerm_34 : decode cX6_readTerm 34 = .ok (.invokevirtual 63, 3) := by decide +kernel
theorem dX6_readTerm_37 : decode cX6_readTerm 37 = .ok (.ifCond .eq 54, 3) := by decide +kernel
theorem dX6_readTerm_40 : decode cX6_readTerm 40 = .ok (.aload_n 0, 1) := by decide +kernel
theorem dX6_readTerm_41 : decode cX6_readTerm 41 = .ok (.ldc 199, 2) := by decide +kernel
theorem dX6_readTerm_43 : decode cX6_readTerm 43 = .ok (.invokevirtual 63, 3) := by decide +kernel
theorem dX6_readTerm_46 : decode cX6_readTerm 46 = .ok (.ifCond .eq 8, 3) := by decide +kernel
theorem dX6_readTerm_49 : decode cX6_readTerm 49 = .ok (.bipush 8, 2) := by decide +kernel
theorem dX6_readTerm_51 : decode cX6_readTerm 51 = .ok (.goto 19, 3) := by decide +kernel
theorem dX6_readTerm_54 : decode cX6_readTerm 54 = .ok (.aload_n 0, 1) := by decide +kernel
theorem dX6_readTerm_55 : decode cX6_readTerm 55 = .ok (.ldc 201, 2) := by decide +kernel
theorem dX6_readTerm_57 : decode cX6_readTerm 57 = .ok (.invokevirtual 63, 3) := by decide +kernel
theorem dX6_readTerm_60 : decode cX6_readTerm 60 = .ok (.ifCond .eq 8, 3) := by decide +kernel
theorem dX6_readTerm_63 : decode cX6_readTerm 63 = .ok (.bipush 9, 2) := by decide +kernel
theorem dX6_readTerm_65 : decode cX6_readTerm 65 = .ok (.goto 5, 3) := by decide +kernel
theorem dX6_readTerm_68 : decode cX6_readTerm 68 = .ok (.bipush 10, 2) := by decide +kernel
theorem dX6_readTerm_70 : decode cX6_readTerm 70 = .ok (.istore_n 2, 1) := by decide +kernel
theorem dX6_readTerm_71 : decode cX6_readTerm 71 = .ok (.aload_n 0, 1) := by decide +kernel
theorem dX6_readTerm_72 : decode cX6_readTerm 72 = .ok (.invokevirtual 67, 3) := by decide +kernel
theorem dX6_readTerm_75 : decode cX6_readTerm 75 = .ok (.aload_n 0, 1) := by decide +kernel
theorem dX6_readTerm_76 : decode cX6_readTerm 76 = .ok (.invokevirtual 196, 3) := by decide +kernel
theorem dX6_readTerm_79 : decode cX6_readTerm 79 = .ok (.aload_n 0, 1) := by decide +kernel
theorem dX6_readTerm_80 : decode cX6_readTerm 80 = .ok (.iload_n 2, 1) := by decide +kernel
theorem dX6_readTerm_81 : decode cX6_readTerm 81 = .ok (.iconst 0, 1) := by decide +kernel
theorem dX6_readTerm_82 : decode cX6_readTerm 82 = .ok (.invokevirtual 180, 3) := by decide +kernel
theorem dX6_readTerm_85 : decode cX6_readTerm 85 = .ok (.iinc 1 1, 3) := by decide +kernel
theorem dX6_readTerm_88 : decode cX6_readTerm 88 = .ok (.goto (-82), 3) := by decide +kernel
theorem dX6_readTerm_91 : decode cX6_readTerm 91 = .ok (.return_, 1) := by decide +kernel
def f6_readTerm_j70 (S : ph_Sh) (rs : ph_Mem → Option ph_Mem) (rc6 : Int32 → ph_Mem → Option ph_Mem) (x1 : Int32) (s0 : Int32) (M : ph_Mem) : Option ph_Mem :=
  (f6_advance S M ).bind fun q7 => (f6_readPart S rs q7 ).bind fun q8 => (f6_add S q8 s0 (0 : Int32)).bind fun q9 => rc6 (x1 + (1 : Int32)) q9
set_option maxHeartbeats 4000000 in
theorem jb_f6_readTerm_j70 {tb adK adV : Nat → Nat} {S : ph_Sh} {X : ph_X} {ad : Nat → Nat} {o : ph_Mem} {rs : ph_Mem → Option ph_Mem} {dr : Nat} (h : ph_ok (ph_ZX tb adK adV) X cX6_readTerm RX6 none 3 (dr + 2) S.2 ad) (fin : ph_fin X S.1 S.2 ad none o) (hS : ph_SX S) (hB : 5 ≤ dr) (hrs : ∀ (M : ph_Mem) (q : ph_Mem), rs M  = some q → ph_CX (ph_ZX tb adK adV) X dr yX6_readSum cX6_readSum 3 none  S.1 S.2 ad [.ref (ad 63)] M none q) {rc6 : Int32 → ph_Mem → Option ph_Mem} (hrc6 : ∀ (x1 : Int32) (M : ph_Mem), ph_J X S.1 S.2 ad o 6 [(0, .ref (ad 63)), (1, .int x1)] [] M (rc6 x1 M)) : ∀ (x1 : Int32) (s0 : Int32) (M : ph_Mem), ph_J X S.1 S.2 ad o 70 [(0, .ref (ad 63)), (1, .int x1)] [.int s0] M (f6_readTerm_j70 S rs rc6 x1 s0 M) := by
  intro x1 s0 M
  unfold f6_readTerm_j70
  refine j_istore_n h [(2, .int s0), (0, .ref (ad 63)), (1, .int x1)] dX6_readTerm_70 rfl (by decide) rfl ?_
  refine j_aload_n h dX6_readTerm_71 rfl 1 rfl ?_
  refine j_callVv (n := 0) (As := []) (rest := []) h 63 tw_686 tw_688 tp_11 tw_7 tw_689 ydf6_advance (by omega) (by decide) (ph_xlt hS (by decide)) (ph_kc63 hS) rfl (fun q hq => cf6_advance (ph_okI h) hS hq) rfl (Nat.le_of_ble_eq_true rfl) rfl dX6_readTerm_72 (fun q7 => ?_)
  refine j_aload_n h dX6_readTerm_75 rfl 1 rfl ?_
  refine j_callVv (n := 0) (As := []) (rest := []) h 63 tw_703 tw_705 tp_15 tw_7 tw_706 ydf6_readPart (by omega) (by decide) (ph_xlt hS (by decide)) (ph_kc63 hS) rfl (fun q hq => cf6_readPart (ph_okI h) hS (rs := rs) (dr := dr) (by omega) hrs hq) rfl (Nat.le_of_ble_eq_true rfl) rfl dX6_readTerm_76 (fun q8 => ?_)
  refine j_aload_n h dX6_readTerm_79 rfl 1 rfl ?_
  refine j_iload_n h dX6_readTerm_80 rfl 0 rfl ?_
  refine j_iconst (v := (0 : Int32)) h dX6_readTerm_81 (by decide) ?_
  refine j_callVv (n := 2) (As := [.int s0, .int (0 : Int32)]) (rest := []) h 63 tw_748 tw_750 tp_22 tw_7 tw_751 ydf6_add (by omega) (by decide) (ph_xlt hS (by decide)) (ph_kc63 hS) rfl (fun q hq => cf6_add (ph_okI h) hS hq) rfl (Nat.le_of_ble_eq_true rfl) rfl dX6_readTerm_82 (fun q9 => ?_)
  refine j_iinc h [(1, .int (x1 + (1 : Int32))), (2, .int s0), (0, .ref (ad 63))] dX6_readTerm_85 2 rfl rfl (by decide) rfl ?_
  refine j_goto h 6 dX6_readTerm_88 (by decide) ?_
  refine j_sub [2, 0] rfl ?_
  exact hrc6 (x1 + (1 : Int32)) q9
def f6_readTerm_j40 (S : ph_Sh) (rs : ph_Mem → Option ph_Mem) (rc6 : Int32 → ph_Mem → Option ph_Mem) (x1 : Int32) (M : ph_Mem) : Option ph_Mem :=
  (f6_says S M 23).bind fun q5 => if q5 = 0 then ((f6_says S M 24).bind fun q6 => if q6 = 0 then (f6_readTerm_j70 S rs rc6 x1 (10 : Int32) M) else (f6_readTerm_j70 S rs rc6 x1 (9 : Int32) M)) else (f6_readTerm_j70 S rs rc6 x1 (8 : Int32) M)
set_option maxHeartbeats 4000000 in
theorem jb_f6_readTerm_j40 {tb adK adV : Nat → Nat} {S : ph_Sh} {X : ph_X} {ad : Nat → Nat} {o : ph_Mem} {rs : ph_Mem → Option ph_Mem} {dr : Nat} (h : ph_ok (ph_ZX tb adK adV) X cX6_readTerm RX6 none 3 (dr + 2) S.2 ad) (fin : ph_fin X S.1 S.2 ad none o) (hS : ph_SX S) (hB : 5 ≤ dr) (hrs : ∀ (M : ph_Mem) (q : ph_Mem), rs M  = some q → ph_CX (ph_ZX tb adK adV) X dr yX6_readSum cX6_readSum 3 none  S.1 S.2 ad [.ref (ad 63)] M none q) {rc6 : Int32 → ph_Mem → Option ph_Mem} (hrc6 : ∀ (x1 : Int32) (M : ph_Mem), ph_J X S.1 S.2 ad o 6 [(0, .ref (ad 63)), (1, .int x1)] [] M (rc6 x1 M)) : ∀ (x1 : Int32) (M : ph_Mem), ph_J X S.1 S.2 ad o 40 [(0, .ref (ad 63)), (1, .int x1)] [] M (f6_readTerm_j40 S rs rc6 x1 M) := by
  intro x1 M
  unfold f6_readTerm_j40
  refine j_aload_n h dX6_readTerm_40 rfl 0 rfl ?_
  refine j_ldcs h 23 (by decide) rfl rfl dX6_readTerm_41 ?_
  refine j_callViP (n := 1) (As := [.ref (adK 23)]) (rest := []) h 63 tw_626 tw_628 tp_9 tw_7 tw_629 ydf6_says (by omega) (by decide) (ph_xlt hS (by decide)) (ph_kc63 hS) rfl (fun q hq => cf6_says (ph_okI h) hS (by decide) hq) rfl (Nat.le_of_ble_eq_true rfl) rfl dX6_readTerm_43 (fun q5 => ?_)
  refine j_if_eq h 54 dX6_readTerm_46 (by decide) ?_ ?_
  · refine j_aload_n h dX6_readTerm_54 rfl 0 rfl ?_
    refine j_ldcs h 24 (by decide) rfl rfl dX6_readTerm_55 ?_
    refine j_callViP (n := 1) (As := [.ref (adK 24)]) (rest := []) h 63 tw_626 tw_628 tp_9 tw_7 tw_629 ydf6_says (by omega) (by decide) (ph_xlt hS (by decide)) (ph_kc63 hS) rfl (fun q hq => cf6_says (ph_okI h) hS (by decide) hq) rfl (Nat.le_of_ble_eq_true rfl) rfl dX6_readTerm_57 (fun q6 => ?_)
    refine j_if_eq h 68 dX6_readTerm_60 (by decide) ?_ ?_
    · refine j_bipush (v := (10 : Int32)) h dX6_readTerm_68 (by decide) ?_
      refine j_sub [0, 1] rfl ?_
      exact jb_f6_readTerm_j70 h fin hS hB hrs hrc6 x1 (10 : Int32) M
    · refine j_bipush (v := (9 : Int32)) h dX6_readTerm_63 (by decide) ?_
      refine j_goto h 70 dX6_readTerm_65 (by decide) ?_
      refine j_sub [0, 1] rfl ?_
      exact jb_f6_readTerm_j70 h fin hS hB hrs hrc6 x1 (9 : Int32) M
  · refine j_bipush (v := (8 : Int32)) h dX6_readTerm_49 (by decide) ?_
    refine j_goto h 70 dX6_readTerm_51 (by decide) ?_
    refine j_sub [0, 1] rfl ?_
    exact jb_f6_readTerm_j70 h fin hS hB hrs hrc6 x1 (8 : Int32) M
def f6_readTerm_l6 (S : ph_Sh) (rs : ph_Mem → Option ph_Mem) : Nat → Int32 → ph_Mem → Option ph_Mem
  | 0, _, _ => none
  | n + 1, x1, M => if (400 : Int32) ≤ x1 then (some M) else ((f6_says S M 23).bind fun q2 => if q2 = 0 then ((f6_says S M 24).bind fun q3 => if q3 = 0 then ((f6_says S M 25).bind fun q4 => if q4 = 0 then (some M) else (f6_readTerm_j40 S rs (f6_readTerm_l6 S rs n) x1 M)) else (f6_readTerm_j40 S rs (f6_readTerm_l6 S rs n) x1 M)) else (f6_readTerm_j40 S rs (f6_readTerm_l6 S rs n) x1 M))
set_option maxHeartbeats 4000000 in
theorem jb_f6_readTerm_l6 {tb adK adV : Nat → Nat} {S : ph_Sh} {X : ph_X} {ad : Nat → Nat} {o : ph_Mem} {rs : ph_Mem → Option ph_Mem} {dr : Nat} (h : ph_ok (ph_ZX tb adK adV) X cX6_readTerm RX6 none 3 (dr + 2) S.2 ad) (fin : ph_fin X S.1 S.2 ad none o) (hS : ph_SX S) (hB : 5 ≤ dr) (hrs : ∀ (M : ph_Mem) (q : ph_Mem), rs M  = some q → ph_CX (ph_ZX tb adK adV) X dr yX6_readSum cX6_readSum 3 none  S.1 S.2 ad [.ref (ad 63)] M none q) : ∀ (n : Nat) (x1 : Int32) (M : ph_Mem), ph_J X S.1 S.2 ad o 6 [(0, .ref (ad 63)), (1, .int x1)] [] M (f6_readTerm_l6 S rs n x1 M) := by
  intro n
  induction n with
  | zero => intro x1 M; exact j_none
  | succ n hrc6 =>
    intro x1 M
    unfold f6_readTerm_l6
    refine j_iload_n h dX6_readTerm_6 rfl 1 rfl ?_
    refine j_sipush (v := (400 : Int32)) h dX6_readTerm_7 (by decide) ?_
    refine j_icmp_ge h 91 dX6_readTerm_10 (by decide) ?_ ?_
    · exact j_vret h rfl fin dX6_readTerm_91
    · refine j_aload_n h dX6_readTerm_13 rfl 0 rfl ?_
      refine j_ldcs h 23 (by decide) rfl rfl dX6_readTerm_14 ?_
      refine j_callViP (n := 1) (As := [.ref (adK 23)]) (rest := []) h 63 tw_626 tw_628 tp_9 tw_7 tw_629 ydf6_says (by omega) (by decide) (ph_xlt hS (by decide)) (ph_kc63 hS) rfl (fun q hq => cf6_says (ph_okI h) hS (by decide) hq) rfl (Nat.le_of_ble_eq_true rfl) rfl dX6_readTerm_16 (fun q2 => ?_)
      refine j_if_ne h 40 dX6_readTerm_19 (by decide) ?_ ?_
      · refine j_sub [0, 1] rfl ?_
        exact jb_f6_readTerm_j40 h fin hS hB hrs hrc6 x1 M
      · refine j_aload_n h dX6_readTerm_22 rfl 0 rfl ?_
        refine j_ldcs h 24 (by decide) rfl rfl dX6_readTerm_23 ?_
        refine j_callViP (n := 1) (As := [.ref (adK 24)]) (rest := []) h 63 tw_626 tw_628 tp_9 tw_7 tw_629 ydf6_says (by omega) (by decide) (ph_xlt hS (by decide)) (ph_kc63 hS) rfl (fun q hq => cf6_says (ph_okI h) hS (by decide) hq) rfl (Nat.le_of_ble_eq_true rfl) rfl dX6_readTerm_25 (fun q3 => ?_)
        refine j_if_ne h 40 dX6_readTerm_28 (by decide) ?_ ?_
        · refine j_sub [0, 1] rfl ?_
          exact jb_f6_readTerm_j40 h fin hS hB hrs hrc6 x1 M
        · refine j_aload_n h dX6_readTerm_31 rfl 0 rfl ?_
          refine j_ldcs h 25 (by decide) rfl rfl dX6_readTerm_32 ?_
          refine j_callViP (n := 1) (As := [.ref (adK 25)]) (rest := []) h 63 tw_626 tw_628 tp_9 tw_7 tw_629 ydf6_says (by omega) (by decide) (ph_xlt hS (by decide)) (ph_kc63 hS) rfl (fun q hq => cf6_says (ph_okI h) hS (by decide) hq) rfl (Nat.le_of_ble_eq_true rfl) rfl dX6_readTerm_34 (fun q4 => ?_)
          refine j_if_eq h 91 dX6_readTerm_37 (by decide) ?_ ?_
          · exact j_vret h rfl fin dX6_readTerm_91
          · refine j_sub [0, 1] rfl ?_
            exact jb_f6_readTerm_j40 h fin hS hB hrs hrc6 x1 M
theorem ydf6_readTerm : ph_yd yX6_readTerm 0 := ⟨by decide, by decide, by decide +kernel⟩
def f6_readTerm (S : ph_Sh) (rs : ph_Mem → Option ph_Mem) (M : ph_Mem) : Option ph_Mem :=
  (f6_readPart S rs M ).bind fun q1 => f6_readTerm_l6 S rs 10000 (0 : Int32) q1
set_option maxHeartbeats 4000000 in
theorem cf6_readTerm {tb adK adV : Nat → Nat} {S : ph_Sh} {l : Launch} {D : va_G} {cA : Nat → ClassId} {ad : Nat → Nat} (hinj : ∀ i j, i < S.2 → j < S.2 → ad i = ad j → i = j) (hS : ph_SX S) {rs : ph_Mem → Option ph_Mem} {dr : Nat} (hB : 5 ≤ dr) (hrs : ∀ (M : ph_Mem) (q : ph_Mem), rs M  = some q → ph_C (ph_ZX tb adK adV) l dr yX6_readSum cX6_readSum 3 none D cA S.1 S.2 ad [.ref (ad 63)] M none q) {M : ph_Mem} {M' : ph_Mem} (hf : f6_readTerm S rs M  = some M') : ph_C (ph_ZX tb adK adV) l (dr + 2) yX6_readTerm cX6_readTerm 3 none D cA S.1 S.2 ad [.ref (ad 63)] M none M' := by
  refine ph_mk ph_ZX_ok hinj (by decide) (Nat.le_of_ble_eq_true rfl) fun X h fin hE => ?_
  obtain ⟨rfl, rfl, rfl⟩ := hE
  refine (?_ : ph_J X S.1 S.2 ad (M' : ph_Mem) 0 [(0, .ref (ad 63))] [] M (f6_readTerm S rs M )) hf
  unfold f6_readTerm
  refine j_aload_n h dX6_readTerm_0 rfl 0 rfl ?_
  refine j_callVv (n := 0) (As := []) (rest := []) h 63 tw_703 tw_705 tp_15 tw_7 tw_706 ydf6_readPart (by omega) (by decide) (ph_xlt hS (by decide)) (ph_kc63 hS) rfl (fun q hq => cf6_readPart (ph_okI h) hS (rs := rs) (dr := dr) (by omega) hrs hq) rfl (Nat.le_of_ble_eq_true rfl) rfl dX6_readTerm_1 (fun q1 => ?_)
  refine j_iconst (v := (0 : Int32)) h dX6_readTerm_4 (by decide) ?_
  refine j_istore_n h [(1, .int (0 : Int32)), (0, .ref (ad 63))] dX6_readTerm_5 rfl (by decide) rfl ?_
  refine j_sub [1, 0] rfl ?_
  exact jb_f6_readTerm_l6 h fin hS hB hrs 10000 (0 : Int32) q1
theorem dX6_readSum_0 : decode cX6_readSum 0 = .ok (.aload_n 0, 1) := by decide +kernel
theorem dX6_readSum_1 : decode cX6_readSum 1 = .ok (.invokevirtual 189, 3) := by decide +kernel
theorem dX6_readSum_4 : decode cX6_readSum 4 = .ok (.iconst 0, 1) := by decide +kernel
theorem dX6_readSum_5 : decode cX6_readSum 5 = .ok (.istore_n 1, 1) := by decide +kernel
theorem dX6_readSum_6 : decode cX6_readSum 6 = .ok (.iload_n 1, 1) := by decide +kernel
theorem dX6_readSum_7 : decode cX6_readSum 7 = .ok (.sipush 400, 3) := by decide +kernel
theorem dX6_readSum_10 : decode cX6_readSum 10 = .ok (.if_icmp .ge 58, 3) := by decide +kernel
theorem dX6_readSum_13 : decode cX6_readSum 13 = .ok (.aload_n 0, 1) := by decide +kernel
theorem dX6_readSum_14 : decode cX6_readSum 14 = .ok (.ldc 192, 2) := by decide +kernel
theorem dX6_readSum_16 : decode cX6_readSum 16 = .ok (.invokevirtual 63, 3) := by decide +kernel
theorem dX6_readSum_19 : decode cX6_readSum 19 = .ok (.ifCond .ne 12, 3) := by decide +kernel
theorem dX6_readSum_22 : decode cX6_readSum 22 = .ok (.aload_n 0, 1) := by decide +kernel
theorem dX6_readSum_23 : decode cX6_readSum 23 = .ok (.ldc 194, 2) := by decide +kernel
theorem dX6_readSum_25 : decode cX6_readSum 25 = .ok (.invokevirtual 63, 3) := by decide +kernel
theorem dX6_readSum_28 : decode cX6_readSum 28 = .ok (.ifCond .eq 40, 3) := by decide +kernel
theorem dX6_readSum_31 : decode cX6_readSum 31 = .ok (.aload_n 0, 1) := by decide +kernel
theorem dX6_readSum_32 : decode cX6_readSum 32 = .ok (.ldc 192, 2) := by decide +kernel
theorem dX6_readSum_34 : decode cX6_readSum 34 = .ok (.invokevirtual 63, 3) := by decide +kernel
theorem dX6_readSum_37 : decode cX6_readSum 37 = .ok (.ifCond .eq 8, 3) := by decide +kernel
theorem dX6_readSum_40 : decode cX6_readSum 40 = .ok (.bipush 6, 2) := by decide +kernel
theorem dX6_readSum_42 : decode cX6_readSum 42 = .ok (.goto 5, 3) := by decide +kernel
theorem dX6_readSum_45 : decode cX6_readSum 45 = .ok (.bipush 7, 2) := by decide +kernel
theorem dX6_readSum_47 : decode cX6_readSum 47 = .ok (.istore_n 2, 1) := by decide +kernel
theorem dX6_readSum_48 : decode cX6_readSum 48 = .ok (.aload_n 0, 1) := by decide +kernel
theorem dX6_readSum_49 : decode cX6_readSum 49 = .ok (.invokevirtual 67, 3) := by decide +kernel
theorem dX6_readSum_52 : decode cX6_readSum 52 = .ok (.aload_n 0, 1) := by decide +kernel
theorem dX6_readSum_53 : decode cX6_readSum 53 = .ok (.invokevirtual 189, 3) := by decide +kernel
theorem dX6_readSum_56 : decode cX6_readSum 56 = .ok (.aload_n 0, 1) := by decide +kernel
theorem dX6_readSum_57 : decode cX6_readSum 57 = .ok (.iload_n 2, 1) := by decide +kernel
theorem dX6_readSum_58 : decode cX6_readSum 58 = .ok (.iconst 0, 1) := by decide +kernel
theorem dX6_readSum_59 : decode cX6_readSum 59 = .ok (.invokevirtual 180, 3) := by decide +kernel
theorem dX6_readSum_62 : decode cX6_readSum 62 = .ok (.iinc 1 1, 3) := by decide +kernel
theorem dX6_readSum_65 : decode cX6_readSum 65 = .ok (.goto (-59), 3) := by decide +kernel
theorem dX6_readSum_68 : decode cX6_readSum 68 = .ok (.return_, 1) := by decide +kernel
def f6_readSum_j47 (S : ph_Sh) (rs : ph_Mem → Option ph_Mem) (rc6 : Int32 → ph_Mem → Option ph_Mem) (x1 : Int32) (s0 : Int32) (M : ph_Mem) : Option ph_Mem :=
  (f6_advance S M ).bind fun q5 => (f6_readTerm S rs q5 ).bind fun q6 => (f6_add S q6 s0 (0 : Int32)).bind fun q7 => rc6 (x1 + (1 : Int32)) q7
set_option maxHeartbeats 4000000 in
theorem jb_f6_readSum_j47 {tb adK adV : Nat → Nat} {S : ph_Sh} {X : ph_X} {ad : Nat → Nat} {o : ph_Mem} {rs : ph_Mem → Option ph_Mem} {dr : Nat} (h : ph_ok (ph_ZX tb adK adV) X cX6_readSum RX6 none 3 (dr + 3) S.2 ad) (fin : ph_fin X S.1 S.2 ad none o) (hS : ph_SX S) (hB : 5 ≤ dr) (hrs : ∀ (M : ph_Mem) (q : ph_Mem), rs M  = some q → ph_CX (ph_ZX tb adK adV) X dr yX6_readSum cX6_readSum 3 none  S.1 S.2 ad [.ref (ad 63)] M none q) {rc6 : Int32 → ph_Mem → Option ph_Mem} (hrc6 : ∀ (x1 : Int32) (M : ph_Mem), ph_J X S.1 S.2 ad o 6 [(0, .ref (ad 63)), (1, .int x1)] [] M (rc6 x1 M)) : ∀ (x1 : Int32) (s0 : Int32) (M : ph_Mem), ph_J X S.1 S.2 ad o 47 [(0, .ref (ad 63)), (1, .int x1)] [.int s0] M (f6_readSum_j47 S rs rc6 x1 s0 M) := by
  intro x1 s0 M
  unfold f6_readSum_j47
  refine j_istore_n h [(2, .int s0), (0, .ref (ad 63)), (1, .int x1)] dX6_readSum_47 rfl (by decide) rfl ?_
  refine j_aload_n h dX6_readSum_48 rfl 1 rfl ?_
  refine j_callVv (n := 0) (As := []) (rest := []) h 63 tw_686 tw_688 tp_11 tw_7 tw_689 ydf6_advance (by omega) (by decide) (ph_xlt hS (by decide)) (ph_kc63 hS) rfl (fun q hq => cf6_advance (ph_okI h) hS hq) rfl (Nat.le_of_ble_eq_true rfl) rfl dX6_readSum_49 (fun q5 => ?_)
  refine j_aload_n h dX6_readSum_52 rfl 1 rfl ?_
  refine j_callVv (n := 0) (As := []) (rest := []) h 63 tw_699 tw_701 tp_14 tw_7 tw_702 ydf6_readTerm (by omega) (by decide) (ph_xlt hS (by decide)) (ph_kc63 hS) rfl (fun q hq => cf6_readTerm (ph_okI h) hS (rs := rs) (dr := dr) (by omega) hrs hq) rfl (Nat.le_of_ble_eq_true rfl) rfl dX6_readSum_53 (fun q6 => ?_)
  refine j_aload_n h dX6_readSum_56 rfl 1 rfl ?_
  refine j_iload_n h dX6_readSum_57 rfl 0 rfl ?_
  refine j_iconst (v := (0 : Int32)) h dX6_readSum_58 (by decide) ?_
  refine j_callVv (n := 2) (As := [.int s0, .int (0 : Int32)]) (rest := []) h 63 tw_748 tw_750 tp_22 tw_7 tw_751 ydf6_add (by omega) (by decide) (ph_xlt hS (by decide)) (ph_kc63 hS) rfl (fun q hq => cf6_add (ph_okI h) hS hq) rfl (Nat.le_of_ble_eq_true rfl) rfl dX6_readSum_59 (fun q7 => ?_)
  refine j_iinc h [(1, .int (x1 + (1 : Int32))), (2, .int s0), (0, .ref (ad 63))] dX6_readSum_62 2 rfl rfl (by decide) rfl ?_
  refine j_goto h 6 dX6_readSum_65 (by decide) ?_
  refine j_sub [2, 0] rfl ?_
  exact hrc6 (x1 + (1 : Int32)) q7
def f6_readSum_j31 (S : ph_Sh) (rs : ph_Mem → Option ph_Mem) (rc6 : Int32 → ph_Mem → Option ph_Mem) (x1 : Int32) (M : ph_Mem) : Option ph_Mem :=
  (f6_says S M 26).bind fun q4 => if q4 = 0 then (f6_readSum_j47 S rs rc6 x1 (7 : Int32) M) else (f6_readSum_j47 S rs rc6 x1 (6 : Int32) M)
set_option maxHeartbeats 4000000 in
theorem jb_f6_readSum_j31 {tb adK adV : Nat → Nat} {S : ph_Sh} {X : ph_X} {ad : Nat → Nat} {o : ph_Mem} {rs : ph_Mem → Option ph_Mem} {dr : Nat} (h : ph_ok (ph_ZX tb adK adV) X cX6_readSum RX6 none 3 (dr + 3) S.2 ad) (fin : ph_fin X S.1 S.2 ad none o) (hS : ph_SX S) (hB : 5 ≤ dr) (hrs : ∀ (M : ph_Mem) (q : ph_Mem), rs M  = some q → ph_CX (ph_ZX tb adK adV) X dr yX6_readSum cX6_readSum 3 none  S.1 S.2 ad [.ref (ad 63)] M none q) {rc6 : Int32 → ph_Mem → Option ph_Mem} (hrc6 : ∀ (x1 : Int32) (M : ph_Mem), ph_J X S.1 S.2 ad o 6 [(0, .ref (ad 63)), (1, .int x1)] [] M (rc6 x1 M)) : ∀ (x1 : Int32) (M : ph_Mem), ph_J X S.1 S.2 ad o 31 [(0, .ref (ad 63)), (1, .int x1)] [] M (f6_readSum_j31 S rs rc6 x1 M) := by
  intro x1 M
  unfold f6_readSum_j31
  refine j_aload_n h dX6_readSum_31 rfl 0 rfl ?_
  refine j_ldcs h 26 (by decide) rfl rfl dX6_readSum_32 ?_
  refine j_callViP (n := 1) (As := [.ref (adK 26)]) (rest := []) h 63 tw_626 tw_628 tp_9 tw_7 tw_629 ydf6_says (by omega) (by decide) (ph_xlt hS (by decide)) (ph_kc63 hS) rfl (fun q hq => cf6_says (ph_okI h) hS (by decide) hq) rfl (Nat.le_of_ble_eq_true rfl) rfl dX6_readSum_34 (fun q4 => ?_)
  refine j_if_eq h 45 dX6_readSum_37 (by decide) ?_ ?_
  · refine j_bipush (v := (7 : Int32)) h dX6_readSum_45 (by decide) ?_
    refine j_sub [0, 1] rfl ?_
    exact jb_f6_readSum_j47 h fin hS hB hrs hrc6 x1 (7 : Int32) M
  · refine j_bipush (v := (6 : Int32)) h dX6_readSum_40 (by decide) ?_
    refine j_goto h 47 dX6_readSum_42 (by decide) ?_
    refine j_sub [0, 1] rfl ?_
    exact jb_f6_readSum_j47 h fin hS hB hrs hrc6 x1 (6 : Int32) M
def f6_readSum_l6 (S : ph_Sh) (rs : ph_Mem → Option ph_Mem) : Nat → Int32 → ph_Mem → Option ph_Mem
  | 0, _, _ => none
  | n + 1, x1, M => if (400 : Int32) ≤ x1 then (some M) else ((f6_says S M 26).bind fun q2 => if q2 = 0 then ((f6_says S M 27).bind fun q3 => if q3 = 0 then (some M) else (f6_readSum_j31 S rs (f6_readSum_l6 S rs n) x1 M)) else (f6_readSum_j31 S rs (f6_readSum_l6 S rs n) x1 M))
set_option maxHeartbeats 4000000 in
theorem jb_f6_readSum_l6 {tb adK adV : Nat → Nat} {S : ph_Sh} {X : ph_X} {ad : Nat → Nat} {o : ph_Mem} {rs : ph_Mem → Option ph_Mem} {dr : Nat} (h : ph_ok (ph_ZX tb adK adV) X cX6_readSum RX6 none 3 (dr + 3) S.2 ad) (fin : ph_fin X S.1 S.2 ad none o) (hS : ph_SX S) (hB : 5 ≤ dr) (hrs : ∀ (M : ph_Mem) (q : ph_Mem), rs M  = some q → ph_CX (ph_ZX tb adK adV) X dr yX6_readSum cX6_readSum 3 none  S.1 S.2 ad [.ref (ad 63)] M none q) : ∀ (n : Nat) (x1 : Int32) (M : ph_Mem), ph_J X S.1 S.2 ad o 6 [(0, .ref (ad 63)), (1, .int x1)] [] M (f6_readSum_l6 S rs n x1 M) := by
  intro n
  induction n with
  | zero => intro x1 M; exact j_none
  | succ n hrc6 =>
    intro x1 M
    unfold f6_readSum_l6
    refine j_iload_n h dX6_readSum_6 rfl 1 rfl ?_
    refine j_sipush (v := (400 : Int32)) h dX6_readSum_7 (by decide) ?_
    refine j_icmp_ge h 68 dX6_readSum_10 (by decide) ?_ ?_
    · exact j_vret h rfl fin dX6_readSum_68
    · refine j_aload_n h dX6_readSum_13 rfl 0 rfl ?_
      refine j_ldcs h 26 (by decide) rfl rfl dX6_readSum_14 ?_
      refine j_callViP (n := 1) (As := [.ref (adK 26)]) (rest := []) h 63 tw_626 tw_628 tp_9 tw_7 tw_629 ydf6_says (by omega) (by decide) (ph_xlt hS (by decide)) (ph_kc63 hS) rfl (fun q hq => cf6_says (ph_okI h) hS (by decide) hq) rfl (Nat.le_of_ble_eq_true rfl) rfl dX6_readSum_16 (fun q2 => ?_)
      refine j_if_ne h 31 dX6_readSum_19 (by decide) ?_ ?_
      · refine j_sub [0, 1] rfl ?_
        exact jb_f6_readSum_j31 h fin hS hB hrs hrc6 x1 M
      · refine j_aload_n h dX6_readSum_22 rfl 0 rfl ?_
        refine j_ldcs h 27 (by decide) rfl rfl dX6_readSum_23 ?_
        refine j_callViP (n := 1) (As := [.ref (adK 27)]) (rest := []) h 63 tw_626 tw_628 tp_9 tw_7 tw_629 ydf6_says (by omega) (by decide) (ph_xlt hS (by decide)) (ph_kc63 hS) rfl (fun q hq => cf6_says (ph_okI h) hS (by decide) hq) rfl (Nat.le_of_ble_eq_true rfl) rfl dX6_readSum_25 (fun q3 => ?_)
        refine j_if_eq h 68 dX6_readSum_28 (by decide) ?_ ?_
        · exact j_vret h rfl fin dX6_readSum_68
        · refine j_sub [0, 1] rfl ?_
          exact jb_f6_readSum_j31 h fin hS hB hrs hrc6 x1 M
def f6_readSum_b (S : ph_Sh) (rs : ph_Mem → Option ph_Mem) (M : ph_Mem) : Option ph_Mem :=
  (f6_readTerm S rs M ).bind fun q1 => f6_readSum_l6 S rs 10000 (0 : Int32) q1
set_option maxHeartbeats 4000000 in
theorem cf6_readSum_b {tb adK adV : Nat → Nat} {S : ph_Sh} {l : Launch} {D : va_G} {cA : Nat → ClassId} {ad : Nat → Nat} (hinj : ∀ i j, i < S.2 → j < S.2 → ad i = ad j → i = j) (hS : ph_SX S) {rs : ph_Mem → Option ph_Mem} {dr : Nat} (hB : 5 ≤ dr) (hrs : ∀ (M : ph_Mem) (q : ph_Mem), rs M  = some q → ph_C (ph_ZX tb adK adV) l dr yX6_readSum cX6_readSum 3 none D cA S.1 S.2 ad [.ref (ad 63)] M none q) {M : ph_Mem} {M' : ph_Mem} (hf : f6_readSum_b S rs M  = some M') : ph_C (ph_ZX tb adK adV) l (dr + 3) yX6_readSum cX6_readSum 3 none D cA S.1 S.2 ad [.ref (ad 63)] M none M' := by
  refine ph_mk ph_ZX_ok hinj (by decide) (Nat.le_of_ble_eq_true rfl) fun X h fin hE => ?_
  obtain ⟨rfl, rfl, rfl⟩ := hE
  refine (?_ : ph_J X S.1 S.2 ad (M' : ph_Mem) 0 [(0, .ref (ad 63))] [] M (f6_readSum_b S rs M )) hf
  unfold f6_readSum_b
  refine j_aload_n h dX6_readSum_0 rfl 0 rfl ?_
  refine j_callVv (n := 0) (As := []) (rest := []) h 63 tw_699 tw_701 tp_14 tw_7 tw_702 ydf6_readTerm (by omega) (by decide) (ph_xlt hS (by decide)) (ph_kc63 hS) rfl (fun q hq => cf6_readTerm (ph_okI h) hS (rs := rs) (dr := dr) (by omega) hrs hq) rfl (Nat.le_of_ble_eq_true rfl) rfl dX6_readSum_1 (fun q1 => ?_)
  refine j_iconst (v := (0 : Int32)) h dX6_readSum_4 (by decide) ?_
  refine j_istore_n h [(1, .int (0 : Int32)), (0, .ref (ad 63))] dX6_readSum_5 rfl (by decide) rfl ?_
  refine j_sub [1, 0] rfl ?_
  exact jb_f6_readSum_l6 h fin hS hB hrs 10000 (0 : Int32) q1
def f6_readSum_n (S : ph_Sh) : Nat → ph_Mem → Option ph_Mem
  | 0, _ => none
  | n + 1, M => f6_readSum_b S (f6_readSum_n S n) M 
theorem cf6_readSum_n {tb adK adV : Nat → Nat} {S : ph_Sh} {l : Launch} {D : va_G} {cA : Nat → ClassId} {ad : Nat → Nat} (hinj : ∀ i j, i < S.2 → j < S.2 → ad i = ad j → i = j) (hS : ph_SX S) : ∀ (n : Nat) {M : ph_Mem} {M' : ph_Mem} (_ : f6_readSum_n S n M  = some M'), ph_C (ph_ZX tb adK adV) l (5 + 3 * n) yX6_readSum cX6_readSum 3 none D cA S.1 S.2 ad [.ref (ad 63)] M none M'
  | 0, _, _, h => by cases h
  | n + 1, _, _, h => by
    rw [show 5 + 3 * (n + 1) = 5 + 3 * n + 3 by omega]
    exact cf6_readSum_b hinj hS (rs := f6_readSum_n S n) (dr := 5 + 3 * n) (Nat.le_add_right _ _) (fun _  q hq => cf6_readSum_n hinj hS n hq) h
def f6_readSum (S : ph_Sh) (M : ph_Mem) : Option ph_Mem := f6_readSum_n S 20 M 
theorem cf6_readSum {tb adK adV : Nat → Nat} {S : ph_Sh} {l : Launch} {D : va_G} {cA : Nat → ClassId} {ad : Nat → Nat} (hinj : ∀ i j, i < S.2 → j < S.2 → ad i = ad j → i = j) (hS : ph_SX S) {M : ph_Mem} {M' : ph_Mem} (hf : f6_readSum S M  = some M') : ph_C (ph_ZX tb adK adV) l 65 yX6_readSum cX6_readSum 3 none D cA S.1 S.2 ad [.ref (ad 63)] M none M' := cf6_readSum_n hinj hS 20 hf
