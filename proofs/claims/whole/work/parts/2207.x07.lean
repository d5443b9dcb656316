theorem dX6_comparisonHere_0 : decode cX6_comparisonHere 0 = .ok (.aload_n 0, 1) := by decide +kernel
theorem dX6_comparisonHere_1 : decode cX6_comparisonHere 1 = .ok (.ldc 183, 2) := by decide +kernel
theorem dX6_comparisonHere_3 : decode cX6_comparisonHere 3 = .ok (.invokevirtual 63, 3) := by decide +kernel
theorem dX6_comparisonHere_6 : decode cX6_comparisonHere 6 = .ok (.ifCond .eq 6, 3) := by decide +kernel
theorem dX6_comparisonHere_9 : decode cX6_comparisonHere 9 = .ok (.bipush 11, 2) := by decide +kernel
theorem dX6_comparisonHere_11 : decode cX6_comparisonHere 11 = .ok (.ireturn, 1) := by decide +kernel
theorem dX6_comparisonHere_12 : decode cX6_comparisonHere 12 = .ok (.aload_n 0, 1) := by decide +kernel
theorem dX6_comparisonHere_13 : decode cX6_comparisonHere 13 = .ok (.ldc 185, 2) := by decide +kernel
theorem dX6_comparisonHere_15 : decode cX6_comparisonHere 15 = .ok (.invokevirtual 63, 3) := by decide +kernel
theorem dX6_comparisonHere_18 : decode cX6_comparisonHere 18 = .ok (.ifCond .eq 6, 3) := by decide +kernel
theorem dX6_comparisonHere_21 : decode cX6_comparisonHere 21 = .ok (.bipush 12, 2) := by decide +kernel
theorem dX6_comparisonHere_23 : decode cX6_comparisonHere 23 = .ok (.ireturn, 1) := by decide +kernel
theorem dX6_comparisonHere_24 : decode cX6_comparisonHere 24 = .ok (.aload_n 0, 1) := by decide +kernel
theorem dX6_comparisonHere_25 : decode cX6_comparisonHere 25 = .ok (.ldc 187, 2) := by decide +kernel
theorem dX6_comparisonHere_27 : decode cX6_comparisonHere 27 = .ok (.invokevirtual 63, 3) := by decide +kernel
theorem dX6_comparisonHere_30 : decode cX6_comparisonHere 30 = .ok (.ifCond .ne 7, 3) := by decide +kernel
theorem dX6_comparisonHere_33 : decode cX6_comparisonHere 33 = .ok (.aload_n 0, 1) := by decide +kernel
theorem dX6_comparisonHere_34 : decode cX6_comparisonHere 34 = .ok (.invokevirtual 76, 3) := by decide +kernel
theorem dX6_comparisonHere_37 : decode cX6_comparisonHere 37 = .ok (.bipush 13, 2) := by decide +kernel
theorem dX6_comparisonHere_39 : decode cX6_comparisonHere 39 = .ok (.ireturn, 1) := by decide +kernel
theorem ydf6_comparisonHere : ph_yd yX6_comparisonHere 0 := ⟨by decide, by decide, by decide +kernel⟩
def f6_comparisonHere (S : ph_Sh) (M : ph_Mem) : Option (Int32 × ph_Mem) :=
  (f6_says S M 34).bind fun q1 => if q1 = 0 then ((f6_says S M 35).bind fun q2 => if q2 = 0 then ((f6_says S M 36).bind fun q3 => if q3 = 0 then ((f6_fail S M ).bind fun q4 => some ((13 : Int32), q4)) else (some ((13 : Int32), M))) else (some ((12 : Int32), M))) else (some ((11 : Int32), M))
set_option maxHeartbeats 4000000 in
theorem cf6_comparisonHere {tb adK adV : Nat → Nat} {S : ph_Sh} {l : Launch} {D : va_G} {cA : Nat → ClassId} {ad : Nat → Nat} (hinj : ∀ i j, i < S.2 → j < S.2 → ad i = ad j → i = j) (hS : ph_SX S) {M : ph_Mem} {r : Int32} {M' : ph_Mem} (hf : f6_comparisonHere S M  = some (r, M')) : ph_C (ph_ZX tb adK adV) l 5 yX6_comparisonHere cX6_comparisonHere 1 (some .int) D cA S.1 S.2 ad [.ref (ad 63)] M (some (.int r)) M' := by
  refine ph_mk ph_ZX_ok hinj (by decide) (Nat.le_of_ble_eq_true rfl) fun X h fin hE => ?_
  refine (?_ : ph_J X S.1 S.2 ad ((r, M') : (Int32 × ph_Mem)) 0 [(0, .ref (ad 63))] [] M (f6_comparisonHere S M )) hf
  unfold f6_comparisonHere
  refine j_aload_n h dX6_comparisonHere_0 rfl 0 rfl ?_
  refine j_ldcs h 34 (by decide) rfl rfl dX6_comparisonHere_1 ?_
  refine j_callViP (n := 1) (As := [.ref (adK 34)]) (rest := []) h 63 tw_626 tw_628 tp_9 tw_7 tw_629 ydf6_says (by decide) (by decide) (ph_xlt hS (by decide)) (ph_kc63 hS) rfl (fun q hq => cf6_says (ph_okI h) hS (by decide) hq) rfl (Nat.le_of_ble_eq_true rfl) rfl dX6_comparisonHere_3 (fun q1 => ?_)
  refine j_if_eq h 12 dX6_comparisonHere_6 (by decide) ?_ ?_
  · refine j_aload_n h dX6_comparisonHere_12 rfl 0 rfl ?_
    refine j_ldcs h 35 (by decide) rfl rfl dX6_comparisonHere_13 ?_
    refine j_callViP (n := 1) (As := [.ref (adK 35)]) (rest := []) h 63 tw_626 tw_628 tp_9 tw_7 tw_629 ydf6_says (by decide) (by decide) (ph_xlt hS (by decide)) (ph_kc63 hS) rfl (fun q hq => cf6_says (ph_okI h) hS (by decide) hq) rfl (Nat.le_of_ble_eq_true rfl) rfl dX6_comparisonHere_15 (fun q2 => ?_)
    refine j_if_eq h 24 dX6_comparisonHere_18 (by decide) ?_ ?_
    · refine j_aload_n h dX6_comparisonHere_24 rfl 0 rfl ?_
      refine j_ldcs h 36 (by decide) rfl rfl dX6_comparisonHere_25 ?_
      refine j_callViP (n := 1) (As := [.ref (adK 36)]) (rest := []) h 63 tw_626 tw_628 tp_9 tw_7 tw_629 ydf6_says (by decide) (by decide) (ph_xlt hS (by decide)) (ph_kc63 hS) rfl (fun q hq => cf6_says (ph_okI h) hS (by decide) hq) rfl (Nat.le_of_ble_eq_true rfl) rfl dX6_comparisonHere_27 (fun q3 => ?_)
      refine j_if_ne h 37 dX6_comparisonHere_30 (by decide) ?_ ?_
      · refine j_bipush (v := (13 : Int32)) h dX6_comparisonHere_37 (by decide) ?_
        exact j_iret h rfl fin dX6_comparisonHere_39
      · refine j_aload_n h dX6_comparisonHere_33 rfl 0 rfl ?_
        refine j_callVv (n := 0) (As := []) (rest := []) h 63 tw_682 tw_684 tp_10 tw_7 tw_685 ydf6_fail (by decide) (by decide) (ph_xlt hS (by decide)) (ph_kc63 hS) rfl (fun q hq => cf6_fail (ph_okI h) hS hq) rfl (Nat.le_of_ble_eq_true rfl) rfl dX6_comparisonHere_34 (fun q4 => ?_)
        refine j_bipush (v := (13 : Int32)) h dX6_comparisonHere_37 (by decide) ?_
        exact j_iret h rfl fin dX6_comparisonHere_39
    · refine j_bipush (v := (12 : Int32)) h dX6_comparisonHere_21 (by decide) ?_
      exact j_iret h rfl fin dX6_comparisonHere_23
  · refine j_bipush (v := (11 : Int32)) h dX6_comparisonHere_9 (by decide) ?_
    exact j_iret h rfl fin dX6_comparisonHere_11
theorem dX6_readPlain_0 : decode cX6_readPlain 0 = .ok (.iconst 0, 1) := by decide +kernel
theorem dX6_readPlain_1 : decode cX6_readPlain 1 = .ok (.istore_n 1, 1) := by decide +kernel
theorem dX6_readPlain_2 : decode cX6_readPlain 2 = .ok (.iload_n 1, 1) := by decide +kernel
theorem dX6_readPlain_3 : decode cX6_readPlain 3 = .ok (.sipush 400, 3) := by decide +kernel
theorem dX6_readPlain_6 : decode cX6_readPlain 6 = .ok (.if_icmp .ge 22, 3) := by decide +kernel
theorem dX6_readPlain_9 : decode cX6_readPlain 9 = .ok (.aload_n 0, 1) := by decide +kernel
theorem dX6_readPlain_10 : decode cX6_readPlain 10 = .ok (.ldc 168, 2) := by decide +kernel
theorem dX6_readPlain_12 : decode cX6_readPlain 12 = .ok (.invokevirtual 63, 3) := by decide +kernel
theorem dX6_readPlain_15 : decode cX6_readPlain 15 = .ok (.ifCond .eq 13, 3) := by decide +kernel
theorem dX6_readPlain_18 : decode cX6_readPlain 18 = .ok (.aload_n 0, 1) := by decide +kernel
theorem dX6_readPlain_19 : decode cX6_readPlain 19 = .ok (.invokevirtual 67, 3) := by decide +kernel
theorem dX6_readPlain_22 : decode cX6_readPlain 22 = .ok (.iinc 1 1, 3) := by decide +kernel
theorem dX6_readPlain_25 : decode cX6_readPlain 25 = .ok (.goto (-23), 3) := by decide +kernel
theorem dX6_readPlain_28 : decode cX6_readPlain 28 = .ok (.aload_n 0, 1) := by decide +kernel
theorem dX6_readPlain_29 : decode cX6_readPlain 29 = .ok (.ldc 170, 2) := by decide +kernel
theorem dX6_readPlain_31 : decode cX6_readPlain 31 = .ok (.invokevirtual 63, 3) := by decide +kernel
theorem dX6_readPlain_34 : decode cX6_readPlain 34 = .ok (.ifCond .eq 30, 3) := by decide +kernel
theorem dX6_readPlain_37 : decode cX6_readPlain 37 = .ok (.aload_n 0, 1) := by decide +kernel
theorem dX6_readPlain_38 : decode cX6_readPlain 38 = .ok (.invokevirtual 172, 3) := by decide +kernel
theorem dX6_readPlain_41 : decode cX6_readPlain 41 = .ok (.aload_n 0, 1) := by decide +kernel
theorem dX6_readPlain_42 : decode cX6_readPlain 42 = .ok (.invokevirtual 134, 3) := by decide +kernel
theorem dX6_readPlain_45 : decode cX6_readPlain 45 = .ok (.aload_n 0, 1) := by decide +kernel
theorem dX6_readPlain_46 : decode cX6_readPlain 46 = .ok (.dup, 1) := by decide +kernel
theorem dX6_readPlain_47 : decode cX6_readPlain 47 = .ok (.getfield 46, 3) := by decide +kernel
theorem dX6_readPlain_50 : decode cX6_readPlain 50 = .ok (.iconst 1, 1) := by decide +kernel
theorem dX6_readPlain_51 : decode cX6_readPlain 51 = .ok (.isub, 1) := by decide +kernel
theorem dX6_readPlain_52 : decode cX6_readPlain 52 = .ok (.putfield 46, 3) := by decide +kernel
theorem dX6_readPlain_55 : decode cX6_readPlain 55 = .ok (.aload_n 0, 1) := by decide +kernel
theorem dX6_readPlain_56 : decode cX6_readPlain 56 = .ok (.ldc 175, 2) := by decide +kernel
theorem dX6_readPlain_58 : decode cX6_readPlain 58 = .ok (.invokevirtual 123, 3) := by decide +kernel
theorem dX6_readPlain_61 : decode cX6_readPlain 61 = .ok (.goto 26, 3) := by decide +kernel
theorem dX6_readPlain_64 : decode cX6_readPlain 64 = .ok (.aload_n 0, 1) := by decide +kernel
theorem dX6_readPlain_65 : decode cX6_readPlain 65 = .ok (.invokevirtual 118, 3) := by decide +kernel
theorem dX6_readPlain_68 : decode cX6_readPlain 68 = .ok (.aload_n 0, 1) := by decide +kernel
theorem dX6_readPlain_69 : decode cX6_readPlain 69 = .ok (.invokevirtual 177, 3) := by decide +kernel
theorem dX6_readPlain_72 : decode cX6_readPlain 72 = .ok (.istore_n 2, 1) := by decide +kernel
theorem dX6_readPlain_73 : decode cX6_readPlain 73 = .ok (.aload_n 0, 1) := by decide +kernel
theorem dX6_readPlain_74 : decode cX6_readPlain 74 = .ok (.invokevirtual 67, 3) := by decide +kernel
theorem dX6_readPlain_77 : decode cX6_readPlain 77 = .ok (.aload_n 0, 1) := by decide +kernel
theorem dX6_readPlain_78 : decode cX6_readPlain 78 = .ok (.invokevirtual 118, 3) := by decide +kernel
theorem dX6_readPlain_81 : decode cX6_readPlain 81 = .ok (.aload_n 0, 1) := by decide +kernel
theorem dX6_readPlain_82 : decode cX6_readPlain 82 = .ok (.iload_n 2, 1) := by decide +kernel
theorem dX6_readPlain_83 : decode cX6_readPlain 83 = .ok (.iconst 0, 1) := by decide +kernel
theorem dX6_readPlain_84 : decode cX6_readPlain 84 = .ok (.invokevirtual 180, 3) := by decide +kernel
theorem dX6_readPlain_87 : decode cX6_readPlain 87 = .ok (.iload_n 1, 1) := by decide +kernel
theorem dX6_readPlain_88 : decode cX6_readPlain 88 = .ok (.iconst 2, 1) := by decide +kernel
theorem dX6_readPlain_89 : decode cX6_readPlain 89 = .ok (.irem, 1) := by decide +kernel
theorem dX6_readPlain_90 : decode cX6_readPlain 90 = .ok (.iconst 1, 1) := by decide +kernel
theorem dX6_readPlain_91 : decode cX6_readPlain 91 = .ok (.if_icmp .ne 9, 3) := by decide +kernel
theorem dX6_readPlain_94 : decode cX6_readPlain 94 = .ok (.aload_n 0, 1) := by decide +kernel
theorem dX6_readPlain_95 : decode cX6_readPlain 95 = .ok (.iconst 3, 1) := by decide +kernel
theorem dX6_readPlain_96 : decode cX6_readPlain 96 = .ok (.iconst 0, 1) := by decide +kernel
theorem dX6_readPlain_97 : decode cX6_readPlain 97 = .ok (.invokevirtual 180, 3) := by decide +kernel
theorem dX6_readPlain_100 : decode cX6_readPlain 100 = .ok (.return_, 1) := by decide +kernel
def f6_readPlain_j87 (S : ph_Sh) (rs : ph_Mem → Option ph_Mem) (x1 : Int32) (M : ph_Mem) : Option ph_Mem :=
  if (x1 - x1 / (2 : Int32) * (2 : Int32)) = (1 : Int32) then ((f6_add S M (3 : Int32) (0 : Int32)).bind fun q13 => some q13) else (some M)
set_option maxHeartbeats 4000000 in
theorem jb_f6_readPlain_j87 {tb adK adV : Nat → Nat} {S : ph_Sh} {X : ph_X} {ad : Nat → Nat} {o : ph_Mem} {rs : ph_Mem → Option ph_Mem} {dr : Nat} (h : ph_ok (ph_ZX tb adK adV) X cX6_readPlain RX6 none 3 (dr + 1) S.2 ad) (fin : ph_fin X S.1 S.2 ad none o) (hS : ph_SX S) (hB : 65 ≤ dr) (hrs : ∀ (M : ph_Mem) (q : ph_Mem), rs M  = some q → ph_CX (ph_ZX tb adK adV) X dr yX6_readTest cX6_readTest 3 none  S.1 S.2 ad [.ref (ad 63)] M none q) : ∀ (x1 : Int32) (M : ph_Mem), ph_J X S.1 S.2 ad o 87 [(0, .ref (ad 63)), (1, .int x1)] [] M (f6_readPlain_j87 S rs x1 M) := by
  intro x1 M
  unfold f6_readPlain_j87
  refine j_iload_n h dX6_readPlain_87 rfl 1 rfl ?_
  refine j_iconst (v := (2 : Int32)) h dX6_readPlain_88 (by decide) ?_
  refine j_iremK h dX6_readPlain_89 (by decide) ?_
  refine j_iconst (v := (1 : Int32)) h dX6_readPlain_90 (by decide) ?_
  refine j_icmp_ne h 100 dX6_readPlain_91 (by decide) ?_ ?_
  · exact j_vret h rfl fin dX6_readPlain_100
  · refine j_aload_n h dX6_readPlain_94 rfl 0 rfl ?_
    refine j_iconst (v := (3 : Int32)) h dX6_readPlain_95 (by decide) ?_
    refine j_iconst (v := (0 : Int32)) h dX6_readPlain_96 (by decide) ?_
    refine j_callVv (n := 2) (As := [.int (3 : Int32), .int (0 : Int32)]) (rest := []) h 63 tw_748 tw_750 tp_22 tw_7 tw_751 ydf6_add (by omega) (by decide) (ph_xlt hS (by decide)) (ph_kc63 hS) rfl (fun q hq => cf6_add (ph_okI h) hS hq) rfl (Nat.le_of_ble_eq_true rfl) rfl dX6_readPlain_97 (fun q13 => ?_)
    exact j_vret h rfl fin dX6_readPlain_100
def f6_readPlain_j28 (S : ph_Sh) (rs : ph_Mem → Option ph_Mem) (x1 : Int32) (M : ph_Mem) : Option ph_Mem :=
  (f6_says S M 32).bind fun q3 => if q3 = 0 then ((f6_readSum S M ).bind fun q4 => (f6_comparisonHere S q4 ).bind fun q5 => (f6_advance S q5.2 ).bind fun q6 => (f6_readSum S q6 ).bind fun q7 => (f6_add S q7 q5.1 (0 : Int32)).bind fun q8 => f6_readPlain_j87 S rs x1 q8) else ((f6_open S M ).bind fun q9 => (rs q9 ).bind fun q10 => ph_let (ph_wi q10 63 10 ((q10.1 63 10) - (1 : Int32))) fun M11 => (f6_expect S M11 33).bind fun q12 => f6_readPlain_j87 S rs x1 q12)
set_option maxHeartbeats 4000000 in
theorem jb_f6_readPlain_j28 {tb adK adV : Nat → Nat} {S : ph_Sh} {X : ph_X} {ad : Nat → Nat} {o : ph_Mem} {rs : ph_Mem → Option ph_Mem} {dr : Nat} (h : ph_ok (ph_ZX tb adK adV) X cX6_readPlain RX6 none 3 (dr + 1) S.2 ad) (fin : ph_fin X S.1 S.2 ad none o) (hS : ph_SX S) (hB : 65 ≤ dr) (hrs : ∀ (M : ph_Mem) (q : ph_Mem), rs M  = some q → ph_CX (ph_ZX tb adK adV) X dr yX6_readTest cX6_readTest 3 none  S.1 S.2 ad [.ref (ad 63)] M none q) : ∀ (x1 : Int32) (M : ph_Mem), ph_J X S.1 S.2 ad o 28 [(0, .ref (ad 63)), (1, .int x1)] [] M (f6_readPlain_j28 S rs x1 M) := by
  intro x1 M
  unfold f6_readPlain_j28
  refine j_aload_n h dX6_readPlain_28 rfl 0 rfl ?_
  refine j_ldcs h 32 (by decide) rfl rfl dX6_readPlain_29 ?_
  refine j_callViP (n := 1) (As := [.ref (adK 32)]) (rest := []) h 63 tw_626 tw_628 tp_9 tw_7 tw_629 ydf6_says (by omega) (by decide) (ph_xlt hS (by decide)) (ph_kc63 hS) rfl (fun q hq => cf6_says (ph_okI h) hS (by decide) hq) rfl (Nat.le_of_ble_eq_true rfl) rfl dX6_readPlain_31 (fun q3 => ?_)
  refine j_if_eq h 64 dX6_readPlain_34 (by decide) ?_ ?_
  · refine j_aload_n h dX6_readPlain_64 rfl 0 rfl ?_
    refine j_callVv (n := 0) (As := []) (rest := []) h 63 tw_695 tw_697 tp_13 tw_7 tw_698 ydf6_readSum (by omega) (by decide) (ph_xlt hS (by decide)) (ph_kc63 hS) rfl (fun q hq => cf6_readSum (ph_okI h) hS hq) rfl (Nat.le_of_ble_eq_true rfl) rfl dX6_readPlain_65 (fun q4 => ?_)
    refine j_aload_n h dX6_readPlain_68 rfl 0 rfl ?_
    refine j_callVi (n := 0) (As := []) (rest := []) h 63 tw_775 tw_777 tp_26 tw_7 tw_778 ydf6_comparisonHere (by omega) (by decide) (ph_xlt hS (by decide)) (ph_kc63 hS) rfl (fun q hq => cf6_comparisonHere (ph_okI h) hS hq) rfl (Nat.le_of_ble_eq_true rfl) rfl dX6_readPlain_69 (fun q5 => ?_)
    refine j_istore_n h [(2, .int q5.1), (0, .ref (ad 63)), (1, .int x1)] dX6_readPlain_72 rfl (by decide) rfl ?_
    refine j_aload_n h dX6_readPlain_73 rfl 1 rfl ?_
    refine j_callVv (n := 0) (As := []) (rest := []) h 63 tw_686 tw_688 tp_11 tw_7 tw_689 ydf6_advance (by omega) (by decide) (ph_xlt hS (by decide)) (ph_kc63 hS) rfl (fun q hq => cf6_advance (ph_okI h) hS hq) rfl (Nat.le_of_ble_eq_true rfl) rfl dX6_readPlain_74 (fun q6 => ?_)
    refine j_aload_n h dX6_readPlain_77 rfl 1 rfl ?_
    refine j_callVv (n := 0) (As := []) (rest := []) h 63 tw_695 tw_697 tp_13 tw_7 tw_698 ydf6_readSum (by omega) (by decide) (ph_xlt hS (by decide)) (ph_kc63 hS) rfl (fun q hq => cf6_readSum (ph_okI h) hS hq) rfl (Nat.le_of_ble_eq_true rfl) rfl dX6_readPlain_78 (fun q7 => ?_)
    refine j_aload_n h dX6_readPlain_81 rfl 1 rfl ?_
    refine j_iload_n h dX6_readPlain_82 rfl 0 rfl ?_
    refine j_iconst (v := (0 : Int32)) h dX6_readPlain_83 (by decide) ?_
    refine j_callVv (n := 2) (As := [.int q5.1, .int (0 : Int32)]) (rest := []) h 63 tw_748 tw_750 tp_22 tw_7 tw_751 ydf6_add (by omega) (by decide) (ph_xlt hS (by decide)) (ph_kc63 hS) rfl (fun q hq => cf6_add (ph_okI h) hS hq) rfl (Nat.le_of_ble_eq_true rfl) rfl dX6_readPlain_84 (fun q8 => ?_)
    refine j_sub [1, 2] rfl ?_
    exact jb_f6_readPlain_j87 h fin hS hB hrs x1 q8
  · refine j_aload_n h dX6_readPlain_37 rfl 0 rfl ?_
    refine j_callVv (n := 0) (As := []) (rest := []) h 63 tw_708 tw_710 tp_16 tw_7 tw_711 ydf6_open (by omega) (by decide) (ph_xlt hS (by decide)) (ph_kc63 hS) rfl (fun q hq => cf6_open (ph_okI h) hS hq) rfl (Nat.le_of_ble_eq_true rfl) rfl dX6_readPlain_38 (fun q9 => ?_)
    refine j_aload_n h dX6_readPlain_41 rfl 0 rfl ?_
    refine j_callVv (n := 0) (As := []) (rest := []) h 63 tw_760 tw_762 tp_23 tw_7 tw_763 ydf6_readTest (by omega) (by decide) (ph_xlt hS (by decide)) (ph_kc63 hS) rfl (fun q hq => hrs _  q hq) rfl (Nat.le_of_ble_eq_true rfl) rfl dX6_readPlain_42 (fun q10 => ?_)
    refine j_aload_n h dX6_readPlain_45 rfl 0 rfl ?_
    refine j_dup h dX6_readPlain_46 rfl ?_
    refine j_get (c := 63) (j := 10) (v := .int (q10.1 63 10)) h (ph_xlt hS (by decide)) (ph_kc63 hS) rfl ph_inX6 rfl (by decide) tw_179 rfl rfl dX6_readPlain_47 ?_
    refine j_iconst (v := (1 : Int32)) h dX6_readPlain_50 (by decide) ?_
    refine j_isub h dX6_readPlain_51 ?_
    refine j_puti (c := 63) (j := 10) (ty := .int) h (ph_xlt hS (by decide)) (ph_kc63 hS) rfl ph_inX6 tyX6 tyX6_ok nmX6 rfl (by decide) tw_179 rfl rfl (tyX6_ok 10 (by decide)) rfl rfl dX6_readPlain_52 ?_
    refine j_letM (fun M11 => ?_)
    refine j_aload_n h dX6_readPlain_55 rfl 0 rfl ?_
    refine j_ldcs h 33 (by decide) rfl rfl dX6_readPlain_56 ?_
    refine j_callVv (n := 1) (As := [.ref (adK 33)]) (rest := []) h 63 tw_713 tw_715 tp_17 tw_7 tw_716 ydf6_expect (by omega) (by decide) (ph_xlt hS (by decide)) (ph_kc63 hS) rfl (fun q hq => cf6_expect (ph_okI h) hS (by decide) hq) rfl (Nat.le_of_ble_eq_true rfl) rfl dX6_readPlain_58 (fun q12 => ?_)
    refine j_goto h 87 dX6_readPlain_61 (by decide) ?_
    refine j_sub [0, 1] rfl ?_
    exact jb_f6_readPlain_j87 h fin hS hB hrs x1 q12
def f6_readPlain_l2 (S : ph_Sh) (rs : ph_Mem → Option ph_Mem) : Nat → Int32 → ph_Mem → Option ph_Mem
  | 0, _, _ => none
  | n + 1, x1, M => if (400 : Int32) ≤ x1 then (f6_readPlain_j28 S rs x1 M) else ((f6_says S M 31).bind fun q1 => if q1 = 0 then (f6_readPlain_j28 S rs x1 M) else ((f6_advance S M ).bind fun q2 => (f6_readPlain_l2 S rs n) (x1 + (1 : Int32)) q2))
set_option maxHeartbeats 4000000 in
theorem jb_f6_readPlain_l2 {tb adK adV : Nat → Nat} {S : ph_Sh} {X : ph_X} {ad : Nat → Nat} {o : ph_Mem} {rs : ph_Mem → Option ph_Mem} {dr : Nat} (h : ph_ok (ph_ZX tb adK adV) X cX6_readPlain RX6 none 3 (dr + 1) S.2 ad) (fin : ph_fin X S.1 S.2 ad none o) (hS : ph_SX S) (hB : 65 ≤ dr) (hrs : ∀ (M : ph_Mem) (q : ph_Mem), rs M  = some q → ph_CX (ph_ZX tb adK adV) X dr yX6_readTest cX6_readTest 3 none  S.1 S.2 ad [.ref (ad 63)] M none q) : ∀ (n : Nat) (x1 : Int32) (M : ph_Mem), ph_J X S.1 S.2 ad o 2 [(0, .ref (ad 63)), (1, .int x1)] [] M (f6_readPlain_l2 S rs n x1 M) := by
  intro n
  induction n with
  | zero => intro x1 M; exact j_none
  | succ n hrc2 =>
    intro x1 M
    unfold f6_readPlain_l2
    refine j_iload_n h dX6_readPlain_2 rfl 1 rfl ?_
    refine j_sipush (v := (400 : Int32)) h dX6_readPlain_3 (by decide) ?_
    refine j_icmp_ge h 28 dX6_readPlain_6 (by decide) ?_ ?_
    · refine j_sub [0, 1] rfl ?_
      exact jb_f6_readPlain_j28 h fin hS hB hrs x1 M
    · refine j_aload_n h dX6_readPlain_9 rfl 0 rfl ?_
      refine j_ldcs h 31 (by decide) rfl rfl dX6_readPlain_10 ?_
      refine j_callViP (n := 1) (As := [.ref (adK 31)]) (rest := []) h 63 tw_626 tw_628 tp_9 tw_7 tw_629 ydf6_says (by omega) (by decide) (ph_xlt hS (by decide)) (ph_kc63 hS) rfl (fun q hq => cf6_says (ph_okI h) hS (by decide) hq) rfl (Nat.le_of_ble_eq_true rfl) rfl dX6_readPlain_12 (fun q1 => ?_)
      refine j_if_eq h 28 dX6_readPlain_15 (by decide) ?_ ?_
      · refine j_sub [0, 1] rfl ?_
        exact jb_f6_readPlain_j28 h fin hS hB hrs x1 M
      · refine j_aload_n h dX6_readPlain_18 rfl 0 rfl ?_
        refine j_callVv (n := 0) (As := []) (rest := []) h 63 tw_686 tw_688 tp_11 tw_7 tw_689 ydf6_advance (by omega) (by decide) (ph_xlt hS (by decide)) (ph_kc63 hS) rfl (fun q hq => cf6_advance (ph_okI h) hS hq) rfl (Nat.le_of_ble_eq_true rfl) rfl dX6_readPlain_19 (fun q2 => ?_)
        refine j_iinc h [(1, .int (x1 + (1 : Int32))), (0, .ref (ad 63))] dX6_readPlain_22 1 rfl rfl (by decide) rfl ?_
        refine j_goto h 2 dX6_readPlain_25 (by decide) ?_
        refine j_sub [1, 0] rfl ?_
        exact hrc2 (x1 + (1 : Int32)) q2
theorem ydf6_readPlain : ph_yd yX6_readPlain 0 := ⟨by decide, by decide, by decide +kernel⟩
def f6_readPlain (S : ph_Sh) (rs : ph_Mem → Option ph_Mem) (M : ph_Mem) : Option ph_Mem :=
  f6_readPlain_l2 S rs 10000 (0 : Int32) M
set_option maxHeartbeats 4000000 in
theorem cf6_readPlain {tb adK adV : Nat → Nat} {S : ph_Sh} {l : Launch} {D : va_G} {cA : Nat → ClassId} {ad : Nat → Nat} (hinj : ∀ i j, i < S.2 → j < S.2 → ad i = ad j → i = j) (hS : ph_SX S) {rs : ph_Mem → Option ph_Mem} {dr : Nat} (hB : 65 ≤ dr) (hrs : ∀ (M : ph_Mem) (q : ph_Mem), rs M  = some q → ph_C (ph_ZX tb adK adV) l dr yX6_readTest cX6_readTest 3 none D cA S.1 S.2 ad [.ref (ad 63)] M none q) {M : ph_Mem} {M' : ph_Mem} (hf : f6_readPlain S rs M  = some M') : ph_C (ph_ZX tb adK adV) l (dr + 1) yX6_readPlain cX6_readPlain 3 none D cA S.1 S.2 ad [.ref (ad 63)] M none M' := by
  refine ph_mk ph_ZX_ok hinj (by decide) (Nat.le_of_ble_eq_true rfl) fun X h fin hE => ?_
  obtain ⟨rfl, rfl, rfl⟩ := hE
  refine (?_ : ph_J X S.1 S.2 ad (M' : ph_Mem) 0 [(0, .ref (ad 63))] [] M (f6_readPlain S rs M )) hf
  unfold f6_readPlain
  refine j_iconst (v := (0 : Int32)) h dX6_readPlain_0 (by decide) ?_
  refine j_istore_n h [(1, .int (0 : Int32)), (0, .ref (ad 63))] dX6_readPlain_1 rfl (by decide) rfl ?_
  refine j_sub [1, 0] rfl ?_
  exact jb_f6_readPlain_l2 h fin hS hB hrs 10000 (0 : Int32) M
theorem dX6_land_0 : decode cX6_land 0 = .ok (.iload_n 1, 1) := by decide +kernel
theorem dX6_land_1 : decode cX6_land 1 = .ok (.ifCond .lt 27, 3) := by decide +kernel
theorem dX6_land_4 : decode cX6_land 4 = .ok (.iload_n 1, 1) := by decide +kernel
theorem dX6_land_5 : decode cX6_land 5 = .ok (.aload_n 0, 1) := by decide +kernel
theorem dX6_land_6 : decode cX6_land 6 = .ok (.getfield 49, 3) := by decide +kernel
theorem dX6_land_9 : decode cX6_land 9 = .ok (.if_icmp .ge 19, 3) := by decide +kernel
theorem dX6_land_12 : decode cX6_land 12 = .ok (.aload_n 0, 1) := by decide +kernel
theorem dX6_land_13 : decode cX6_land 13 = .ok (.getfield 29, 3) := by decide +kernel
theorem dX6_land_16 : decode cX6_land 16 = .ok (.iload_n 1, 1) := by decide +kernel
theorem dX6_land_17 : decode cX6_land 17 = .ok (.dup2, 1) := by decide +kernel
theorem dX6_land_18 : decode cX6_land 18 = .ok (.iaload, 1) := by decide +kernel
theorem dX6_land_19 : decode cX6_land 19 = .ok (.aload_n 0, 1) := by decide +kernel
theorem dX6_land_20 : decode cX6_land 20 = .ok (.getfield 49, 3) := by decide +kernel
theorem dX6_land_23 : decode cX6_land 23 = .ok (.bipush 32, 2) := by decide +kernel
theorem dX6_land_25 : decode cX6_land 25 = .ok (.imul, 1) := by decide +kernel
theorem dX6_land_26 : decode cX6_land 26 = .ok (.iadd, 1) := by decide +kernel
theorem dX6_land_27 : decode cX6_land 27 = .ok (.iastore, 1) := by decide +kernel
theorem dX6_land_28 : decode cX6_land 28 = .ok (.return_, 1) := by decide +kernel
theorem ydf6_land : ph_yd yX6_land 1 := ⟨by decide, by decide, by decide +kernel⟩
def f6_land (S : ph_Sh) (M : ph_Mem) (p0 : Int32) : Option ph_Mem :=
  if p0 < 0 then (some M) else (if (M.1 63 14) ≤ p0 then (some M) else (cond (ph_ib p0 400) (cond (ph_ib p0 400) (ph_let (ph_wi M 69 p0.toNatClampNeg ((M.1 69 p0.toNatClampNeg) + ((M.1 63 14) * (32 : Int32)))) fun M1 => some M1) none) none))
set_option maxHeartbeats 4000000 in
theorem cf6_land {tb adK adV : Nat → Nat} {S : ph_Sh} {l : Launch} {D : va_G} {cA : Nat → ClassId} {ad : Nat → Nat} (hinj : ∀ i j, i < S.2 → j < S.2 → ad i = ad j → i = j) (hS : ph_SX S) {M : ph_Mem} {p0 : Int32} {M' : ph_Mem} (hf : f6_land S M p0 = some M') : ph_C (ph_ZX tb adK adV) l 0 yX6_land cX6_land 2 none D cA S.1 S.2 ad [.ref (ad 63), .int p0] M none M' := by
  refine ph_mk ph_ZX_ok hinj (by decide) (Nat.le_of_ble_eq_true rfl) fun X h fin hE => ?_
  refine (?_ : ph_J X S.1 S.2 ad (M' : ph_Mem) 0 [(0, .ref (ad 63)), (1, .int p0)] [] M (f6_land S M p0)) hf
  unfold f6_land
  refine j_iload_n h dX6_land_0 rfl 1 rfl ?_
  refine j_if_lt h 28 dX6_land_1 (by decide) ?_ ?_
  · exact j_vret h rfl fin dX6_land_28
  · refine j_iload_n h dX6_land_4 rfl 1 rfl ?_
    refine j_aload_n h dX6_land_5 rfl 0 rfl ?_
    refine j_get (c := 63) (j := 14) (v := .int (M.1 63 14)) h (ph_xlt hS (by decide)) (ph_kc63 hS) rfl ph_inX6 rfl (by decide) tw_183 rfl rfl dX6_land_6 ?_
    refine j_icmp_ge h 28 dX6_land_9 (by decide) ?_ ?_
    · exact j_vret h rfl fin dX6_land_28
    · refine j_aload_n h dX6_land_12 rfl 0 rfl ?_
      refine j_get (c := 63) (j := 13) (v := .ref (ad 69)) h (ph_xlt hS (by decide)) (ph_kc63 hS) rfl ph_inX6 rfl (by decide) tw_182 rfl rfl dX6_land_13 ?_
      refine j_iload_n h dX6_land_16 rfl 1 rfl ?_
      refine j_dup2 h dX6_land_17 rfl rfl ?_
      refine j_iald (c := 69) (n := 400) h (ph_xlt hS (by decide)) (ph_kc69 hS) dX6_land_18 ?_
      refine j_aload_n h dX6_land_19 rfl 0 rfl ?_
      refine j_get (c := 63) (j := 14) (v := .int (M.1 63 14)) h (ph_xlt hS (by decide)) (ph_kc63 hS) rfl ph_inX6 rfl (by decide) tw_183 rfl rfl dX6_land_20 ?_
      refine j_bipush (v := (32 : Int32)) h dX6_land_23 (by decide) ?_
      refine j_imul h dX6_land_25 ?_
      refine j_iadd h dX6_land_26 ?_
      refine j_iast (c := 69) (n := 400) h (ph_xlt hS (by decide)) (ph_kc69 hS) dX6_land_27 ?_
      refine j_letM (fun M1 => ?_)
      exact j_vret h rfl fin dX6_land_28
theorem dX6_addJump_0 : decode cX6_addJump 0 = .ok (.aload_n 0, 1) := by decide +kernel
theorem dX6_addJump_1 : decode cX6_addJump 1 = .ok (.iload_n 2, 1) := by decide +kernel
theorem dX6_addJump_2 : decode cX6_addJump 2 = .ok (.invokevirtual 159, 3) := by decide +kernel
theorem dX6_addJump_5 : decode cX6_addJump 5 = .ok (.aload_n 0, 1) := by decide +kernel
theorem dX6_addJump_6 : decode cX6_addJump 6 = .ok (.iload_n 1, 1) := by decide +kernel
theorem dX6_addJump_7 : decode cX6_addJump 7 = .ok (.iconst 0, 1) := by decide +kernel
theorem dX6_addJump_8 : decode cX6_addJump 8 = .ok (.invokevirtual 180, 3) := by decide +kernel
theorem dX6_addJump_11 : decode cX6_addJump 11 = .ok (.aload_n 0, 1) := by decide +kernel
theorem dX6_addJump_12 : decode cX6_addJump 12 = .ok (.getfield 40, 3) := by decide +kernel
theorem dX6_addJump_15 : decode cX6_addJump 15 = .ok (.iconst (-1), 1) := by decide +kernel
theorem dX6_addJump_16 : decode cX6_addJump 16 = .ok (.if_icmp .ne 12, 3) := by decide +kernel
theorem dX6_addJump_19 : decode cX6_addJump 19 = .ok (.aload_n 0, 1) := by decide +kernel
theorem dX6_addJump_20 : decode cX6_addJump 20 = .ok (.getfield 49, 3) := by decide +kernel
theorem dX6_addJump_23 : decode cX6_addJump 23 = .ok (.iconst 1, 1) := by decide +kernel
theorem dX6_addJump_24 : decode cX6_addJump 24 = .ok (.isub, 1) := by decide +kernel
theorem dX6_addJump_25 : decode cX6_addJump 25 = .ok (.goto 4, 3) := by decide +kernel
theorem dX6_addJump_28 : decode cX6_addJump 28 = .ok (.iconst (-1), 1) := by decide +kernel
theorem dX6_addJump_29 : decode cX6_addJump 29 = .ok (.ireturn, 1) := by decide +kernel
theorem ydf6_addJump : ph_yd yX6_addJump 2 := ⟨by decide, by decide, by decide +kernel⟩
def f6_addJump (S : ph_Sh) (M : ph_Mem) (p0 : Int32) (p1 : Int32) : Option (Int32 × ph_Mem) :=
  (f6_land S M p1).bind fun q1 => (f6_add S q1 p0 (0 : Int32)).bind fun q2 => if (q2.1 63 2) = (-1 : Int32) then (some (((q2.1 63 14) - (1 : Int32)), q2)) else (some ((-1 : Int32), q2))
set_option maxHeartbeats 4000000 in
theorem cf6_addJump {tb adK adV : Nat → Nat} {S : ph_Sh} {l : Launch} {D : va_G} {cA : Nat → ClassId} {ad : Nat → Nat} (hinj : ∀ i j, i < S.2 → j < S.2 → ad i = ad j → i = j) (hS : ph_SX S) {M : ph_Mem} {p0 : Int32} {p1 : Int32} {r : Int32} {M' : ph_Mem} (hf : f6_addJump S M p0 p1 = some (r, M')) : ph_C (ph_ZX tb adK adV) l 1 yX6_addJump cX6_addJump 3 (some .int) D cA S.1 S.2 ad [.ref (ad 63), .int p0, .int p1] M (some (.int r)) M' := by
  refine ph_mk ph_ZX_ok hinj (by decide) (Nat.le_of_ble_eq_true rfl) fun X h fin hE => ?_
  refine (?_ : ph_J X S.1 S.2 ad ((r, M') : (Int32 × ph_Mem)) 0 [(0, .ref (ad 63)), (1, .int p0), (2, .int p1)] [] M (f6_addJump S M p0 p1)) hf
  unfold f6_addJump
  refine j_aload_n h dX6_addJump_0 rfl 0 rfl ?_
  refine j_iload_n h dX6_addJump_1 rfl 2 rfl ?_
  refine j_callVv (n := 1) (As := [.int p1]) (rest := []) h 63 tw_787 tw_789 tp_28 tw_7 tw_790 ydf6_land (by decide) (by decide) (ph_xlt hS (by decide)) (ph_kc63 hS) rfl (fun q hq => cf6_land (ph_okI h) hS hq) rfl (Nat.le_of_ble_eq_true rfl) rfl dX6_addJump_2 (fun q1 => ?_)
  refine j_aload_n h dX6_addJump_5 rfl 0 rfl ?_
  refine j_iload_n h dX6_addJump_6 rfl 1 rfl ?_
  refine j_iconst (v := (0 : Int32)) h dX6_addJump_7 (by decide) ?_
  refine j_callVv (n := 2) (As := [.int p0, .int (0 : Int32)]) (rest := []) h 63 tw_748 tw_750 tp_22 tw_7 tw_751 ydf6_add (by decide) (by decide) (ph_xlt hS (by decide)) (ph_kc63 hS) rfl (fun q hq => cf6_add (ph_okI h) hS hq) rfl (Nat.le_of_ble_eq_true rfl) rfl dX6_addJump_8 (fun q2 => ?_)
  refine j_aload_n h dX6_addJump_11 rfl 0 rfl ?_
  refine j_get (c := 63) (j := 2) (v := .int (q2.1 63 2)) h (ph_xlt hS (by decide)) (ph_kc63 hS) rfl ph_inX6 rfl (by decide) tw_170 rfl rfl dX6_addJump_12 ?_
  refine j_iconst (v := (-1 : Int32)) h dX6_addJump_15 (by decide) ?_
  refine j_icmp_ne h 28 dX6_addJump_16 (by decide) ?_ ?_
  · refine j_iconst (v := (-1 : Int32)) h dX6_addJump_28 (by decide) ?_
    exact j_iret h rfl fin dX6_addJump_29
  · refine j_aload_n h dX6_addJump_19 rfl 0 rfl ?_
    refine j_get (c := 63) (j := 14) (v := .int (q2.1 63 14)) h (ph_xlt hS (by decide)) (ph_kc63 hS) rfl ph_inX6 rfl (by decide) tw_183 rfl rfl dX6_addJump_20 ?_
    refine j_iconst (v := (1 : Int32)) h dX6_addJump_23 (by decide) ?_
    refine j_isub h dX6_addJump_24 ?_
    refine j_goto h 29 dX6_addJump_25 (by decide) ?_
    exact j_iret h rfl fin dX6_addJump_29
theorem dX6_readBoth_0 : decode cX6_readBoth 0 = .ok (.aload_n 0, 1) := by decide +kernel
theorem dX6_readBoth_1 : decode cX6_readBoth 1 = .ok (.invokevirtual 163, 3) := by decide +kernel
theorem dX6_readBoth_4 : decode cX6_readBoth 4 = .ok (.iconst (-1), 1) := by decide +kernel
theorem dX6_readBoth_5 : decode cX6_readBoth 5 = .ok (.istore_n 1, 1) := by decide +kernel
theorem dX6_readBoth_6 : decode cX6_readBoth 6 = .ok (.iconst 0, 1) := by decide +kernel
theorem dX6_readBoth_7 : decode cX6_readBoth 7 = .ok (.istore_n 2, 1) := by decide +kernel
theorem dX6_readBoth_8 : decode cX6_readBoth 8 = .ok (.iload_n 2, 1) := by decide +kernel
theorem dX6_readBoth_9 : decode cX6_readBoth 9 = .ok (.sipush 400, 3) := by decide +kernel
theorem dX6_readBoth_12 : decode cX6_readBoth 12 = .ok (.if_icmp .ge 33, 3) := by decide +kernel
theorem dX6_readBoth_15 : decode cX6_readBoth 15 = .ok (.aload_n 0, 1) := by decide +kernel
theorem dX6_readBoth_16 : decode cX6_readBoth 16 = .ok (.ldc 166, 2) := by decide +kernel
theorem dX6_readBoth_18 : decode cX6_readBoth 18 = .ok (.invokevirtual 63, 3) := by decide +kernel
theorem dX6_readBoth_21 : decode cX6_readBoth 21 = .ok (.ifCond .eq 24, 3) := by decide +kernel
theorem dX6_readBoth_24 : decode cX6_readBoth 24 = .ok (.aload_n 0, 1) := by decide +kernel
theorem dX6_readBoth_25 : decode cX6_readBoth 25 = .ok (.invokevirtual 67, 3) := by decide +kernel
theorem dX6_readBoth_28 : decode cX6_readBoth 28 = .ok (.aload_n 0, 1) := by decide +kernel
theorem dX6_readBoth_29 : decode cX6_readBoth 29 = .ok (.iconst 5, 1) := by decide +kernel
theorem dX6_readBoth_30 : decode cX6_readBoth 30 = .ok (.iload_n 1, 1) := by decide +kernel
theorem dX6_readBoth_31 : decode cX6_readBoth 31 = .ok (.invokevirtual 156, 3) := by decide +kernel
theorem dX6_readBoth_34 : decode cX6_readBoth 34 = .ok (.istore_n 1, 1) := by decide +kernel
theorem dX6_readBoth_35 : decode cX6_readBoth 35 = .ok (.aload_n 0, 1) := by decide +kernel
theorem dX6_readBoth_36 : decode cX6_readBoth 36 = .ok (.invokevirtual 163, 3) := by decide +kernel
theorem dX6_readBoth_39 : decode cX6_readBoth 39 = .ok (.iinc 2 1, 3) := by decide +kernel
theorem dX6_readBoth_42 : decode cX6_readBoth 42 = .ok (.goto (-34), 3) := by decide +kernel
theorem dX6_readBoth_45 : decode cX6_readBoth 45 = .ok (.aload_n 0, 1) := by decide +kernel
theorem dX6_readBoth_46 : decode cX6_readBoth 46 = .ok (.iload_n 1, 1) := by decide +kernel
theorem dX6_readBoth_47 : decode cX6_readBoth 47 = .ok (.invokevirtual 159, 3) := by decide +kernel
theorem dX6_readBoth_50 : decode cX6_readBoth 50 = .ok (.return_, 1) := by decide +kernel
def f6_readBoth_j45 (S : ph_Sh) (rs : ph_Mem → Option ph_Mem) (x1 : Int32) (M : ph_Mem) : Option ph_Mem :=
  (f6_land S M x1).bind fun q6 => some q6
set_option maxHeartbeats 4000000 in
theorem jb_f6_readBoth_j45 {tb adK adV : Nat → Nat} {S : ph_Sh} {X : ph_X} {ad : Nat → Nat} {o : ph_Mem} {rs : ph_Mem → Option ph_Mem} {dr : Nat} (h : ph_ok (ph_ZX tb adK adV) X cX6_readBoth RX6 none 3 (dr + 2) S.2 ad) (fin : ph_fin X S.1 S.2 ad none o) (hS : ph_SX S) (hB : 65 ≤ dr) (hrs : ∀ (M : ph_Mem) (q : ph_Mem), rs M  = some q → ph_CX (ph_ZX tb adK adV) X dr yX6_readTest cX6_readTest 3 none  S.1 S.2 ad [.ref (ad 63)] M none q) : ∀ (x1 : Int32) (M : ph_Mem), ph_J X S.1 S.2 ad o 45 [(0, .ref (ad 63)), (1, .int x1)] [] M (f6_readBoth_j45 S rs x1 M) := by
  intro x1 M
  unfold f6_readBoth_j45
  refine j_aload_n h dX6_readBoth_45 rfl 0 rfl ?_
  refine j_iload_n h dX6_readBoth_46 rfl 1 rfl ?_
  refine j_callVv (n := 1) (As := [.int x1]) (rest := []) h 63 tw_787 tw_789 tp_28 tw_7 tw_790 ydf6_land (by omega) (by decide) (ph_xlt hS (by decide)) (ph_kc63 hS) rfl (fun q hq => cf6_land (ph_okI h) hS hq) rfl (Nat.le_of_ble_eq_true rfl) rfl dX6_readBoth_47 (fun q6 => ?_)
  exact j_vret h rfl fin dX6_readBoth_50
def f6_readBoth_l8 (S : ph_Sh) (rs : ph_Mem → Option ph_Mem) : Nat → Int32 → Int32 → ph_Mem → Option ph_Mem
  | 0, _, _, _ => none
  | n + 1, x1, x2, M => if (400 : Int32) ≤ x2 then (f6_readBoth_j45 S rs x1 M) else ((f6_says S M 37).bind fun q2 => if q2 = 0 then (f6_readBoth_j45 S rs x1 M) else ((f6_advance S M ).bind fun q3 => (f6_addJump S q3 (5 : Int32) x1).bind fun q4 => (f6_readPlain S rs q4.2 ).bind fun q5 => (f6_readBoth_l8 S rs n) q4.1 (x2 + (1 : Int32)) q5))
set_option maxHeartbeats 4000000 in
theorem jb_f6_readBoth_l8 {tb adK adV : Nat → Nat} {S : ph_Sh} {X : ph_X} {ad : Nat → Nat} {o : ph_Mem} {rs : ph_Mem → Option ph_Mem} {dr : Nat} (h : ph_ok (ph_ZX tb adK adV) X cX6_readBoth RX6 none 3 (dr + 2) S.2 ad) (fin : ph_fin X S.1 S.2 ad none o) (hS : ph_SX S) (hB : 65 ≤ dr) (hrs : ∀ (M : ph_Mem) (q : ph_Mem), rs M  = some q → ph_CX (ph_ZX tb adK adV) X dr yX6_readTest cX6_readTest 3 none  S.1 S.2 ad [.ref (ad 63)] M none q) : ∀ (n : Nat) (x1 : Int32) (x2 : Int32) (M : ph_Mem), ph_J X S.1 S.2 ad o 8 [(0, .ref (ad 63)), (1, .int x1), (2, .int x2)] [] M (f6_readBoth_l8 S rs n x1 x2 M) := by
  intro n
  induction n with
  | zero => intro x1 x2 M; exact j_none
  | succ n hrc8 =>
    intro x1 x2 M
    unfold f6_readBoth_l8
    refine j_iload_n h dX6_readBoth_8 rfl 2 rfl ?_
    refine j_sipush (v := (400 : Int32)) h dX6_readBoth_9 (by decide) ?_
    refine j_icmp_ge h 45 dX6_readBoth_12 (by decide) ?_ ?_
    · refine j_sub [0, 1] rfl ?_
      exact jb_f6_readBoth_j45 h fin hS hB hrs x1 M
    · refine j_aload_n h dX6_readBoth_15 rfl 0 rfl ?_
      refine j_ldcs h 37 (by decide) rfl rfl dX6_readBoth_16 ?_
      refine j_callViP (n := 1) (As := [.ref (adK 37)]) (rest := []) h 63 tw_626 tw_628 tp_9 tw_7 tw_629 ydf6_says (by omega) (by decide) (ph_xlt hS (by decide)) (ph_kc63 hS) rfl (fun q hq => cf6_says (ph_okI h) hS (by decide) hq) rfl (Nat.le_of_ble_eq_true rfl) rfl dX6_readBoth_18 (fun q2 => ?_)
      refine j_if_eq h 45 dX6_readBoth_21 (by decide) ?_ ?_
      · refine j_sub [0, 1] rfl ?_
        exact jb_f6_readBoth_j45 h fin hS hB hrs x1 M
      · refine j_aload_n h dX6_readBoth_24 rfl 0 rfl ?_
        refine j_callVv (n := 0) (As := []) (rest := []) h 63 tw_686 tw_688 tp_11 tw_7 tw_689 ydf6_advance (by omega) (by decide) (ph_xlt hS (by decide)) (ph_kc63 hS) rfl (fun q hq => cf6_advance (ph_okI h) hS hq) rfl (Nat.le_of_ble_eq_true rfl) rfl dX6_readBoth_25 (fun q3 => ?_)
        refine j_aload_n h dX6_readBoth_28 rfl 0 rfl ?_
        refine j_iconst (v := (5 : Int32)) h dX6_readBoth_29 (by decide) ?_
        refine j_iload_n h dX6_readBoth_30 rfl 1 rfl ?_
        refine j_callVi (n := 2) (As := [.int (5 : Int32), .int x1]) (rest := []) h 63 tw_783 tw_785 tp_27 tw_7 tw_786 ydf6_addJump (by omega) (by decide) (ph_xlt hS (by decide)) (ph_kc63 hS) rfl (fun q hq => cf6_addJump (ph_okI h) hS hq) rfl (Nat.le_of_ble_eq_true rfl) rfl dX6_readBoth_31 (fun q4 => ?_)
        refine j_istore_n h [(1, .int q4.1), (0, .ref (ad 63)), (2, .int x2)] dX6_readBoth_34 rfl (by decide) rfl ?_
        refine j_aload_n h dX6_readBoth_35 rfl 1 rfl ?_
        refine j_callVv (n := 0) (As := []) (rest := []) h 63 tw_768 tw_770 tp_25 tw_7 tw_771 ydf6_readPlain (by omega) (by decide) (ph_xlt hS (by decide)) (ph_kc63 hS) rfl (fun q hq => cf6_readPlain (ph_okI h) hS (rs := rs) (dr := dr) (by omega) hrs hq) rfl (Nat.le_of_ble_eq_true rfl) rfl dX6_readBoth_36 (fun q5 => ?_)
        refine j_iinc h [(2, .int (x2 + (1 : Int32))), (1, .int q4.1), (0, .ref (ad 63))] dX6_readBoth_39 2 rfl rfl (by decide) rfl ?_
        refine j_goto h 8 dX6_readBoth_42 (by decide) ?_
        refine j_sub [2, 1, 0] rfl ?_
        exact hrc8 q4.1 (x2 + (1 : Int32)) q5
theorem ydf6_readBoth : ph_yd yX6_readBoth 0 := ⟨by decide, by decide, by decide +kernel⟩
def f6_readBoth (S : ph_Sh) (rs : ph_Mem → Option ph_Mem) (M : ph_Mem) : Option ph_Mem :=
  (f6_readPlain S rs M ).bind fun q1 => f6_readBoth_l8 S rs 10000 (-1 : Int32) (0 : Int32) q1
set_option maxHeartbeats 4000000 in
theorem cf6_readBoth {tb adK adV : Nat → Nat} {S : ph_Sh} {l : Launch} {D : va_G} {cA : Nat → ClassId} {ad : Nat → Nat} (hinj : ∀ i j, i < S.2 → j < S.2 → ad i = ad j → i = j) (hS : ph_SX S) {rs : ph_Mem → Option ph_Mem} {dr : Nat} (hB : 65 ≤ dr) (hrs : ∀ (M : ph_Mem) (q : ph_Mem), rs M  = some q → ph_C (ph_ZX tb adK adV) l dr yX6_readTest cX6_readTest 3 none D cA S.1 S.2 ad [.ref (ad 63)] M none q) {M : ph_Mem} {M' : ph_Mem} (hf : f6_readBoth S rs M  = some M') : ph_C (ph_ZX tb adK adV) l (dr + 2) yX6_readBoth cX6_readBoth 3 none D cA S.1 S.2 ad [.ref (ad 63)] M none M' := by
  refine ph_mk ph_ZX_ok hinj (by decide) (Nat.le_of_ble_eq_true rfl) fun X h fin hE => ?_
  obtain ⟨rfl, rfl, rfl⟩ := hE
  refine (?_ : ph_J X S.1 S.2 ad (M' : ph_Mem) 0 [(0, .ref (ad 63))] [] M (f6_readBoth S rs M )) hf
  unfold f6_readBoth
  refine j_aload_n h dX6_readBoth_0 rfl 0 rfl ?_
  refine j_callVv (n := 0) (As := []) (rest := []) h 63 tw_768 tw_770 tp_25 tw_7 tw_771 ydf6_readPlain (by omega) (by decide) (ph_xlt hS (by decide)) (ph_kc63 hS) rfl (fun q hq => cf6_readPlain (ph_okI h) hS (rs := rs) (dr := dr) (by omega) hrs hq) rfl (Nat.le_of_ble_eq_true rfl) rfl dX6_readBoth_1 (fun q1 => ?_)
  refine j_iconst (v := (-1 : Int32)) h dX6_readBoth_4 (by decide) ?_
  refine j_istore_n h [(1, .int (-1 : Int32)), (0, .ref (ad 63))] dX6_readBoth_5 rfl (by decide) rfl ?_
  refine j_iconst (v := (0 : Int32)) h dX6_readBoth_6 (by decide) ?_
  refine j_istore_n h [(2, .int (0 : Int32)), (1, .int (-1 : Int32)), (0, .ref (ad 63))] dX6_readBoth_7 rfl (by decide) rfl ?_
  refine j_sub [2, 1, 0] rfl ?_
  exact jb_f6_readBoth_l8 h fin hS hB hrs 10000 (-1 : Int32) (0 : Int32) q1
theorem dX6_readTest_0 : decode cX6_readTest 0 = .ok (.aload_n 0, 1) := by decide +kernel
theorem dX6_readTest_1 : decode cX6_readTest 1 = .ok (.invokevirtual 149, 3) := by decide +kernel
theorem dX6_readTest_4 : decode cX6_readTest 4 = .ok (.iconst (-1), 1) := by decide +kernel
theorem dX6_readTest_5 : decode cX6_readTest 5 = .ok (.istore_n 1, 1) := by decide +kernel
theorem dX6_readTest_6 : decode cX6_readTest 6 = .ok (.iconst 0, 1) := by decide +kernel
theorem dX6_readTest_7 : decode cX6_readTest 7 = .ok (.istore_n 2, 1) := by decide +kernel
theorem dX6_readTest_8 : decode cX6_readTest 8 = .ok (.iload_n 2, 1) := by decide +kernel
theorem dX6_readTest_9 : decode cX6_readTest 9 = .ok (.sipush 400, 3) := by decide +kernel
theorem dX6_readTest_12 : decode cX6_readTest 12 = .ok (.if_icmp .ge 33, 3) := by decide +kernel
theorem dX6_readTest_15 : decode cX6_readTest 15 = .ok (.aload_n 0, 1) := by decide +kernel
theorem dX6_readTest_16 : decode cX6_readTest 16 = .ok (.ldc 152, 2) := by decide +kernel
theorem dX6_readTest_18 : decode cX6_readTest 18 = .ok (.invokevirtual 63, 3) := by decide +kernel
theorem dX6_readTest_21 : decode cX6_readTest 21 = .ok (.ifCond .eq 24, 3) := by decide +kernel
theorem dX6_readTest_24 : decode cX6_readTest 24 = .ok (.aload_n 0, 1) := by decide +kernel
theorem dX6_readTest_25 : decode cX6_readTest 25 = .ok (.invokevirtual 67, 3) := by decide +kernel
theorem dX6_readTest_28 : decode cX6_readTest 28 = .ok (.aload_n 0, 1) := by decide +kernel
theorem dX6_readTest_29 : decode cX6_readTest 29 = .ok (.iconst 4, 1) := by decide +kernel
theorem dX6_readTest_30 : decode cX6_readTest 30 = .ok (.iload_n 1, 1) := by decide +kernel
theorem dX6_readTest_31 : decode cX6_readTest 31 = .ok (.invokevirtual 156, 3) := by decide +kernel
theorem dX6_readTest_34 : decode cX6_readTest 34 = .ok (.istore_n 1, 1) := by decide +kernel
theorem dX6_readTest_35 : decode cX6_readTest 35 = .ok (.aload_n 0, 1) := by decide +kernel
theorem dX6_readTest_36 : decode cX6_readTest 36 = .ok (.invokevirtual 149, 3) := by decide +kernel
theorem dX6_readTest_39 : decode cX6_readTest 39 = .ok (.iinc 2 1, 3) := by decide +kernel
theorem dX6_readTest_42 : decode cX6_readTest 42 = .ok (.goto (-34), 3) := by decide +kernel
theorem dX6_readTest_45 : decode cX6_readTest 45 = .ok (.aload_n 0, 1) := by decide +kernel
theorem dX6_readTest_46 : decode cX6_readTest 46 = .ok (.iload_n 1, 1) := by decide +kernel
theorem dX6_readTest_47 : decode cX6_readTest 47 = .ok (.invokevirtual 159, 3) := by decide +kernel
theorem dX6_readTest_50 : decode cX6_readTest 50 = .ok (.return_, 1) := by decide +kernel
def f6_readTest_j45 (S : ph_Sh) (rs : ph_Mem → Option ph_Mem) (x1 : Int32) (M : ph_Mem) : Option ph_Mem :=
  (f6_land S M x1).bind fun q6 => some q6
set_option maxHeartbeats 4000000 in
theorem jb_f6_readTest_j45 {tb adK adV : Nat → Nat} {S : ph_Sh} {X : ph_X} {ad : Nat → Nat} {o : ph_Mem} {rs : ph_Mem → Option ph_Mem} {dr : Nat} (h : ph_ok (ph_ZX tb adK adV) X cX6_readTest RX6 none 3 (dr + 3) S.2 ad) (fin : ph_fin X S.1 S.2 ad none o) (hS : ph_SX S) (hB : 65 ≤ dr) (hrs : ∀ (M : ph_Mem) (q : ph_Mem), rs M  = some q → ph_CX (ph_ZX tb adK adV) X dr yX6_readTest cX6_readTest 3 none  S.1 S.2 ad [.ref (ad 63)] M none q) : ∀ (x1 : Int32) (M : ph_Mem), ph_J X S.1 S.2 ad o 45 [(0, .ref (ad 63)), (1, .int x1)] [] M (f6_readTest_j45 S rs x1 M) := by
  intro x1 M
  unfold f6_readTest_j45
  refine j_aload_n h dX6_readTest_45 rfl 0 rfl ?_
  refine j_iload_n h dX6_readTest_46 rfl 1 rfl ?_
  refine j_callVv (n := 1) (As := [.int x1]) (rest := []) h 63 tw_787 tw_789 tp_28 tw_7 tw_790 ydf6_land (by omega) (by decide) (ph_xlt hS (by decide)) (ph_kc63 hS) rfl (fun q hq => cf6_land (ph_okI h) hS hq) rfl (Nat.le_of_ble_eq_true rfl) rfl dX6_readTest_47 (fun q6 => ?_)
  exact j_vret h rfl fin dX6_readTest_50
def f6_readTest_l8 (S : ph_Sh) (rs : ph_Mem → Option ph_Mem) : Nat → Int32 → Int32 → ph_Mem → Option ph_Mem
  | 0, _, _, _ => none
  | n + 1, x1, x2, M => if (400 : Int32) ≤ x2 then (f6_readTest_j45 S rs x1 M) else ((f6_says S M 38).bind fun q2 => if q2 = 0 then (f6_readTest_j45 S rs x1 M) else ((f6_advance S M ).bind fun q3 => (f6_addJump S q3 (4 : Int32) x1).bind fun q4 => (f6_readBoth S rs q4.2 ).bind fun q5 => (f6_readTest_l8 S rs n) q4.1 (x2 + (1 : Int32)) q5))
set_option maxHeartbeats 4000000 in
theorem jb_f6_readTest_l8 {tb adK adV : Nat → Nat} {S : ph_Sh} {X : ph_X} {ad : Nat → Nat} {o : ph_Mem} {rs : ph_Mem → Option ph_Mem} {dr : Nat} (h : ph_ok (ph_ZX tb adK adV) X cX6_readTest RX6 none 3 (dr + 3) S.2 ad) (fin : ph_fin X S.1 S.2 ad none o) (hS : ph_SX S) (hB : 65 ≤ dr) (hrs : ∀ (M : ph_Mem) (q : ph_Mem), rs M  = some q → ph_CX (ph_ZX tb adK adV) X dr yX6_readTest cX6_readTest 3 none  S.1 S.2 ad [.ref (ad 63)] M none q) : ∀ (n : Nat) (x1 : Int32) (x2 : Int32) (M : ph_Mem), ph_J X S.1 S.2 ad o 8 [(0, .ref (ad 63)), (1, .int x1), (2, .int x2)] [] M (f6_readTest_l8 S rs n x1 x2 M) := by
  intro n
  induction n with
  | zero => intro x1 x2 M; exact j_none
  | succ n hrc8 =>
    intro x1 x2 M
    unfold f6_readTest_l8
    refine j_iload_n h dX6_readTest_8 rfl 2 rfl ?_
    refine j_sipush (v := (400 : Int32)) h dX6_readTest_9 (by decide) ?_
    refine j_icmp_ge h 45 dX6_readTest_12 (by decide) ?_ ?_
    · refine j_sub [0, 1] rfl ?_
      exact jb_f6_readTest_j45 h fin hS hB hrs x1 M
    · refine j_aload_n h dX6_readTest_15 rfl 0 rfl ?_
      refine j_ldcs h 38 (by decide) rfl rfl dX6_readTest_16 ?_
      refine j_callViP (n := 1) (As := [.ref (adK 38)]) (rest := []) h 63 tw_626 tw_628 tp_9 tw_7 tw_629 ydf6_says (by omega) (by decide) (ph_xlt hS (by decide)) (ph_kc63 hS) rfl (fun q hq => cf6_says (ph_okI h) hS (by decide) hq) rfl (Nat.le_of_ble_eq_true rfl) rfl dX6_readTest_18 (fun q2 => ?_)
      refine j_if_eq h 45 dX6_readTest_21 (by decide) ?_ ?_
      · refine j_sub [0, 1] rfl ?_
        exact jb_f6_readTest_j45 h fin hS hB hrs x1 M
      · refine j_aload_n h dX6_readTest_24 rfl 0 rfl ?_
        refine j_callVv (n := 0) (As := []) (rest := []) h 63 tw_686 tw_688 tp_11 tw_7 tw_689 ydf6_advance (by omega) (by decide) (ph_xlt hS (by decide)) (ph_kc63 hS) rfl (fun q hq => cf6_advance (ph_okI h) hS hq) rfl (Nat.le_of_ble_eq_true rfl) rfl dX6_readTest_25 (fun q3 => ?_)
        refine j_aload_n h dX6_readTest_28 rfl 0 rfl ?_
        refine j_iconst (v := (4 : Int32)) h dX6_readTest_29 (by decide) ?_
        refine j_iload_n h dX6_readTest_30 rfl 1 rfl ?_
        refine j_callVi (n := 2) (As := [.int (4 : Int32), .int x1]) (rest := []) h 63 tw_783 tw_785 tp_27 tw_7 tw_786 ydf6_addJump (by omega) (by decide) (ph_xlt hS (by decide)) (ph_kc63 hS) rfl (fun q hq => cf6_addJump (ph_okI h) hS hq) rfl (Nat.le_of_ble_eq_true rfl) rfl dX6_readTest_31 (fun q4 => ?_)
        refine j_istore_n h [(1, .int q4.1), (0, .ref (ad 63)), (2, .int x2)] dX6_readTest_34 rfl (by decide) rfl ?_
        refine j_aload_n h dX6_readTest_35 rfl 1 rfl ?_
        refine j_callVv (n := 0) (As := []) (rest := []) h 63 tw_764 tw_766 tp_24 tw_7 tw_767 ydf6_readBoth (by omega) (by decide) (ph_xlt hS (by decide)) (ph_kc63 hS) rfl (fun q hq => cf6_readBoth (ph_okI h) hS (rs := rs) (dr := dr) (by omega) hrs hq) rfl (Nat.le_of_ble_eq_true rfl) rfl dX6_readTest_36 (fun q5 => ?_)
        refine j_iinc h [(2, .int (x2 + (1 : Int32))), (1, .int q4.1), (0, .ref (ad 63))] dX6_readTest_39 2 rfl rfl (by decide) rfl ?_
        refine j_goto h 8 dX6_readTest_42 (by decide) ?_
        refine j_sub [2, 1, 0] rfl ?_
        exact hrc8 q4.1 (x2 + (1 : Int32)) q5
def f6_readTest_b (S : ph_Sh) (rs : ph_Mem → Option ph_Mem) (M : ph_Mem) : Option ph_Mem :=
  (f6_readBoth S rs M ).bind fun q1 => f6_readTest_l8 S rs 10000 (-1 : Int32) (0 : Int32) q1
set_option maxHeartbeats 4000000 in
theorem cf6_readTest_b {tb adK adV : Nat → Nat} {S : ph_Sh} {l : Launch} {D : va_G} {cA : Nat → ClassId} {ad : Nat → Nat} (hinj : ∀ i j, i < S.2 → j < S.2 → ad i = ad j → i = j) (hS : ph_SX S) {rs : ph_Mem → Option ph_Mem} {dr : Nat} (hB : 65 ≤ dr) (hrs : ∀ (M : ph_Mem) (q : ph_Mem), rs M  = some q → ph_C (ph_ZX tb adK adV) l dr yX6_readTest cX6_readTest 3 none D cA S.1 S.2 ad [.ref (ad 63)] M none q) {M : ph_Mem} {M' : ph_Mem} (hf : f6_readTest_b S rs M  = some M') : ph_C (ph_ZX tb adK adV) l (dr + 3) yX6_readTest cX6_readTest 3 none D cA S.1 S.2 ad [.ref (ad 63)] M none M' := by
  refine ph_mk ph_ZX_ok hinj (by decide) (Nat.le_of_ble_eq_true rfl) fun X h fin hE => ?_
  obtain ⟨rfl, rfl, rfl⟩ := hE
  refine (?_ : ph_J X S.1 S.2 ad (M' : ph_Mem) 0 [(0, .ref (ad 63))] [] M (f6_readTest_b S rs M )) hf
  unfold f6_readTest_b
  refine j_aload_n h dX6_readTest_0 rfl 0 rfl ?_
  refine j_callVv (n := 0) (As := []) (rest := []) h 63 tw_764 tw_766 tp_24 tw_7 tw_767 ydf6_readBoth (by omega) (by decide) (ph_xlt hS (by decide)) (ph_kc63 hS) rfl (fun q hq => cf6_readBoth (ph_okI h) hS (rs := rs) (dr := dr) (by omega) hrs hq) rfl (Nat.le_of_ble_eq_true rfl) rfl dX6_readTest_1 (fun q1 => ?_)
  refine j_iconst (v := (-1 : Int32)) h dX6_readTest_4 (by decide) ?_
  refine j_istore_n h [(1, .int (-1 : Int32)), (0, .ref (ad 63))] dX6_readTest_5 rfl (by decide) rfl ?_
  refine j_iconst (v := (0 : Int32)) h dX6_readTest_6 (by decide) ?_
  refine j_istore_n h [(2, .int (0 : Int32)), (1, .int (-1 : Int32)), (0, .ref (ad 63))] dX6_readTest_7 rfl (by decide) rfl ?_
  refine j_sub [2, 1, 0] rfl ?_
  exact jb_f6_readTest_l8 h fin hS hB hrs 10000 (-1 : Int32) (0 : Int32) q1
def f6_readTest_n (S : ph_Sh) : Nat → ph_Mem → Option ph_Mem
  | 0, _ => none
  | n + 1, M => f6_readTest_b S (f6_readTest_n S n) M 
theorem cf6_readTest_n {tb adK adV : Nat → Nat} {S : ph_Sh} {l : Launch} {D : va_G} {cA : Nat → ClassId} {ad : Nat → Nat} (hinj : ∀ i j, i < S.2 → j < S.2 → ad i = ad j → i = j) (hS : ph_SX S) : ∀ (n : Nat) {M : ph_Mem} {M' : ph_Mem} (_ : f6_readTest_n S n M  = some M'), ph_C (ph_ZX tb adK adV) l (65 + 3 * n) yX6_readTest cX6_readTest 3 none D cA S.1 S.2 ad [.ref (ad 63)] M none M'
  | 0, _, _, h => by cases h
  | n + 1, _, _, h => by
    rw [show 65 + 3 * (n + 1) = 65 + 3 * n + 3 by omega]
    exact cf6_readTest_b hinj hS (rs := f6_readTest_n S n) (dr := 65 + 3 * n) (Nat.le_add_right _ _) (fun _  q hq => cf6_readTest_n hinj hS n hq) h
def f6_readTest (S : ph_Sh) (M : ph_Mem) : Option ph_Mem := f6_readTest_n S 20 M 
theorem cf6_readTest {tb adK adV : Nat → Nat} {S : ph_Sh} {l : Launch} {D : va_G} {cA : Nat → ClassId} {ad : Nat → Nat} (hinj : ∀ i j, i < S.2 → j < S.2 → ad i = ad j → i = j) (hS : ph_SX S) {M : ph_Mem} {M' : ph_Mem} (hf : f6_readTest S M  = some M') : ph_C (ph_ZX tb adK adV) l 125 yX6_readTest cX6_readTest 3 none D cA S.1 S.2 ad [.ref (ad 63)] M none M' := cf6_readTest_n hinj hS 20 hf
theorem dX6_readClause_0 : decode cX6_readClause 0 = .ok (.aload_n 0, 1) := by decide +kernel
theorem dX6_readClause_1 : decode cX6_readClause 1 = .ok (.getfield 52, 3) := by decide +kernel
theorem dX6_readClause_4 : decode cX6_readClause 4 = .ok (.bipush 12, 2) := by decide +kernel
theorem dX6_readClause_6 : decode cX6_readClause 6 = .ok (.if_icmp .ge 10, 3) := by decide +kernel
theorem dX6_readClause_9 : decode cX6_readClause 9 = .ok (.aload_n 0, 1) := by decide +kernel
theorem dX6_readClause_10 : decode cX6_readClause 10 = .ok (.invokevirtual 111, 3) := by decide +kernel
theorem dX6_readClause_13 : decode cX6_readClause 13 = .ok (.goto 4, 3) := by decide +kernel
theorem dX6_readClause_16 : decode cX6_readClause 16 = .ok (.iconst (-1), 1) := by decide +kernel
theorem dX6_readClause_17 : decode cX6_readClause 17 = .ok (.istore_n 1, 1) := by decide +kernel
theorem dX6_readClause_18 : decode cX6_readClause 18 = .ok (.iload_n 1, 1) := by decide +kernel
theorem dX6_readClause_19 : decode cX6_readClause 19 = .ok (.iconst (-1), 1) := by decide +kernel
theorem dX6_readClause_20 : decode cX6_readClause 20 = .ok (.if_icmp .ne 8, 3) := by decide +kernel
theorem dX6_readClause_23 : decode cX6_readClause 23 = .ok (.aload_n 0, 1) := by decide +kernel
theorem dX6_readClause_24 : decode cX6_readClause 24 = .ok (.invokevirtual 76, 3) := by decide +kernel
theorem dX6_readClause_27 : decode cX6_readClause 27 = .ok (.return_, 1) := by decide +kernel
theorem dX6_readClause_28 : decode cX6_readClause 28 = .ok (.aload_n 0, 1) := by decide +kernel
theorem dX6_readClause_29 : decode cX6_readClause 29 = .ok (.invokevirtual 67, 3) := by decide +kernel
theorem dX6_readClause_32 : decode cX6_readClause 32 = .ok (.aload_n 0, 1) := by decide +kernel
theorem dX6_readClause_33 : decode cX6_readClause 33 = .ok (.getfield 52, 3) := by decide +kernel
theorem dX6_readClause_36 : decode cX6_readClause 36 = .ok (.bipush 6, 2) := by decide +kernel
theorem dX6_readClause_38 : decode cX6_readClause 38 = .ok (.imul, 1) := by decide +kernel
theorem dX6_readClause_39 : decode cX6_readClause 39 = .ok (.istore_n 2, 1) := by decide +kernel
theorem dX6_readClause_40 : decode cX6_readClause 40 = .ok (.aload_n 0, 1) := by decide +kernel
theorem dX6_readClause_41 : decode cX6_readClause 41 = .ok (.dup, 1) := by decide +kernel
theorem dX6_readClause_42 : decode cX6_readClause 42 = .ok (.getfield 52, 3) := by decide +kernel
theorem dX6_readClause_45 : decode cX6_readClause 45 = .ok (.iconst 1, 1) := by decide +kernel
theorem dX6_readClause_46 : decode cX6_readClause 46 = .ok (.iadd, 1) := by decide +kernel
theorem dX6_readClause_47 : decode cX6_readClause 47 = .ok (.putfield 52, 3) := by decide +kernel
theorem dX6_readClause_50 : decode cX6_readClause 50 = .ok (.aload_n 0, 1) := by decide +kernel
theorem dX6_readClause_51 : decode cX6_readClause 51 = .ok (.getfield 26, 3) := by decide +kernel
theorem dX6_readClause_54 : decode cX6_readClause 54 = .ok (.iload_n 2, 1) := by decide +kernel
theorem dX6_readClause_55 : decode cX6_readClause 55 = .ok (.iload_n 1, 1) := by decide +kernel
theorem dX6_readClause_56 : decode cX6_readClause 56 = .ok (.iastore, 1) := by decide +kernel
theorem dX6_readClause_57 : decode cX6_readClause 57 = .ok (.aload_n 0, 1) := by decide +kernel
theorem dX6_readClause_58 : decode cX6_readClause 58 = .ok (.getfield 26, 3) := by decide +kernel
theorem dX6_readClause_61 : decode cX6_readClause 61 = .ok (.iload_n 2, 1) := by decide +kernel
theorem dX6_readClause_62 : decode cX6_readClause 62 = .ok (.iconst 1, 1) := by decide +kernel
theorem dX6_readClause_63 : decode cX6_readClause 63 = .ok (.iadd, 1) := by decide +kernel
theorem dX6_readClause_64 : decode cX6_readClause 64 = .ok (.iconst 1, 1) := by decide +kernel
theorem dX6_readClause_65 : decode cX6_readClause 65 = .ok (.iastore, 1) := by decide +kernel
theorem dX6_readClause_66 : decode cX6_readClause 66 = .ok (.aload_n 0, 1) := by decide +kernel
theorem dX6_readClause_67 : decode cX6_readClause 67 = .ok (.getfield 36, 3) := by decide +kernel
theorem dX6_readClause_70 : decode cX6_readClause 70 = .ok (.ifCond .eq 16, 3) := by decide +kernel
theorem dX6_readClause_73 : decode cX6_readClause 73 = .ok (.iload_n 1, 1) := by decide +kernel
theorem dX6_readClause_74 : decode cX6_readClause 74 = .ok (.iconst 2, 1) := by decide +kernel
theorem dX6_readClause_75 : decode cX6_readClause 75 = .ok (.if_icmp .eq 7, 3) := by decide +kernel
theorem dX6_readClause_78 : decode cX6_readClause 78 = .ok (.iconst 1, 1) := by decide +kernel
theorem dX6_readClause_79 : decode cX6_readClause 79 = .ok (.goto 17, 3) := by decide +kernel
theorem dX6_readClause_82 : decode cX6_readClause 82 = .ok (.iconst 0, 1) := by decide +kernel
theorem dX6_readClause_83 : decode cX6_readClause 83 = .ok (.goto 13, 3) := by decide +kernel
theorem dX6_readClause_86 : decode cX6_readClause 86 = .ok (.iload_n 1, 1) := by decide +kernel
theorem dX6_readClause_87 : decode cX6_readClause 87 = .ok (.iconst 2, 1) := by decide +kernel
theorem dX6_readClause_88 : decode cX6_readClause 88 = .ok (.if_icmp .eq 7, 3) := by decide +kernel
theorem dX6_readClause_91 : decode cX6_readClause 91 = .ok (.iconst 1, 1) := by decide +kernel
theorem dX6_readClause_92 : decode cX6_readClause 92 = .ok (.goto 4, 3) := by decide +kernel
theorem dX6_readClause_95 : decode cX6_readClause 95 = .ok (.iconst 0, 1) := by decide +kernel
theorem dX6_readClause_96 : decode cX6_readClause 96 = .ok (.istore_n 3, 1) := by decide +kernel
theorem dX6_readClause_97 : decode cX6_readClause 97 = .ok (.aload_n 0, 1) := by decide +kernel
theorem dX6_readClause_98 : decode cX6_readClause 98 = .ok (.iload_n 2, 1) := by decide +kernel
theorem dX6_readClause_99 : decode cX6_readClause 99 = .ok (.iconst 0, 1) := by decide +kernel
theorem dX6_readClause_100 : decode cX6_readClause 100 = .ok (.invokevirtual 114, 3) := by decide +kernel
theorem dX6_readClause_103 : decode cX6_readClause 103 = .ok (.iload_n 3, 1) := by decide +kernel
theorem dX6_readClause_104 : decode cX6_readClause 104 = .ok (.ifCond .eq 7, 3) := by decide +kernel
theorem dX6_readClause_107 : decode cX6_readClause 107 = .ok (.aload_n 0, 1) := by decide +kernel
theorem dX6_readClause_108 : decode cX6_readClause 108 = .ok (.invokevirtual 118, 3) := by decide +kernel
theorem dX6_readClause_111 : decode cX6_readClause 111 = .ok (.aload_n 0, 1) := by decide +kernel
theorem dX6_readClause_112 : decode cX6_readClause 112 = .ok (.iload_n 2, 1) := by decide +kernel
theorem dX6_readClause_113 : decode cX6_readClause 113 = .ok (.iconst 1, 1) := by decide +kernel
theorem dX6_readClause_114 : decode cX6_readClause 114 = .ok (.invokevirtual 114, 3) := by decide +kernel
theorem dX6_readClause_117 : decode cX6_readClause 117 = .ok (.iload_n 3, 1) := by decide +kernel
theorem dX6_readClause_118 : decode cX6_readClause 118 = .ok (.ifCond .eq 20, 3) := by decide +kernel
theorem dX6_readClause_121 : decode cX6_readClause 121 = .ok (.aload_n 0, 1) := by decide +kernel
theorem dX6_readClause_122 : decode cX6_readClause 122 = .ok (.getfield 36, 3) := by decide +kernel
theorem dX6_readClause_125 : decode cX6_readClause 125 = .ok (.ifCond .eq 13, 3) := by decide +kernel
theorem dX6_readClause_128 : decode cX6_readClause 128 = .ok (.aload_n 0, 1) := by decide +kernel
theorem dX6_readClause_129 : decode cX6_readClause 129 = .ok (.ldc 121, 2) := by decide +kernel
theorem dX6_readClause_131 : decode cX6_readClause 131 = .ok (.invokevirtual 123, 3) := by decide +kernel
theorem dX6_readClause_134 : decode cX6_readClause 134 = .ok (.aload_n 0, 1) := by decide +kernel
theorem dX6_readClause_135 : decode cX6_readClause 135 = .ok (.invokevirtual 118, 3) := by decide +kernel
theorem dX6_readClause_138 : decode cX6_readClause 138 = .ok (.aload_n 0, 1) := by decide +kernel
theorem dX6_readClause_139 : decode cX6_readClause 139 = .ok (.getfield 36, 3) := by decide +kernel
theorem dX6_readClause_142 : decode cX6_readClause 142 = .ok (.ifCond .eq 31, 3) := by decide +kernel
theorem dX6_readClause_145 : decode cX6_readClause 145 = .ok (.aload_n 0, 1) := by decide +kernel
theorem dX6_readClause_146 : decode cX6_readClause 146 = .ok (.ldc 127, 2) := by decide +kernel
theorem dX6_readClause_148 : decode cX6_readClause 148 = .ok (.invokevirtual 63, 3) := by decide +kernel
theorem dX6_readClause_151 : decode cX6_readClause 151 = .ok (.ifCond .eq 22, 3) := by decide +kernel
theorem dX6_readClause_154 : decode cX6_readClause 154 = .ok (.aload_n 0, 1) := by decide +kernel
theorem dX6_readClause_155 : decode cX6_readClause 155 = .ok (.invokevirtual 67, 3) := by decide +kernel
theorem dX6_readClause_158 : decode cX6_readClause 158 = .ok (.aload_n 0, 1) := by decide +kernel
theorem dX6_readClause_159 : decode cX6_readClause 159 = .ok (.getfield 26, 3) := by decide +kernel
theorem dX6_readClause_162 : decode cX6_readClause 162 = .ok (.iload_n 2, 1) := by decide +kernel
theorem dX6_readClause_163 : decode cX6_readClause 163 = .ok (.iconst 1, 1) := by decide +kernel
theorem dX6_readClause_164 : decode cX6_readClause 164 = .ok (.iadd, 1) := by decide +kernel
theorem dX6_readClause_165 : decode cX6_readClause 165 = .ok (.aload_n 0, 1) := by decide +kernel
theorem dX6_readClause_166 : decode cX6_readClause 166 = .ok (.iconst 1, 1) := by decide +kernel
theorem dX6_readClause_167 : decode cX6_readClause 167 = .ok (.bipush 20, 2) := by decide +kernel
theorem dX6_readClause_169 : decode cX6_readClause 169 = .ok (.invokevirtual 129, 3) := by decide +kernel
theorem dX6_readClause_172 : decode cX6_readClause 172 = .ok (.iastore, 1) := by decide +kernel
theorem dX6_readClause_173 : decode cX6_readClause 173 = .ok (.aload_n 0, 1) := by decide +kernel
theorem dX6_readClause_174 : decode cX6_readClause 174 = .ok (.iload_n 2, 1) := by decide +kernel
theorem dX6_readClause_175 : decode cX6_readClause 175 = .ok (.iconst 2, 1) := by decide +kernel
theorem dX6_readClause_176 : decode cX6_readClause 176 = .ok (.invokevirtual 114, 3) := by decide +kernel
theorem dX6_readClause_179 : decode cX6_readClause 179 = .ok (.aload_n 0, 1) := by decide +kernel
theorem dX6_readClause_180 : decode cX6_readClause 180 = .ok (.ldc 132, 2) := by decide +kernel
theorem dX6_readClause_182 : decode cX6_readClause 182 = .ok (.invokevirtual 63, 3) := by decide +kernel
theorem dX6_readClause_185 : decode cX6_readClause 185 = .ok (.ifCond .eq 11, 3) := by decide +kernel
theorem dX6_readClause_188 : decode cX6_readClause 188 = .ok (.aload_n 0, 1) := by decide +kernel
theorem dX6_readClause_189 : decode cX6_readClause 189 = .ok (.invokevirtual 67, 3) := by decide +kernel
theorem dX6_readClause_192 : decode cX6_readClause 192 = .ok (.aload_n 0, 1) := by decide +kernel
theorem dX6_readClause_193 : decode cX6_readClause 193 = .ok (.invokevirtual 134, 3) := by decide +kernel
theorem dX6_readClause_196 : decode cX6_readClause 196 = .ok (.aload_n 0, 1) := by decide +kernel
theorem dX6_readClause_197 : decode cX6_readClause 197 = .ok (.iload_n 2, 1) := by decide +kernel
theorem dX6_readClause_198 : decode cX6_readClause 198 = .ok (.iconst 3, 1) := by decide +kernel
theorem dX6_readClause_199 : decode cX6_readClause 199 = .ok (.invokevirtual 114, 3) := by decide +kernel
theorem dX6_readClause_202 : decode cX6_readClause 202 = .ok (.return_, 1) := by decide +kernel
def f6_readClause_j196 (S : ph_Sh) (x2 : Int32) (M : ph_Mem) : Option ph_Mem :=
  (f6_startPiece S M x2 (3 : Int32)).bind fun q21 => some q21
set_option maxHeartbeats 4000000 in
theorem jb_f6_readClause_j196 {tb adK adV : Nat → Nat} {S : ph_Sh} {X : ph_X} {ad : Nat → Nat} {o : ph_Mem} (h : ph_ok (ph_ZX tb adK adV) X cX6_readClause RX6 none 4 126 S.2 ad) (fin : ph_fin X S.1 S.2 ad none o) (hS : ph_SX S) : ∀ (x2 : Int32) (M : ph_Mem), ph_J X S.1 S.2 ad o 196 [(0, .ref (ad 63)), (2, .int x2)] [] M (f6_readClause_j196 S x2 M) := by
  intro x2 M
  unfold f6_readClause_j196
  refine j_aload_n h dX6_readClause_196 rfl 0 rfl ?_
  refine j_iload_n h dX6_readClause_197 rfl 1 rfl ?_
  refine j_iconst (v := (3 : Int32)) h dX6_readClause_198 (by decide) ?_
  refine j_callVv (n := 2) (As := [.int x2, .int (3 : Int32)]) (rest := []) h 63 tw_691 tw_693 tp_12 tw_7 tw_694 ydf6_startPiece (by decide) (by decide) (ph_xlt hS (by decide)) (ph_kc63 hS) rfl (fun q hq => cf6_startPiece (ph_okI h) hS hq) rfl (Nat.le_of_ble_eq_true rfl) rfl dX6_readClause_199 (fun q21 => ?_)
  exact j_vret h rfl fin dX6_readClause_202
def f6_readClause_j173 (S : ph_Sh) (x2 : Int32) (M : ph_Mem) : Option ph_Mem :=
  (f6_startPiece S M x2 (2 : Int32)).bind fun q17 => (f6_says S q17 30).bind fun q18 => if q18 = 0 then (f6_readClause_j196 S x2 q17) else ((f6_advance S q17 ).bind fun q19 => (f6_readTest S q19 ).bind fun q20 => f6_readClause_j196 S x2 q20)
set_option maxHeartbeats 4000000 in
theorem jb_f6_readClause_j173 {tb adK adV : Nat → Nat} {S : ph_Sh} {X : ph_X} {ad : Nat → Nat} {o : ph_Mem} (h : ph_ok (ph_ZX tb adK adV) X cX6_readClause RX6 none 4 126 S.2 ad) (fin : ph_fin X S.1 S.2 ad none o) (hS : ph_SX S) : ∀ (x2 : Int32) (M : ph_Mem), ph_J X S.1 S.2 ad o 173 [(0, .ref (ad 63)), (2, .int x2)] [] M (f6_readClause_j173 S x2 M) := by
  intro x2 M
  unfold f6_readClause_j173
  refine j_aload_n h dX6_readClause_173 rfl 0 rfl ?_
  refine j_iload_n h dX6_readClause_174 rfl 1 rfl ?_
  refine j_iconst (v := (2 : Int32)) h dX6_readClause_175 (by decide) ?_
  refine j_callVv (n := 2) (As := [.int x2, .int (2 : Int32)]) (rest := []) h 63 tw_691 tw_693 tp_12 tw_7 tw_694 ydf6_startPiece (by decide) (by decide) (ph_xlt hS (by decide)) (ph_kc63 hS) rfl (fun q hq => cf6_startPiece (ph_okI h) hS hq) rfl (Nat.le_of_ble_eq_true rfl) rfl dX6_readClause_176 (fun q17 => ?_)
  refine j_aload_n h dX6_readClause_179 rfl 0 rfl ?_
  refine j_ldcs h 30 (by decide) rfl rfl dX6_readClause_180 ?_
  refine j_callViP (n := 1) (As := [.ref (adK 30)]) (rest := []) h 63 tw_626 tw_628 tp_9 tw_7 tw_629 ydf6_says (by decide) (by decide) (ph_xlt hS (by decide)) (ph_kc63 hS) rfl (fun q hq => cf6_says (ph_okI h) hS (by decide) hq) rfl (Nat.le_of_ble_eq_true rfl) rfl dX6_readClause_182 (fun q18 => ?_)
  refine j_if_eq h 196 dX6_readClause_185 (by decide) ?_ ?_
  · refine j_sub [0, 1] rfl ?_
    exact jb_f6_readClause_j196 h fin hS x2 q17
  · refine j_aload_n h dX6_readClause_188 rfl 0 rfl ?_
    refine j_callVv (n := 0) (As := []) (rest := []) h 63 tw_686 tw_688 tp_11 tw_7 tw_689 ydf6_advance (by decide) (by decide) (ph_xlt hS (by decide)) (ph_kc63 hS) rfl (fun q hq => cf6_advance (ph_okI h) hS hq) rfl (Nat.le_of_ble_eq_true rfl) rfl dX6_readClause_189 (fun q19 => ?_)
    refine j_aload_n h dX6_readClause_192 rfl 0 rfl ?_
    refine j_callVv (n := 0) (As := []) (rest := []) h 63 tw_760 tw_762 tp_23 tw_7 tw_763 ydf6_readTest (by decide) (by decide) (ph_xlt hS (by decide)) (ph_kc63 hS) rfl (fun q hq => cf6_readTest (ph_okI h) hS hq) rfl (Nat.le_of_ble_eq_true rfl) rfl dX6_readClause_193 (fun q20 => ?_)
    refine j_sub [0, 1] rfl ?_
    exact jb_f6_readClause_j196 h fin hS x2 q20
def f6_readClause_j138 (S : ph_Sh) (x2 : Int32) (M : ph_Mem) : Option ph_Mem :=
  if (M.1 63 3) = 0 then (f6_readClause_j173 S x2 M) else ((f6_says S M 29).bind fun q13 => if q13 = 0 then (f6_readClause_j173 S x2 M) else ((f6_advance S M ).bind fun q14 => (f6_readNumber S q14 (1 : Int32) (20 : Int32)).bind fun q15 => cond (ph_ib (x2 + (1 : Int32)) 72) (ph_let (ph_wi q15.2 68 (x2 + (1 : Int32)).toNatClampNeg q15.1) fun M16 => f6_readClause_j173 S x2 M16) none))
set_option maxHeartbeats 4000000 in
theorem jb_f6_readClause_j138 {tb adK adV : Nat → Nat} {S : ph_Sh} {X : ph_X} {ad : Nat → Nat} {o : ph_Mem} (h : ph_ok (ph_ZX tb adK adV) X cX6_readClause RX6 none 4 126 S.2 ad) (fin : ph_fin X S.1 S.2 ad none o) (hS : ph_SX S) : ∀ (x2 : Int32) (M : ph_Mem), ph_J X S.1 S.2 ad o 138 [(0, .ref (ad 63)), (2, .int x2)] [] M (f6_readClause_j138 S x2 M) := by
  intro x2 M
  unfold f6_readClause_j138
  refine j_aload_n h dX6_readClause_138 rfl 0 rfl ?_
  refine j_get (c := 63) (j := 3) (v := .int (M.1 63 3)) h (ph_xlt hS (by decide)) (ph_kc63 hS) rfl ph_inX6 rfl (by decide) tw_172 rfl rfl dX6_readClause_139 ?_
  refine j_if_eq h 173 dX6_readClause_142 (by decide) ?_ ?_
  · refine j_sub [0, 1] rfl ?_
    exact jb_f6_readClause_j173 h fin hS x2 M
  · refine j_aload_n h dX6_readClause_145 rfl 0 rfl ?_
    refine j_ldcs h 29 (by decide) rfl rfl dX6_readClause_146 ?_
    refine j_callViP (n := 1) (As := [.ref (adK 29)]) (rest := []) h 63 tw_626 tw_628 tp_9 tw_7 tw_629 ydf6_says (by decide) (by decide) (ph_xlt hS (by decide)) (ph_kc63 hS) rfl (fun q hq => cf6_says (ph_okI h) hS (by decide) hq) rfl (Nat.le_of_ble_eq_true rfl) rfl dX6_readClause_148 (fun q13 => ?_)
    refine j_if_eq h 173 dX6_readClause_151 (by decide) ?_ ?_
    · refine j_sub [0, 1] rfl ?_
      exact jb_f6_readClause_j173 h fin hS x2 M
    · refine j_aload_n h dX6_readClause_154 rfl 0 rfl ?_
      refine j_callVv (n := 0) (As := []) (rest := []) h 63 tw_686 tw_688 tp_11 tw_7 tw_689 ydf6_advance (by decide) (by decide) (ph_xlt hS (by decide)) (ph_kc63 hS) rfl (fun q hq => cf6_advance (ph_okI h) hS hq) rfl (Nat.le_of_ble_eq_true rfl) rfl dX6_readClause_155 (fun q14 => ?_)
      refine j_aload_n h dX6_readClause_158 rfl 0 rfl ?_
      refine j_get (c := 63) (j := 12) (v := .ref (ad 68)) h (ph_xlt hS (by decide)) (ph_kc63 hS) rfl ph_inX6 rfl (by decide) tw_181 rfl rfl dX6_readClause_159 ?_
      refine j_iload_n h dX6_readClause_162 rfl 1 rfl ?_
      refine j_iconst (v := (1 : Int32)) h dX6_readClause_163 (by decide) ?_
      refine j_iadd h dX6_readClause_164 ?_
      refine j_aload_n h dX6_readClause_165 rfl 0 rfl ?_
      refine j_iconst (v := (1 : Int32)) h dX6_readClause_166 (by decide) ?_
      refine j_bipush (v := (20 : Int32)) h dX6_readClause_167 (by decide) ?_
      refine j_callVi (n := 2) (As := [.int (1 : Int32), .int (20 : Int32)]) (rest := [.int (x2 + (1 : Int32)), .ref (ad 68)]) h 63 tw_744 tw_746 tp_21 tw_7 tw_747 ydf6_readNumber (by decide) (by decide) (ph_xlt hS (by decide)) (ph_kc63 hS) rfl (fun q hq => cf6_readNumber (ph_okI h) hS hq) rfl (Nat.le_of_ble_eq_true rfl) rfl dX6_readClause_169 (fun q15 => ?_)
      refine j_iast (c := 68) (n := 72) h (ph_xlt hS (by decide)) (ph_kc68 hS) dX6_readClause_172 ?_
      refine j_letM (fun M16 => ?_)
      refine j_sub [0, 1] rfl ?_
      exact jb_f6_readClause_j173 h fin hS x2 M16
def f6_readClause_j111 (S : ph_Sh) (x2 : Int32) (x3 : Int32) (M : ph_Mem) : Option ph_Mem :=
  (f6_startPiece S M x2 (1 : Int32)).bind fun q10 => if x3 = 0 then (f6_readClause_j138 S x2 q10) else (if (q10.1 63 3) = 0 then (f6_readClause_j138 S x2 q10) else ((f6_expect S q10 28).bind fun q11 => (f6_readSum S q11 ).bind fun q12 => f6_readClause_j138 S x2 q12))
set_option maxHeartbeats 4000000 in
theorem jb_f6_readClause_j111 {tb adK adV : Nat → Nat} {S : ph_Sh} {X : ph_X} {ad : Nat → Nat} {o : ph_Mem} (h : ph_ok (ph_ZX tb adK adV) X cX6_readClause RX6 none 4 126 S.2 ad) (fin : ph_fin X S.1 S.2 ad none o) (hS : ph_SX S) : ∀ (x2 : Int32) (x3 : Int32) (M : ph_Mem), ph_J X S.1 S.2 ad o 111 [(0, .ref (ad 63)), (2, .int x2), (3, .int x3)] [] M (f6_readClause_j111 S x2 x3 M) := by
  intro x2 x3 M
  unfold f6_readClause_j111
  refine j_aload_n h dX6_readClause_111 rfl 0 rfl ?_
  refine j_iload_n h dX6_readClause_112 rfl 1 rfl ?_
  refine j_iconst (v := (1 : Int32)) h dX6_readClause_113 (by decide) ?_
  refine j_callVv (n := 2) (As := [.int x2, .int (1 : Int32)]) (rest := []) h 63 tw_691 tw_693 tp_12 tw_7 tw_694 ydf6_startPiece (by decide) (by decide) (ph_xlt hS (by decide)) (ph_kc63 hS) rfl (fun q hq => cf6_startPiece (ph_okI h) hS hq) rfl (Nat.le_of_ble_eq_true rfl) rfl dX6_readClause_114 (fun q10 => ?_)
  refine j_iload_n h dX6_readClause_117 rfl 2 rfl ?_
  refine j_if_eq h 138 dX6_readClause_118 (by decide) ?_ ?_
  · refine j_sub [0, 1] rfl ?_
    exact jb_f6_readClause_j138 h fin hS x2 q10
  · refine j_aload_n h dX6_readClause_121 rfl 0 rfl ?_
    refine j_get (c := 63) (j := 3) (v := .int (q10.1 63 3)) h (ph_xlt hS (by decide)) (ph_kc63 hS) rfl ph_inX6 rfl (by decide) tw_172 rfl rfl dX6_readClause_122 ?_
    refine j_if_eq h 138 dX6_readClause_125 (by decide) ?_ ?_
    · refine j_sub [0, 1] rfl ?_
      exact jb_f6_readClause_j138 h fin hS x2 q10
    · refine j_aload_n h dX6_readClause_128 rfl 0 rfl ?_
      refine j_ldcs h 28 (by decide) rfl rfl dX6_readClause_129 ?_
      refine j_callVv (n := 1) (As := [.ref (adK 28)]) (rest := []) h 63 tw_713 tw_715 tp_17 tw_7 tw_716 ydf6_expect (by decide) (by decide) (ph_xlt hS (by decide)) (ph_kc63 hS) rfl (fun q hq => cf6_expect (ph_okI h) hS (by decide) hq) rfl (Nat.le_of_ble_eq_true rfl) rfl dX6_readClause_131 (fun q11 => ?_)
      refine j_aload_n h dX6_readClause_134 rfl 0 rfl ?_
      refine j_callVv (n := 0) (As := []) (rest := []) h 63 tw_695 tw_697 tp_13 tw_7 tw_698 ydf6_readSum (by decide) (by decide) (ph_xlt hS (by decide)) (ph_kc63 hS) rfl (fun q hq => cf6_readSum (ph_okI h) hS hq) rfl (Nat.le_of_ble_eq_true rfl) rfl dX6_readClause_135 (fun q12 => ?_)
      refine j_sub [0, 1] rfl ?_
      exact jb_f6_readClause_j138 h fin hS x2 q12
def f6_readClause_j96 (S : ph_Sh) (x2 : Int32) (s0 : Int32) (M : ph_Mem) : Option ph_Mem :=
  (f6_startPiece S M x2 (0 : Int32)).bind fun q8 => if s0 = 0 then (f6_readClause_j111 S x2 s0 q8) else ((f6_readSum S q8 ).bind fun q9 => f6_readClause_j111 S x2 s0 q9)
set_option maxHeartbeats 4000000 in
theorem jb_f6_readClause_j96 {tb adK adV : Nat → Nat} {S : ph_Sh} {X : ph_X} {ad : Nat → Nat} {o : ph_Mem} (h : ph_ok (ph_ZX tb adK adV) X cX6_readClause RX6 none 4 126 S.2 ad) (fin : ph_fin X S.1 S.2 ad none o) (hS : ph_SX S) : ∀ (x2 : Int32) (s0 : Int32) (M : ph_Mem), ph_J X S.1 S.2 ad o 96 [(0, .ref (ad 63)), (2, .int x2)] [.int s0] M (f6_readClause_j96 S x2 s0 M) := by
  intro x2 s0 M
  unfold f6_readClause_j96
  refine j_istore_n h [(3, .int s0), (0, .ref (ad 63)), (2, .int x2)] dX6_readClause_96 rfl (by decide) rfl ?_
  refine j_aload_n h dX6_readClause_97 rfl 1 rfl ?_
  refine j_iload_n h dX6_readClause_98 rfl 2 rfl ?_
  refine j_iconst (v := (0 : Int32)) h dX6_readClause_99 (by decide) ?_
  refine j_callVv (n := 2) (As := [.int x2, .int (0 : Int32)]) (rest := []) h 63 tw_691 tw_693 tp_12 tw_7 tw_694 ydf6_startPiece (by decide) (by decide) (ph_xlt hS (by decide)) (ph_kc63 hS) rfl (fun q hq => cf6_startPiece (ph_okI h) hS hq) rfl (Nat.le_of_ble_eq_true rfl) rfl dX6_readClause_100 (fun q8 => ?_)
  refine j_iload_n h dX6_readClause_103 rfl 0 rfl ?_
  refine j_if_eq h 111 dX6_readClause_104 (by decide) ?_ ?_
  · refine j_sub [1, 2, 0] rfl ?_
    exact jb_f6_readClause_j111 h fin hS x2 s0 q8
  · refine j_aload_n h dX6_readClause_107 rfl 1 rfl ?_
    refine j_callVv (n := 0) (As := []) (rest := []) h 63 tw_695 tw_697 tp_13 tw_7 tw_698 ydf6_readSum (by decide) (by decide) (ph_xlt hS (by decide)) (ph_kc63 hS) rfl (fun q hq => cf6_readSum (ph_okI h) hS hq) rfl (Nat.le_of_ble_eq_true rfl) rfl dX6_readClause_108 (fun q9 => ?_)
    refine j_sub [1, 2, 0] rfl ?_
    exact jb_f6_readClause_j111 h fin hS x2 s0 q9
def f6_readClause_j17 (S : ph_Sh) (s0 : Int32) (M : ph_Mem) : Option ph_Mem :=
  if s0 = (-1 : Int32) then ((f6_fail S M ).bind fun q7 => some q7) else ((f6_advance S M ).bind fun q2 => ph_let ((q2.1 63 11) * (6 : Int32)) fun z3 => ph_let (ph_wi q2 63 11 ((q2.1 63 11) + (1 : Int32))) fun M4 => cond (ph_ib z3 72) (ph_let (ph_wi M4 68 z3.toNatClampNeg s0) fun M5 => cond (ph_ib (z3 + (1 : Int32)) 72) (ph_let (ph_wi M5 68 (z3 + (1 : Int32)).toNatClampNeg (1 : Int32)) fun M6 => if (M6.1 63 3) = 0 then (if s0 = (2 : Int32) then (f6_readClause_j96 S z3 (0 : Int32) M6) else (f6_readClause_j96 S z3 (1 : Int32) M6)) else (if s0 = (2 : Int32) then (f6_readClause_j96 S z3 (0 : Int32) M6) else (f6_readClause_j96 S z3 (1 : Int32) M6))) none) none)
set_option maxHeartbeats 4000000 in
theorem jb_f6_readClause_j17 {tb adK adV : Nat → Nat} {S : ph_Sh} {X : ph_X} {ad : Nat → Nat} {o : ph_Mem} (h : ph_ok (ph_ZX tb adK adV) X cX6_readClause RX6 none 4 126 S.2 ad) (fin : ph_fin X S.1 S.2 ad none o) (hS : ph_SX S) : ∀ (s0 : Int32) (M : ph_Mem), ph_J X S.1 S.2 ad o 17 [(0, .ref (ad 63))] [.int s0] M (f6_readClause_j17 S s0 M) := by
  intro s0 M
  unfold f6_readClause_j17
  refine j_istore_n h [(1, .int s0), (0, .ref (ad 63))] dX6_readClause_17 rfl (by decide) rfl ?_
  refine j_iload_n h dX6_readClause_18 rfl 0 rfl ?_
  refine j_iconst (v := (-1 : Int32)) h dX6_readClause_19 (by decide) ?_
  refine j_icmp_ne h 28 dX6_readClause_20 (by decide) ?_ ?_
  · refine j_aload_n h dX6_readClause_28 rfl 1 rfl ?_
    refine j_callVv (n := 0) (As := []) (rest := []) h 63 tw_686 tw_688 tp_11 tw_7 tw_689 ydf6_advance (by decide) (by decide) (ph_xlt hS (by decide)) (ph_kc63 hS) rfl (fun q hq => cf6_advance (ph_okI h) hS hq) rfl (Nat.le_of_ble_eq_true rfl) rfl dX6_readClause_29 (fun q2 => ?_)
    refine j_aload_n h dX6_readClause_32 rfl 1 rfl ?_
    refine j_get (c := 63) (j := 11) (v := .int (q2.1 63 11)) h (ph_xlt hS (by decide)) (ph_kc63 hS) rfl ph_inX6 rfl (by decide) tw_180 rfl rfl dX6_readClause_33 ?_
    refine j_bipush (v := (6 : Int32)) h dX6_readClause_36 (by decide) ?_
    refine j_imul h dX6_readClause_38 ?_
    refine j_istore_n h [(2, .int ((q2.1 63 11) * (6 : Int32))), (1, .int s0), (0, .ref (ad 63))] dX6_readClause_39 rfl (by decide) rfl ?_
    refine j_letI (lvf := fun z3 => [(2, .int z3), (1, .int s0), (0, .ref (ad 63))]) (fun z3 => ?_)
    refine j_aload_n h dX6_readClause_40 rfl 2 rfl ?_
    refine j_dup h dX6_readClause_41 rfl ?_
    refine j_get (c := 63) (j := 11) (v := .int (q2.1 63 11)) h (ph_xlt hS (by decide)) (ph_kc63 hS) rfl ph_inX6 rfl (by decide) tw_180 rfl rfl dX6_readClause_42 ?_
    refine j_iconst (v := (1 : Int32)) h dX6_readClause_45 (by decide) ?_
    refine j_iadd h dX6_readClause_46 ?_
    refine j_puti (c := 63) (j := 11) (ty := .int) h (ph_xlt hS (by decide)) (ph_kc63 hS) rfl ph_inX6 tyX6 tyX6_ok nmX6 rfl (by decide) tw_180 rfl rfl (tyX6_ok 11 (by decide)) rfl rfl dX6_readClause_47 ?_
    refine j_letM (fun M4 => ?_)
    refine j_aload_n h dX6_readClause_50 rfl 2 rfl ?_
    refine j_get (c := 63) (j := 12) (v := .ref (ad 68)) h (ph_xlt hS (by decide)) (ph_kc63 hS) rfl ph_inX6 rfl (by decide) tw_181 rfl rfl dX6_readClause_51 ?_
    refine j_iload_n h dX6_readClause_54 rfl 0 rfl ?_
    refine j_iload_n h dX6_readClause_55 rfl 1 rfl ?_
    refine j_iast (c := 68) (n := 72) h (ph_xlt hS (by decide)) (ph_kc68 hS) dX6_readClause_56 ?_
    refine j_letM (fun M5 => ?_)
    refine j_aload_n h dX6_readClause_57 rfl 2 rfl ?_
    refine j_get (c := 63) (j := 12) (v := .ref (ad 68)) h (ph_xlt hS (by decide)) (ph_kc63 hS) rfl ph_inX6 rfl (by decide) tw_181 rfl rfl dX6_readClause_58 ?_
    refine j_iload_n h dX6_readClause_61 rfl 0 rfl ?_
    refine j_iconst (v := (1 : Int32)) h dX6_readClause_62 (by decide) ?_
    refine j_iadd h dX6_readClause_63 ?_
    refine j_iconst (v := (1 : Int32)) h dX6_readClause_64 (by decide) ?_
    refine j_iast (c := 68) (n := 72) h (ph_xlt hS (by decide)) (ph_kc68 hS) dX6_readClause_65 ?_
    refine j_letM (fun M6 => ?_)
    refine j_aload_n h dX6_readClause_66 rfl 2 rfl ?_
    refine j_get (c := 63) (j := 3) (v := .int (M6.1 63 3)) h (ph_xlt hS (by decide)) (ph_kc63 hS) rfl ph_inX6 rfl (by decide) tw_172 rfl rfl dX6_readClause_67 ?_
    refine j_if_eq h 86 dX6_readClause_70 (by decide) ?_ ?_
    · refine j_iload_n h dX6_readClause_86 rfl 1 rfl ?_
      refine j_iconst (v := (2 : Int32)) h dX6_readClause_87 (by decide) ?_
      refine j_icmp_eq h 95 dX6_readClause_88 (by decide) ?_ ?_
      · refine j_iconst (v := (0 : Int32)) h dX6_readClause_95 (by decide) ?_
        refine j_sub [2, 0] rfl ?_
        exact jb_f6_readClause_j96 h fin hS z3 (0 : Int32) M6
      · refine j_iconst (v := (1 : Int32)) h dX6_readClause_91 (by decide) ?_
        refine j_goto h 96 dX6_readClause_92 (by decide) ?_
        refine j_sub [2, 0] rfl ?_
        exact jb_f6_readClause_j96 h fin hS z3 (1 : Int32) M6
    · refine j_iload_n h dX6_readClause_73 rfl 1 rfl ?_
      refine j_iconst (v := (2 : Int32)) h dX6_readClause_74 (by decide) ?_
      refine j_icmp_eq h 82 dX6_readClause_75 (by decide) ?_ ?_
      · refine j_iconst (v := (0 : Int32)) h dX6_readClause_82 (by decide) ?_
        refine j_goto h 96 dX6_readClause_83 (by decide) ?_
        refine j_sub [2, 0] rfl ?_
        exact jb_f6_readClause_j96 h fin hS z3 (0 : Int32) M6
      · refine j_iconst (v := (1 : Int32)) h dX6_readClause_78 (by decide) ?_
        refine j_goto h 96 dX6_readClause_79 (by decide) ?_
        refine j_sub [2, 0] rfl ?_
        exact jb_f6_readClause_j96 h fin hS z3 (1 : Int32) M6
  · refine j_aload_n h dX6_readClause_23 rfl 1 rfl ?_
    refine j_callVv (n := 0) (As := []) (rest := []) h 63 tw_682 tw_684 tp_10 tw_7 tw_685 ydf6_fail (by decide) (by decide) (ph_xlt hS (by decide)) (ph_kc63 hS) rfl (fun q hq => cf6_fail (ph_okI h) hS hq) rfl (Nat.le_of_ble_eq_true rfl) rfl dX6_readClause_24 (fun q7 => ?_)
    exact j_vret h rfl fin dX6_readClause_27
theorem ydf6_readClause : ph_yd yX6_readClause 0 := ⟨by decide, by decide, by decide +kernel⟩
def f6_readClause (S : ph_Sh) (M : ph_Mem) : Option ph_Mem :=
  if (12 : Int32) ≤ (M.1 63 11) then (f6_readClause_j17 S (-1 : Int32) M) else ((f6_kindHere S M ).bind fun q1 => f6_readClause_j17 S q1 M)
set_option maxHeartbeats 4000000 in
theorem cf6_readClause {tb adK adV : Nat → Nat} {S : ph_Sh} {l : Launch} {D : va_G} {cA : Nat → ClassId} {ad : Nat → Nat} (hinj : ∀ i j, i < S.2 → j < S.2 → ad i = ad j → i = j) (hS : ph_SX S) {M : ph_Mem} {M' : ph_Mem} (hf : f6_readClause S M  = some M') : ph_C (ph_ZX tb adK adV) l 126 yX6_readClause cX6_readClause 4 none D cA S.1 S.2 ad [.ref (ad 63)] M none M' := by
  refine ph_mk ph_ZX_ok hinj (by decide) (Nat.le_of_ble_eq_true rfl) fun X h fin hE => ?_
  refine (?_ : ph_J X S.1 S.2 ad (M' : ph_Mem) 0 [(0, .ref (ad 63))] [] M (f6_readClause S M )) hf
  unfold f6_readClause
  refine j_aload_n h dX6_readClause_0 rfl 0 rfl ?_
  refine j_get (c := 63) (j := 11) (v := .int (M.1 63 11)) h (ph_xlt hS (by decide)) (ph_kc63 hS) rfl ph_inX6 rfl (by decide) tw_180 rfl rfl dX6_readClause_1 ?_
  refine j_bipush (v := (12 : Int32)) h dX6_readClause_4 (by decide) ?_
  refine j_icmp_ge h 16 dX6_readClause_6 (by decide) ?_ ?_
  · refine j_iconst (v := (-1 : Int32)) h dX6_readClause_16 (by decide) ?_
    refine j_sub [0] rfl ?_
    exact jb_f6_readClause_j17 h fin hS (-1 : Int32) M
  · refine j_aload_n h dX6_readClause_9 rfl 0 rfl ?_
    refine j_callViP (n := 0) (As := []) (rest := []) h 63 tw_620 tw_622 tp_8 tw_7 tw_623 ydf6_kindHere (by decide) (by decide) (ph_xlt hS (by decide)) (ph_kc63 hS) rfl (fun q hq => cf6_kindHere (ph_okI h) hS hq) rfl (Nat.le_of_ble_eq_true rfl) rfl dX6_readClause_10 (fun q1 => ?_)
    refine j_goto h 17 dX6_readClause_13 (by decide) ?_
    refine j_sub [0] rfl ?_
    exact jb_f6_readClause_j17 h fin hS q1 M
theorem dX9_hoursThatAre_0 : decode cX9_hoursThatAre 0 = .ok (.iconst 0, 1) := by decide +kernel
theorem dX9_hoursThatAre_1 : decode cX9_hoursThatAre 1 = .ok (.istore_n 3, 1) := by decide +kernel
theorem dX9_hoursThatAre_2 : decode cX9_hoursThatAre 2 = .ok (.iconst 0, 1) := by decide +kernel
theorem dX9_hoursThatAre_3 : decode cX9_hoursThatAre 3 = .ok (.istore 4, 2) := by decide +kernel
theorem dX9_hoursThatAre_5 : decode cX9_hoursThatAre 5 = .ok (.iload 4, 2) := by decide +kernel
theorem dX9_hoursThatAre_7 : decode cX9_hoursThatAre 7 = .ok (.bipush 12, 2) := by decide +kernel
theorem dX9_hoursThatAre_9 : decode cX9_hoursThatAre 9 = .ok (.if_icmp .ge 31, 3) := by decide +kernel
theorem dX9_hoursThatAre_12 : decode cX9_hoursThatAre 12 = .ok (.aload_n 0, 1) := by decide +kernel
theorem dX9_hoursThatAre_13 : decode cX9_hoursThatAre 13 = .ok (.getfield 24, 3) := by decide +kernel
theorem dX9_hoursThatAre_16 : decode cX9_hoursThatAre 16 = .ok (.iload_n 2, 1) := by decide +kernel
theorem dX9_hoursThatAre_17 : decode cX9_hoursThatAre 17 = .ok (.iload 4, 2) := by decide +kernel
theorem dX9_hoursThatAre_19 : decode cX9_hoursThatAre 19 = .ok (.invokestatic 88, 3) := by decide +kernel
theorem dX9_hoursThatAre_22 : decode cX9_hoursThatAre 22 = .ok (.iaload, 1) := by decide +kernel
theorem dX9_hoursThatAre_23 : decode cX9_hoursThatAre 23 = .ok (.iload_n 1, 1) := by decide +kernel
theorem dX9_hoursThatAre_24 : decode cX9_hoursThatAre 24 = .ok (.if_icmp .ne 10, 3) := by decide +kernel
theorem dX9_hoursThatAre_27 : decode cX9_hoursThatAre 27 = .ok (.iload_n 3, 1) := by decide +kernel
theorem dX9_hoursThatAre_28 : decode cX9_hoursThatAre 28 = .ok (.iconst 1, 1) := by decide +kernel
theorem dX9_hoursThatAre_29 : decode cX9_hoursThatAre 29 = .ok (.iload 4, 2) := by decide +kernel
theorem dX9_hoursThatAre_31 : decode cX9_hoursThatAre 31 = .ok (.ishl, 1) := by decide +kernel
theorem dX9_hoursThatAre_32 : decode cX9_hoursThatAre 32 = .ok (.ior, 1) := by decide +kernel
theorem dX9_hoursThatAre_33 : decode cX9_hoursThatAre 33 = .ok (.istore_n 3, 1) := by decide +kernel
theorem dX9_hoursThatAre_34 : decode cX9_hoursThatAre 34 = .ok (.iinc 4 1, 3) := by decide +kernel
theorem dX9_hoursThatAre_37 : decode cX9_hoursThatAre 37 = .ok (.goto (-32), 3) := by decide +kernel
theorem dX9_hoursThatAre_40 : decode cX9_hoursThatAre 40 = .ok (.iload_n 3, 1) := by decide +kernel
theorem dX9_hoursThatAre_41 : decode cX9_hoursThatAre 41 = .ok (.ireturn, 1) := by decide +kernel
def f9_hoursThatAre_j34 (S : ph_Sh) (c : Nat) (M : ph_Mem) (rc5 : Int32 → Int32 → Int32 → Int32 → Option Int32) (x1 : Int32) (x2 : Int32) (x3 : Int32) (x4 : Int32) : Option Int32 :=
  rc5 x1 x2 x3 (x4 + (1 : Int32))
set_option maxHeartbeats 4000000 in
theorem jb_f9_hoursThatAre_j34 {tb adK adV : Nat → Nat} {S : ph_Sh} {c : Nat} {X : ph_X} {ad : Nat → Nat} {o : Int32} {M : ph_Mem} (h : ph_ok (ph_ZX tb adK adV) X cX9_hoursThatAre RX9 (some .int) 5 1 S.2 ad) (fin : ph_fin X S.1 S.2 ad (some (.int o)) M) (hS : ph_SX S) (hc : ph_isS c) {rc5 : Int32 → Int32 → Int32 → Int32 → Option Int32} (hrc5 : ∀ (x1 : Int32) (x2 : Int32) (x3 : Int32) (x4 : Int32), ph_J X S.1 S.2 ad o 5 [(0, .ref (ad c)), (1, .int x1), (2, .int x2), (3, .int x3), (4, .int x4)] [] M (rc5 x1 x2 x3 x4)) : ∀ (x1 : Int32) (x2 : Int32) (x3 : Int32) (x4 : Int32), ph_J X S.1 S.2 ad o 34 [(0, .ref (ad c)), (1, .int x1), (2, .int x2), (3, .int x3), (4, .int x4)] [] M (f9_hoursThatAre_j34 S c M rc5 x1 x2 x3 x4) := by
  intro x1 x2 x3 x4
  unfold f9_hoursThatAre_j34
  refine j_iinc h [(4, .int (x4 + (1 : Int32))), (0, .ref (ad c)), (1, .int x1), (2, .int x2), (3, .int x3)] dX9_hoursThatAre_34 4 rfl rfl (by decide) rfl ?_
  refine j_goto h 5 dX9_hoursThatAre_37 (by decide) ?_
  refine j_sub [1, 2, 3, 4, 0] rfl ?_
  exact hrc5 x1 x2 x3 (x4 + (1 : Int32))
def f9_hoursThatAre_l5 (S : ph_Sh) (c : Nat) (M : ph_Mem) : Nat → Int32 → Int32 → Int32 → Int32 → Option Int32
  | 0, _, _, _, _ => none
  | n + 1, x1, x2, x3, x4 => if (12 : Int32) ≤ x4 then (some x3) else ((f11_placeOf S M x2 x4).bind fun q1 => cond (ph_ib q1 72) (if (M.1 (c + 5) q1.toNatClampNeg) = x1 then (ph_let (x3 ||| ((1 : Int32) <<< (x4 &&& 31))) fun z2 => f9_hoursThatAre_j34 S c M (f9_hoursThatAre_l5 S c M n) x1 x2 z2 x4) else (f9_hoursThatAre_j34 S c M (f9_hoursThatAre_l5 S c M n) x1 x2 x3 x4)) none)
set_option maxHeartbeats 4000000 in
theorem jb_f9_hoursThatAre_l5 {tb adK adV : Nat → Nat} {S : ph_Sh} {c : Nat} {X : ph_X} {ad : Nat → Nat} {o : Int32} {M : ph_Mem} (h : ph_ok (ph_ZX tb adK adV) X cX9_hoursThatAre RX9 (some .int) 5 1 S.2 ad) (fin : ph_fin X S.1 S.2 ad (some (.int o)) M) (hS : ph_SX S) (hc : ph_isS c) : ∀ (n : Nat) (x1 : Int32) (x2 : Int32) (x3 : Int32) (x4 : Int32), ph_J X S.1 S.2 ad o 5 [(0, .ref (ad c)), (1, .int x1), (2, .int x2), (3, .int x3), (4, .int x4)] [] M (f9_hoursThatAre_l5 S c M n x1 x2 x3 x4) := by
  intro n
  induction n with
  | zero => intro x1 x2 x3 x4; exact j_none
  | succ n hrc5 =>
    intro x1 x2 x3 x4
    unfold f9_hoursThatAre_l5
    refine j_iload h dX9_hoursThatAre_5 4 rfl ?_
    refine j_bipush (v := (12 : Int32)) h dX9_hoursThatAre_7 (by decide) ?_
    refine j_icmp_ge h 40 dX9_hoursThatAre_9 (by decide) ?_ ?_
    · refine j_iload_n h dX9_hoursThatAre_40 rfl 3 rfl ?_
      exact j_iretP h rfl fin dX9_hoursThatAre_41
    · refine j_aload_n h dX9_hoursThatAre_12 rfl 0 rfl ?_
      refine j_get (c := c) (j := 6) (v := .ref (ad (c + 5))) h (ph_S0n hS hc) (ph_S0 hS hc) rfl ph_inX9 rfl (by decide) tw_84 rfl rfl dX9_hoursThatAre_13 ?_
      refine j_iload_n h dX9_hoursThatAre_16 rfl 2 rfl ?_
      refine j_iload h dX9_hoursThatAre_17 4 rfl ?_
      refine j_callNiP (n := 2) (As := [.int x2, .int x4]) (rest := [.ref (ad (c + 5))]) h (by decide +kernel) tw_461 tw_1 tw_462 ydf11_placeOf (by decide) (by decide) (fun q hq => cf11_placeOf (ph_okI h) hS hq) rfl (Nat.le_of_ble_eq_true rfl) rfl dX9_hoursThatAre_19 (fun q1 => ?_)
      refine j_iald (c := (c + 5)) (n := 72) h (ph_S5n hS hc) (ph_S5 hS hc) dX9_hoursThatAre_22 ?_
      refine j_iload_n h dX9_hoursThatAre_23 rfl 1 rfl ?_
      refine j_icmp_ne h 34 dX9_hoursThatAre_24 (by decide) ?_ ?_
      · refine j_sub [0, 1, 2, 3, 4] rfl ?_
        exact jb_f9_hoursThatAre_j34 h fin hS hc hrc5 x1 x2 x3 x4
      · refine j_iload_n h dX9_hoursThatAre_27 rfl 3 rfl ?_
        refine j_iconst (v := (1 : Int32)) h dX9_hoursThatAre_28 (by decide) ?_
        refine j_iload h dX9_hoursThatAre_29 4 rfl ?_
        refine j_ishl h dX9_hoursThatAre_31 ?_
        refine j_ior h dX9_hoursThatAre_32 ?_
        refine j_istore_n h [(3, .int (x3 ||| ((1 : Int32) <<< (x4 &&& 31)))), (0, .ref (ad c)), (1, .int x1), (2, .int x2), (4, .int x4)] dX9_hoursThatAre_33 rfl (by decide) rfl ?_
        refine j_letI (lvf := fun z2 => [(3, .int z2), (0, .ref (ad c)), (1, .int x1), (2, .int x2), (4, .int x4)]) (fun z2 => ?_)
        refine j_sub [1, 2, 3, 0, 4] rfl ?_
        exact jb_f9_hoursThatAre_j34 h fin hS hc hrc5 x1 x2 z2 x4
theorem ydf9_hoursThatAre : ph_yd yX9_hoursThatAre 2 := ⟨by decide, by decide, by decide +kernel⟩
def f9_hoursThatAre (S : ph_Sh) (M : ph_Mem) (c : Nat) (p0 : Int32) (p1 : Int32) : Option Int32 :=
  f9_hoursThatAre_l5 S c M 10000 p0 p1 (0 : Int32) (0 : Int32)
set_option maxHeartbeats 4000000 in
theorem cf9_hoursThatAre {tb adK adV : Nat → Nat} {S : ph_Sh} {c : Nat} {l : Launch} {D : va_G} {cA : Nat → ClassId} {ad : Nat → Nat} (hinj : ∀ i j, i < S.2 → j < S.2 → ad i = ad j → i = j) (hS : ph_SX S) (hc : ph_isS c) {M : ph_Mem} {p0 : Int32} {p1 : Int32} {r : Int32} (hf : f9_hoursThatAre S M c p0 p1 = some r) : ph_C (ph_ZX tb adK adV) l 1 yX9_hoursThatAre cX9_hoursThatAre 5 (some .int) D cA S.1 S.2 ad [.ref (ad c), .int p0, .int p1] M (some (.int r)) M := by
  refine ph_mk ph_ZX_ok hinj (by decide) (Nat.le_of_ble_eq_true rfl) fun X h fin hE => ?_
  refine (?_ : ph_J X S.1 S.2 ad (r : Int32) 0 [(0, .ref (ad c)), (1, .int p0), (2, .int p1)] [] M (f9_hoursThatAre S M c p0 p1)) hf
  unfold f9_hoursThatAre
  refine j_iconst (v := (0 : Int32)) h dX9_hoursThatAre_0 (by decide) ?_
  refine j_istore_n h [(3, .int (0 : Int32)), (0, .ref (ad c)), (1, .int p0), (2, .int p1)] dX9_hoursThatAre_1 rfl (by decide) rfl ?_
  refine j_iconst (v := (0 : Int32)) h dX9_hoursThatAre_2 (by decide) ?_
  refine j_istore h [(4, .int (0 : Int32)), (3, .int (0 : Int32)), (0, .ref (ad c)), (1, .int p0), (2, .int p1)] dX9_hoursThatAre_3 (by decide) rfl ?_
  refine j_sub [2, 3, 4, 1, 0] rfl ?_
  exact jb_f9_hoursThatAre_l5 h fin hS hc 10000 p0 p1 (0 : Int32) (0 : Int32)
theorem dX7_purseOn_0 : decode cX7_purseOn 0 = .ok (.iload_n 2, 1) := by decide +kernel
theorem dX7_purseOn_1 : decode cX7_purseOn 1 = .ok (.iload_n 3, 1) := by decide +kernel
theorem dX7_purseOn_2 : decode cX7_purseOn 2 = .ok (.iload_n 1, 1) := by decide +kernel
theorem dX7_purseOn_3 : decode cX7_purseOn 3 = .ok (.isub, 1) := by decide +kernel
theorem dX7_purseOn_4 : decode cX7_purseOn 4 = .ok (.aload_n 0, 1) := by decide +kernel
theorem dX7_purseOn_5 : decode cX7_purseOn 5 = .ok (.getfield 24, 3) := by decide +kernel
theorem dX7_purseOn_8 : decode cX7_purseOn 8 = .ok (.getfield 84, 3) := by decide +kernel
theorem dX7_purseOn_11 : decode cX7_purseOn 11 = .ok (.iconst 1, 1) := by decide +kernel
theorem dX7_purseOn_12 : decode cX7_purseOn 12 = .ok (.iaload, 1) := by decide +kernel
theorem dX7_purseOn_13 : decode cX7_purseOn 13 = .ok (.imul, 1) := by decide +kernel
theorem dX7_purseOn_14 : decode cX7_purseOn 14 = .ok (.iadd, 1) := by decide +kernel
theorem dX7_purseOn_15 : decode cX7_purseOn 15 = .ok (.ireturn, 1) := by decide +kernel
theorem ydf7_purseOn : ph_yd yX7_purseOn 3 := ⟨by decide, by decide, by decide +kernel⟩
def f7_purseOn (S : ph_Sh) (M : ph_Mem) (p0 : Int32) (p1 : Int32) (p2 : Int32) : Option Int32 :=
  some (p1 + ((p2 - p0) * (M.1 21 1)))
set_option maxHeartbeats 4000000 in
theorem cf7_purseOn {tb adK adV : Nat → Nat} {S : ph_Sh} {l : Launch} {D : va_G} {cA : Nat → ClassId} {ad : Nat → Nat} (hinj : ∀ i j, i < S.2 → j < S.2 → ad i = ad j → i = j) (hS : ph_SX S) {M : ph_Mem} {p0 : Int32} {p1 : Int32} {p2 : Int32} {r : Int32} (hf : f7_purseOn S M p0 p1 p2 = some r) : ph_C (ph_ZX tb adK adV) l 0 yX7_purseOn cX7_purseOn 4 (some .int) D cA S.1 S.2 ad [.ref (ad 76), .int p0, .int p1, .int p2] M (some (.int r)) M := by
  refine ph_mk ph_ZX_ok hinj (by decide) (Nat.le_of_ble_eq_true rfl) fun X h fin hE => ?_
  refine (?_ : ph_J X S.1 S.2 ad (r : Int32) 0 [(0, .ref (ad 76)), (1, .int p0), (2, .int p1), (3, .int p2)] [] M (f7_purseOn S M p0 p1 p2)) hf
  unfold f7_purseOn
  refine j_iload_n h dX7_purseOn_0 rfl 2 rfl ?_
  refine j_iload_n h dX7_purseOn_1 rfl 3 rfl ?_
  refine j_iload_n h dX7_purseOn_2 rfl 1 rfl ?_
  refine j_isub h dX7_purseOn_3 ?_
  refine j_aload_n h dX7_purseOn_4 rfl 0 rfl ?_
  refine j_get (c := 76) (j := 0) (v := .ref (ad 11)) h (ph_xlt hS (by decide)) (ph_kc76 hS) rfl ph_inX7 rfl (by decide) tw_290 rfl rfl dX7_purseOn_5 ?_
  refine j_get (c := 11) (j := 11) (v := .ref (ad 21)) h (ph_xlt hS (by decide)) (ph_kc11 hS) rfl ph_inX9 rfl (by decide) tw_103 rfl rfl dX7_purseOn_8 ?_
  refine j_iconst (v := (1 : Int32)) h dX7_purseOn_11 (by decide) ?_
  refine j_ialdK (c := 21) (n := 5) (kn := 1) h (ph_xlt hS (by decide)) (ph_kc21 hS) rfl (by decide) dX7_purseOn_12 ?_
  refine j_imul h dX7_purseOn_13 ?_
  refine j_iadd h dX7_purseOn_14 ?_
  exact j_iretP h rfl fin dX7_purseOn_15
theorem dX7_firstDayFor_0 : decode cX7_firstDayFor 0 = .ok (.iload_n 2, 1) := by decide +kernel
theorem dX7_firstDayFor_1 : decode cX7_firstDayFor 1 = .ok (.istore 4, 2) := by decide +kernel
theorem dX7_firstDayFor_3 : decode cX7_firstDayFor 3 = .ok (.iload 4, 2) := by decide +kernel
theorem dX7_firstDayFor_5 : decode cX7_firstDayFor 5 = .ok (.bipush 60, 2) := by decide +kernel
theorem dX7_firstDayFor_7 : decode cX7_firstDayFor 7 = .ok (.if_icmp .gt 87, 3) := by decide +kernel
theorem dX7_firstDayFor_10 : decode cX7_firstDayFor 10 = .ok (.iload_n 1, 1) := by decide +kernel
theorem dX7_firstDayFor_11 : decode cX7_firstDayFor 11 = .ok (.bipush 61, 2) := by decide +kernel
theorem dX7_firstDayFor_13 : decode cX7_firstDayFor 13 = .ok (.imul, 1) := by decide +kernel
theorem dX7_firstDayFor_14 : decode cX7_firstDayFor 14 = .ok (.iload 4, 2) := by decide +kernel
theorem dX7_firstDayFor_16 : decode cX7_firstDayFor 16 = .ok (.iadd, 1) := by decide +kernel
theorem dX7_firstDayFor_17 : decode cX7_firstDayFor 17 = .ok (.istore 5, 2) := by decide +kernel
theorem dX7_firstDayFor_19 : decode cX7_firstDayFor 19 = .ok (.aload_n 0, 1) := by decide +kernel
theorem dX7_firstDayFor_20 : decode cX7_firstDayFor 20 = .ok (.getfield 21, 3) := by decide +kernel
theorem dX7_firstDayFor_23 : decode cX7_firstDayFor 23 = .ok (.iload 5, 2) := by decide +kernel
theorem dX7_firstDayFor_25 : decode cX7_firstDayFor 25 = .ok (.iaload, 1) := by decide +kernel
theorem dX7_firstDayFor_26 : decode cX7_firstDayFor 26 = .ok (.iconst (-1), 1) := by decide +kernel
theorem dX7_firstDayFor_27 : decode cX7_firstDayFor 27 = .ok (.if_icmp .ne 40, 3) := by decide +kernel
theorem dX7_firstDayFor_30 : decode cX7_firstDayFor 30 = .ok (.aload_n 0, 1) := by decide +kernel
theorem dX7_firstDayFor_31 : decode cX7_firstDayFor 31 = .ok (.getfield 21, 3) := by decide +kernel
theorem dX7_firstDayFor_34 : decode cX7_firstDayFor 34 = .ok (.iload 5, 2) := by decide +kernel
theorem dX7_firstDayFor_36 : decode cX7_firstDayFor 36 = .ok (.aload_n 0, 1) := by decide +kernel
theorem dX7_firstDayFor_37 : decode cX7_firstDayFor 37 = .ok (.getfield 24, 3) := by decide +kernel
theorem dX7_firstDayFor_40 : decode cX7_firstDayFor 40 = .ok (.iconst 1, 1) := by decide +kernel
theorem dX7_firstDayFor_41 : decode cX7_firstDayFor 41 = .ok (.aload_n 0, 1) := by decide +kernel
theorem dX7_firstDayFor_42 : decode cX7_firstDayFor 42 = .ok (.getfield 28, 3) := by decide +kernel
theorem dX7_firstDayFor_45 : decode cX7_firstDayFor 45 = .ok (.aload_n 0, 1) := by decide +kernel
theorem dX7_firstDayFor_46 : decode cX7_firstDayFor 46 = .ok (.getfield 11, 3) := by decide +kernel
theorem dX7_firstDayFor_49 : decode cX7_firstDayFor 49 = .ok (.iload_n 1, 1) := by decide +kernel
theorem dX7_firstDayFor_50 : decode cX7_firstDayFor 50 = .ok (.iaload, 1) := by decide +kernel
theorem dX7_firstDayFor_51 : decode cX7_firstDayFor 51 = .ok (.aload_n 0, 1) := by decide +kernel
theorem dX7_firstDayFor_52 : decode cX7_firstDayFor 52 = .ok (.getfield 24, 3) := by decide +kernel
theorem dX7_firstDayFor_55 : decode cX7_firstDayFor 55 = .ok (.getfield 84, 3) := by decide +kernel
theorem dX7_firstDayFor_58 : decode cX7_firstDayFor 58 = .ok (.iconst 0, 1) := by decide +kernel
theorem dX7_firstDayFor_59 : decode cX7_firstDayFor 59 = .ok (.iaload, 1) := by decide +kernel
theorem dX7_firstDayFor_60 : decode cX7_firstDayFor 60 = .ok (.iload 4, 2) := by decide +kernel
theorem dX7_firstDayFor_62 : decode cX7_firstDayFor 62 = .ok (.iadd, 1) := by decide +kernel
theorem dX7_firstDayFor_63 : decode cX7_firstDayFor 63 = .ok (.invokevirtual 87, 3) := by decide +kernel
theorem dX7_firstDayFor_66 : decode cX7_firstDayFor 66 = .ok (.iastore, 1) := by decide +kernel
theorem dX7_firstDayFor_67 : decode cX7_firstDayFor 67 = .ok (.aload_n 0, 1) := by decide +kernel
theorem dX7_firstDayFor_68 : decode cX7_firstDayFor 68 = .ok (.iload_n 2, 1) := by decide +kernel
theorem dX7_firstDayFor_69 : decode cX7_firstDayFor 69 = .ok (.iload_n 3, 1) := by decide +kernel
theorem dX7_firstDayFor_70 : decode cX7_firstDayFor 70 = .ok (.iload 4, 2) := by decide +kernel
theorem dX7_firstDayFor_72 : decode cX7_firstDayFor 72 = .ok (.invokevirtual 81, 3) := by decide +kernel
theorem dX7_firstDayFor_75 : decode cX7_firstDayFor 75 = .ok (.aload_n 0, 1) := by decide +kernel
theorem dX7_firstDayFor_76 : decode cX7_firstDayFor 76 = .ok (.getfield 21, 3) := by decide +kernel
theorem dX7_firstDayFor_79 : decode cX7_firstDayFor 79 = .ok (.iload 5, 2) := by decide +kernel
theorem dX7_firstDayFor_81 : decode cX7_firstDayFor 81 = .ok (.iaload, 1) := by decide +kernel
theorem dX7_firstDayFor_82 : decode cX7_firstDayFor 82 = .ok (.if_icmp .lt 6, 3) := by decide +kernel
theorem dX7_firstDayFor_85 : decode cX7_firstDayFor 85 = .ok (.iload 4, 2) := by decide +kernel
theorem dX7_firstDayFor_87 : decode cX7_firstDayFor 87 = .ok (.ireturn, 1) := by decide +kernel
theorem dX7_firstDayFor_88 : decode cX7_firstDayFor 88 = .ok (.iinc 4 1, 3) := by decide +kernel
theorem dX7_firstDayFor_91 : decode cX7_firstDayFor 91 = .ok (.goto (-88), 3) := by decide +kernel
theorem dX7_firstDayFor_94 : decode cX7_firstDayFor 94 = .ok (.iconst (-1), 1) := by decide +kernel
theorem dX7_firstDayFor_95 : decode cX7_firstDayFor 95 = .ok (.ireturn, 1) := by decide +kernel
def f7_firstDayFor_j67 (S : ph_Sh) (rc3 : Int32 → Int32 → Int32 → Int32 → ph_Mem → Option (Int32 × ph_Mem)) (x1 : Int32) (x2 : Int32) (x3 : Int32) (x4 : Int32) (x5 : Int32) (M : ph_Mem) : Option (Int32 × ph_Mem) :=
  (f7_purseOn S M x2 x3 x4).bind fun q4 => cond (ph_ib x5 366) (if q4 < (M.1 80 x5.toNatClampNeg) then (rc3 x1 x2 x3 (x4 + (1 : Int32)) M) else (some (x4, M))) none
set_option maxHeartbeats 4000000 in
theorem jb_f7_firstDayFor_j67 {tb adK adV : Nat → Nat} {S : ph_Sh} {X : ph_X} {ad : Nat → Nat} {o : (Int32 × ph_Mem)} (h : ph_ok (ph_ZX tb adK adV) X cX7_firstDayFor RX7 (some .int) 6 3 S.2 ad) (fin : ph_fin X S.1 S.2 ad (some (.int o.1)) o.2) (hS : ph_SX S) {rc3 : Int32 → Int32 → Int32 → Int32 → ph_Mem → Option (Int32 × ph_Mem)} (hrc3 : ∀ (x1 : Int32) (x2 : Int32) (x3 : Int32) (x4 : Int32) (M : ph_Mem), ph_J X S.1 S.2 ad o 3 [(0, .ref (ad 76)), (1, .int x1), (2, .int x2), (3, .int x3), (4, .int x4)] [] M (rc3 x1 x2 x3 x4 M)) : ∀ (x1 : Int32) (x2 : Int32) (x3 : Int32) (x4 : Int32) (x5 : Int32) (M : ph_Mem), ph_J X S.1 S.2 ad o 67 [(0, .ref (ad 76)), (1, .int x1), (2, .int x2), (3, .int x3), (4, .int x4), (5, .int x5)] [] M (f7_firstDayFor_j67 S rc3 x1 x2 x3 x4 x5 M) := by
  intro x1 x2 x3 x4 x5 M
  unfold f7_firstDayFor_j67
  refine j_aload_n h dX7_firstDayFor_67 rfl 0 rfl ?_
  refine j_iload_n h dX7_firstDayFor_68 rfl 2 rfl ?_
  refine j_iload_n h dX7_firstDayFor_69 rfl 3 rfl ?_
  refine j_iload h dX7_firstDayFor_70 4 rfl ?_
  refine j_callViP (n := 3) (As := [.int x2, .int x3, .int x4]) (rest := []) h 76 tw_1082 tw_1084 tp_42 tw_11 tw_1085 ydf7_purseOn (by decide) (by decide) (ph_xlt hS (by decide)) (ph_kc76 hS) rfl (fun q hq => cf7_purseOn (ph_okI h) hS hq) rfl (Nat.le_of_ble_eq_true rfl) rfl dX7_firstDayFor_72 (fun q4 => ?_)
  refine j_aload_n h dX7_firstDayFor_75 rfl 0 rfl ?_
  refine j_get (c := 76) (j := 4) (v := .ref (ad 80)) h (ph_xlt hS (by decide)) (ph_kc76 hS) rfl ph_inX7 rfl (by decide) tw_294 rfl rfl dX7_firstDayFor_76 ?_
  refine j_iload h dX7_firstDayFor_79 5 rfl ?_
  refine j_iald (c := 80) (n := 366) h (ph_xlt hS (by decide)) (ph_kc80 hS) dX7_firstDayFor_81 ?_
  refine j_icmp_lt h 88 dX7_firstDayFor_82 (by decide) ?_ ?_
  · refine j_iinc h [(4, .int (x4 + (1 : Int32))), (0, .ref (ad 76)), (1, .int x1), (2, .int x2), (3, .int x3), (5, .int x5)] dX7_firstDayFor_88 4 rfl rfl (by decide) rfl ?_
    refine j_goto h 3 dX7_firstDayFor_91 (by decide) ?_
    refine j_sub [1, 2, 3, 4, 0] rfl ?_
    exact hrc3 x1 x2 x3 (x4 + (1 : Int32)) M
  · refine j_iload h dX7_firstDayFor_85 4 rfl ?_
    exact j_iret h rfl fin dX7_firstDayFor_87
def f7_firstDayFor_l3 (S : ph_Sh) : Nat → Int32 → Int32 → Int32 → Int32 → ph_Mem → Option (Int32 × ph_Mem)
  | 0, _, _, _, _, _ => none
  | n + 1, x1, x2, x3, x4, M => if (60 : Int32) < x4 then (some ((-1 : Int32), M)) else (ph_let ((x1 * (61 : Int32)) + x4) fun z1 => cond (ph_ib z1 366) (if (M.1 80 z1.toNatClampNeg) = (-1 : Int32) then (cond (ph_ib x1 6) ((f9_ruled S M 11 (1 : Int32) (M.1 76 5) (M.1 77 x1.toNatClampNeg) ((M.1 21 0) + x4)).bind fun q2 => cond (ph_ib z1 366) (ph_let (ph_wi q2.2 80 z1.toNatClampNeg q2.1) fun M3 => f7_firstDayFor_j67 S (f7_firstDayFor_l3 S n) x1 x2 x3 x4 z1 M3) none) none) else (f7_firstDayFor_j67 S (f7_firstDayFor_l3 S n) x1 x2 x3 x4 z1 M)) none)
set_option maxHeartbeats 4000000 in
theorem jb_f7_firstDayFor_l3 {tb adK adV : Nat → Nat} {S : ph_Sh} {X : ph_X} {ad : Nat → Nat} {o : (Int32 × ph_Mem)} (h : ph_ok (ph_ZX tb adK adV) X cX7_firstDayFor RX7 (some .int) 6 3 S.2 ad) (fin : ph_fin X S.1 S.2 ad (some (.int o.1)) o.2) (hS : ph_SX S) : ∀ (n : Nat) (x1 : Int32) (x2 : Int32) (x3 : Int32) (x4 : Int32) (M : ph_Mem), ph_J X S.1 S.2 ad o 3 [(0, .ref (ad 76)), (1, .int x1), (2, .int x2), (3, .int x3), (4, .int x4)] [] M (f7_firstDayFor_l3 S n x1 x2 x3 x4 M) := by
  intro n
  induction n with
  | zero => intro x1 x2 x3 x4 M; exact j_none
  | succ n hrc3 =>
    intro x1 x2 x3 x4 M
    unfold f7_firstDayFor_l3
    refine j_iload h dX7_firstDayFor_3 4 rfl ?_
    refine j_bipush (v := (60 : Int32)) h dX7_firstDayFor_5 (by decide) ?_
    refine j_icmp_gt h 94 dX7_firstDayFor_7 (by decide) ?_ ?_
    · refine j_iconst (v := (-1 : Int32)) h dX7_firstDayFor_94 (by decide) ?_
      exact j_iret h rfl fin dX7_firstDayFor_95
    · refine j_iload_n h dX7_firstDayFor_10 rfl 1 rfl ?_
      refine j_bipush (v := (61 : Int32)) h dX7_firstDayFor_11 (by decide) ?_
      refine j_imul h dX7_firstDayFor_13 ?_
      refine j_iload h dX7_firstDayFor_14 4 rfl ?_
      refine j_iadd h dX7_firstDayFor_16 ?_
      refine j_istore h [(5, .int ((x1 * (61 : Int32)) + x4)), (0, .ref (ad 76)), (1, .int x1), (2, .int x2), (3, .int x3), (4, .int x4)] dX7_firstDayFor_17 (by decide) rfl ?_
      refine j_letI (lvf := fun z1 => [(5, .int z1), (0, .ref (ad 76)), (1, .int x1), (2, .int x2), (3, .int x3), (4, .int x4)]) (fun z1 => ?_)
      refine j_aload_n h dX7_firstDayFor_19 rfl 1 rfl ?_
      refine j_get (c := 76) (j := 4) (v := .ref (ad 80)) h (ph_xlt hS (by decide)) (ph_kc76 hS) rfl ph_inX7 rfl (by decide) tw_294 rfl rfl dX7_firstDayFor_20 ?_
      refine j_iload h dX7_firstDayFor_23 0 rfl ?_
      refine j_iald (c := 80) (n := 366) h (ph_xlt hS (by decide)) (ph_kc80 hS) dX7_firstDayFor_25 ?_
      refine j_iconst (v := (-1 : Int32)) h dX7_firstDayFor_26 (by decide) ?_
      refine j_icmp_ne h 67 dX7_firstDayFor_27 (by decide) ?_ ?_
      · refine j_sub [1, 2, 3, 4, 5, 0] rfl ?_
        exact jb_f7_firstDayFor_j67 h fin hS hrc3 x1 x2 x3 x4 z1 M
      · refine j_aload_n h dX7_firstDayFor_30 rfl 1 rfl ?_
        refine j_get (c := 76) (j := 4) (v := .ref (ad 80)) h (ph_xlt hS (by decide)) (ph_kc76 hS) rfl ph_inX7 rfl (by decide) tw_294 rfl rfl dX7_firstDayFor_31 ?_
        refine j_iload h dX7_firstDayFor_34 0 rfl ?_
        refine j_aload_n h dX7_firstDayFor_36 rfl 1 rfl ?_
        refine j_get (c := 76) (j := 0) (v := .ref (ad 11)) h (ph_xlt hS (by decide)) (ph_kc76 hS) rfl ph_inX7 rfl (by decide) tw_290 rfl rfl dX7_firstDayFor_37 ?_
        refine j_iconst (v := (1 : Int32)) h dX7_firstDayFor_40 (by decide) ?_
        refine j_aload_n h dX7_firstDayFor_41 rfl 1 rfl ?_
        refine j_get (c := 76) (j := 5) (v := .int (M.1 76 5)) h (ph_xlt hS (by decide)) (ph_kc76 hS) rfl ph_inX7 rfl (by decide) tw_295 rfl rfl dX7_firstDayFor_42 ?_
        refine j_aload_n h dX7_firstDayFor_45 rfl 1 rfl ?_
        refine j_get (c := 76) (j := 1) (v := .ref (ad 77)) h (ph_xlt hS (by decide)) (ph_kc76 hS) rfl ph_inX7 rfl (by decide) tw_291 rfl rfl dX7_firstDayFor_46 ?_
        refine j_iload_n h dX7_firstDayFor_49 rfl 2 rfl ?_
        refine j_iald (c := 77) (n := 6) h (ph_xlt hS (by decide)) (ph_kc77 hS) dX7_firstDayFor_50 ?_
        refine j_aload_n h dX7_firstDayFor_51 rfl 1 rfl ?_
        refine j_get (c := 76) (j := 0) (v := .ref (ad 11)) h (ph_xlt hS (by decide)) (ph_kc76 hS) rfl ph_inX7 rfl (by decide) tw_290 rfl rfl dX7_firstDayFor_52 ?_
        refine j_get (c := 11) (j := 11) (v := .ref (ad 21)) h (ph_xlt hS (by decide)) (ph_kc11 hS) rfl ph_inX9 rfl (by decide) tw_103 rfl rfl dX7_firstDayFor_55 ?_
        refine j_iconst (v := (0 : Int32)) h dX7_firstDayFor_58 (by decide) ?_
        refine j_ialdK (c := 21) (n := 5) (kn := 0) h (ph_xlt hS (by decide)) (ph_kc21 hS) rfl (by decide) dX7_firstDayFor_59 ?_
        refine j_iload h dX7_firstDayFor_60 5 rfl ?_
        refine j_iadd h dX7_firstDayFor_62 ?_
        refine j_callVi (n := 4) (As := [.int (1 : Int32), .int (M.1 76 5), .int (M.1 77 x1.toNatClampNeg), .int ((M.1 21 0) + x4)]) (rest := [.int z1, .ref (ad 80)]) h 11 tw_1081 tw_472 tw_473 tw_3 tw_474 ydf9_ruled (by decide) (by decide) (ph_xlt hS (by decide)) (ph_kc11 hS) rfl (fun q hq => cf9_ruled (ph_okI h) hS (by decide) hq) rfl (Nat.le_of_ble_eq_true rfl) rfl dX7_firstDayFor_63 (fun q2 => ?_)
        refine j_iast (c := 80) (n := 366) h (ph_xlt hS (by decide)) (ph_kc80 hS) dX7_firstDayFor_66 ?_
        refine j_letM (fun M3 => ?_)
        refine j_sub [1, 2, 3, 4, 5, 0] rfl ?_
        exact jb_f7_firstDayFor_j67 h fin hS hrc3 x1 x2 x3 x4 z1 M3
theorem ydf7_firstDayFor : ph_yd yX7_firstDayFor 3 := ⟨by decide, by decide, by decide +kernel⟩
def f7_firstDayFor (S : ph_Sh) (M : ph_Mem) (p0 : Int32) (p1 : Int32) (p2 : Int32) : Option (Int32 × ph_Mem) :=
  f7_firstDayFor_l3 S 10000 p0 p1 p2 p1 M
set_option maxHeartbeats 4000000 in
theorem cf7_firstDayFor {tb adK adV : Nat → Nat} {S : ph_Sh} {l : Launch} {D : va_G} {cA : Nat → ClassId} {ad : Nat → Nat} (hinj : ∀ i j, i < S.2 → j < S.2 → ad i = ad j → i = j) (hS : ph_SX S) {M : ph_Mem} {p0 : Int32} {p1 : Int32} {p2 : Int32} {r : Int32} {M' : ph_Mem} (hf : f7_firstDayFor S M p0 p1 p2 = some (r, M')) : ph_C (ph_ZX tb adK adV) l 3 yX7_firstDayFor cX7_firstDayFor 6 (some .int) D cA S.1 S.2 ad [.ref (ad 76), .int p0, .int p1, .int p2] M (some (.int r)) M' := by
  refine ph_mk ph_ZX_ok hinj (by decide) (Nat.le_of_ble_eq_true rfl) fun X h fin hE => ?_
  refine (?_ : ph_J X S.1 S.2 ad ((r, M') : (Int32 × ph_Mem)) 0 [(0, .ref (ad 76)), (1, .int p0), (2, .int p1), (3, .int p2)] [] M (f7_firstDayFor S M p0 p1 p2)) hf
  unfold f7_firstDayFor
  refine j_iload_n h dX7_firstDayFor_0 rfl 2 rfl ?_
  refine j_istore h [(4, .int p1), (0, .ref (ad 76)), (1, .int p0), (2, .int p1), (3, .int p2)] dX7_firstDayFor_1 (by decide) rfl ?_
  refine j_sub [1, 2, 3, 4, 0] rfl ?_
  exact jb_f7_firstDayFor_l3 h fin hS 10000 p0 p1 p2 p1 M
