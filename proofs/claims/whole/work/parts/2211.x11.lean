theorem dX11_give_0 : decode cX11_give 0 = .ok (.iload_n 2, 1) := by decide +kernel
theorem dX11_give_1 : decode cX11_give 1 = .ok (.ifCond .lt 9, 3) := by decide +kernel
theorem dX11_give_4 : decode cX11_give 4 = .ok (.iload_n 2, 1) := by decide +kernel
theorem dX11_give_5 : decode cX11_give 5 = .ok (.ldc 171, 2) := by decide +kernel
theorem dX11_give_7 : decode cX11_give 7 = .ok (.if_icmp .le 9, 3) := by decide +kernel
theorem dX11_give_10 : decode cX11_give 10 = .ok (.aload_n 0, 1) := by decide +kernel
theorem dX11_give_11 : decode cX11_give 11 = .ok (.iconst (-1), 1) := by decide +kernel
theorem dX11_give_12 : decode cX11_give 12 = .ok (.invokevirtual 117, 3) := by decide +kernel
theorem dX11_give_15 : decode cX11_give 15 = .ok (.ireturn, 1) := by decide +kernel
theorem dX11_give_16 : decode cX11_give 16 = .ok (.aload_n 0, 1) := by decide +kernel
theorem dX11_give_17 : decode cX11_give 17 = .ok (.getfield 15, 3) := by decide +kernel
theorem dX11_give_20 : decode cX11_give 20 = .ok (.iload_n 1, 1) := by decide +kernel
theorem dX11_give_21 : decode cX11_give 21 = .ok (.invokevirtual 135, 3) := by decide +kernel
theorem dX11_give_24 : decode cX11_give 24 = .ok (.ifCond .ne 10, 3) := by decide +kernel
theorem dX11_give_27 : decode cX11_give 27 = .ok (.aload_n 0, 1) := by decide +kernel
theorem dX11_give_28 : decode cX11_give 28 = .ok (.bipush (-2), 2) := by decide +kernel
theorem dX11_give_30 : decode cX11_give 30 = .ok (.invokevirtual 117, 3) := by decide +kernel
theorem dX11_give_33 : decode cX11_give 33 = .ok (.ireturn, 1) := by decide +kernel
theorem dX11_give_34 : decode cX11_give 34 = .ok (.aload_n 0, 1) := by decide +kernel
theorem dX11_give_35 : decode cX11_give 35 = .ok (.getfield 35, 3) := by decide +kernel
theorem dX11_give_38 : decode cX11_give 38 = .ok (.invokevirtual 121, 3) := by decide +kernel
theorem dX11_give_41 : decode cX11_give 41 = .ok (.aload_n 0, 1) := by decide +kernel
theorem dX11_give_42 : decode cX11_give 42 = .ok (.getfield 15, 3) := by decide +kernel
theorem dX11_give_45 : decode cX11_give 45 = .ok (.getfield 172, 3) := by decide +kernel
theorem dX11_give_48 : decode cX11_give 48 = .ok (.iload_n 1, 1) := by decide +kernel
theorem dX11_give_49 : decode cX11_give 49 = .ok (.iaload, 1) := by decide +kernel
theorem dX11_give_50 : decode cX11_give 50 = .ok (.istore_n 3, 1) := by decide +kernel
theorem dX11_give_51 : decode cX11_give 51 = .ok (.aload_n 0, 1) := by decide +kernel
theorem dX11_give_52 : decode cX11_give 52 = .ok (.getfield 15, 3) := by decide +kernel
theorem dX11_give_55 : decode cX11_give 55 = .ok (.getfield 172, 3) := by decide +kernel
theorem dX11_give_58 : decode cX11_give 58 = .ok (.iload_n 1, 1) := by decide +kernel
theorem dX11_give_59 : decode cX11_give 59 = .ok (.iload_n 2, 1) := by decide +kernel
theorem dX11_give_60 : decode cX11_give 60 = .ok (.iastore, 1) := by decide +kernel
theorem dX11_give_61 : decode cX11_give 61 = .ok (.aload_n 0, 1) := by decide +kernel
theorem dX11_give_62 : decode cX11_give 62 = .ok (.iload_n 3, 1) := by decide +kernel
theorem dX11_give_63 : decode cX11_give 63 = .ok (.invokevirtual 124, 3) := by decide +kernel
theorem dX11_give_66 : decode cX11_give 66 = .ok (.ireturn, 1) := by decide +kernel
def f11_give_j10 (S : ph_Sh) (M : ph_Mem) : Option (Int32 × ph_Mem) :=
  (f11_refused S M (-1 : Int32)).bind fun q7 => some (q7.1, q7.2)
set_option maxHeartbeats 4000000 in
theorem jb_f11_give_j10 {tb adK adV : Nat → Nat} {S : ph_Sh} {X : ph_X} {ad : Nat → Nat} {o : (Int32 × ph_Mem)} (h : ph_ok (ph_ZX tb adK adV) X cX11_give RX11 (some .int) 4 1 S.2 ad) (fin : ph_fin X S.1 S.2 ad (some (.int o.1)) o.2) (hS : ph_SX S) : ∀ (M : ph_Mem), ph_J X S.1 S.2 ad o 10 [(0, .ref (ad 0))] [] M (f11_give_j10 S M) := by
  intro M
  unfold f11_give_j10
  refine j_aload_n h dX11_give_10 rfl 0 rfl ?_
  refine j_iconst (v := (-1 : Int32)) h dX11_give_11 (by decide) ?_
  refine j_callVi (n := 1) (As := [.int (-1 : Int32)]) (rest := []) h 0 tw_423 tw_425 tp_0 tw_1 tw_426 ydf11_refused (by decide) (by decide) (ph_xlt hS (by decide)) (ph_kc0 hS) rfl (fun q hq => cf11_refused (ph_okI h) hS hq) rfl (Nat.le_of_ble_eq_true rfl) rfl dX11_give_12 (fun q7 => ?_)
  exact j_iret h rfl fin dX11_give_15
theorem ydf11_give : ph_yd yX11_give 2 := ⟨by decide, by decide, by decide +kernel⟩
def f11_give (S : ph_Sh) (M : ph_Mem) (p0 : Int32) (p1 : Int32) : Option (Int32 × ph_Mem) :=
  if p1 < 0 then (f11_give_j10 S  M) else (if p1 ≤ (99999 : Int32) then ((f9_isPerson S M 11 p0).bind fun q1 => if q1 = 0 then ((f11_refused S M (-2 : Int32)).bind fun q6 => some (q6.1, q6.2)) else ((f1_forget S M 59).bind fun q2 => cond (ph_ib p0 6) (ph_let (q2.1 12 p0.toNatClampNeg) fun z3 => cond (ph_ib p0 6) (ph_let (ph_wi q2 12 p0.toNatClampNeg p1) fun M4 => (f11_accepted S M4 z3).bind fun q5 => some (q5.1, q5.2)) none) none)) else (f11_give_j10 S  M))
set_option maxHeartbeats 4000000 in
theorem cf11_give {tb adK adV : Nat → Nat} {S : ph_Sh} {l : Launch} {D : va_G} {cA : Nat → ClassId} {ad : Nat → Nat} (hinj : ∀ i j, i < S.2 → j < S.2 → ad i = ad j → i = j) (hS : ph_SX S) {M : ph_Mem} {p0 : Int32} {p1 : Int32} {r : Int32} {M' : ph_Mem} (hf : f11_give S M p0 p1 = some (r, M')) : ph_C (ph_ZX tb adK adV) l 1 yX11_give cX11_give 4 (some .int) D cA S.1 S.2 ad [.ref (ad 0), .int p0, .int p1] M (some (.int r)) M' := by
  refine ph_mk ph_ZX_ok hinj (by decide) (Nat.le_of_ble_eq_true rfl) fun X h fin hE => ?_
  refine (?_ : ph_J X S.1 S.2 ad ((r, M') : (Int32 × ph_Mem)) 0 [(0, .ref (ad 0)), (1, .int p0), (2, .int p1)] [] M (f11_give S M p0 p1)) hf
  unfold f11_give
  refine j_iload_n h dX11_give_0 rfl 2 rfl ?_
  refine j_if_lt h 10 dX11_give_1 (by decide) ?_ ?_
  · refine j_sub [0] rfl ?_
    exact jb_f11_give_j10 h fin hS  M
  · refine j_iload_n h dX11_give_4 rfl 2 rfl ?_
    refine j_ldc (v := (99999 : Int32)) h dX11_give_5 tw_537 ?_
    refine j_icmp_le h 16 dX11_give_7 (by decide) ?_ ?_
    · refine j_aload_n h dX11_give_16 rfl 0 rfl ?_
      refine j_get (c := 0) (j := 0) (v := .ref (ad 11)) h (ph_xlt hS (by decide)) (ph_kc0 hS) rfl ph_inX11 rfl (by decide) tw_361 rfl rfl dX11_give_17 ?_
      refine j_iload_n h dX11_give_20 rfl 1 rfl ?_
      refine j_callViP (n := 1) (As := [.int p0]) (rest := []) h 11 tw_456 tw_457 tw_458 tw_3 tw_459 ydf9_isPerson (by decide) (by decide) (ph_xlt hS (by decide)) (ph_kc11 hS) rfl (fun q hq => cf9_isPerson (ph_okI h) hS (by decide) hq) rfl (Nat.le_of_ble_eq_true rfl) rfl dX11_give_21 (fun q1 => ?_)
      refine j_if_ne h 34 dX11_give_24 (by decide) ?_ ?_
      · refine j_aload_n h dX11_give_34 rfl 0 rfl ?_
        refine j_get (c := 0) (j := 4) (v := .ref (ad 59)) h (ph_xlt hS (by decide)) (ph_kc0 hS) rfl ph_inX11 rfl (by decide) tw_365 rfl rfl dX11_give_35 ?_
        refine j_callVv (n := 0) (As := []) (rest := []) h 59 tw_427 tw_428 tw_429 tw_6 tw_430 ydf1_forget (by decide) (by decide) (ph_xlt hS (by decide)) (ph_kc59 hS) rfl (fun q hq => cf1_forget (ph_okI h) hS (by decide) hq) rfl (Nat.le_of_ble_eq_true rfl) rfl dX11_give_38 (fun q2 => ?_)
        refine j_aload_n h dX11_give_41 rfl 0 rfl ?_
        refine j_get (c := 0) (j := 0) (v := .ref (ad 11)) h (ph_xlt hS (by decide)) (ph_kc0 hS) rfl ph_inX11 rfl (by decide) tw_361 rfl rfl dX11_give_42 ?_
        refine j_get (c := 11) (j := 2) (v := .ref (ad 12)) h (ph_xlt hS (by decide)) (ph_kc11 hS) rfl ph_inX9 rfl (by decide) tw_75 rfl rfl dX11_give_45 ?_
        refine j_iload_n h dX11_give_48 rfl 1 rfl ?_
        refine j_iald (c := 12) (n := 6) h (ph_xlt hS (by decide)) (ph_kc12 hS) dX11_give_49 ?_
        refine j_istore_n h [(3, .int (q2.1 12 p0.toNatClampNeg)), (0, .ref (ad 0)), (1, .int p0), (2, .int p1)] dX11_give_50 rfl (by decide) rfl ?_
        refine j_letI (lvf := fun z3 => [(3, .int z3), (0, .ref (ad 0)), (1, .int p0), (2, .int p1)]) (fun z3 => ?_)
        refine j_aload_n h dX11_give_51 rfl 1 rfl ?_
        refine j_get (c := 0) (j := 0) (v := .ref (ad 11)) h (ph_xlt hS (by decide)) (ph_kc0 hS) rfl ph_inX11 rfl (by decide) tw_361 rfl rfl dX11_give_52 ?_
        refine j_get (c := 11) (j := 2) (v := .ref (ad 12)) h (ph_xlt hS (by decide)) (ph_kc11 hS) rfl ph_inX9 rfl (by decide) tw_75 rfl rfl dX11_give_55 ?_
        refine j_iload_n h dX11_give_58 rfl 2 rfl ?_
        refine j_iload_n h dX11_give_59 rfl 3 rfl ?_
        refine j_iast (c := 12) (n := 6) h (ph_xlt hS (by decide)) (ph_kc12 hS) dX11_give_60 ?_
        refine j_letM (fun M4 => ?_)
        refine j_aload_n h dX11_give_61 rfl 1 rfl ?_
        refine j_iload_n h dX11_give_62 rfl 0 rfl ?_
        refine j_callVi (n := 1) (As := [.int z3]) (rest := []) h 0 tw_431 tw_433 tp_1 tw_1 tw_434 ydf11_accepted (by decide) (by decide) (ph_xlt hS (by decide)) (ph_kc0 hS) rfl (fun q hq => cf11_accepted (ph_okI h) hS hq) rfl (Nat.le_of_ble_eq_true rfl) rfl dX11_give_63 (fun q5 => ?_)
        exact j_iret h rfl fin dX11_give_66
      · refine j_aload_n h dX11_give_27 rfl 0 rfl ?_
        refine j_bipush (v := (-2 : Int32)) h dX11_give_28 (by decide) ?_
        refine j_callVi (n := 1) (As := [.int (-2 : Int32)]) (rest := []) h 0 tw_423 tw_425 tp_0 tw_1 tw_426 ydf11_refused (by decide) (by decide) (ph_xlt hS (by decide)) (ph_kc0 hS) rfl (fun q hq => cf11_refused (ph_okI h) hS hq) rfl (Nat.le_of_ble_eq_true rfl) rfl dX11_give_30 (fun q6 => ?_)
        exact j_iret h rfl fin dX11_give_33
    · refine j_sub [0] rfl ?_
      exact jb_f11_give_j10 h fin hS  M
theorem dX11_of_0 : decode cX11_of 0 = .ok (.aload_n 0, 1) := by decide +kernel
theorem dX11_of_1 : decode cX11_of 1 = .ok (.getfield 15, 3) := by decide +kernel
theorem dX11_of_4 : decode cX11_of 4 = .ok (.iload_n 1, 1) := by decide +kernel
theorem dX11_of_5 : decode cX11_of 5 = .ok (.invokevirtual 135, 3) := by decide +kernel
theorem dX11_of_8 : decode cX11_of 8 = .ok (.ifCond .ne 5, 3) := by decide +kernel
theorem dX11_of_11 : decode cX11_of 11 = .ok (.iconst (-1), 1) := by decide +kernel
theorem dX11_of_12 : decode cX11_of 12 = .ok (.ireturn, 1) := by decide +kernel
theorem dX11_of_13 : decode cX11_of 13 = .ok (.iload_n 2, 1) := by decide +kernel
theorem dX11_of_14 : decode cX11_of 14 = .ok (.tableswitch 93 0 4 #[34, 44, 57, 70, 83], 34) := by decide +kernel
theorem dX11_of_48 : decode cX11_of 48 = .ok (.aload_n 0, 1) := by decide +kernel
theorem dX11_of_49 : decode cX11_of 49 = .ok (.getfield 15, 3) := by decide +kernel
theorem dX11_of_52 : decode cX11_of 52 = .ok (.getfield 172, 3) := by decide +kernel
theorem dX11_of_55 : decode cX11_of 55 = .ok (.iload_n 1, 1) := by decide +kernel
theorem dX11_of_56 : decode cX11_of 56 = .ok (.iaload, 1) := by decide +kernel
theorem dX11_of_57 : decode cX11_of 57 = .ok (.ireturn, 1) := by decide +kernel
theorem dX11_of_58 : decode cX11_of 58 = .ok (.aload_n 0, 1) := by decide +kernel
theorem dX11_of_59 : decode cX11_of 59 = .ok (.getfield 15, 3) := by decide +kernel
theorem dX11_of_62 : decode cX11_of 62 = .ok (.iconst 0, 1) := by decide +kernel
theorem dX11_of_63 : decode cX11_of 63 = .ok (.iload_n 1, 1) := by decide +kernel
theorem dX11_of_64 : decode cX11_of 64 = .ok (.invokevirtual 175, 3) := by decide +kernel
theorem dX11_of_67 : decode cX11_of 67 = .ok (.invokestatic 178, 3) := by decide +kernel
theorem dX11_of_70 : decode cX11_of 70 = .ok (.ireturn, 1) := by decide +kernel
theorem dX11_of_71 : decode cX11_of 71 = .ok (.aload_n 0, 1) := by decide +kernel
theorem dX11_of_72 : decode cX11_of 72 = .ok (.getfield 15, 3) := by decide +kernel
theorem dX11_of_75 : decode cX11_of 75 = .ok (.iconst 1, 1) := by decide +kernel
theorem dX11_of_76 : decode cX11_of 76 = .ok (.iload_n 1, 1) := by decide +kernel
theorem dX11_of_77 : decode cX11_of 77 = .ok (.invokevirtual 175, 3) := by decide +kernel
theorem dX11_of_80 : decode cX11_of 80 = .ok (.invokestatic 178, 3) := by decide +kernel
theorem dX11_of_83 : decode cX11_of 83 = .ok (.ireturn, 1) := by decide +kernel
theorem dX11_of_84 : decode cX11_of 84 = .ok (.aload_n 0, 1) := by decide +kernel
theorem dX11_of_85 : decode cX11_of 85 = .ok (.getfield 15, 3) := by decide +kernel
theorem dX11_of_88 : decode cX11_of 88 = .ok (.iconst 2, 1) := by decide +kernel
theorem dX11_of_89 : decode cX11_of 89 = .ok (.iload_n 1, 1) := by decide +kernel
theorem dX11_of_90 : decode cX11_of 90 = .ok (.invokevirtual 175, 3) := by decide +kernel
theorem dX11_of_93 : decode cX11_of 93 = .ok (.invokestatic 178, 3) := by decide +kernel
theorem dX11_of_96 : decode cX11_of 96 = .ok (.ireturn, 1) := by decide +kernel
theorem dX11_of_97 : decode cX11_of 97 = .ok (.aload_n 0, 1) := by decide +kernel
theorem dX11_of_98 : decode cX11_of 98 = .ok (.getfield 15, 3) := by decide +kernel
theorem dX11_of_101 : decode cX11_of 101 = .ok (.iload_n 1, 1) := by decide +kernel
theorem dX11_of_102 : decode cX11_of 102 = .ok (.iconst 0, 1) := by decide +kernel
theorem dX11_of_103 : decode cX11_of 103 = .ok (.invokevirtual 183, 3) := by decide +kernel
theorem dX11_of_106 : decode cX11_of 106 = .ok (.ireturn, 1) := by decide +kernel
theorem dX11_of_107 : decode cX11_of 107 = .ok (.iconst (-1), 1) := by decide +kernel
theorem dX11_of_108 : decode cX11_of 108 = .ok (.ireturn, 1) := by decide +kernel
theorem ydf11_of : ph_yd yX11_of 2 := ⟨by decide, by decide, by decide +kernel⟩
def f11_of (S : ph_Sh) (M : ph_Mem) (p0 : Int32) (p1 : Int32) : Option Int32 :=
  (f9_isPerson S M 11 p0).bind fun q1 => if q1 = 0 then (some (-1 : Int32)) else (if p1 = (0 : Int32) then (cond (ph_ib p0 6) (some (M.1 12 p0.toNatClampNeg)) none) else (if p1 = (1 : Int32) then ((f9_hoursThatAre S M 11 (0 : Int32) p0).bind fun q2 => (f6_bitCount_0f7a4 S M q2).bind fun q3 => some q3) else (if p1 = (2 : Int32) then ((f9_hoursThatAre S M 11 (1 : Int32) p0).bind fun q4 => (f6_bitCount_0f7a4 S M q4).bind fun q5 => some q5) else (if p1 = (3 : Int32) then ((f9_hoursThatAre S M 11 (2 : Int32) p0).bind fun q6 => (f6_bitCount_0f7a4 S M q6).bind fun q7 => some q7) else (if p1 = (4 : Int32) then ((f9_knownWithout S M 11 p0 (0 : Int32)).bind fun q8 => some q8) else (some (-1 : Int32)))))))
set_option maxHeartbeats 4000000 in
theorem cf11_of {tb adK adV : Nat → Nat} {S : ph_Sh} {l : Launch} {D : va_G} {cA : Nat → ClassId} {ad : Nat → Nat} (hinj : ∀ i j, i < S.2 → j < S.2 → ad i = ad j → i = j) (hS : ph_SX S) {M : ph_Mem} {p0 : Int32} {p1 : Int32} {r : Int32} (hf : f11_of S M p0 p1 = some r) : ph_C (ph_ZX tb adK adV) l 3 yX11_of cX11_of 3 (some .int) D cA S.1 S.2 ad [.ref (ad 0), .int p0, .int p1] M (some (.int r)) M := by
  refine ph_mk ph_ZX_ok hinj (by decide) (Nat.le_of_ble_eq_true rfl) fun X h fin hE => ?_
  refine (?_ : ph_J X S.1 S.2 ad (r : Int32) 0 [(0, .ref (ad 0)), (1, .int p0), (2, .int p1)] [] M (f11_of S M p0 p1)) hf
  unfold f11_of
  refine j_aload_n h dX11_of_0 rfl 0 rfl ?_
  refine j_get (c := 0) (j := 0) (v := .ref (ad 11)) h (ph_xlt hS (by decide)) (ph_kc0 hS) rfl ph_inX11 rfl (by decide) tw_361 rfl rfl dX11_of_1 ?_
  refine j_iload_n h dX11_of_4 rfl 1 rfl ?_
  refine j_callViP (n := 1) (As := [.int p0]) (rest := []) h 11 tw_456 tw_457 tw_458 tw_3 tw_459 ydf9_isPerson (by decide) (by decide) (ph_xlt hS (by decide)) (ph_kc11 hS) rfl (fun q hq => cf9_isPerson (ph_okI h) hS (by decide) hq) rfl (Nat.le_of_ble_eq_true rfl) rfl dX11_of_5 (fun q1 => ?_)
  refine j_if_ne h 13 dX11_of_8 (by decide) ?_ ?_
  · refine j_iload_n h dX11_of_13 rfl 2 rfl ?_
    refine j_ite (fun c_0 => ?_) (fun c_0 => ?_)
    · refine j_tabIn h 48 (0 : Int32) dX11_of_14 c_0 (by decide) (by decide) rfl (by decide) ?_
      refine j_aload_n h dX11_of_48 rfl 0 rfl ?_
      refine j_get (c := 0) (j := 0) (v := .ref (ad 11)) h (ph_xlt hS (by decide)) (ph_kc0 hS) rfl ph_inX11 rfl (by decide) tw_361 rfl rfl dX11_of_49 ?_
      refine j_get (c := 11) (j := 2) (v := .ref (ad 12)) h (ph_xlt hS (by decide)) (ph_kc11 hS) rfl ph_inX9 rfl (by decide) tw_75 rfl rfl dX11_of_52 ?_
      refine j_iload_n h dX11_of_55 rfl 1 rfl ?_
      refine j_iald (c := 12) (n := 6) h (ph_xlt hS (by decide)) (ph_kc12 hS) dX11_of_56 ?_
      exact j_iretP h rfl fin dX11_of_57
    · refine j_ite (fun c_1 => ?_) (fun c_1 => ?_)
      · refine j_tabIn h 58 (1 : Int32) dX11_of_14 c_1 (by decide) (by decide) rfl (by decide) ?_
        refine j_aload_n h dX11_of_58 rfl 0 rfl ?_
        refine j_get (c := 0) (j := 0) (v := .ref (ad 11)) h (ph_xlt hS (by decide)) (ph_kc0 hS) rfl ph_inX11 rfl (by decide) tw_361 rfl rfl dX11_of_59 ?_
        refine j_iconst (v := (0 : Int32)) h dX11_of_62 (by decide) ?_
        refine j_iload_n h dX11_of_63 rfl 1 rfl ?_
        refine j_callViP (n := 2) (As := [.int (0 : Int32), .int p0]) (rest := []) h 11 tw_542 tw_543 tw_544 tw_3 tw_545 ydf9_hoursThatAre (by decide) (by decide) (ph_xlt hS (by decide)) (ph_kc11 hS) rfl (fun q hq => cf9_hoursThatAre (ph_okI h) hS (by decide) hq) rfl (Nat.le_of_ble_eq_true rfl) rfl dX11_of_64 (fun q2 => ?_)
        refine j_callSiP (n := 1) (As := [.int q2]) (rest := []) h tw_546 tw_481 tw_15 tw_482 ydf6_bitCount_0f7a4 (by decide) (by decide) (fun q hq => cf6_bitCount_0f7a4 (ph_okI h) trivial hq) rfl (Nat.le_of_ble_eq_true rfl) rfl dX11_of_67 (fun q3 => ?_)
        exact j_iretP h rfl fin dX11_of_70
      · refine j_ite (fun c_2 => ?_) (fun c_2 => ?_)
        · refine j_tabIn h 71 (2 : Int32) dX11_of_14 c_2 (by decide) (by decide) rfl (by decide) ?_
          refine j_aload_n h dX11_of_71 rfl 0 rfl ?_
          refine j_get (c := 0) (j := 0) (v := .ref (ad 11)) h (ph_xlt hS (by decide)) (ph_kc0 hS) rfl ph_inX11 rfl (by decide) tw_361 rfl rfl dX11_of_72 ?_
          refine j_iconst (v := (1 : Int32)) h dX11_of_75 (by decide) ?_
          refine j_iload_n h dX11_of_76 rfl 1 rfl ?_
          refine j_callViP (n := 2) (As := [.int (1 : Int32), .int p0]) (rest := []) h 11 tw_542 tw_543 tw_544 tw_3 tw_545 ydf9_hoursThatAre (by decide) (by decide) (ph_xlt hS (by decide)) (ph_kc11 hS) rfl (fun q hq => cf9_hoursThatAre (ph_okI h) hS (by decide) hq) rfl (Nat.le_of_ble_eq_true rfl) rfl dX11_of_77 (fun q4 => ?_)
          refine j_callSiP (n := 1) (As := [.int q4]) (rest := []) h tw_546 tw_481 tw_15 tw_482 ydf6_bitCount_0f7a4 (by decide) (by decide) (fun q hq => cf6_bitCount_0f7a4 (ph_okI h) trivial hq) rfl (Nat.le_of_ble_eq_true rfl) rfl dX11_of_80 (fun q5 => ?_)
          exact j_iretP h rfl fin dX11_of_83
        · refine j_ite (fun c_3 => ?_) (fun c_3 => ?_)
          · refine j_tabIn h 84 (3 : Int32) dX11_of_14 c_3 (by decide) (by decide) rfl (by decide) ?_
            refine j_aload_n h dX11_of_84 rfl 0 rfl ?_
            refine j_get (c := 0) (j := 0) (v := .ref (ad 11)) h (ph_xlt hS (by decide)) (ph_kc0 hS) rfl ph_inX11 rfl (by decide) tw_361 rfl rfl dX11_of_85 ?_
            refine j_iconst (v := (2 : Int32)) h dX11_of_88 (by decide) ?_
            refine j_iload_n h dX11_of_89 rfl 1 rfl ?_
            refine j_callViP (n := 2) (As := [.int (2 : Int32), .int p0]) (rest := []) h 11 tw_542 tw_543 tw_544 tw_3 tw_545 ydf9_hoursThatAre (by decide) (by decide) (ph_xlt hS (by decide)) (ph_kc11 hS) rfl (fun q hq => cf9_hoursThatAre (ph_okI h) hS (by decide) hq) rfl (Nat.le_of_ble_eq_true rfl) rfl dX11_of_90 (fun q6 => ?_)
            refine j_callSiP (n := 1) (As := [.int q6]) (rest := []) h tw_546 tw_481 tw_15 tw_482 ydf6_bitCount_0f7a4 (by decide) (by decide) (fun q hq => cf6_bitCount_0f7a4 (ph_okI h) trivial hq) rfl (Nat.le_of_ble_eq_true rfl) rfl dX11_of_93 (fun q7 => ?_)
            exact j_iretP h rfl fin dX11_of_96
          · refine j_ite (fun c_4 => ?_) (fun c_4 => ?_)
            · refine j_tabIn h 97 (4 : Int32) dX11_of_14 c_4 (by decide) (by decide) rfl (by decide) ?_
              refine j_aload_n h dX11_of_97 rfl 0 rfl ?_
              refine j_get (c := 0) (j := 0) (v := .ref (ad 11)) h (ph_xlt hS (by decide)) (ph_kc0 hS) rfl ph_inX11 rfl (by decide) tw_361 rfl rfl dX11_of_98 ?_
              refine j_iload_n h dX11_of_101 rfl 1 rfl ?_
              refine j_iconst (v := (0 : Int32)) h dX11_of_102 (by decide) ?_
              refine j_callViP (n := 2) (As := [.int p0, .int (0 : Int32)]) (rest := []) h 11 tw_547 tw_548 tw_549 tw_3 tw_550 ydf9_knownWithout (by decide) (by decide) (ph_xlt hS (by decide)) (ph_kc11 hS) rfl (fun q hq => cf9_knownWithout (ph_okI h) hS (by decide) hq) rfl (Nat.le_of_ble_eq_true rfl) rfl dX11_of_103 (fun q8 => ?_)
              exact j_iretP h rfl fin dX11_of_106
            · have hq0 := lv_neT c_0 (a := 0) rfl
              have hq1 := lv_neT c_1 (a := 1) rfl
              have hq2 := lv_neT c_2 (a := 2) rfl
              have hq3 := lv_neT c_3 (a := 3) rfl
              have hq4 := lv_neT c_4 (a := 4) rfl
              refine j_tabOut h 107 dX11_of_14 (by omega) (by decide) ?_
              refine j_iconst (v := (-1 : Int32)) h dX11_of_107 (by decide) ?_
              exact j_iretP h rfl fin dX11_of_108
  · refine j_iconst (v := (-1 : Int32)) h dX11_of_11 (by decide) ?_
    exact j_iretP h rfl fin dX11_of_12
theorem dX11_needs_0 : decode cX11_needs 0 = .ok (.iload_n 1, 1) := by decide +kernel
theorem dX11_needs_1 : decode cX11_needs 1 = .ok (.invokestatic 186, 3) := by decide +kernel
theorem dX11_needs_4 : decode cX11_needs 4 = .ok (.ifCond .eq 20, 3) := by decide +kernel
theorem dX11_needs_7 : decode cX11_needs 7 = .ok (.iload_n 2, 1) := by decide +kernel
theorem dX11_needs_8 : decode cX11_needs 8 = .ok (.iconst (-1), 1) := by decide +kernel
theorem dX11_needs_9 : decode cX11_needs 9 = .ok (.if_icmp .eq 10, 3) := by decide +kernel
theorem dX11_needs_12 : decode cX11_needs 12 = .ok (.iload_n 2, 1) := by decide +kernel
theorem dX11_needs_13 : decode cX11_needs 13 = .ok (.invokestatic 186, 3) := by decide +kernel
theorem dX11_needs_16 : decode cX11_needs 16 = .ok (.ifCond .eq 8, 3) := by decide +kernel
theorem dX11_needs_19 : decode cX11_needs 19 = .ok (.iload_n 2, 1) := by decide +kernel
theorem dX11_needs_20 : decode cX11_needs 20 = .ok (.iload_n 1, 1) := by decide +kernel
theorem dX11_needs_21 : decode cX11_needs 21 = .ok (.if_icmp .ne 9, 3) := by decide +kernel
theorem dX11_needs_24 : decode cX11_needs 24 = .ok (.aload_n 0, 1) := by decide +kernel
theorem dX11_needs_25 : decode cX11_needs 25 = .ok (.iconst (-1), 1) := by decide +kernel
theorem dX11_needs_26 : decode cX11_needs 26 = .ok (.invokevirtual 117, 3) := by decide +kernel
theorem dX11_needs_29 : decode cX11_needs 29 = .ok (.ireturn, 1) := by decide +kernel
theorem dX11_needs_30 : decode cX11_needs 30 = .ok (.aload_n 0, 1) := by decide +kernel
theorem dX11_needs_31 : decode cX11_needs 31 = .ok (.getfield 15, 3) := by decide +kernel
theorem dX11_needs_34 : decode cX11_needs 34 = .ok (.getfield 189, 3) := by decide +kernel
theorem dX11_needs_37 : decode cX11_needs 37 = .ok (.iload_n 1, 1) := by decide +kernel
theorem dX11_needs_38 : decode cX11_needs 38 = .ok (.iaload, 1) := by decide +kernel
theorem dX11_needs_39 : decode cX11_needs 39 = .ok (.istore_n 3, 1) := by decide +kernel
theorem dX11_needs_40 : decode cX11_needs 40 = .ok (.aload_n 0, 1) := by decide +kernel
theorem dX11_needs_41 : decode cX11_needs 41 = .ok (.getfield 15, 3) := by decide +kernel
theorem dX11_needs_44 : decode cX11_needs 44 = .ok (.getfield 189, 3) := by decide +kernel
theorem dX11_needs_47 : decode cX11_needs 47 = .ok (.iload_n 1, 1) := by decide +kernel
theorem dX11_needs_48 : decode cX11_needs 48 = .ok (.iload_n 2, 1) := by decide +kernel
theorem dX11_needs_49 : decode cX11_needs 49 = .ok (.iastore, 1) := by decide +kernel
theorem dX11_needs_50 : decode cX11_needs 50 = .ok (.aload_n 0, 1) := by decide +kernel
theorem dX11_needs_51 : decode cX11_needs 51 = .ok (.iload_n 3, 1) := by decide +kernel
theorem dX11_needs_52 : decode cX11_needs 52 = .ok (.invokevirtual 124, 3) := by decide +kernel
theorem dX11_needs_55 : decode cX11_needs 55 = .ok (.ireturn, 1) := by decide +kernel
def f11_needs_j24 (S : ph_Sh) (M : ph_Mem) : Option (Int32 × ph_Mem) :=
  (f11_refused S M (-1 : Int32)).bind fun q6 => some (q6.1, q6.2)
set_option maxHeartbeats 4000000 in
theorem jb_f11_needs_j24 {tb adK adV : Nat → Nat} {S : ph_Sh} {X : ph_X} {ad : Nat → Nat} {o : (Int32 × ph_Mem)} (h : ph_ok (ph_ZX tb adK adV) X cX11_needs RX11 (some .int) 4 1 S.2 ad) (fin : ph_fin X S.1 S.2 ad (some (.int o.1)) o.2) (hS : ph_SX S) : ∀ (M : ph_Mem), ph_J X S.1 S.2 ad o 24 [(0, .ref (ad 0))] [] M (f11_needs_j24 S M) := by
  intro M
  unfold f11_needs_j24
  refine j_aload_n h dX11_needs_24 rfl 0 rfl ?_
  refine j_iconst (v := (-1 : Int32)) h dX11_needs_25 (by decide) ?_
  refine j_callVi (n := 1) (As := [.int (-1 : Int32)]) (rest := []) h 0 tw_423 tw_425 tp_0 tw_1 tw_426 ydf11_refused (by decide) (by decide) (ph_xlt hS (by decide)) (ph_kc0 hS) rfl (fun q hq => cf11_refused (ph_okI h) hS hq) rfl (Nat.le_of_ble_eq_true rfl) rfl dX11_needs_26 (fun q6 => ?_)
  exact j_iret h rfl fin dX11_needs_29
def f11_needs_j19 (S : ph_Sh) (x1 : Int32) (x2 : Int32) (M : ph_Mem) : Option (Int32 × ph_Mem) :=
  if x2 = x1 then (f11_needs_j24 S  M) else (cond (ph_ib x1 8) (ph_let (M.1 19 x1.toNatClampNeg) fun z3 => cond (ph_ib x1 8) (ph_let (ph_wi M 19 x1.toNatClampNeg x2) fun M4 => (f11_accepted S M4 z3).bind fun q5 => some (q5.1, q5.2)) none) none)
set_option maxHeartbeats 4000000 in
theorem jb_f11_needs_j19 {tb adK adV : Nat → Nat} {S : ph_Sh} {X : ph_X} {ad : Nat → Nat} {o : (Int32 × ph_Mem)} (h : ph_ok (ph_ZX tb adK adV) X cX11_needs RX11 (some .int) 4 1 S.2 ad) (fin : ph_fin X S.1 S.2 ad (some (.int o.1)) o.2) (hS : ph_SX S) : ∀ (x1 : Int32) (x2 : Int32) (M : ph_Mem), ph_J X S.1 S.2 ad o 19 [(0, .ref (ad 0)), (1, .int x1), (2, .int x2)] [] M (f11_needs_j19 S x1 x2 M) := by
  intro x1 x2 M
  unfold f11_needs_j19
  refine j_iload_n h dX11_needs_19 rfl 2 rfl ?_
  refine j_iload_n h dX11_needs_20 rfl 1 rfl ?_
  refine j_icmp_ne h 30 dX11_needs_21 (by decide) ?_ ?_
  · refine j_aload_n h dX11_needs_30 rfl 0 rfl ?_
    refine j_get (c := 0) (j := 0) (v := .ref (ad 11)) h (ph_xlt hS (by decide)) (ph_kc0 hS) rfl ph_inX11 rfl (by decide) tw_361 rfl rfl dX11_needs_31 ?_
    refine j_get (c := 11) (j := 9) (v := .ref (ad 19)) h (ph_xlt hS (by decide)) (ph_kc11 hS) rfl ph_inX9 rfl (by decide) tw_94 rfl rfl dX11_needs_34 ?_
    refine j_iload_n h dX11_needs_37 rfl 1 rfl ?_
    refine j_iald (c := 19) (n := 8) h (ph_xlt hS (by decide)) (ph_kc19 hS) dX11_needs_38 ?_
    refine j_istore_n h [(3, .int (M.1 19 x1.toNatClampNeg)), (0, .ref (ad 0)), (1, .int x1), (2, .int x2)] dX11_needs_39 rfl (by decide) rfl ?_
    refine j_letI (lvf := fun z3 => [(3, .int z3), (0, .ref (ad 0)), (1, .int x1), (2, .int x2)]) (fun z3 => ?_)
    refine j_aload_n h dX11_needs_40 rfl 1 rfl ?_
    refine j_get (c := 0) (j := 0) (v := .ref (ad 11)) h (ph_xlt hS (by decide)) (ph_kc0 hS) rfl ph_inX11 rfl (by decide) tw_361 rfl rfl dX11_needs_41 ?_
    refine j_get (c := 11) (j := 9) (v := .ref (ad 19)) h (ph_xlt hS (by decide)) (ph_kc11 hS) rfl ph_inX9 rfl (by decide) tw_94 rfl rfl dX11_needs_44 ?_
    refine j_iload_n h dX11_needs_47 rfl 2 rfl ?_
    refine j_iload_n h dX11_needs_48 rfl 3 rfl ?_
    refine j_iast (c := 19) (n := 8) h (ph_xlt hS (by decide)) (ph_kc19 hS) dX11_needs_49 ?_
    refine j_letM (fun M4 => ?_)
    refine j_aload_n h dX11_needs_50 rfl 1 rfl ?_
    refine j_iload_n h dX11_needs_51 rfl 0 rfl ?_
    refine j_callVi (n := 1) (As := [.int z3]) (rest := []) h 0 tw_431 tw_433 tp_1 tw_1 tw_434 ydf11_accepted (by decide) (by decide) (ph_xlt hS (by decide)) (ph_kc0 hS) rfl (fun q hq => cf11_accepted (ph_okI h) hS hq) rfl (Nat.le_of_ble_eq_true rfl) rfl dX11_needs_52 (fun q5 => ?_)
    exact j_iret h rfl fin dX11_needs_55
  · refine j_sub [0] rfl ?_
    exact jb_f11_needs_j24 h fin hS  M
theorem ydf11_needs : ph_yd yX11_needs 2 := ⟨by decide, by decide, by decide +kernel⟩
def f11_needs (S : ph_Sh) (M : ph_Mem) (p0 : Int32) (p1 : Int32) : Option (Int32 × ph_Mem) :=
  (f11_isFact S M p0).bind fun q1 => if q1 = 0 then (f11_needs_j24 S  M) else (if p1 = (-1 : Int32) then (f11_needs_j19 S p0 p1 M) else ((f11_isFact S M p1).bind fun q2 => if q2 = 0 then (f11_needs_j24 S  M) else (f11_needs_j19 S p0 p1 M)))
set_option maxHeartbeats 4000000 in
theorem cf11_needs {tb adK adV : Nat → Nat} {S : ph_Sh} {l : Launch} {D : va_G} {cA : Nat → ClassId} {ad : Nat → Nat} (hinj : ∀ i j, i < S.2 → j < S.2 → ad i = ad j → i = j) (hS : ph_SX S) {M : ph_Mem} {p0 : Int32} {p1 : Int32} {r : Int32} {M' : ph_Mem} (hf : f11_needs S M p0 p1 = some (r, M')) : ph_C (ph_ZX tb adK adV) l 1 yX11_needs cX11_needs 4 (some .int) D cA S.1 S.2 ad [.ref (ad 0), .int p0, .int p1] M (some (.int r)) M' := by
  refine ph_mk ph_ZX_ok hinj (by decide) (Nat.le_of_ble_eq_true rfl) fun X h fin hE => ?_
  refine (?_ : ph_J X S.1 S.2 ad ((r, M') : (Int32 × ph_Mem)) 0 [(0, .ref (ad 0)), (1, .int p0), (2, .int p1)] [] M (f11_needs S M p0 p1)) hf
  unfold f11_needs
  refine j_iload_n h dX11_needs_0 rfl 1 rfl ?_
  refine j_callSiP (n := 1) (As := [.int p0]) (rest := []) h tw_563 tw_447 tw_1 tw_448 ydf11_isFact (by decide) (by decide) (fun q hq => cf11_isFact (ph_okI h) hS hq) rfl (Nat.le_of_ble_eq_true rfl) rfl dX11_needs_1 (fun q1 => ?_)
  refine j_if_eq h 24 dX11_needs_4 (by decide) ?_ ?_
  · refine j_sub [0] rfl ?_
    exact jb_f11_needs_j24 h fin hS  M
  · refine j_iload_n h dX11_needs_7 rfl 2 rfl ?_
    refine j_iconst (v := (-1 : Int32)) h dX11_needs_8 (by decide) ?_
    refine j_icmp_eq h 19 dX11_needs_9 (by decide) ?_ ?_
    · refine j_sub [0, 1, 2] rfl ?_
      exact jb_f11_needs_j19 h fin hS p0 p1 M
    · refine j_iload_n h dX11_needs_12 rfl 2 rfl ?_
      refine j_callSiP (n := 1) (As := [.int p1]) (rest := []) h tw_563 tw_447 tw_1 tw_448 ydf11_isFact (by decide) (by decide) (fun q hq => cf11_isFact (ph_okI h) hS hq) rfl (Nat.le_of_ble_eq_true rfl) rfl dX11_needs_13 (fun q2 => ?_)
      refine j_if_eq h 24 dX11_needs_16 (by decide) ?_ ?_
      · refine j_sub [0] rfl ?_
        exact jb_f11_needs_j24 h fin hS  M
      · refine j_sub [0, 1, 2] rfl ?_
        exact jb_f11_needs_j19 h fin hS p0 p1 M
theorem dX11_terms_0 : decode cX11_terms 0 = .ok (.iload_n 1, 1) := by decide +kernel
theorem dX11_terms_1 : decode cX11_terms 1 = .ok (.ifCond .lt 26, 3) := by decide +kernel
theorem dX11_terms_4 : decode cX11_terms 4 = .ok (.iload_n 1, 1) := by decide +kernel
theorem dX11_terms_5 : decode cX11_terms 5 = .ok (.iconst 5, 1) := by decide +kernel
theorem dX11_terms_6 : decode cX11_terms 6 = .ok (.if_icmp .ge 21, 3) := by decide +kernel
theorem dX11_terms_9 : decode cX11_terms 9 = .ok (.iload_n 2, 1) := by decide +kernel
theorem dX11_terms_10 : decode cX11_terms 10 = .ok (.getstatic 192, 3) := by decide +kernel
theorem dX11_terms_13 : decode cX11_terms 13 = .ok (.iload_n 1, 1) := by decide +kernel
theorem dX11_terms_14 : decode cX11_terms 14 = .ok (.iaload, 1) := by decide +kernel
theorem dX11_terms_15 : decode cX11_terms 15 = .ok (.if_icmp .lt 12, 3) := by decide +kernel
theorem dX11_terms_18 : decode cX11_terms 18 = .ok (.iload_n 2, 1) := by decide +kernel
theorem dX11_terms_19 : decode cX11_terms 19 = .ok (.getstatic 195, 3) := by decide +kernel
theorem dX11_terms_22 : decode cX11_terms 22 = .ok (.iload_n 1, 1) := by decide +kernel
theorem dX11_terms_23 : decode cX11_terms 23 = .ok (.iaload, 1) := by decide +kernel
theorem dX11_terms_24 : decode cX11_terms 24 = .ok (.if_icmp .le 9, 3) := by decide +kernel
theorem dX11_terms_27 : decode cX11_terms 27 = .ok (.aload_n 0, 1) := by decide +kernel
theorem dX11_terms_28 : decode cX11_terms 28 = .ok (.iconst (-1), 1) := by decide +kernel
theorem dX11_terms_29 : decode cX11_terms 29 = .ok (.invokevirtual 117, 3) := by decide +kernel
theorem dX11_terms_32 : decode cX11_terms 32 = .ok (.ireturn, 1) := by decide +kernel
theorem dX11_terms_33 : decode cX11_terms 33 = .ok (.iload_n 1, 1) := by decide +kernel
theorem dX11_terms_34 : decode cX11_terms 34 = .ok (.ifCond .ne 21, 3) := by decide +kernel
theorem dX11_terms_37 : decode cX11_terms 37 = .ok (.iload_n 2, 1) := by decide +kernel
theorem dX11_terms_38 : decode cX11_terms 38 = .ok (.aload_n 0, 1) := by decide +kernel
theorem dX11_terms_39 : decode cX11_terms 39 = .ok (.getfield 15, 3) := by decide +kernel
theorem dX11_terms_42 : decode cX11_terms 42 = .ok (.invokevirtual 198, 3) := by decide +kernel
theorem dX11_terms_45 : decode cX11_terms 45 = .ok (.if_icmp .ge 10, 3) := by decide +kernel
theorem dX11_terms_48 : decode cX11_terms 48 = .ok (.aload_n 0, 1) := by decide +kernel
theorem dX11_terms_49 : decode cX11_terms 49 = .ok (.bipush (-3), 2) := by decide +kernel
theorem dX11_terms_51 : decode cX11_terms 51 = .ok (.invokevirtual 117, 3) := by decide +kernel
theorem dX11_terms_54 : decode cX11_terms 54 = .ok (.ireturn, 1) := by decide +kernel
theorem dX11_terms_55 : decode cX11_terms 55 = .ok (.aload_n 0, 1) := by decide +kernel
theorem dX11_terms_56 : decode cX11_terms 56 = .ok (.getfield 35, 3) := by decide +kernel
theorem dX11_terms_59 : decode cX11_terms 59 = .ok (.invokevirtual 121, 3) := by decide +kernel
theorem dX11_terms_62 : decode cX11_terms 62 = .ok (.aload_n 0, 1) := by decide +kernel
theorem dX11_terms_63 : decode cX11_terms 63 = .ok (.getfield 15, 3) := by decide +kernel
theorem dX11_terms_66 : decode cX11_terms 66 = .ok (.getfield 161, 3) := by decide +kernel
theorem dX11_terms_69 : decode cX11_terms 69 = .ok (.iload_n 1, 1) := by decide +kernel
theorem dX11_terms_70 : decode cX11_terms 70 = .ok (.iaload, 1) := by decide +kernel
theorem dX11_terms_71 : decode cX11_terms 71 = .ok (.istore_n 3, 1) := by decide +kernel
theorem dX11_terms_72 : decode cX11_terms 72 = .ok (.aload_n 0, 1) := by decide +kernel
theorem dX11_terms_73 : decode cX11_terms 73 = .ok (.getfield 15, 3) := by decide +kernel
theorem dX11_terms_76 : decode cX11_terms 76 = .ok (.getfield 161, 3) := by decide +kernel
theorem dX11_terms_79 : decode cX11_terms 79 = .ok (.iload_n 1, 1) := by decide +kernel
theorem dX11_terms_80 : decode cX11_terms 80 = .ok (.iload_n 2, 1) := by decide +kernel
theorem dX11_terms_81 : decode cX11_terms 81 = .ok (.iastore, 1) := by decide +kernel
theorem dX11_terms_82 : decode cX11_terms 82 = .ok (.aload_n 0, 1) := by decide +kernel
theorem dX11_terms_83 : decode cX11_terms 83 = .ok (.iload_n 3, 1) := by decide +kernel
theorem dX11_terms_84 : decode cX11_terms 84 = .ok (.invokevirtual 124, 3) := by decide +kernel
theorem dX11_terms_87 : decode cX11_terms 87 = .ok (.ireturn, 1) := by decide +kernel
def f11_terms_j27 (S : ph_Sh) (M : ph_Mem) : Option (Int32 × ph_Mem) :=
  (f11_refused S M (-1 : Int32)).bind fun q7 => some (q7.1, q7.2)
set_option maxHeartbeats 4000000 in
theorem jb_f11_terms_j27 {tb adK adV : Nat → Nat} {S : ph_Sh} {X : ph_X} {ad : Nat → Nat} {o : (Int32 × ph_Mem)} (h : ph_ok (ph_ZX tb adK adV) X cX11_terms RX11 (some .int) 4 2 S.2 ad) (fin : ph_fin X S.1 S.2 ad (some (.int o.1)) o.2) (hS : ph_SX S) : ∀ (M : ph_Mem), ph_J X S.1 S.2 ad o 27 [(0, .ref (ad 0))] [] M (f11_terms_j27 S M) := by
  intro M
  unfold f11_terms_j27
  refine j_aload_n h dX11_terms_27 rfl 0 rfl ?_
  refine j_iconst (v := (-1 : Int32)) h dX11_terms_28 (by decide) ?_
  refine j_callVi (n := 1) (As := [.int (-1 : Int32)]) (rest := []) h 0 tw_423 tw_425 tp_0 tw_1 tw_426 ydf11_refused (by decide) (by decide) (ph_xlt hS (by decide)) (ph_kc0 hS) rfl (fun q hq => cf11_refused (ph_okI h) hS hq) rfl (Nat.le_of_ble_eq_true rfl) rfl dX11_terms_29 (fun q7 => ?_)
  exact j_iret h rfl fin dX11_terms_32
def f11_terms_j55 (S : ph_Sh) (x1 : Int32) (x2 : Int32) (M : ph_Mem) : Option (Int32 × ph_Mem) :=
  (f1_forget S M 59).bind fun q3 => cond (ph_ib x1 5) (ph_let (q3.1 21 x1.toNatClampNeg) fun z4 => cond (ph_ib x1 5) (ph_let (ph_wi q3 21 x1.toNatClampNeg x2) fun M5 => (f11_accepted S M5 z4).bind fun q6 => some (q6.1, q6.2)) none) none
set_option maxHeartbeats 4000000 in
theorem jb_f11_terms_j55 {tb adK adV : Nat → Nat} {S : ph_Sh} {X : ph_X} {ad : Nat → Nat} {o : (Int32 × ph_Mem)} (h : ph_ok (ph_ZX tb adK adV) X cX11_terms RX11 (some .int) 4 2 S.2 ad) (fin : ph_fin X S.1 S.2 ad (some (.int o.1)) o.2) (hS : ph_SX S) : ∀ (x1 : Int32) (x2 : Int32) (M : ph_Mem), ph_J X S.1 S.2 ad o 55 [(0, .ref (ad 0)), (1, .int x1), (2, .int x2)] [] M (f11_terms_j55 S x1 x2 M) := by
  intro x1 x2 M
  unfold f11_terms_j55
  refine j_aload_n h dX11_terms_55 rfl 0 rfl ?_
  refine j_get (c := 0) (j := 4) (v := .ref (ad 59)) h (ph_xlt hS (by decide)) (ph_kc0 hS) rfl ph_inX11 rfl (by decide) tw_365 rfl rfl dX11_terms_56 ?_
  refine j_callVv (n := 0) (As := []) (rest := []) h 59 tw_427 tw_428 tw_429 tw_6 tw_430 ydf1_forget (by decide) (by decide) (ph_xlt hS (by decide)) (ph_kc59 hS) rfl (fun q hq => cf1_forget (ph_okI h) hS (by decide) hq) rfl (Nat.le_of_ble_eq_true rfl) rfl dX11_terms_59 (fun q3 => ?_)
  refine j_aload_n h dX11_terms_62 rfl 0 rfl ?_
  refine j_get (c := 0) (j := 0) (v := .ref (ad 11)) h (ph_xlt hS (by decide)) (ph_kc0 hS) rfl ph_inX11 rfl (by decide) tw_361 rfl rfl dX11_terms_63 ?_
  refine j_get (c := 11) (j := 11) (v := .ref (ad 21)) h (ph_xlt hS (by decide)) (ph_kc11 hS) rfl ph_inX9 rfl (by decide) tw_102 rfl rfl dX11_terms_66 ?_
  refine j_iload_n h dX11_terms_69 rfl 1 rfl ?_
  refine j_iald (c := 21) (n := 5) h (ph_xlt hS (by decide)) (ph_kc21 hS) dX11_terms_70 ?_
  refine j_istore_n h [(3, .int (q3.1 21 x1.toNatClampNeg)), (0, .ref (ad 0)), (1, .int x1), (2, .int x2)] dX11_terms_71 rfl (by decide) rfl ?_
  refine j_letI (lvf := fun z4 => [(3, .int z4), (0, .ref (ad 0)), (1, .int x1), (2, .int x2)]) (fun z4 => ?_)
  refine j_aload_n h dX11_terms_72 rfl 1 rfl ?_
  refine j_get (c := 0) (j := 0) (v := .ref (ad 11)) h (ph_xlt hS (by decide)) (ph_kc0 hS) rfl ph_inX11 rfl (by decide) tw_361 rfl rfl dX11_terms_73 ?_
  refine j_get (c := 11) (j := 11) (v := .ref (ad 21)) h (ph_xlt hS (by decide)) (ph_kc11 hS) rfl ph_inX9 rfl (by decide) tw_102 rfl rfl dX11_terms_76 ?_
  refine j_iload_n h dX11_terms_79 rfl 2 rfl ?_
  refine j_iload_n h dX11_terms_80 rfl 3 rfl ?_
  refine j_iast (c := 21) (n := 5) h (ph_xlt hS (by decide)) (ph_kc21 hS) dX11_terms_81 ?_
  refine j_letM (fun M5 => ?_)
  refine j_aload_n h dX11_terms_82 rfl 1 rfl ?_
  refine j_iload_n h dX11_terms_83 rfl 0 rfl ?_
  refine j_callVi (n := 1) (As := [.int z4]) (rest := []) h 0 tw_431 tw_433 tp_1 tw_1 tw_434 ydf11_accepted (by decide) (by decide) (ph_xlt hS (by decide)) (ph_kc0 hS) rfl (fun q hq => cf11_accepted (ph_okI h) hS hq) rfl (Nat.le_of_ble_eq_true rfl) rfl dX11_terms_84 (fun q6 => ?_)
  exact j_iret h rfl fin dX11_terms_87
theorem ydf11_terms : ph_yd yX11_terms 2 := ⟨by decide, by decide, by decide +kernel⟩
def f11_terms (S : ph_Sh) (M : ph_Mem) (p0 : Int32) (p1 : Int32) : Option (Int32 × ph_Mem) :=
  if p0 < 0 then (f11_terms_j27 S  M) else (if (5 : Int32) ≤ p0 then (f11_terms_j27 S  M) else (cond (ph_ib p0 5) (if p1 < ((ph_tv 0).getD p0.toNatClampNeg 0) then (f11_terms_j27 S  M) else (cond (ph_ib p0 5) (if p1 ≤ ((ph_tv 1).getD p0.toNatClampNeg 0) then (if p0 = 0 then ((f9_latestPawnDay S M 11).bind fun q1 => if q1 ≤ p1 then (f11_terms_j55 S p0 p1 M) else ((f11_refused S M (-3 : Int32)).bind fun q2 => some (q2.1, q2.2))) else (f11_terms_j55 S p0 p1 M)) else (f11_terms_j27 S  M)) none)) none))
set_option maxHeartbeats 4000000 in
theorem cf11_terms {tb adK adV : Nat → Nat} {S : ph_Sh} {l : Launch} {D : va_G} {cA : Nat → ClassId} {ad : Nat → Nat} (hinj : ∀ i j, i < S.2 → j < S.2 → ad i = ad j → i = j) (hS : ph_SX S) {M : ph_Mem} {p0 : Int32} {p1 : Int32} {r : Int32} {M' : ph_Mem} (hf : f11_terms S M p0 p1 = some (r, M')) : ph_C (ph_ZX tb adK adV) l 2 yX11_terms cX11_terms 4 (some .int) D cA S.1 S.2 ad [.ref (ad 0), .int p0, .int p1] M (some (.int r)) M' := by
  refine ph_mk ph_ZX_ok hinj (by decide) (Nat.le_of_ble_eq_true rfl) fun X h fin hE => ?_
  refine (?_ : ph_J X S.1 S.2 ad ((r, M') : (Int32 × ph_Mem)) 0 [(0, .ref (ad 0)), (1, .int p0), (2, .int p1)] [] M (f11_terms S M p0 p1)) hf
  unfold f11_terms
  refine j_iload_n h dX11_terms_0 rfl 1 rfl ?_
  refine j_if_lt h 27 dX11_terms_1 (by decide) ?_ ?_
  · refine j_sub [0] rfl ?_
    exact jb_f11_terms_j27 h fin hS  M
  · refine j_iload_n h dX11_terms_4 rfl 1 rfl ?_
    refine j_iconst (v := (5 : Int32)) h dX11_terms_5 (by decide) ?_
    refine j_icmp_ge h 27 dX11_terms_6 (by decide) ?_ ?_
    · refine j_sub [0] rfl ?_
      exact jb_f11_terms_j27 h fin hS  M
    · refine j_iload_n h dX11_terms_9 rfl 2 rfl ?_
      refine j_gets h 0 (by decide) tw_568 dX11_terms_10 ?_
      refine j_iload_n h dX11_terms_13 rfl 1 rfl ?_
      refine j_tald h 0 5 (by decide) rfl dX11_terms_14 ?_
      refine j_icmp_lt h 27 dX11_terms_15 (by decide) ?_ ?_
      · refine j_sub [0] rfl ?_
        exact jb_f11_terms_j27 h fin hS  M
      · refine j_iload_n h dX11_terms_18 rfl 2 rfl ?_
        refine j_gets h 1 (by decide) tw_570 dX11_terms_19 ?_
        refine j_iload_n h dX11_terms_22 rfl 1 rfl ?_
        refine j_tald h 1 5 (by decide) rfl dX11_terms_23 ?_
        refine j_icmp_le h 33 dX11_terms_24 (by decide) ?_ ?_
        · refine j_iload_n h dX11_terms_33 rfl 1 rfl ?_
          refine j_if_ne h 55 dX11_terms_34 (by decide) ?_ ?_
          · refine j_sub [0, 1, 2] rfl ?_
            exact jb_f11_terms_j55 h fin hS p0 p1 M
          · refine j_iload_n h dX11_terms_37 rfl 2 rfl ?_
            refine j_aload_n h dX11_terms_38 rfl 0 rfl ?_
            refine j_get (c := 0) (j := 0) (v := .ref (ad 11)) h (ph_xlt hS (by decide)) (ph_kc0 hS) rfl ph_inX11 rfl (by decide) tw_361 rfl rfl dX11_terms_39 ?_
            refine j_callViP (n := 0) (As := []) (rest := [.int p1]) h 11 tw_572 tw_573 tw_574 tw_3 tw_575 ydf9_latestPawnDay (by decide) (by decide) (ph_xlt hS (by decide)) (ph_kc11 hS) rfl (fun q hq => cf9_latestPawnDay (ph_okI h) hS (by decide) hq) rfl (Nat.le_of_ble_eq_true rfl) rfl dX11_terms_42 (fun q1 => ?_)
            refine j_icmp_ge h 55 dX11_terms_45 (by decide) ?_ ?_
            · refine j_sub [0, 1, 2] rfl ?_
              exact jb_f11_terms_j55 h fin hS p0 p1 M
            · refine j_aload_n h dX11_terms_48 rfl 0 rfl ?_
              refine j_bipush (v := (-3 : Int32)) h dX11_terms_49 (by decide) ?_
              refine j_callVi (n := 1) (As := [.int (-3 : Int32)]) (rest := []) h 0 tw_423 tw_425 tp_0 tw_1 tw_426 ydf11_refused (by decide) (by decide) (ph_xlt hS (by decide)) (ph_kc0 hS) rfl (fun q hq => cf11_refused (ph_okI h) hS hq) rfl (Nat.le_of_ble_eq_true rfl) rfl dX11_terms_51 (fun q2 => ?_)
              exact j_iret h rfl fin dX11_terms_54
        · refine j_sub [0] rfl ?_
          exact jb_f11_terms_j27 h fin hS  M
theorem dX11_feed_0 : decode cX11_feed 0 = .ok (.aload_n 0, 1) := by decide +kernel
theorem dX11_feed_1 : decode cX11_feed 1 = .ok (.getfield 45, 3) := by decide +kernel
theorem dX11_feed_4 : decode cX11_feed 4 = .ok (.getfield 202, 3) := by decide +kernel
theorem dX11_feed_7 : decode cX11_feed 7 = .ok (.bipush 20, 2) := by decide +kernel
theorem dX11_feed_9 : decode cX11_feed 9 = .ok (.iadd, 1) := by decide +kernel
theorem dX11_feed_10 : decode cX11_feed 10 = .ok (.sipush 400, 3) := by decide +kernel
theorem dX11_feed_13 : decode cX11_feed 13 = .ok (.if_icmp .le 5, 3) := by decide +kernel
theorem dX11_feed_16 : decode cX11_feed 16 = .ok (.iconst (-1), 1) := by decide +kernel
theorem dX11_feed_17 : decode cX11_feed 17 = .ok (.ireturn, 1) := by decide +kernel
theorem dX11_feed_18 : decode cX11_feed 18 = .ok (.aload_n 0, 1) := by decide +kernel
theorem dX11_feed_19 : decode cX11_feed 19 = .ok (.getfield 45, 3) := by decide +kernel
theorem dX11_feed_22 : decode cX11_feed 22 = .ok (.iload_n 1, 1) := by decide +kernel
theorem dX11_feed_23 : decode cX11_feed 23 = .ok (.invokevirtual 205, 3) := by decide +kernel
theorem dX11_feed_26 : decode cX11_feed 26 = .ok (.aload_n 0, 1) := by decide +kernel
theorem dX11_feed_27 : decode cX11_feed 27 = .ok (.getfield 45, 3) := by decide +kernel
theorem dX11_feed_30 : decode cX11_feed 30 = .ok (.iload_n 2, 1) := by decide +kernel
theorem dX11_feed_31 : decode cX11_feed 31 = .ok (.invokevirtual 205, 3) := by decide +kernel
theorem dX11_feed_34 : decode cX11_feed 34 = .ok (.aload_n 0, 1) := by decide +kernel
theorem dX11_feed_35 : decode cX11_feed 35 = .ok (.getfield 45, 3) := by decide +kernel
theorem dX11_feed_38 : decode cX11_feed 38 = .ok (.iload_n 3, 1) := by decide +kernel
theorem dX11_feed_39 : decode cX11_feed 39 = .ok (.invokevirtual 205, 3) := by decide +kernel
theorem dX11_feed_42 : decode cX11_feed 42 = .ok (.aload_n 0, 1) := by decide +kernel
theorem dX11_feed_43 : decode cX11_feed 43 = .ok (.getfield 45, 3) := by decide +kernel
theorem dX11_feed_46 : decode cX11_feed 46 = .ok (.iload 4, 2) := by decide +kernel
theorem dX11_feed_48 : decode cX11_feed 48 = .ok (.invokevirtual 205, 3) := by decide +kernel
theorem dX11_feed_51 : decode cX11_feed 51 = .ok (.aload_n 0, 1) := by decide +kernel
theorem dX11_feed_52 : decode cX11_feed 52 = .ok (.getfield 45, 3) := by decide +kernel
theorem dX11_feed_55 : decode cX11_feed 55 = .ok (.iload 5, 2) := by decide +kernel
theorem dX11_feed_57 : decode cX11_feed 57 = .ok (.invokevirtual 205, 3) := by decide +kernel
theorem dX11_feed_60 : decode cX11_feed 60 = .ok (.aload_n 0, 1) := by decide +kernel
theorem dX11_feed_61 : decode cX11_feed 61 = .ok (.getfield 45, 3) := by decide +kernel
theorem dX11_feed_64 : decode cX11_feed 64 = .ok (.getfield 202, 3) := by decide +kernel
theorem dX11_feed_67 : decode cX11_feed 67 = .ok (.ireturn, 1) := by decide +kernel
theorem ydf11_feed : ph_yd yX11_feed 5 := ⟨by decide, by decide, by decide +kernel⟩
def f11_feed (S : ph_Sh) (M : ph_Mem) (p0 : Int32) (p1 : Int32) (p2 : Int32) (p3 : Int32) (p4 : Int32) : Option (Int32 × ph_Mem) :=
  if ((M.1 63 1) + (20 : Int32)) ≤ (400 : Int32) then ((f6_addFour S M p0).bind fun q1 => (f6_addFour S q1 p1).bind fun q2 => (f6_addFour S q2 p2).bind fun q3 => (f6_addFour S q3 p3).bind fun q4 => (f6_addFour S q4 p4).bind fun q5 => some ((q5.1 63 1), q5)) else (some ((-1 : Int32), M))
set_option maxHeartbeats 4000000 in
theorem cf11_feed {tb adK adV : Nat → Nat} {S : ph_Sh} {l : Launch} {D : va_G} {cA : Nat → ClassId} {ad : Nat → Nat} (hinj : ∀ i j, i < S.2 → j < S.2 → ad i = ad j → i = j) (hS : ph_SX S) {M : ph_Mem} {p0 : Int32} {p1 : Int32} {p2 : Int32} {p3 : Int32} {p4 : Int32} {r : Int32} {M' : ph_Mem} (hf : f11_feed S M p0 p1 p2 p3 p4 = some (r, M')) : ph_C (ph_ZX tb adK adV) l 1 yX11_feed cX11_feed 6 (some .int) D cA S.1 S.2 ad [.ref (ad 0), .int p0, .int p1, .int p2, .int p3, .int p4] M (some (.int r)) M' := by
  refine ph_mk ph_ZX_ok hinj (by decide) (Nat.le_of_ble_eq_true rfl) fun X h fin hE => ?_
  refine (?_ : ph_J X S.1 S.2 ad ((r, M') : (Int32 × ph_Mem)) 0 [(0, .ref (ad 0)), (1, .int p0), (2, .int p1), (3, .int p2), (4, .int p3), (5, .int p4)] [] M (f11_feed S M p0 p1 p2 p3 p4)) hf
  unfold f11_feed
  refine j_aload_n h dX11_feed_0 rfl 0 rfl ?_
  refine j_get (c := 0) (j := 6) (v := .ref (ad 63)) h (ph_xlt hS (by decide)) (ph_kc0 hS) rfl ph_inX11 rfl (by decide) tw_367 rfl rfl dX11_feed_1 ?_
  refine j_get (c := 63) (j := 1) (v := .int (M.1 63 1)) h (ph_xlt hS (by decide)) (ph_kc63 hS) rfl ph_inX6 rfl (by decide) tw_169 rfl rfl dX11_feed_4 ?_
  refine j_bipush (v := (20 : Int32)) h dX11_feed_7 (by decide) ?_
  refine j_iadd h dX11_feed_9 ?_
  refine j_sipush (v := (400 : Int32)) h dX11_feed_10 (by decide) ?_
  refine j_icmp_le h 18 dX11_feed_13 (by decide) ?_ ?_
  · refine j_aload_n h dX11_feed_18 rfl 0 rfl ?_
    refine j_get (c := 0) (j := 6) (v := .ref (ad 63)) h (ph_xlt hS (by decide)) (ph_kc0 hS) rfl ph_inX11 rfl (by decide) tw_367 rfl rfl dX11_feed_19 ?_
    refine j_iload_n h dX11_feed_22 rfl 1 rfl ?_
    refine j_callVv (n := 1) (As := [.int p0]) (rest := []) h 63 tw_581 tw_582 tw_583 tw_7 tw_584 ydf6_addFour (by decide) (by decide) (ph_xlt hS (by decide)) (ph_kc63 hS) rfl (fun q hq => cf6_addFour (ph_okI h) hS hq) rfl (Nat.le_of_ble_eq_true rfl) rfl dX11_feed_23 (fun q1 => ?_)
    refine j_aload_n h dX11_feed_26 rfl 0 rfl ?_
    refine j_get (c := 0) (j := 6) (v := .ref (ad 63)) h (ph_xlt hS (by decide)) (ph_kc0 hS) rfl ph_inX11 rfl (by decide) tw_367 rfl rfl dX11_feed_27 ?_
    refine j_iload_n h dX11_feed_30 rfl 2 rfl ?_
    refine j_callVv (n := 1) (As := [.int p1]) (rest := []) h 63 tw_581 tw_582 tw_583 tw_7 tw_584 ydf6_addFour (by decide) (by decide) (ph_xlt hS (by decide)) (ph_kc63 hS) rfl (fun q hq => cf6_addFour (ph_okI h) hS hq) rfl (Nat.le_of_ble_eq_true rfl) rfl dX11_feed_31 (fun q2 => ?_)
    refine j_aload_n h dX11_feed_34 rfl 0 rfl ?_
    refine j_get (c := 0) (j := 6) (v := .ref (ad 63)) h (ph_xlt hS (by decide)) (ph_kc0 hS) rfl ph_inX11 rfl (by decide) tw_367 rfl rfl dX11_feed_35 ?_
    refine j_iload_n h dX11_feed_38 rfl 3 rfl ?_
    refine j_callVv (n := 1) (As := [.int p2]) (rest := []) h 63 tw_581 tw_582 tw_583 tw_7 tw_584 ydf6_addFour (by decide) (by decide) (ph_xlt hS (by decide)) (ph_kc63 hS) rfl (fun q hq => cf6_addFour (ph_okI h) hS hq) rfl (Nat.le_of_ble_eq_true rfl) rfl dX11_feed_39 (fun q3 => ?_)
    refine j_aload_n h dX11_feed_42 rfl 0 rfl ?_
    refine j_get (c := 0) (j := 6) (v := .ref (ad 63)) h (ph_xlt hS (by decide)) (ph_kc0 hS) rfl ph_inX11 rfl (by decide) tw_367 rfl rfl dX11_feed_43 ?_
    refine j_iload h dX11_feed_46 4 rfl ?_
    refine j_callVv (n := 1) (As := [.int p3]) (rest := []) h 63 tw_581 tw_582 tw_583 tw_7 tw_584 ydf6_addFour (by decide) (by decide) (ph_xlt hS (by decide)) (ph_kc63 hS) rfl (fun q hq => cf6_addFour (ph_okI h) hS hq) rfl (Nat.le_of_ble_eq_true rfl) rfl dX11_feed_48 (fun q4 => ?_)
    refine j_aload_n h dX11_feed_51 rfl 0 rfl ?_
    refine j_get (c := 0) (j := 6) (v := .ref (ad 63)) h (ph_xlt hS (by decide)) (ph_kc0 hS) rfl ph_inX11 rfl (by decide) tw_367 rfl rfl dX11_feed_52 ?_
    refine j_iload h dX11_feed_55 5 rfl ?_
    refine j_callVv (n := 1) (As := [.int p4]) (rest := []) h 63 tw_581 tw_582 tw_583 tw_7 tw_584 ydf6_addFour (by decide) (by decide) (ph_xlt hS (by decide)) (ph_kc63 hS) rfl (fun q hq => cf6_addFour (ph_okI h) hS hq) rfl (Nat.le_of_ble_eq_true rfl) rfl dX11_feed_57 (fun q5 => ?_)
    refine j_aload_n h dX11_feed_60 rfl 0 rfl ?_
    refine j_get (c := 0) (j := 6) (v := .ref (ad 63)) h (ph_xlt hS (by decide)) (ph_kc0 hS) rfl ph_inX11 rfl (by decide) tw_367 rfl rfl dX11_feed_61 ?_
    refine j_get (c := 63) (j := 1) (v := .int (q5.1 63 1)) h (ph_xlt hS (by decide)) (ph_kc63 hS) rfl ph_inX6 rfl (by decide) tw_169 rfl rfl dX11_feed_64 ?_
    exact j_iret h rfl fin dX11_feed_67
  · refine j_iconst (v := (-1 : Int32)) h dX11_feed_16 (by decide) ?_
    exact j_iret h rfl fin dX11_feed_17
theorem dX11_end_0 : decode cX11_end 0 = .ok (.iload_n 1, 1) := by decide +kernel
theorem dX11_end_1 : decode cX11_end 1 = .ok (.ifCond .lt 14, 3) := by decide +kernel
theorem dX11_end_4 : decode cX11_end 4 = .ok (.iload_n 1, 1) := by decide +kernel
theorem dX11_end_5 : decode cX11_end 5 = .ok (.aload_n 0, 1) := by decide +kernel
theorem dX11_end_6 : decode cX11_end 6 = .ok (.getfield 45, 3) := by decide +kernel
theorem dX11_end_9 : decode cX11_end 9 = .ok (.getfield 202, 3) := by decide +kernel
theorem dX11_end_12 : decode cX11_end 12 = .ok (.if_icmp .le 5, 3) := by decide +kernel
theorem dX11_end_15 : decode cX11_end 15 = .ok (.iconst (-1), 1) := by decide +kernel
theorem dX11_end_16 : decode cX11_end 16 = .ok (.ireturn, 1) := by decide +kernel
theorem dX11_end_17 : decode cX11_end 17 = .ok (.aload_n 0, 1) := by decide +kernel
theorem dX11_end_18 : decode cX11_end 18 = .ok (.getfield 45, 3) := by decide +kernel
theorem dX11_end_21 : decode cX11_end 21 = .ok (.iload_n 1, 1) := by decide +kernel
theorem dX11_end_22 : decode cX11_end 22 = .ok (.putfield 202, 3) := by decide +kernel
theorem dX11_end_25 : decode cX11_end 25 = .ok (.iload_n 1, 1) := by decide +kernel
theorem dX11_end_26 : decode cX11_end 26 = .ok (.ireturn, 1) := by decide +kernel
theorem ydf11_end : ph_yd yX11_end 1 := ⟨by decide, by decide, by decide +kernel⟩
def f11_end (S : ph_Sh) (M : ph_Mem) (p0 : Int32) : Option (Int32 × ph_Mem) :=
  if p0 < 0 then (some ((-1 : Int32), M)) else (if p0 ≤ (M.1 63 1) then (ph_let (ph_wi M 63 1 p0) fun M1 => some (p0, M1)) else (some ((-1 : Int32), M)))
set_option maxHeartbeats 4000000 in
theorem cf11_end {tb adK adV : Nat → Nat} {S : ph_Sh} {l : Launch} {D : va_G} {cA : Nat → ClassId} {ad : Nat → Nat} (hinj : ∀ i j, i < S.2 → j < S.2 → ad i = ad j → i = j) (hS : ph_SX S) {M : ph_Mem} {p0 : Int32} {r : Int32} {M' : ph_Mem} (hf : f11_end S M p0 = some (r, M')) : ph_C (ph_ZX tb adK adV) l 0 yX11_end cX11_end 2 (some .int) D cA S.1 S.2 ad [.ref (ad 0), .int p0] M (some (.int r)) M' := by
  refine ph_mk ph_ZX_ok hinj (by decide) (Nat.le_of_ble_eq_true rfl) fun X h fin hE => ?_
  refine (?_ : ph_J X S.1 S.2 ad ((r, M') : (Int32 × ph_Mem)) 0 [(0, .ref (ad 0)), (1, .int p0)] [] M (f11_end S M p0)) hf
  unfold f11_end
  refine j_iload_n h dX11_end_0 rfl 1 rfl ?_
  refine j_if_lt h 15 dX11_end_1 (by decide) ?_ ?_
  · refine j_iconst (v := (-1 : Int32)) h dX11_end_15 (by decide) ?_
    exact j_iret h rfl fin dX11_end_16
  · refine j_iload_n h dX11_end_4 rfl 1 rfl ?_
    refine j_aload_n h dX11_end_5 rfl 0 rfl ?_
    refine j_get (c := 0) (j := 6) (v := .ref (ad 63)) h (ph_xlt hS (by decide)) (ph_kc0 hS) rfl ph_inX11 rfl (by decide) tw_367 rfl rfl dX11_end_6 ?_
    refine j_get (c := 63) (j := 1) (v := .int (M.1 63 1)) h (ph_xlt hS (by decide)) (ph_kc63 hS) rfl ph_inX6 rfl (by decide) tw_169 rfl rfl dX11_end_9 ?_
    refine j_icmp_le h 17 dX11_end_12 (by decide) ?_ ?_
    · refine j_aload_n h dX11_end_17 rfl 0 rfl ?_
      refine j_get (c := 0) (j := 6) (v := .ref (ad 63)) h (ph_xlt hS (by decide)) (ph_kc0 hS) rfl ph_inX11 rfl (by decide) tw_367 rfl rfl dX11_end_18 ?_
      refine j_iload_n h dX11_end_21 rfl 1 rfl ?_
      refine j_puti (c := 63) (j := 1) (ty := .int) h (ph_xlt hS (by decide)) (ph_kc63 hS) rfl ph_inX6 tyX6 tyX6_ok nmX6 rfl (by decide) tw_169 rfl rfl (tyX6_ok 1 (by decide)) rfl rfl dX11_end_22 ?_
      refine j_letM (fun M1 => ?_)
      refine j_iload_n h dX11_end_25 rfl 1 rfl ?_
      exact j_iret h rfl fin dX11_end_26
    · refine j_iconst (v := (-1 : Int32)) h dX11_end_15 (by decide) ?_
      exact j_iret h rfl fin dX11_end_16
theorem dX11_tellFromTape_0 : decode cX11_tellFromTape 0 = .ok (.iload_n 2, 1) := by decide +kernel
theorem dX11_tellFromTape_1 : decode cX11_tellFromTape 1 = .ok (.iconst 3, 1) := by decide +kernel
theorem dX11_tellFromTape_2 : decode cX11_tellFromTape 2 = .ok (.imul, 1) := by decide +kernel
theorem dX11_tellFromTape_3 : decode cX11_tellFromTape 3 = .ok (.istore_n 3, 1) := by decide +kernel
theorem dX11_tellFromTape_4 : decode cX11_tellFromTape 4 = .ok (.iload_n 2, 1) := by decide +kernel
theorem dX11_tellFromTape_5 : decode cX11_tellFromTape 5 = .ok (.bipush 12, 2) := by decide +kernel
theorem dX11_tellFromTape_7 : decode cX11_tellFromTape 7 = .ok (.if_icmp .ge 16, 3) := by decide +kernel
theorem dX11_tellFromTape_10 : decode cX11_tellFromTape 10 = .ok (.iload_n 3, 1) := by decide +kernel
theorem dX11_tellFromTape_11 : decode cX11_tellFromTape 11 = .ok (.iconst 3, 1) := by decide +kernel
theorem dX11_tellFromTape_12 : decode cX11_tellFromTape 12 = .ok (.iadd, 1) := by decide +kernel
theorem dX11_tellFromTape_13 : decode cX11_tellFromTape 13 = .ok (.aload_n 0, 1) := by decide +kernel
theorem dX11_tellFromTape_14 : decode cX11_tellFromTape 14 = .ok (.getfield 45, 3) := by decide +kernel
theorem dX11_tellFromTape_17 : decode cX11_tellFromTape 17 = .ok (.getfield 202, 3) := by decide +kernel
theorem dX11_tellFromTape_20 : decode cX11_tellFromTape 20 = .ok (.if_icmp .le 5, 3) := by decide +kernel
theorem dX11_tellFromTape_23 : decode cX11_tellFromTape 23 = .ok (.iconst 0, 1) := by decide +kernel
theorem dX11_tellFromTape_24 : decode cX11_tellFromTape 24 = .ok (.ireturn, 1) := by decide +kernel
theorem dX11_tellFromTape_25 : decode cX11_tellFromTape 25 = .ok (.aload_n 0, 1) := by decide +kernel
theorem dX11_tellFromTape_26 : decode cX11_tellFromTape 26 = .ok (.getfield 45, 3) := by decide +kernel
theorem dX11_tellFromTape_29 : decode cX11_tellFromTape 29 = .ok (.getfield 354, 3) := by decide +kernel
theorem dX11_tellFromTape_32 : decode cX11_tellFromTape 32 = .ok (.iload_n 3, 1) := by decide +kernel
theorem dX11_tellFromTape_33 : decode cX11_tellFromTape 33 = .ok (.iaload, 1) := by decide +kernel
theorem dX11_tellFromTape_34 : decode cX11_tellFromTape 34 = .ok (.iconst 1, 1) := by decide +kernel
theorem dX11_tellFromTape_35 : decode cX11_tellFromTape 35 = .ok (.isub, 1) := by decide +kernel
theorem dX11_tellFromTape_36 : decode cX11_tellFromTape 36 = .ok (.istore 4, 2) := by decide +kernel
theorem dX11_tellFromTape_38 : decode cX11_tellFromTape 38 = .ok (.aload_n 0, 1) := by decide +kernel
theorem dX11_tellFromTape_39 : decode cX11_tellFromTape 39 = .ok (.getfield 45, 3) := by decide +kernel
theorem dX11_tellFromTape_42 : decode cX11_tellFromTape 42 = .ok (.getfield 354, 3) := by decide +kernel
theorem dX11_tellFromTape_45 : decode cX11_tellFromTape 45 = .ok (.iload_n 3, 1) := by decide +kernel
theorem dX11_tellFromTape_46 : decode cX11_tellFromTape 46 = .ok (.iconst 1, 1) := by decide +kernel
theorem dX11_tellFromTape_47 : decode cX11_tellFromTape 47 = .ok (.iadd, 1) := by decide +kernel
theorem dX11_tellFromTape_48 : decode cX11_tellFromTape 48 = .ok (.iaload, 1) := by decide +kernel
theorem dX11_tellFromTape_49 : decode cX11_tellFromTape 49 = .ok (.istore 5, 2) := by decide +kernel
theorem dX11_tellFromTape_51 : decode cX11_tellFromTape 51 = .ok (.aload_n 0, 1) := by decide +kernel
theorem dX11_tellFromTape_52 : decode cX11_tellFromTape 52 = .ok (.getfield 45, 3) := by decide +kernel
theorem dX11_tellFromTape_55 : decode cX11_tellFromTape 55 = .ok (.getfield 354, 3) := by decide +kernel
theorem dX11_tellFromTape_58 : decode cX11_tellFromTape 58 = .ok (.iload_n 3, 1) := by decide +kernel
theorem dX11_tellFromTape_59 : decode cX11_tellFromTape 59 = .ok (.iconst 2, 1) := by decide +kernel
theorem dX11_tellFromTape_60 : decode cX11_tellFromTape 60 = .ok (.iadd, 1) := by decide +kernel
theorem dX11_tellFromTape_61 : decode cX11_tellFromTape 61 = .ok (.iaload, 1) := by decide +kernel
theorem dX11_tellFromTape_62 : decode cX11_tellFromTape 62 = .ok (.istore 6, 2) := by decide +kernel
theorem dX11_tellFromTape_64 : decode cX11_tellFromTape 64 = .ok (.aload_n 0, 1) := by decide +kernel
theorem dX11_tellFromTape_65 : decode cX11_tellFromTape 65 = .ok (.getfield 15, 3) := by decide +kernel
theorem dX11_tellFromTape_68 : decode cX11_tellFromTape 68 = .ok (.iload_n 1, 1) := by decide +kernel
theorem dX11_tellFromTape_69 : decode cX11_tellFromTape 69 = .ok (.iconst 0, 1) := by decide +kernel
theorem dX11_tellFromTape_70 : decode cX11_tellFromTape 70 = .ok (.iload 4, 2) := by decide +kernel
theorem dX11_tellFromTape_72 : decode cX11_tellFromTape 72 = .ok (.invokevirtual 131, 3) := by decide +kernel
theorem dX11_tellFromTape_75 : decode cX11_tellFromTape 75 = .ok (.ifCond .eq 31, 3) := by decide +kernel
theorem dX11_tellFromTape_78 : decode cX11_tellFromTape 78 = .ok (.aload_n 0, 1) := by decide +kernel
theorem dX11_tellFromTape_79 : decode cX11_tellFromTape 79 = .ok (.getfield 15, 3) := by decide +kernel
theorem dX11_tellFromTape_82 : decode cX11_tellFromTape 82 = .ok (.iload_n 1, 1) := by decide +kernel
theorem dX11_tellFromTape_83 : decode cX11_tellFromTape 83 = .ok (.iconst 1, 1) := by decide +kernel
theorem dX11_tellFromTape_84 : decode cX11_tellFromTape 84 = .ok (.iload 5, 2) := by decide +kernel
theorem dX11_tellFromTape_86 : decode cX11_tellFromTape 86 = .ok (.invokevirtual 131, 3) := by decide +kernel
theorem dX11_tellFromTape_89 : decode cX11_tellFromTape 89 = .ok (.ifCond .eq 17, 3) := by decide +kernel
theorem dX11_tellFromTape_92 : decode cX11_tellFromTape 92 = .ok (.aload_n 0, 1) := by decide +kernel
theorem dX11_tellFromTape_93 : decode cX11_tellFromTape 93 = .ok (.getfield 15, 3) := by decide +kernel
theorem dX11_tellFromTape_96 : decode cX11_tellFromTape 96 = .ok (.iload_n 1, 1) := by decide +kernel
theorem dX11_tellFromTape_97 : decode cX11_tellFromTape 97 = .ok (.iconst 2, 1) := by decide +kernel
theorem dX11_tellFromTape_98 : decode cX11_tellFromTape 98 = .ok (.iload 6, 2) := by decide +kernel
theorem dX11_tellFromTape_100 : decode cX11_tellFromTape 100 = .ok (.invokevirtual 131, 3) := by decide +kernel
theorem dX11_tellFromTape_103 : decode cX11_tellFromTape 103 = .ok (.ifCond .ne 5, 3) := by decide +kernel
theorem dX11_tellFromTape_106 : decode cX11_tellFromTape 106 = .ok (.iconst 0, 1) := by decide +kernel
theorem dX11_tellFromTape_107 : decode cX11_tellFromTape 107 = .ok (.ireturn, 1) := by decide +kernel
theorem dX11_tellFromTape_108 : decode cX11_tellFromTape 108 = .ok (.iload_n 1, 1) := by decide +kernel
theorem dX11_tellFromTape_109 : decode cX11_tellFromTape 109 = .ok (.iload_n 2, 1) := by decide +kernel
theorem dX11_tellFromTape_110 : decode cX11_tellFromTape 110 = .ok (.invokestatic 138, 3) := by decide +kernel
theorem dX11_tellFromTape_113 : decode cX11_tellFromTape 113 = .ok (.istore 7, 2) := by decide +kernel
theorem dX11_tellFromTape_115 : decode cX11_tellFromTape 115 = .ok (.aload_n 0, 1) := by decide +kernel
theorem dX11_tellFromTape_116 : decode cX11_tellFromTape 116 = .ok (.getfield 15, 3) := by decide +kernel
theorem dX11_tellFromTape_119 : decode cX11_tellFromTape 119 = .ok (.iload 7, 2) := by decide +kernel
theorem dX11_tellFromTape_121 : decode cX11_tellFromTape 121 = .ok (.iconst 0, 1) := by decide +kernel
theorem dX11_tellFromTape_122 : decode cX11_tellFromTape 122 = .ok (.iload 4, 2) := by decide +kernel
theorem dX11_tellFromTape_124 : decode cX11_tellFromTape 124 = .ok (.invokevirtual 142, 3) := by decide +kernel
theorem dX11_tellFromTape_127 : decode cX11_tellFromTape 127 = .ok (.pop, 1) := by decide +kernel
theorem dX11_tellFromTape_128 : decode cX11_tellFromTape 128 = .ok (.aload_n 0, 1) := by decide +kernel
theorem dX11_tellFromTape_129 : decode cX11_tellFromTape 129 = .ok (.getfield 15, 3) := by decide +kernel
theorem dX11_tellFromTape_132 : decode cX11_tellFromTape 132 = .ok (.iload 7, 2) := by decide +kernel
theorem dX11_tellFromTape_134 : decode cX11_tellFromTape 134 = .ok (.iconst 1, 1) := by decide +kernel
theorem dX11_tellFromTape_135 : decode cX11_tellFromTape 135 = .ok (.iload 5, 2) := by decide +kernel
theorem dX11_tellFromTape_137 : decode cX11_tellFromTape 137 = .ok (.invokevirtual 142, 3) := by decide +kernel
theorem dX11_tellFromTape_140 : decode cX11_tellFromTape 140 = .ok (.pop, 1) := by decide +kernel
theorem dX11_tellFromTape_141 : decode cX11_tellFromTape 141 = .ok (.aload_n 0, 1) := by decide +kernel
theorem dX11_tellFromTape_142 : decode cX11_tellFromTape 142 = .ok (.getfield 15, 3) := by decide +kernel
theorem dX11_tellFromTape_145 : decode cX11_tellFromTape 145 = .ok (.iload 7, 2) := by decide +kernel
theorem dX11_tellFromTape_147 : decode cX11_tellFromTape 147 = .ok (.iconst 2, 1) := by decide +kernel
theorem dX11_tellFromTape_148 : decode cX11_tellFromTape 148 = .ok (.iload 6, 2) := by decide +kernel
theorem dX11_tellFromTape_150 : decode cX11_tellFromTape 150 = .ok (.invokevirtual 142, 3) := by decide +kernel
theorem dX11_tellFromTape_153 : decode cX11_tellFromTape 153 = .ok (.pop, 1) := by decide +kernel
theorem dX11_tellFromTape_154 : decode cX11_tellFromTape 154 = .ok (.iconst 1, 1) := by decide +kernel
theorem dX11_tellFromTape_155 : decode cX11_tellFromTape 155 = .ok (.ireturn, 1) := by decide +kernel
theorem ydf11_tellFromTape : ph_yd yX11_tellFromTape 2 := ⟨by decide, by decide, by decide +kernel⟩
def f11_tellFromTape (S : ph_Sh) (M : ph_Mem) (p0 : Int32) (p1 : Int32) : Option (Int32 × ph_Mem) :=
  if (12 : Int32) ≤ p1 then (some ((0 : Int32), M)) else (if ((p1 * (3 : Int32)) + (3 : Int32)) ≤ (M.1 63 1) then (cond (ph_ib (p1 * (3 : Int32)) 400) (ph_let ((M.1 64 (p1 * (3 : Int32)).toNatClampNeg) - (1 : Int32)) fun z1 => cond (ph_ib ((p1 * (3 : Int32)) + (1 : Int32)) 400) (ph_let (M.1 64 ((p1 * (3 : Int32)) + (1 : Int32)).toNatClampNeg) fun z2 => cond (ph_ib ((p1 * (3 : Int32)) + (2 : Int32)) 400) (ph_let (M.1 64 ((p1 * (3 : Int32)) + (2 : Int32)).toNatClampNeg) fun z3 => (f9_canBeTold S M 11 p0 (0 : Int32) z1).bind fun q4 => if q4 = 0 then (some ((0 : Int32), M)) else ((f9_canBeTold S M 11 p0 (1 : Int32) z2).bind fun q5 => if q5 = 0 then (some ((0 : Int32), M)) else ((f9_canBeTold S M 11 p0 (2 : Int32) z3).bind fun q6 => if q6 = 0 then (some ((0 : Int32), M)) else ((f11_placeOf S M p0 p1).bind fun q7 => (f9_tell S M 11 q7 (0 : Int32) z1).bind fun q8 => (f9_tell S q8.2 11 q7 (1 : Int32) z2).bind fun q9 => (f9_tell S q9.2 11 q7 (2 : Int32) z3).bind fun q10 => some ((1 : Int32), q10.2))))) none) none) none) else (some ((0 : Int32), M)))
set_option maxHeartbeats 4000000 in
theorem cf11_tellFromTape {tb adK adV : Nat → Nat} {S : ph_Sh} {l : Launch} {D : va_G} {cA : Nat → ClassId} {ad : Nat → Nat} (hinj : ∀ i j, i < S.2 → j < S.2 → ad i = ad j → i = j) (hS : ph_SX S) {M : ph_Mem} {p0 : Int32} {p1 : Int32} {r : Int32} {M' : ph_Mem} (hf : f11_tellFromTape S M p0 p1 = some (r, M')) : ph_C (ph_ZX tb adK adV) l 2 yX11_tellFromTape cX11_tellFromTape 8 (some .boolean) D cA S.1 S.2 ad [.ref (ad 0), .int p0, .int p1] M (some (.int r)) M' := by
  refine ph_mk ph_ZX_ok hinj (by decide) (Nat.le_of_ble_eq_true rfl) fun X h fin hE => ?_
  refine (?_ : ph_J X S.1 S.2 ad ((r, M') : (Int32 × ph_Mem)) 0 [(0, .ref (ad 0)), (1, .int p0), (2, .int p1)] [] M (f11_tellFromTape S M p0 p1)) hf
  unfold f11_tellFromTape
  refine j_iload_n h dX11_tellFromTape_0 rfl 2 rfl ?_
  refine j_iconst (v := (3 : Int32)) h dX11_tellFromTape_1 (by decide) ?_
  refine j_imul h dX11_tellFromTape_2 ?_
  refine j_istore_n h [(3, .int (p1 * (3 : Int32))), (0, .ref (ad 0)), (1, .int p0), (2, .int p1)] dX11_tellFromTape_3 rfl (by decide) rfl ?_
  refine j_iload_n h dX11_tellFromTape_4 rfl 3 rfl ?_
  refine j_bipush (v := (12 : Int32)) h dX11_tellFromTape_5 (by decide) ?_
  refine j_icmp_ge h 23 dX11_tellFromTape_7 (by decide) ?_ ?_
  · refine j_iconst (v := (0 : Int32)) h dX11_tellFromTape_23 (by decide) ?_
    exact j_zretC h rfl (by decide) fin dX11_tellFromTape_24
  · refine j_iload_n h dX11_tellFromTape_10 rfl 0 rfl ?_
    refine j_iconst (v := (3 : Int32)) h dX11_tellFromTape_11 (by decide) ?_
    refine j_iadd h dX11_tellFromTape_12 ?_
    refine j_aload_n h dX11_tellFromTape_13 rfl 1 rfl ?_
    refine j_get (c := 0) (j := 6) (v := .ref (ad 63)) h (ph_xlt hS (by decide)) (ph_kc0 hS) rfl ph_inX11 rfl (by decide) tw_367 rfl rfl dX11_tellFromTape_14 ?_
    refine j_get (c := 63) (j := 1) (v := .int (M.1 63 1)) h (ph_xlt hS (by decide)) (ph_kc63 hS) rfl ph_inX6 rfl (by decide) tw_169 rfl rfl dX11_tellFromTape_17 ?_
    refine j_icmp_le h 25 dX11_tellFromTape_20 (by decide) ?_ ?_
    · refine j_aload_n h dX11_tellFromTape_25 rfl 1 rfl ?_
      refine j_get (c := 0) (j := 6) (v := .ref (ad 63)) h (ph_xlt hS (by decide)) (ph_kc0 hS) rfl ph_inX11 rfl (by decide) tw_367 rfl rfl dX11_tellFromTape_26 ?_
      refine j_get (c := 63) (j := 0) (v := .ref (ad 64)) h (ph_xlt hS (by decide)) (ph_kc63 hS) rfl ph_inX6 rfl (by decide) tw_167 rfl rfl dX11_tellFromTape_29 ?_
      refine j_iload_n h dX11_tellFromTape_32 rfl 0 rfl ?_
      refine j_iald (c := 64) (n := 400) h (ph_xlt hS (by decide)) (ph_kc64 hS) dX11_tellFromTape_33 ?_
      refine j_iconst (v := (1 : Int32)) h dX11_tellFromTape_34 (by decide) ?_
      refine j_isub h dX11_tellFromTape_35 ?_
      refine j_istore h [(4, .int ((M.1 64 (p1 * (3 : Int32)).toNatClampNeg) - (1 : Int32))), (3, .int (p1 * (3 : Int32))), (0, .ref (ad 0)), (1, .int p0), (2, .int p1)] dX11_tellFromTape_36 (by decide) rfl ?_
      refine j_letI (lvf := fun z1 => [(4, .int z1), (3, .int (p1 * (3 : Int32))), (0, .ref (ad 0)), (1, .int p0), (2, .int p1)]) (fun z1 => ?_)
      refine j_aload_n h dX11_tellFromTape_38 rfl 2 rfl ?_
      refine j_get (c := 0) (j := 6) (v := .ref (ad 63)) h (ph_xlt hS (by decide)) (ph_kc0 hS) rfl ph_inX11 rfl (by decide) tw_367 rfl rfl dX11_tellFromTape_39 ?_
      refine j_get (c := 63) (j := 0) (v := .ref (ad 64)) h (ph_xlt hS (by decide)) (ph_kc63 hS) rfl ph_inX6 rfl (by decide) tw_167 rfl rfl dX11_tellFromTape_42 ?_
      refine j_iload_n h dX11_tellFromTape_45 rfl 1 rfl ?_
      refine j_iconst (v := (1 : Int32)) h dX11_tellFromTape_46 (by decide) ?_
      refine j_iadd h dX11_tellFromTape_47 ?_
      refine j_iald (c := 64) (n := 400) h (ph_xlt hS (by decide)) (ph_kc64 hS) dX11_tellFromTape_48 ?_
      refine j_istore h [(5, .int (M.1 64 ((p1 * (3 : Int32)) + (1 : Int32)).toNatClampNeg)), (4, .int z1), (3, .int (p1 * (3 : Int32))), (0, .ref (ad 0)), (1, .int p0), (2, .int p1)] dX11_tellFromTape_49 (by decide) rfl ?_
      refine j_letI (lvf := fun z2 => [(5, .int z2), (4, .int z1), (3, .int (p1 * (3 : Int32))), (0, .ref (ad 0)), (1, .int p0), (2, .int p1)]) (fun z2 => ?_)
      refine j_aload_n h dX11_tellFromTape_51 rfl 3 rfl ?_
      refine j_get (c := 0) (j := 6) (v := .ref (ad 63)) h (ph_xlt hS (by decide)) (ph_kc0 hS) rfl ph_inX11 rfl (by decide) tw_367 rfl rfl dX11_tellFromTape_52 ?_
      refine j_get (c := 63) (j := 0) (v := .ref (ad 64)) h (ph_xlt hS (by decide)) (ph_kc63 hS) rfl ph_inX6 rfl (by decide) tw_167 rfl rfl dX11_tellFromTape_55 ?_
      refine j_iload_n h dX11_tellFromTape_58 rfl 2 rfl ?_
      refine j_iconst (v := (2 : Int32)) h dX11_tellFromTape_59 (by decide) ?_
      refine j_iadd h dX11_tellFromTape_60 ?_
      refine j_iald (c := 64) (n := 400) h (ph_xlt hS (by decide)) (ph_kc64 hS) dX11_tellFromTape_61 ?_
      refine j_istore h [(6, .int (M.1 64 ((p1 * (3 : Int32)) + (2 : Int32)).toNatClampNeg)), (5, .int z2), (4, .int z1), (3, .int (p1 * (3 : Int32))), (0, .ref (ad 0)), (1, .int p0), (2, .int p1)] dX11_tellFromTape_62 (by decide) rfl ?_
      refine j_letI (lvf := fun z3 => [(6, .int z3), (5, .int z2), (4, .int z1), (3, .int (p1 * (3 : Int32))), (0, .ref (ad 0)), (1, .int p0), (2, .int p1)]) (fun z3 => ?_)
      refine j_aload_n h dX11_tellFromTape_64 rfl 4 rfl ?_
      refine j_get (c := 0) (j := 0) (v := .ref (ad 11)) h (ph_xlt hS (by decide)) (ph_kc0 hS) rfl ph_inX11 rfl (by decide) tw_361 rfl rfl dX11_tellFromTape_65 ?_
      refine j_iload_n h dX11_tellFromTape_68 rfl 5 rfl ?_
      refine j_iconst (v := (0 : Int32)) h dX11_tellFromTape_69 (by decide) ?_
      refine j_iload h dX11_tellFromTape_70 2 rfl ?_
      refine j_callViP (n := 3) (As := [.int p0, .int (0 : Int32), .int z1]) (rest := []) h 11 tw_442 tw_443 tw_444 tw_3 tw_445 ydf9_canBeTold (by decide) (by decide) (ph_xlt hS (by decide)) (ph_kc11 hS) rfl (fun q hq => cf9_canBeTold (ph_okI h) hS (by decide) hq) rfl (Nat.le_of_ble_eq_true rfl) rfl dX11_tellFromTape_72 (fun q4 => ?_)
      refine j_if_eq h 106 dX11_tellFromTape_75 (by decide) ?_ ?_
      · refine j_iconst (v := (0 : Int32)) h dX11_tellFromTape_106 (by decide) ?_
        exact j_zretC h rfl (by decide) fin dX11_tellFromTape_107
      · refine j_aload_n h dX11_tellFromTape_78 rfl 4 rfl ?_
        refine j_get (c := 0) (j := 0) (v := .ref (ad 11)) h (ph_xlt hS (by decide)) (ph_kc0 hS) rfl ph_inX11 rfl (by decide) tw_361 rfl rfl dX11_tellFromTape_79 ?_
        refine j_iload_n h dX11_tellFromTape_82 rfl 5 rfl ?_
        refine j_iconst (v := (1 : Int32)) h dX11_tellFromTape_83 (by decide) ?_
        refine j_iload h dX11_tellFromTape_84 1 rfl ?_
        refine j_callViP (n := 3) (As := [.int p0, .int (1 : Int32), .int z2]) (rest := []) h 11 tw_442 tw_443 tw_444 tw_3 tw_445 ydf9_canBeTold (by decide) (by decide) (ph_xlt hS (by decide)) (ph_kc11 hS) rfl (fun q hq => cf9_canBeTold (ph_okI h) hS (by decide) hq) rfl (Nat.le_of_ble_eq_true rfl) rfl dX11_tellFromTape_86 (fun q5 => ?_)
        refine j_if_eq h 106 dX11_tellFromTape_89 (by decide) ?_ ?_
        · refine j_iconst (v := (0 : Int32)) h dX11_tellFromTape_106 (by decide) ?_
          exact j_zretC h rfl (by decide) fin dX11_tellFromTape_107
        · refine j_aload_n h dX11_tellFromTape_92 rfl 4 rfl ?_
          refine j_get (c := 0) (j := 0) (v := .ref (ad 11)) h (ph_xlt hS (by decide)) (ph_kc0 hS) rfl ph_inX11 rfl (by decide) tw_361 rfl rfl dX11_tellFromTape_93 ?_
          refine j_iload_n h dX11_tellFromTape_96 rfl 5 rfl ?_
          refine j_iconst (v := (2 : Int32)) h dX11_tellFromTape_97 (by decide) ?_
          refine j_iload h dX11_tellFromTape_98 0 rfl ?_
          refine j_callViP (n := 3) (As := [.int p0, .int (2 : Int32), .int z3]) (rest := []) h 11 tw_442 tw_443 tw_444 tw_3 tw_445 ydf9_canBeTold (by decide) (by decide) (ph_xlt hS (by decide)) (ph_kc11 hS) rfl (fun q hq => cf9_canBeTold (ph_okI h) hS (by decide) hq) rfl (Nat.le_of_ble_eq_true rfl) rfl dX11_tellFromTape_100 (fun q6 => ?_)
          refine j_if_ne h 108 dX11_tellFromTape_103 (by decide) ?_ ?_
          · refine j_iload_n h dX11_tellFromTape_108 rfl 5 rfl ?_
            refine j_iload_n h dX11_tellFromTape_109 rfl 6 rfl ?_
            refine j_callSiP (n := 2) (As := [.int p0, .int p1]) (rest := []) h tw_460 tw_461 tw_1 tw_462 ydf11_placeOf (by decide) (by decide) (fun q hq => cf11_placeOf (ph_okI h) hS hq) rfl (Nat.le_of_ble_eq_true rfl) rfl dX11_tellFromTape_110 (fun q7 => ?_)
            refine j_istore h [(7, .int q7), (6, .int z3), (5, .int z2), (4, .int z1), (3, .int (p1 * (3 : Int32))), (0, .ref (ad 0)), (1, .int p0), (2, .int p1)] dX11_tellFromTape_113 (by decide) rfl ?_
            refine j_aload_n h dX11_tellFromTape_115 rfl 5 rfl ?_
            refine j_get (c := 0) (j := 0) (v := .ref (ad 11)) h (ph_xlt hS (by decide)) (ph_kc0 hS) rfl ph_inX11 rfl (by decide) tw_361 rfl rfl dX11_tellFromTape_116 ?_
            refine j_iload h dX11_tellFromTape_119 0 rfl ?_
            refine j_iconst (v := (0 : Int32)) h dX11_tellFromTape_121 (by decide) ?_
            refine j_iload h dX11_tellFromTape_122 3 rfl ?_
            refine j_callVi (n := 3) (As := [.int q7, .int (0 : Int32), .int z1]) (rest := []) h 11 tw_463 tw_464 tw_465 tw_3 tw_466 ydf9_tell (by decide) (by decide) (ph_xlt hS (by decide)) (ph_kc11 hS) rfl (fun q hq => cf9_tell (ph_okI h) hS (by decide) hq) rfl (Nat.le_of_ble_eq_true rfl) rfl dX11_tellFromTape_124 (fun q8 => ?_)
            refine j_pop h dX11_tellFromTape_127 rfl ?_
            refine j_aload_n h dX11_tellFromTape_128 rfl 5 rfl ?_
            refine j_get (c := 0) (j := 0) (v := .ref (ad 11)) h (ph_xlt hS (by decide)) (ph_kc0 hS) rfl ph_inX11 rfl (by decide) tw_361 rfl rfl dX11_tellFromTape_129 ?_
            refine j_iload h dX11_tellFromTape_132 0 rfl ?_
            refine j_iconst (v := (1 : Int32)) h dX11_tellFromTape_134 (by decide) ?_
            refine j_iload h dX11_tellFromTape_135 2 rfl ?_
            refine j_callVi (n := 3) (As := [.int q7, .int (1 : Int32), .int z2]) (rest := []) h 11 tw_463 tw_464 tw_465 tw_3 tw_466 ydf9_tell (by decide) (by decide) (ph_xlt hS (by decide)) (ph_kc11 hS) rfl (fun q hq => cf9_tell (ph_okI h) hS (by decide) hq) rfl (Nat.le_of_ble_eq_true rfl) rfl dX11_tellFromTape_137 (fun q9 => ?_)
            refine j_pop h dX11_tellFromTape_140 rfl ?_
            refine j_aload_n h dX11_tellFromTape_141 rfl 5 rfl ?_
            refine j_get (c := 0) (j := 0) (v := .ref (ad 11)) h (ph_xlt hS (by decide)) (ph_kc0 hS) rfl ph_inX11 rfl (by decide) tw_361 rfl rfl dX11_tellFromTape_142 ?_
            refine j_iload h dX11_tellFromTape_145 0 rfl ?_
            refine j_iconst (v := (2 : Int32)) h dX11_tellFromTape_147 (by decide) ?_
            refine j_iload h dX11_tellFromTape_148 1 rfl ?_
            refine j_callVi (n := 3) (As := [.int q7, .int (2 : Int32), .int z3]) (rest := []) h 11 tw_463 tw_464 tw_465 tw_3 tw_466 ydf9_tell (by decide) (by decide) (ph_xlt hS (by decide)) (ph_kc11 hS) rfl (fun q hq => cf9_tell (ph_okI h) hS (by decide) hq) rfl (Nat.le_of_ble_eq_true rfl) rfl dX11_tellFromTape_150 (fun q10 => ?_)
            refine j_pop h dX11_tellFromTape_153 rfl ?_
            refine j_iconst (v := (1 : Int32)) h dX11_tellFromTape_154 (by decide) ?_
            exact j_zretC h rfl (by decide) fin dX11_tellFromTape_155
          · refine j_iconst (v := (0 : Int32)) h dX11_tellFromTape_106 (by decide) ?_
            exact j_zretC h rfl (by decide) fin dX11_tellFromTape_107
    · refine j_iconst (v := (0 : Int32)) h dX11_tellFromTape_23 (by decide) ?_
      exact j_zretC h rfl (by decide) fin dX11_tellFromTape_24
theorem dX11_row_0 : decode cX11_row 0 = .ok (.aload_n 0, 1) := by decide +kernel
theorem dX11_row_1 : decode cX11_row 1 = .ok (.getfield 15, 3) := by decide +kernel
theorem dX11_row_4 : decode cX11_row 4 = .ok (.iload_n 1, 1) := by decide +kernel
theorem dX11_row_5 : decode cX11_row 5 = .ok (.invokevirtual 135, 3) := by decide +kernel
theorem dX11_row_8 : decode cX11_row 8 = .ok (.ifCond .ne 10, 3) := by decide +kernel
theorem dX11_row_11 : decode cX11_row 11 = .ok (.aload_n 0, 1) := by decide +kernel
theorem dX11_row_12 : decode cX11_row 12 = .ok (.bipush (-2), 2) := by decide +kernel
theorem dX11_row_14 : decode cX11_row 14 = .ok (.invokevirtual 117, 3) := by decide +kernel
theorem dX11_row_17 : decode cX11_row 17 = .ok (.ireturn, 1) := by decide +kernel
theorem dX11_row_18 : decode cX11_row 18 = .ok (.aload_n 0, 1) := by decide +kernel
theorem dX11_row_19 : decode cX11_row 19 = .ok (.getfield 45, 3) := by decide +kernel
theorem dX11_row_22 : decode cX11_row 22 = .ok (.getfield 202, 3) := by decide +kernel
theorem dX11_row_25 : decode cX11_row 25 = .ok (.ifCond .ne 10, 3) := by decide +kernel
theorem dX11_row_28 : decode cX11_row 28 = .ok (.aload_n 0, 1) := by decide +kernel
theorem dX11_row_29 : decode cX11_row 29 = .ok (.bipush (-6), 2) := by decide +kernel
theorem dX11_row_31 : decode cX11_row 31 = .ok (.invokevirtual 117, 3) := by decide +kernel
theorem dX11_row_34 : decode cX11_row 34 = .ok (.ireturn, 1) := by decide +kernel
theorem dX11_row_35 : decode cX11_row 35 = .ok (.aload_n 0, 1) := by decide +kernel
theorem dX11_row_36 : decode cX11_row 36 = .ok (.getfield 35, 3) := by decide +kernel
theorem dX11_row_39 : decode cX11_row 39 = .ok (.invokevirtual 121, 3) := by decide +kernel
theorem dX11_row_42 : decode cX11_row 42 = .ok (.aload_n 0, 1) := by decide +kernel
theorem dX11_row_43 : decode cX11_row 43 = .ok (.getfield 45, 3) := by decide +kernel
theorem dX11_row_46 : decode cX11_row 46 = .ok (.getfield 202, 3) := by decide +kernel
theorem dX11_row_49 : decode cX11_row 49 = .ok (.iconst 3, 1) := by decide +kernel
theorem dX11_row_50 : decode cX11_row 50 = .ok (.iadd, 1) := by decide +kernel
theorem dX11_row_51 : decode cX11_row 51 = .ok (.iconst 1, 1) := by decide +kernel
theorem dX11_row_52 : decode cX11_row 52 = .ok (.isub, 1) := by decide +kernel
theorem dX11_row_53 : decode cX11_row 53 = .ok (.iconst 3, 1) := by decide +kernel
theorem dX11_row_54 : decode cX11_row 54 = .ok (.idiv, 1) := by decide +kernel
theorem dX11_row_55 : decode cX11_row 55 = .ok (.istore_n 2, 1) := by decide +kernel
theorem dX11_row_56 : decode cX11_row 56 = .ok (.iconst 0, 1) := by decide +kernel
theorem dX11_row_57 : decode cX11_row 57 = .ok (.istore_n 3, 1) := by decide +kernel
theorem dX11_row_58 : decode cX11_row 58 = .ok (.iconst 0, 1) := by decide +kernel
theorem dX11_row_59 : decode cX11_row 59 = .ok (.istore 4, 2) := by decide +kernel
theorem dX11_row_61 : decode cX11_row 61 = .ok (.iload 4, 2) := by decide +kernel
theorem dX11_row_63 : decode cX11_row 63 = .ok (.iload_n 2, 1) := by decide +kernel
theorem dX11_row_64 : decode cX11_row 64 = .ok (.if_icmp .ge 22, 3) := by decide +kernel
theorem dX11_row_67 : decode cX11_row 67 = .ok (.aload_n 0, 1) := by decide +kernel
theorem dX11_row_68 : decode cX11_row 68 = .ok (.iload_n 1, 1) := by decide +kernel
theorem dX11_row_69 : decode cX11_row 69 = .ok (.iload 4, 2) := by decide +kernel
theorem dX11_row_71 : decode cX11_row 71 = .ok (.invokevirtual 209, 3) := by decide +kernel
theorem dX11_row_74 : decode cX11_row 74 = .ok (.ifCond .eq 6, 3) := by decide +kernel
theorem dX11_row_77 : decode cX11_row 77 = .ok (.iinc 3 1, 3) := by decide +kernel
theorem dX11_row_80 : decode cX11_row 80 = .ok (.iinc 4 1, 3) := by decide +kernel
theorem dX11_row_83 : decode cX11_row 83 = .ok (.goto (-22), 3) := by decide +kernel
theorem dX11_row_86 : decode cX11_row 86 = .ok (.aload_n 0, 1) := by decide +kernel
theorem dX11_row_87 : decode cX11_row 87 = .ok (.getfield 45, 3) := by decide +kernel
theorem dX11_row_90 : decode cX11_row 90 = .ok (.iconst 0, 1) := by decide +kernel
theorem dX11_row_91 : decode cX11_row 91 = .ok (.putfield 202, 3) := by decide +kernel
theorem dX11_row_94 : decode cX11_row 94 = .ok (.aload_n 0, 1) := by decide +kernel
theorem dX11_row_95 : decode cX11_row 95 = .ok (.iload_n 2, 1) := by decide +kernel
theorem dX11_row_96 : decode cX11_row 96 = .ok (.iload_n 3, 1) := by decide +kernel
theorem dX11_row_97 : decode cX11_row 97 = .ok (.isub, 1) := by decide +kernel
theorem dX11_row_98 : decode cX11_row 98 = .ok (.putfield 101, 3) := by decide +kernel
theorem dX11_row_101 : decode cX11_row 101 = .ok (.aload_n 0, 1) := by decide +kernel
theorem dX11_row_102 : decode cX11_row 102 = .ok (.iload_n 3, 1) := by decide +kernel
theorem dX11_row_103 : decode cX11_row 103 = .ok (.invokevirtual 124, 3) := by decide +kernel
theorem dX11_row_106 : decode cX11_row 106 = .ok (.ireturn, 1) := by decide +kernel
def f11_row_j80 (S : ph_Sh) (rc61 : Int32 → Int32 → Int32 → Int32 → ph_Mem → Option (Int32 × ph_Mem)) (x1 : Int32) (x2 : Int32) (x3 : Int32) (x4 : Int32) (M : ph_Mem) : Option (Int32 × ph_Mem) :=
  rc61 x1 x2 x3 (x4 + (1 : Int32)) M
set_option maxHeartbeats 4000000 in
theorem jb_f11_row_j80 {tb adK adV : Nat → Nat} {S : ph_Sh} {X : ph_X} {ad : Nat → Nat} {o : (Int32 × ph_Mem)} (h : ph_ok (ph_ZX tb adK adV) X cX11_row RX11 (some .int) 5 3 S.2 ad) (fin : ph_fin X S.1 S.2 ad (some (.int o.1)) o.2) (hS : ph_SX S) {rc61 : Int32 → Int32 → Int32 → Int32 → ph_Mem → Option (Int32 × ph_Mem)} (hrc61 : ∀ (x1 : Int32) (x2 : Int32) (x3 : Int32) (x4 : Int32) (M : ph_Mem), ph_J X S.1 S.2 ad o 61 [(0, .ref (ad 0)), (1, .int x1), (2, .int x2), (3, .int x3), (4, .int x4)] [] M (rc61 x1 x2 x3 x4 M)) : ∀ (x1 : Int32) (x2 : Int32) (x3 : Int32) (x4 : Int32) (M : ph_Mem), ph_J X S.1 S.2 ad o 80 [(0, .ref (ad 0)), (1, .int x1), (2, .int x2), (3, .int x3), (4, .int x4)] [] M (f11_row_j80 S rc61 x1 x2 x3 x4 M) := by
  intro x1 x2 x3 x4 M
  unfold f11_row_j80
  refine j_iinc h [(4, .int (x4 + (1 : Int32))), (0, .ref (ad 0)), (1, .int x1), (2, .int x2), (3, .int x3)] dX11_row_80 4 rfl rfl (by decide) rfl ?_
  refine j_goto h 61 dX11_row_83 (by decide) ?_
  refine j_sub [1, 2, 3, 4, 0] rfl ?_
  exact hrc61 x1 x2 x3 (x4 + (1 : Int32)) M
def f11_row_j86 (S : ph_Sh) (x2 : Int32) (x3 : Int32) (M : ph_Mem) : Option (Int32 × ph_Mem) :=
  ph_let (ph_wi M 63 1 (0 : Int32)) fun M7 => ph_let (ph_wi M7 0 15 (x2 - x3)) fun M8 => (f11_accepted S M8 x3).bind fun q9 => some (q9.1, q9.2)
set_option maxHeartbeats 4000000 in
theorem jb_f11_row_j86 {tb adK adV : Nat → Nat} {S : ph_Sh} {X : ph_X} {ad : Nat → Nat} {o : (Int32 × ph_Mem)} (h : ph_ok (ph_ZX tb adK adV) X cX11_row RX11 (some .int) 5 3 S.2 ad) (fin : ph_fin X S.1 S.2 ad (some (.int o.1)) o.2) (hS : ph_SX S) : ∀ (x2 : Int32) (x3 : Int32) (M : ph_Mem), ph_J X S.1 S.2 ad o 86 [(0, .ref (ad 0)), (2, .int x2), (3, .int x3)] [] M (f11_row_j86 S x2 x3 M) := by
  intro x2 x3 M
  unfold f11_row_j86
  refine j_aload_n h dX11_row_86 rfl 0 rfl ?_
  refine j_get (c := 0) (j := 6) (v := .ref (ad 63)) h (ph_xlt hS (by decide)) (ph_kc0 hS) rfl ph_inX11 rfl (by decide) tw_367 rfl rfl dX11_row_87 ?_
  refine j_iconst (v := (0 : Int32)) h dX11_row_90 (by decide) ?_
  refine j_puti (c := 63) (j := 1) (ty := .int) h (ph_xlt hS (by decide)) (ph_kc63 hS) rfl ph_inX6 tyX6 tyX6_ok nmX6 rfl (by decide) tw_169 rfl rfl (tyX6_ok 1 (by decide)) rfl rfl dX11_row_91 ?_
  refine j_letM (fun M7 => ?_)
  refine j_aload_n h dX11_row_94 rfl 0 rfl ?_
  refine j_iload_n h dX11_row_95 rfl 1 rfl ?_
  refine j_iload_n h dX11_row_96 rfl 2 rfl ?_
  refine j_isub h dX11_row_97 ?_
  refine j_puti (c := 0) (j := 15) (ty := .int) h (ph_xlt hS (by decide)) (ph_kc0 hS) rfl ph_inX11 tyX11 tyX11_ok nmX11 rfl (by decide) tw_376 rfl rfl (tyX11_ok 15 (by decide)) rfl rfl dX11_row_98 ?_
  refine j_letM (fun M8 => ?_)
  refine j_aload_n h dX11_row_101 rfl 0 rfl ?_
  refine j_iload_n h dX11_row_102 rfl 2 rfl ?_
  refine j_callVi (n := 1) (As := [.int x3]) (rest := []) h 0 tw_431 tw_433 tp_1 tw_1 tw_434 ydf11_accepted (by decide) (by decide) (ph_xlt hS (by decide)) (ph_kc0 hS) rfl (fun q hq => cf11_accepted (ph_okI h) hS hq) rfl (Nat.le_of_ble_eq_true rfl) rfl dX11_row_103 (fun q9 => ?_)
  exact j_iret h rfl fin dX11_row_106
def f11_row_l61 (S : ph_Sh) : Nat → Int32 → Int32 → Int32 → Int32 → ph_Mem → Option (Int32 × ph_Mem)
  | 0, _, _, _, _, _ => none
  | n + 1, x1, x2, x3, x4, M => if x2 ≤ x4 then (f11_row_j86 S x2 x3 M) else ((f11_tellFromTape S M x1 x4).bind fun q6 => if q6.1 = 0 then (f11_row_j80 S (f11_row_l61 S n) x1 x2 x3 x4 q6.2) else (f11_row_j80 S (f11_row_l61 S n) x1 x2 (x3 + (1 : Int32)) x4 q6.2))
set_option maxHeartbeats 4000000 in
theorem jb_f11_row_l61 {tb adK adV : Nat → Nat} {S : ph_Sh} {X : ph_X} {ad : Nat → Nat} {o : (Int32 × ph_Mem)} (h : ph_ok (ph_ZX tb adK adV) X cX11_row RX11 (some .int) 5 3 S.2 ad) (fin : ph_fin X S.1 S.2 ad (some (.int o.1)) o.2) (hS : ph_SX S) : ∀ (n : Nat) (x1 : Int32) (x2 : Int32) (x3 : Int32) (x4 : Int32) (M : ph_Mem), ph_J X S.1 S.2 ad o 61 [(0, .ref (ad 0)), (1, .int x1), (2, .int x2), (3, .int x3), (4, .int x4)] [] M (f11_row_l61 S n x1 x2 x3 x4 M) := by
  intro n
  induction n with
  | zero => intro x1 x2 x3 x4 M; exact j_none
  | succ n hrc61 =>
    intro x1 x2 x3 x4 M
    unfold f11_row_l61
    refine j_iload h dX11_row_61 4 rfl ?_
    refine j_iload_n h dX11_row_63 rfl 2 rfl ?_
    refine j_icmp_ge h 86 dX11_row_64 (by decide) ?_ ?_
    · refine j_sub [0, 2, 3] rfl ?_
      exact jb_f11_row_j86 h fin hS x2 x3 M
    · refine j_aload_n h dX11_row_67 rfl 0 rfl ?_
      refine j_iload_n h dX11_row_68 rfl 1 rfl ?_
      refine j_iload h dX11_row_69 4 rfl ?_
      refine j_callVi (n := 2) (As := [.int x1, .int x4]) (rest := []) h 0 tw_593 tw_595 tp_5 tw_1 tw_596 ydf11_tellFromTape (by decide) (by decide) (ph_xlt hS (by decide)) (ph_kc0 hS) rfl (fun q hq => cf11_tellFromTape (ph_okI h) hS hq) rfl (Nat.le_of_ble_eq_true rfl) rfl dX11_row_71 (fun q6 => ?_)
      refine j_if_eq h 80 dX11_row_74 (by decide) ?_ ?_
      · refine j_sub [0, 1, 2, 3, 4] rfl ?_
        exact jb_f11_row_j80 h fin hS hrc61 x1 x2 x3 x4 q6.2
      · refine j_iinc h [(3, .int (x3 + (1 : Int32))), (0, .ref (ad 0)), (1, .int x1), (2, .int x2), (4, .int x4)] dX11_row_77 3 rfl rfl (by decide) rfl ?_
        refine j_sub [1, 2, 3, 0, 4] rfl ?_
        exact jb_f11_row_j80 h fin hS hrc61 x1 x2 (x3 + (1 : Int32)) x4 q6.2
theorem ydf11_row : ph_yd yX11_row 1 := ⟨by decide, by decide, by decide +kernel⟩
def f11_row (S : ph_Sh) (M : ph_Mem) (p0 : Int32) : Option (Int32 × ph_Mem) :=
  (f9_isPerson S M 11 p0).bind fun q1 => if q1 = 0 then ((f11_refused S M (-2 : Int32)).bind fun q5 => some (q5.1, q5.2)) else (if (M.1 63 1) = 0 then ((f11_refused S M (-6 : Int32)).bind fun q4 => some (q4.1, q4.2)) else ((f1_forget S M 59).bind fun q2 => ph_let ((((q2.1 63 1) + (3 : Int32)) - (1 : Int32)) / (3 : Int32)) fun z3 => f11_row_l61 S 10000 p0 z3 (0 : Int32) (0 : Int32) q2))
set_option maxHeartbeats 4000000 in
theorem cf11_row {tb adK adV : Nat → Nat} {S : ph_Sh} {l : Launch} {D : va_G} {cA : Nat → ClassId} {ad : Nat → Nat} (hinj : ∀ i j, i < S.2 → j < S.2 → ad i = ad j → i = j) (hS : ph_SX S) {M : ph_Mem} {p0 : Int32} {r : Int32} {M' : ph_Mem} (hf : f11_row S M p0 = some (r, M')) : ph_C (ph_ZX tb adK adV) l 3 yX11_row cX11_row 5 (some .int) D cA S.1 S.2 ad [.ref (ad 0), .int p0] M (some (.int r)) M' := by
  refine ph_mk ph_ZX_ok hinj (by decide) (Nat.le_of_ble_eq_true rfl) fun X h fin hE => ?_
  refine (?_ : ph_J X S.1 S.2 ad ((r, M') : (Int32 × ph_Mem)) 0 [(0, .ref (ad 0)), (1, .int p0)] [] M (f11_row S M p0)) hf
  unfold f11_row
  refine j_aload_n h dX11_row_0 rfl 0 rfl ?_
  refine j_get (c := 0) (j := 0) (v := .ref (ad 11)) h (ph_xlt hS (by decide)) (ph_kc0 hS) rfl ph_inX11 rfl (by decide) tw_361 rfl rfl dX11_row_1 ?_
  refine j_iload_n h dX11_row_4 rfl 1 rfl ?_
  refine j_callViP (n := 1) (As := [.int p0]) (rest := []) h 11 tw_456 tw_457 tw_458 tw_3 tw_459 ydf9_isPerson (by decide) (by decide) (ph_xlt hS (by decide)) (ph_kc11 hS) rfl (fun q hq => cf9_isPerson (ph_okI h) hS (by decide) hq) rfl (Nat.le_of_ble_eq_true rfl) rfl dX11_row_5 (fun q1 => ?_)
  refine j_if_ne h 18 dX11_row_8 (by decide) ?_ ?_
  · refine j_aload_n h dX11_row_18 rfl 0 rfl ?_
    refine j_get (c := 0) (j := 6) (v := .ref (ad 63)) h (ph_xlt hS (by decide)) (ph_kc0 hS) rfl ph_inX11 rfl (by decide) tw_367 rfl rfl dX11_row_19 ?_
    refine j_get (c := 63) (j := 1) (v := .int (M.1 63 1)) h (ph_xlt hS (by decide)) (ph_kc63 hS) rfl ph_inX6 rfl (by decide) tw_169 rfl rfl dX11_row_22 ?_
    refine j_if_ne h 35 dX11_row_25 (by decide) ?_ ?_
    · refine j_aload_n h dX11_row_35 rfl 0 rfl ?_
      refine j_get (c := 0) (j := 4) (v := .ref (ad 59)) h (ph_xlt hS (by decide)) (ph_kc0 hS) rfl ph_inX11 rfl (by decide) tw_365 rfl rfl dX11_row_36 ?_
      refine j_callVv (n := 0) (As := []) (rest := []) h 59 tw_427 tw_428 tw_429 tw_6 tw_430 ydf1_forget (by decide) (by decide) (ph_xlt hS (by decide)) (ph_kc59 hS) rfl (fun q hq => cf1_forget (ph_okI h) hS (by decide) hq) rfl (Nat.le_of_ble_eq_true rfl) rfl dX11_row_39 (fun q2 => ?_)
      refine j_aload_n h dX11_row_42 rfl 0 rfl ?_
      refine j_get (c := 0) (j := 6) (v := .ref (ad 63)) h (ph_xlt hS (by decide)) (ph_kc0 hS) rfl ph_inX11 rfl (by decide) tw_367 rfl rfl dX11_row_43 ?_
      refine j_get (c := 63) (j := 1) (v := .int (q2.1 63 1)) h (ph_xlt hS (by decide)) (ph_kc63 hS) rfl ph_inX6 rfl (by decide) tw_169 rfl rfl dX11_row_46 ?_
      refine j_iconst (v := (3 : Int32)) h dX11_row_49 (by decide) ?_
      refine j_iadd h dX11_row_50 ?_
      refine j_iconst (v := (1 : Int32)) h dX11_row_51 (by decide) ?_
      refine j_isub h dX11_row_52 ?_
      refine j_iconst (v := (3 : Int32)) h dX11_row_53 (by decide) ?_
      refine j_idivK h dX11_row_54 (by decide) ?_
      refine j_istore_n h [(2, .int ((((q2.1 63 1) + (3 : Int32)) - (1 : Int32)) / (3 : Int32))), (0, .ref (ad 0)), (1, .int p0)] dX11_row_55 rfl (by decide) rfl ?_
      refine j_letI (lvf := fun z3 => [(2, .int z3), (0, .ref (ad 0)), (1, .int p0)]) (fun z3 => ?_)
      refine j_iconst (v := (0 : Int32)) h dX11_row_56 (by decide) ?_
      refine j_istore_n h [(3, .int (0 : Int32)), (2, .int z3), (0, .ref (ad 0)), (1, .int p0)] dX11_row_57 rfl (by decide) rfl ?_
      refine j_iconst (v := (0 : Int32)) h dX11_row_58 (by decide) ?_
      refine j_istore h [(4, .int (0 : Int32)), (3, .int (0 : Int32)), (2, .int z3), (0, .ref (ad 0)), (1, .int p0)] dX11_row_59 (by decide) rfl ?_
      refine j_sub [3, 4, 2, 1, 0] rfl ?_
      exact jb_f11_row_l61 h fin hS 10000 p0 z3 (0 : Int32) (0 : Int32) q2
    · refine j_aload_n h dX11_row_28 rfl 0 rfl ?_
      refine j_bipush (v := (-6 : Int32)) h dX11_row_29 (by decide) ?_
      refine j_callVi (n := 1) (As := [.int (-6 : Int32)]) (rest := []) h 0 tw_423 tw_425 tp_0 tw_1 tw_426 ydf11_refused (by decide) (by decide) (ph_xlt hS (by decide)) (ph_kc0 hS) rfl (fun q hq => cf11_refused (ph_okI h) hS hq) rfl (Nat.le_of_ble_eq_true rfl) rfl dX11_row_31 (fun q4 => ?_)
      exact j_iret h rfl fin dX11_row_34
  · refine j_aload_n h dX11_row_11 rfl 0 rfl ?_
    refine j_bipush (v := (-2 : Int32)) h dX11_row_12 (by decide) ?_
    refine j_callVi (n := 1) (As := [.int (-2 : Int32)]) (rest := []) h 0 tw_423 tw_425 tp_0 tw_1 tw_426 ydf11_refused (by decide) (by decide) (ph_xlt hS (by decide)) (ph_kc0 hS) rfl (fun q hq => cf11_refused (ph_okI h) hS hq) rfl (Nat.le_of_ble_eq_true rfl) rfl dX11_row_14 (fun q5 => ?_)
    exact j_iret h rfl fin dX11_row_17
