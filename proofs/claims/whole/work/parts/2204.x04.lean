theorem dX4_kindOf_0 : decode cX4_kindOf 0 = .ok (.aload_n 0, 1) := by decide +kernel
theorem dX4_kindOf_1 : decode cX4_kindOf 1 = .ok (.getfield 13, 3) := by decide +kernel
theorem dX4_kindOf_4 : decode cX4_kindOf 4 = .ok (.iload_n 1, 1) := by decide +kernel
theorem dX4_kindOf_5 : decode cX4_kindOf 5 = .ok (.bipush 6, 2) := by decide +kernel
theorem dX4_kindOf_7 : decode cX4_kindOf 7 = .ok (.imul, 1) := by decide +kernel
theorem dX4_kindOf_8 : decode cX4_kindOf 8 = .ok (.iaload, 1) := by decide +kernel
theorem dX4_kindOf_9 : decode cX4_kindOf 9 = .ok (.ireturn, 1) := by decide +kernel
theorem ydf4_kindOf : ph_yd yX4_kindOf 1 := ⟨by decide, by decide, by decide +kernel⟩
def f4_kindOf (S : ph_Sh) (M : ph_Mem) (c : Nat) (p0 : Int32) : Option Int32 :=
  cond (ph_ib (p0 * (6 : Int32)) (ph_len S (c + 1))) (some (M.1 (c + 1) (p0 * (6 : Int32)).toNatClampNeg)) none
set_option maxHeartbeats 4000000 in
theorem cf4_kindOf {tb adK adV : Nat → Nat} {S : ph_Sh} {c : Nat} {l : Launch} {D : va_G} {cA : Nat → ClassId} {ad : Nat → Nat} (hinj : ∀ i j, i < S.2 → j < S.2 → ad i = ad j → i = j) (hS : ph_SX S) (hc : ph_isP S c) {M : ph_Mem} {p0 : Int32} {r : Int32} (hf : f4_kindOf S M c p0 = some r) : ph_C (ph_ZX tb adK adV) l 0 yX4_kindOf cX4_kindOf 2 (some .int) D cA S.1 S.2 ad [.ref (ad c), .int p0] M (some (.int r)) M := by
  refine ph_mk ph_ZX_ok hinj (by decide) (Nat.le_of_ble_eq_true rfl) fun X h fin hE => ?_
  refine (?_ : ph_J X S.1 S.2 ad (r : Int32) 0 [(0, .ref (ad c)), (1, .int p0)] [] M (f4_kindOf S M c p0)) hf
  unfold f4_kindOf
  refine j_aload_n h dX4_kindOf_0 rfl 0 rfl ?_
  refine j_get (c := c) (j := 1) (v := .ref (ad (c + 1))) h (ph_P0n hS hc) (ph_P0 hS hc) rfl ph_inX4 rfl (by decide) tw_814 rfl rfl dX4_kindOf_1 ?_
  refine j_iload_n h dX4_kindOf_4 rfl 1 rfl ?_
  refine j_bipush (v := (6 : Int32)) h dX4_kindOf_5 (by decide) ?_
  refine j_imul h dX4_kindOf_7 ?_
  refine j_iald (c := (c + 1)) (n := (ph_len S (c + 1))) h (ph_P1n hS hc) (ph_P1 hS hc) dX4_kindOf_8 ?_
  exact j_iretP h rfl fin dX4_kindOf_9
theorem dX4_timesOf_0 : decode cX4_timesOf 0 = .ok (.aload_n 0, 1) := by decide +kernel
theorem dX4_timesOf_1 : decode cX4_timesOf 1 = .ok (.getfield 13, 3) := by decide +kernel
theorem dX4_timesOf_4 : decode cX4_timesOf 4 = .ok (.iload_n 1, 1) := by decide +kernel
theorem dX4_timesOf_5 : decode cX4_timesOf 5 = .ok (.bipush 6, 2) := by decide +kernel
theorem dX4_timesOf_7 : decode cX4_timesOf 7 = .ok (.imul, 1) := by decide +kernel
theorem dX4_timesOf_8 : decode cX4_timesOf 8 = .ok (.iconst 1, 1) := by decide +kernel
theorem dX4_timesOf_9 : decode cX4_timesOf 9 = .ok (.iadd, 1) := by decide +kernel
theorem dX4_timesOf_10 : decode cX4_timesOf 10 = .ok (.iaload, 1) := by decide +kernel
theorem dX4_timesOf_11 : decode cX4_timesOf 11 = .ok (.ireturn, 1) := by decide +kernel
theorem ydf4_timesOf : ph_yd yX4_timesOf 1 := ⟨by decide, by decide, by decide +kernel⟩
def f4_timesOf (S : ph_Sh) (M : ph_Mem) (c : Nat) (p0 : Int32) : Option Int32 :=
  cond (ph_ib ((p0 * (6 : Int32)) + (1 : Int32)) (ph_len S (c + 1))) (some (M.1 (c + 1) ((p0 * (6 : Int32)) + (1 : Int32)).toNatClampNeg)) none
set_option maxHeartbeats 4000000 in
theorem cf4_timesOf {tb adK adV : Nat → Nat} {S : ph_Sh} {c : Nat} {l : Launch} {D : va_G} {cA : Nat → ClassId} {ad : Nat → Nat} (hinj : ∀ i j, i < S.2 → j < S.2 → ad i = ad j → i = j) (hS : ph_SX S) (hc : ph_isP S c) {M : ph_Mem} {p0 : Int32} {r : Int32} (hf : f4_timesOf S M c p0 = some r) : ph_C (ph_ZX tb adK adV) l 0 yX4_timesOf cX4_timesOf 2 (some .int) D cA S.1 S.2 ad [.ref (ad c), .int p0] M (some (.int r)) M := by
  refine ph_mk ph_ZX_ok hinj (by decide) (Nat.le_of_ble_eq_true rfl) fun X h fin hE => ?_
  refine (?_ : ph_J X S.1 S.2 ad (r : Int32) 0 [(0, .ref (ad c)), (1, .int p0)] [] M (f4_timesOf S M c p0)) hf
  unfold f4_timesOf
  refine j_aload_n h dX4_timesOf_0 rfl 0 rfl ?_
  refine j_get (c := c) (j := 1) (v := .ref (ad (c + 1))) h (ph_P0n hS hc) (ph_P0 hS hc) rfl ph_inX4 rfl (by decide) tw_814 rfl rfl dX4_timesOf_1 ?_
  refine j_iload_n h dX4_timesOf_4 rfl 1 rfl ?_
  refine j_bipush (v := (6 : Int32)) h dX4_timesOf_5 (by decide) ?_
  refine j_imul h dX4_timesOf_7 ?_
  refine j_iconst (v := (1 : Int32)) h dX4_timesOf_8 (by decide) ?_
  refine j_iadd h dX4_timesOf_9 ?_
  refine j_iald (c := (c + 1)) (n := (ph_len S (c + 1))) h (ph_P1n hS hc) (ph_P1 hS hc) dX4_timesOf_10 ?_
  exact j_iretP h rfl fin dX4_timesOf_11
theorem dX4_isEmpty_0 : decode cX4_isEmpty 0 = .ok (.aload_n 0, 1) := by decide +kernel
theorem dX4_isEmpty_1 : decode cX4_isEmpty 1 = .ok (.iload_n 1, 1) := by decide +kernel
theorem dX4_isEmpty_2 : decode cX4_isEmpty 2 = .ok (.iload_n 2, 1) := by decide +kernel
theorem dX4_isEmpty_3 : decode cX4_isEmpty 3 = .ok (.invokevirtual 20, 3) := by decide +kernel
theorem dX4_isEmpty_6 : decode cX4_isEmpty 6 = .ok (.aload_n 0, 1) := by decide +kernel
theorem dX4_isEmpty_7 : decode cX4_isEmpty 7 = .ok (.iload_n 1, 1) := by decide +kernel
theorem dX4_isEmpty_8 : decode cX4_isEmpty 8 = .ok (.iload_n 2, 1) := by decide +kernel
theorem dX4_isEmpty_9 : decode cX4_isEmpty 9 = .ok (.invokevirtual 24, 3) := by decide +kernel
theorem dX4_isEmpty_12 : decode cX4_isEmpty 12 = .ok (.if_icmp .lt 7, 3) := by decide +kernel
theorem dX4_isEmpty_15 : decode cX4_isEmpty 15 = .ok (.iconst 1, 1) := by decide +kernel
theorem dX4_isEmpty_16 : decode cX4_isEmpty 16 = .ok (.goto 4, 3) := by decide +kernel
theorem dX4_isEmpty_19 : decode cX4_isEmpty 19 = .ok (.iconst 0, 1) := by decide +kernel
theorem dX4_isEmpty_20 : decode cX4_isEmpty 20 = .ok (.ireturn, 1) := by decide +kernel
theorem ydf4_isEmpty : ph_yd yX4_isEmpty 2 := ⟨by decide, by decide, by decide +kernel⟩
def f4_isEmpty (S : ph_Sh) (M : ph_Mem) (c : Nat) (p0 : Int32) (p1 : Int32) : Option Int32 :=
  (f4_startOf S M c p0 p1).bind fun q1 => (f4_endOf S M c p0 p1).bind fun q2 => if q1 < q2 then (some (0 : Int32)) else (some (1 : Int32))
set_option maxHeartbeats 4000000 in
theorem cf4_isEmpty {tb adK adV : Nat → Nat} {S : ph_Sh} {c : Nat} {l : Launch} {D : va_G} {cA : Nat → ClassId} {ad : Nat → Nat} (hinj : ∀ i j, i < S.2 → j < S.2 → ad i = ad j → i = j) (hS : ph_SX S) (hc : ph_isP S c) {M : ph_Mem} {p0 : Int32} {p1 : Int32} {r : Int32} (hf : f4_isEmpty S M c p0 p1 = some r) : ph_C (ph_ZX tb adK adV) l 1 yX4_isEmpty cX4_isEmpty 3 (some .boolean) D cA S.1 S.2 ad [.ref (ad c), .int p0, .int p1] M (some (.int r)) M := by
  refine ph_mk ph_ZX_ok hinj (by decide) (Nat.le_of_ble_eq_true rfl) fun X h fin hE => ?_
  refine (?_ : ph_J X S.1 S.2 ad (r : Int32) 0 [(0, .ref (ad c)), (1, .int p0), (2, .int p1)] [] M (f4_isEmpty S M c p0 p1)) hf
  unfold f4_isEmpty
  refine j_aload_n h dX4_isEmpty_0 rfl 0 rfl ?_
  refine j_iload_n h dX4_isEmpty_1 rfl 1 rfl ?_
  refine j_iload_n h dX4_isEmpty_2 rfl 2 rfl ?_
  refine j_callViP (n := 2) (As := [.int p0, .int p1]) (rest := []) h c tw_494 tw_495 tw_496 tw_21 tw_497 ydf4_startOf (by decide) (by decide) (ph_P0n hS hc) (ph_P0 hS hc) rfl (fun q hq => cf4_startOf (ph_okI h) hS hc hq) rfl (Nat.le_of_ble_eq_true rfl) rfl dX4_isEmpty_3 (fun q1 => ?_)
  refine j_aload_n h dX4_isEmpty_6 rfl 0 rfl ?_
  refine j_iload_n h dX4_isEmpty_7 rfl 1 rfl ?_
  refine j_iload_n h dX4_isEmpty_8 rfl 2 rfl ?_
  refine j_callViP (n := 2) (As := [.int p0, .int p1]) (rest := [.int q1]) h c tw_498 tw_499 tw_500 tw_21 tw_501 ydf4_endOf (by decide) (by decide) (ph_P0n hS hc) (ph_P0 hS hc) rfl (fun q hq => cf4_endOf (ph_okI h) hS hc hq) rfl (Nat.le_of_ble_eq_true rfl) rfl dX4_isEmpty_9 (fun q2 => ?_)
  refine j_icmp_lt h 19 dX4_isEmpty_12 (by decide) ?_ ?_
  · refine j_iconst (v := (0 : Int32)) h dX4_isEmpty_19 (by decide) ?_
    exact j_zretPC h rfl (by decide) fin dX4_isEmpty_20
  · refine j_iconst (v := (1 : Int32)) h dX4_isEmpty_15 (by decide) ?_
    refine j_goto h 20 dX4_isEmpty_16 (by decide) ?_
    exact j_zretPC h rfl (by decide) fin dX4_isEmpty_20
theorem dX9_describe_0 : decode cX9_describe 0 = .ok (.iload_n 1, 1) := by decide +kernel
theorem dX9_describe_1 : decode cX9_describe 1 = .ok (.iload_n 2, 1) := by decide +kernel
theorem dX9_describe_2 : decode cX9_describe 2 = .ok (.invokestatic 88, 3) := by decide +kernel
theorem dX9_describe_5 : decode cX9_describe 5 = .ok (.istore 6, 2) := by decide +kernel
theorem dX9_describe_7 : decode cX9_describe 7 = .ok (.aload_n 0, 1) := by decide +kernel
theorem dX9_describe_8 : decode cX9_describe 8 = .ok (.getfield 48, 3) := by decide +kernel
theorem dX9_describe_11 : decode cX9_describe 11 = .ok (.getfield 146, 3) := by decide +kernel
theorem dX9_describe_14 : decode cX9_describe 14 = .ok (.astore 7, 2) := by decide +kernel
theorem dX9_describe_16 : decode cX9_describe 16 = .ok (.aload 7, 2) := by decide +kernel
theorem dX9_describe_18 : decode cX9_describe 18 = .ok (.iconst 0, 1) := by decide +kernel
theorem dX9_describe_19 : decode cX9_describe 19 = .ok (.iload_n 1, 1) := by decide +kernel
theorem dX9_describe_20 : decode cX9_describe 20 = .ok (.iastore, 1) := by decide +kernel
theorem dX9_describe_21 : decode cX9_describe 21 = .ok (.aload 7, 2) := by decide +kernel
theorem dX9_describe_23 : decode cX9_describe 23 = .ok (.iconst 1, 1) := by decide +kernel
theorem dX9_describe_24 : decode cX9_describe 24 = .ok (.iload_n 2, 1) := by decide +kernel
theorem dX9_describe_25 : decode cX9_describe 25 = .ok (.iastore, 1) := by decide +kernel
theorem dX9_describe_26 : decode cX9_describe 26 = .ok (.aload 7, 2) := by decide +kernel
theorem dX9_describe_28 : decode cX9_describe 28 = .ok (.iconst 2, 1) := by decide +kernel
theorem dX9_describe_29 : decode cX9_describe 29 = .ok (.aload_n 0, 1) := by decide +kernel
theorem dX9_describe_30 : decode cX9_describe 30 = .ok (.getfield 15, 3) := by decide +kernel
theorem dX9_describe_33 : decode cX9_describe 33 = .ok (.iload 6, 2) := by decide +kernel
theorem dX9_describe_35 : decode cX9_describe 35 = .ok (.iaload, 1) := by decide +kernel
theorem dX9_describe_36 : decode cX9_describe 36 = .ok (.iastore, 1) := by decide +kernel
theorem dX9_describe_37 : decode cX9_describe 37 = .ok (.aload 7, 2) := by decide +kernel
theorem dX9_describe_39 : decode cX9_describe 39 = .ok (.iconst 3, 1) := by decide +kernel
theorem dX9_describe_40 : decode cX9_describe 40 = .ok (.aload_n 0, 1) := by decide +kernel
theorem dX9_describe_41 : decode cX9_describe 41 = .ok (.getfield 18, 3) := by decide +kernel
theorem dX9_describe_44 : decode cX9_describe 44 = .ok (.iload 6, 2) := by decide +kernel
theorem dX9_describe_46 : decode cX9_describe 46 = .ok (.iaload, 1) := by decide +kernel
theorem dX9_describe_47 : decode cX9_describe 47 = .ok (.invokestatic 95, 3) := by decide +kernel
theorem dX9_describe_50 : decode cX9_describe 50 = .ok (.iastore, 1) := by decide +kernel
theorem dX9_describe_51 : decode cX9_describe 51 = .ok (.aload 7, 2) := by decide +kernel
theorem dX9_describe_53 : decode cX9_describe 53 = .ok (.iconst 4, 1) := by decide +kernel
theorem dX9_describe_54 : decode cX9_describe 54 = .ok (.aload_n 0, 1) := by decide +kernel
theorem dX9_describe_55 : decode cX9_describe 55 = .ok (.getfield 21, 3) := by decide +kernel
theorem dX9_describe_58 : decode cX9_describe 58 = .ok (.iload 6, 2) := by decide +kernel
theorem dX9_describe_60 : decode cX9_describe 60 = .ok (.iaload, 1) := by decide +kernel
theorem dX9_describe_61 : decode cX9_describe 61 = .ok (.iastore, 1) := by decide +kernel
theorem dX9_describe_62 : decode cX9_describe 62 = .ok (.aload 7, 2) := by decide +kernel
theorem dX9_describe_64 : decode cX9_describe 64 = .ok (.iconst 5, 1) := by decide +kernel
theorem dX9_describe_65 : decode cX9_describe 65 = .ok (.iload_n 3, 1) := by decide +kernel
theorem dX9_describe_66 : decode cX9_describe 66 = .ok (.iastore, 1) := by decide +kernel
theorem dX9_describe_67 : decode cX9_describe 67 = .ok (.aload 7, 2) := by decide +kernel
theorem dX9_describe_69 : decode cX9_describe 69 = .ok (.bipush 6, 2) := by decide +kernel
theorem dX9_describe_71 : decode cX9_describe 71 = .ok (.iload 4, 2) := by decide +kernel
theorem dX9_describe_73 : decode cX9_describe 73 = .ok (.iastore, 1) := by decide +kernel
theorem dX9_describe_74 : decode cX9_describe 74 = .ok (.aload 7, 2) := by decide +kernel
theorem dX9_describe_76 : decode cX9_describe 76 = .ok (.bipush 7, 2) := by decide +kernel
theorem dX9_describe_78 : decode cX9_describe 78 = .ok (.iload 5, 2) := by decide +kernel
theorem dX9_describe_80 : decode cX9_describe 80 = .ok (.iastore, 1) := by decide +kernel
theorem dX9_describe_81 : decode cX9_describe 81 = .ok (.aload 7, 2) := by decide +kernel
theorem dX9_describe_83 : decode cX9_describe 83 = .ok (.bipush 8, 2) := by decide +kernel
theorem dX9_describe_85 : decode cX9_describe 85 = .ok (.aload_n 0, 1) := by decide +kernel
theorem dX9_describe_86 : decode cX9_describe 86 = .ok (.getfield 39, 3) := by decide +kernel
theorem dX9_describe_89 : decode cX9_describe 89 = .ok (.iconst 4, 1) := by decide +kernel
theorem dX9_describe_90 : decode cX9_describe 90 = .ok (.iaload, 1) := by decide +kernel
theorem dX9_describe_91 : decode cX9_describe 91 = .ok (.iastore, 1) := by decide +kernel
theorem dX9_describe_92 : decode cX9_describe 92 = .ok (.return_, 1) := by decide +kernel
theorem ydf9_describe : ph_yd yX9_describe 5 := ⟨by decide, by decide, by decide +kernel⟩
def f9_describe (S : ph_Sh) (M : ph_Mem) (c : Nat) (p0 : Int32) (p1 : Int32) (p2 : Int32) (p3 : Int32) (p4 : Int32) : Option ph_Mem :=
  (f11_placeOf S M p0 p1).bind fun q1 => ph_let (ph_wi M 6 0 p0) fun M2 => ph_let (ph_wi M2 6 1 p1) fun M3 => cond (ph_ib q1 72) (ph_let (ph_wi M3 6 2 (M3.1 (c + 2) q1.toNatClampNeg)) fun M4 => cond (ph_ib q1 72) ((f6_bitCount_0f7a4 S M4 (M4.1 (c + 3) q1.toNatClampNeg)).bind fun q5 => ph_let (ph_wi M4 6 3 q5) fun M6 => cond (ph_ib q1 72) (ph_let (ph_wi M6 6 4 (M6.1 (c + 4) q1.toNatClampNeg)) fun M7 => ph_let (ph_wi M7 6 5 p2) fun M8 => ph_let (ph_wi M8 6 6 p3) fun M9 => ph_let (ph_wi M9 6 7 p4) fun M10 => ph_let (ph_wi M10 6 8 (M10.1 (c + 10) 4)) fun M11 => some M11) none) none) none
set_option maxHeartbeats 4000000 in
theorem cf9_describe {tb adK adV : Nat → Nat} {S : ph_Sh} {c : Nat} {l : Launch} {D : va_G} {cA : Nat → ClassId} {ad : Nat → Nat} (hinj : ∀ i j, i < S.2 → j < S.2 → ad i = ad j → i = j) (hS : ph_SX S) (hc : ph_isS c) {M : ph_Mem} {p0 : Int32} {p1 : Int32} {p2 : Int32} {p3 : Int32} {p4 : Int32} {M' : ph_Mem} (hf : f9_describe S M c p0 p1 p2 p3 p4 = some M') : ph_C (ph_ZX tb adK adV) l 1 yX9_describe cX9_describe 8 none D cA S.1 S.2 ad [.ref (ad c), .int p0, .int p1, .int p2, .int p3, .int p4] M none M' := by
  refine ph_mk ph_ZX_ok hinj (by decide) (Nat.le_of_ble_eq_true rfl) fun X h fin hE => ?_
  refine (?_ : ph_J X S.1 S.2 ad (M' : ph_Mem) 0 [(0, .ref (ad c)), (1, .int p0), (2, .int p1), (3, .int p2), (4, .int p3), (5, .int p4)] [] M (f9_describe S M c p0 p1 p2 p3 p4)) hf
  unfold f9_describe
  refine j_iload_n h dX9_describe_0 rfl 1 rfl ?_
  refine j_iload_n h dX9_describe_1 rfl 2 rfl ?_
  refine j_callNiP (n := 2) (As := [.int p0, .int p1]) (rest := []) h (by decide +kernel) tw_461 tw_1 tw_462 ydf11_placeOf (by decide) (by decide) (fun q hq => cf11_placeOf (ph_okI h) hS hq) rfl (Nat.le_of_ble_eq_true rfl) rfl dX9_describe_2 (fun q1 => ?_)
  refine j_istore h [(6, .int q1), (0, .ref (ad c)), (1, .int p0), (2, .int p1), (3, .int p2), (4, .int p3), (5, .int p4)] dX9_describe_5 (by decide) rfl ?_
  refine j_aload_n h dX9_describe_7 rfl 1 rfl ?_
  refine j_get (c := c) (j := 0) (v := .ref (ad 5)) h (ph_S0n hS hc) (ph_S0 hS hc) rfl ph_inX9 rfl (by decide) tw_63 rfl rfl dX9_describe_8 ?_
  refine j_get (c := 5) (j := 0) (v := .ref (ad 6)) h (ph_xlt hS (by decide)) (ph_kc5 hS) rfl ph_inX2 rfl (by decide) tw_38 rfl rfl dX9_describe_11 ?_
  refine j_astore h [(7, .ref (ad 6)), (6, .int q1), (0, .ref (ad c)), (1, .int p0), (2, .int p1), (3, .int p2), (4, .int p3), (5, .int p4)] dX9_describe_14 (by decide) rfl ?_
  refine j_aload h dX9_describe_16 0 rfl ?_
  refine j_iconst (v := (0 : Int32)) h dX9_describe_18 (by decide) ?_
  refine j_iload_n h dX9_describe_19 rfl 3 rfl ?_
  refine j_iastK (c := 6) (n := 21) (kn := 0) h (ph_xlt hS (by decide)) (ph_kc6 hS) rfl (by decide) dX9_describe_20 ?_
  refine j_letM (fun M2 => ?_)
  refine j_aload h dX9_describe_21 0 rfl ?_
  refine j_iconst (v := (1 : Int32)) h dX9_describe_23 (by decide) ?_
  refine j_iload_n h dX9_describe_24 rfl 4 rfl ?_
  refine j_iastK (c := 6) (n := 21) (kn := 1) h (ph_xlt hS (by decide)) (ph_kc6 hS) rfl (by decide) dX9_describe_25 ?_
  refine j_letM (fun M3 => ?_)
  refine j_aload h dX9_describe_26 0 rfl ?_
  refine j_iconst (v := (2 : Int32)) h dX9_describe_28 (by decide) ?_
  refine j_aload_n h dX9_describe_29 rfl 2 rfl ?_
  refine j_get (c := c) (j := 3) (v := .ref (ad (c + 2))) h (ph_S0n hS hc) (ph_S0 hS hc) rfl ph_inX9 rfl (by decide) tw_76 rfl rfl dX9_describe_30 ?_
  refine j_iload h dX9_describe_33 1 rfl ?_
  refine j_iald (c := (c + 2)) (n := 72) h (ph_S2n hS hc) (ph_S2 hS hc) dX9_describe_35 ?_
  refine j_iastK (c := 6) (n := 21) (kn := 2) h (ph_xlt hS (by decide)) (ph_kc6 hS) rfl (by decide) dX9_describe_36 ?_
  refine j_letM (fun M4 => ?_)
  refine j_aload h dX9_describe_37 0 rfl ?_
  refine j_iconst (v := (3 : Int32)) h dX9_describe_39 (by decide) ?_
  refine j_aload_n h dX9_describe_40 rfl 2 rfl ?_
  refine j_get (c := c) (j := 4) (v := .ref (ad (c + 3))) h (ph_S0n hS hc) (ph_S0 hS hc) rfl ph_inX9 rfl (by decide) tw_79 rfl rfl dX9_describe_41 ?_
  refine j_iload h dX9_describe_44 1 rfl ?_
  refine j_iald (c := (c + 3)) (n := 72) h (ph_S3n hS hc) (ph_S3 hS hc) dX9_describe_46 ?_
  refine j_callSiP (n := 1) (As := [.int (M4.1 (c + 3) q1.toNatClampNeg)]) (rest := [.int (3 : Int32), .ref (ad 6)]) h tw_480 tw_481 tw_15 tw_482 ydf6_bitCount_0f7a4 (by decide) (by decide) (fun q hq => cf6_bitCount_0f7a4 (ph_okI h) trivial hq) rfl (Nat.le_of_ble_eq_true rfl) rfl dX9_describe_47 (fun q5 => ?_)
  refine j_iastK (c := 6) (n := 21) (kn := 3) h (ph_xlt hS (by decide)) (ph_kc6 hS) rfl (by decide) dX9_describe_50 ?_
  refine j_letM (fun M6 => ?_)
  refine j_aload h dX9_describe_51 0 rfl ?_
  refine j_iconst (v := (4 : Int32)) h dX9_describe_53 (by decide) ?_
  refine j_aload_n h dX9_describe_54 rfl 2 rfl ?_
  refine j_get (c := c) (j := 5) (v := .ref (ad (c + 4))) h (ph_S0n hS hc) (ph_S0 hS hc) rfl ph_inX9 rfl (by decide) tw_81 rfl rfl dX9_describe_55 ?_
  refine j_iload h dX9_describe_58 1 rfl ?_
  refine j_iald (c := (c + 4)) (n := 72) h (ph_S4n hS hc) (ph_S4 hS hc) dX9_describe_60 ?_
  refine j_iastK (c := 6) (n := 21) (kn := 4) h (ph_xlt hS (by decide)) (ph_kc6 hS) rfl (by decide) dX9_describe_61 ?_
  refine j_letM (fun M7 => ?_)
  refine j_aload h dX9_describe_62 0 rfl ?_
  refine j_iconst (v := (5 : Int32)) h dX9_describe_64 (by decide) ?_
  refine j_iload_n h dX9_describe_65 rfl 5 rfl ?_
  refine j_iastK (c := 6) (n := 21) (kn := 5) h (ph_xlt hS (by decide)) (ph_kc6 hS) rfl (by decide) dX9_describe_66 ?_
  refine j_letM (fun M8 => ?_)
  refine j_aload h dX9_describe_67 0 rfl ?_
  refine j_bipush (v := (6 : Int32)) h dX9_describe_69 (by decide) ?_
  refine j_iload h dX9_describe_71 6 rfl ?_
  refine j_iastK (c := 6) (n := 21) (kn := 6) h (ph_xlt hS (by decide)) (ph_kc6 hS) rfl (by decide) dX9_describe_73 ?_
  refine j_letM (fun M9 => ?_)
  refine j_aload h dX9_describe_74 0 rfl ?_
  refine j_bipush (v := (7 : Int32)) h dX9_describe_76 (by decide) ?_
  refine j_iload h dX9_describe_78 7 rfl ?_
  refine j_iastK (c := 6) (n := 21) (kn := 7) h (ph_xlt hS (by decide)) (ph_kc6 hS) rfl (by decide) dX9_describe_80 ?_
  refine j_letM (fun M10 => ?_)
  refine j_aload h dX9_describe_81 0 rfl ?_
  refine j_bipush (v := (8 : Int32)) h dX9_describe_83 (by decide) ?_
  refine j_aload_n h dX9_describe_85 rfl 2 rfl ?_
  refine j_get (c := c) (j := 11) (v := .ref (ad (c + 10))) h (ph_S0n hS hc) (ph_S0 hS hc) rfl ph_inX9 rfl (by decide) tw_98 rfl rfl dX9_describe_86 ?_
  refine j_iconst (v := (4 : Int32)) h dX9_describe_89 (by decide) ?_
  refine j_ialdK (c := (c + 10)) (n := 5) (kn := 4) h (ph_S10n hS hc) (ph_S10 hS hc) rfl (by decide) dX9_describe_90 ?_
  refine j_iastK (c := 6) (n := 21) (kn := 8) h (ph_xlt hS (by decide)) (ph_kc6 hS) rfl (by decide) dX9_describe_91 ?_
  refine j_letM (fun M11 => ?_)
  exact j_vret h rfl fin dX9_describe_92
theorem dJ9_min_f86c9_0 : decode cJ9_min_f86c9 0 = .ok (.lload_n 0, 1) := by decide +kernel
theorem dJ9_min_f86c9_1 : decode cJ9_min_f86c9 1 = .ok (.lload_n 2, 1) := by decide +kernel
theorem dJ9_min_f86c9_2 : decode cJ9_min_f86c9 2 = .ok (.lcmp, 1) := by decide +kernel
theorem dJ9_min_f86c9_3 : decode cJ9_min_f86c9 3 = .ok (.ifCond .gt 7, 3) := by decide +kernel
theorem dJ9_min_f86c9_6 : decode cJ9_min_f86c9 6 = .ok (.lload_n 0, 1) := by decide +kernel
theorem dJ9_min_f86c9_7 : decode cJ9_min_f86c9 7 = .ok (.goto 4, 3) := by decide +kernel
theorem dJ9_min_f86c9_10 : decode cJ9_min_f86c9 10 = .ok (.lload_n 2, 1) := by decide +kernel
theorem dJ9_min_f86c9_11 : decode cJ9_min_f86c9 11 = .ok (.lreturn, 1) := by decide +kernel
theorem ydf9_min_f86c9 : ph_yd yJ9_min_f86c9 2 := ⟨by decide, by decide, by decide +kernel⟩
def f9_min_f86c9 (S : ph_Sh) (M : ph_Mem) (p0 : Int64) (p1 : Int64) : Option Int64 :=
  if 0 < (lg_cmp p0 p1) then (some p1) else (some p0)
set_option maxHeartbeats 4000000 in
theorem cf9_min_f86c9 {tb adK adV : Nat → Nat} {S : ph_Sh} {l : Launch} {D : va_G} {cA : Nat → ClassId} {ad : Nat → Nat} (hinj : ∀ i j, i < S.2 → j < S.2 → ad i = ad j → i = j) (hS : True) {M : ph_Mem} {p0 : Int64} {p1 : Int64} {r : Int64} (hf : f9_min_f86c9 S M p0 p1 = some r) : ph_C (ph_ZX tb adK adV) l 0 yJ9_min_f86c9 cJ9_min_f86c9 4 (some .long) D cA S.1 S.2 ad [.long p0, .long p1] M (some (.long r)) M := by
  refine ph_mkF ph_ZX_ok hinj (by decide +kernel) (Nat.le_of_ble_eq_true rfl) fun X h fin hE => ?_
  refine (?_ : ph_J X S.1 S.2 ad (r : Int64) 0 [(0, .long p0), (2, .long p1)] [] M (f9_min_f86c9 S M p0 p1)) hf
  unfold f9_min_f86c9
  refine j_lload_n h dJ9_min_f86c9_0 rfl 0 rfl ?_
  refine j_lload_n h dJ9_min_f86c9_1 rfl 1 rfl ?_
  refine j_lcmp h dJ9_min_f86c9_2 ?_
  refine j_if_gt h 10 dJ9_min_f86c9_3 (by decide) ?_ ?_
  · refine j_lload_n h dJ9_min_f86c9_10 rfl 1 rfl ?_
    exact j_lretP h rfl fin dJ9_min_f86c9_11
  · refine j_lload_n h dJ9_min_f86c9_6 rfl 0 rfl ?_
    refine j_goto h 11 dJ9_min_f86c9_7 (by decide) ?_
    exact j_lretP h rfl fin dJ9_min_f86c9_11
theorem dJ9_max_f86c9_0 : decode cJ9_max_f86c9 0 = .ok (.lload_n 0, 1) := by decide +kernel
theorem dJ9_max_f86c9_1 : decode cJ9_max_f86c9 1 = .ok (.lload_n 2, 1) := by decide +kernel
theorem dJ9_max_f86c9_2 : decode cJ9_max_f86c9 2 = .ok (.lcmp, 1) := by decide +kernel
theorem dJ9_max_f86c9_3 : decode cJ9_max_f86c9 3 = .ok (.ifCond .lt 7, 3) := by decide +kernel
theorem dJ9_max_f86c9_6 : decode cJ9_max_f86c9 6 = .ok (.lload_n 0, 1) := by decide +kernel
theorem dJ9_max_f86c9_7 : decode cJ9_max_f86c9 7 = .ok (.goto 4, 3) := by decide +kernel
theorem dJ9_max_f86c9_10 : decode cJ9_max_f86c9 10 = .ok (.lload_n 2, 1) := by decide +kernel
theorem dJ9_max_f86c9_11 : decode cJ9_max_f86c9 11 = .ok (.lreturn, 1) := by decide +kernel
theorem ydf9_max_f86c9 : ph_yd yJ9_max_f86c9 2 := ⟨by decide, by decide, by decide +kernel⟩
def f9_max_f86c9 (S : ph_Sh) (M : ph_Mem) (p0 : Int64) (p1 : Int64) : Option Int64 :=
  if (lg_cmp p0 p1) < 0 then (some p1) else (some p0)
set_option maxHeartbeats 4000000 in
theorem cf9_max_f86c9 {tb adK adV : Nat → Nat} {S : ph_Sh} {l : Launch} {D : va_G} {cA : Nat → ClassId} {ad : Nat → Nat} (hinj : ∀ i j, i < S.2 → j < S.2 → ad i = ad j → i = j) (hS : True) {M : ph_Mem} {p0 : Int64} {p1 : Int64} {r : Int64} (hf : f9_max_f86c9 S M p0 p1 = some r) : ph_C (ph_ZX tb adK adV) l 0 yJ9_max_f86c9 cJ9_max_f86c9 4 (some .long) D cA S.1 S.2 ad [.long p0, .long p1] M (some (.long r)) M := by
  refine ph_mkF ph_ZX_ok hinj (by decide +kernel) (Nat.le_of_ble_eq_true rfl) fun X h fin hE => ?_
  refine (?_ : ph_J X S.1 S.2 ad (r : Int64) 0 [(0, .long p0), (2, .long p1)] [] M (f9_max_f86c9 S M p0 p1)) hf
  unfold f9_max_f86c9
  refine j_lload_n h dJ9_max_f86c9_0 rfl 0 rfl ?_
  refine j_lload_n h dJ9_max_f86c9_1 rfl 1 rfl ?_
  refine j_lcmp h dJ9_max_f86c9_2 ?_
  refine j_if_lt h 10 dJ9_max_f86c9_3 (by decide) ?_ ?_
  · refine j_lload_n h dJ9_max_f86c9_10 rfl 1 rfl ?_
    exact j_lretP h rfl fin dJ9_max_f86c9_11
  · refine j_lload_n h dJ9_max_f86c9_6 rfl 0 rfl ?_
    refine j_goto h 11 dJ9_max_f86c9_7 (by decide) ?_
    exact j_lretP h rfl fin dJ9_max_f86c9_11
theorem dX9_ruled_0 : decode cX9_ruled 0 = .ok (.iload_n 2, 1) := by decide +kernel
theorem dX9_ruled_1 : decode cX9_ruled 1 = .ok (.iload_n 3, 1) := by decide +kernel
theorem dX9_ruled_2 : decode cX9_ruled 2 = .ok (.invokestatic 88, 3) := by decide +kernel
theorem dX9_ruled_5 : decode cX9_ruled 5 = .ok (.istore 5, 2) := by decide +kernel
theorem dX9_ruled_7 : decode cX9_ruled 7 = .ok (.iload_n 1, 1) := by decide +kernel
theorem dX9_ruled_8 : decode cX9_ruled 8 = .ok (.iconst 1, 1) := by decide +kernel
theorem dX9_ruled_9 : decode cX9_ruled 9 = .ok (.if_icmp .ne 16, 3) := by decide +kernel
theorem dX9_ruled_12 : decode cX9_ruled 12 = .ok (.iload 4, 2) := by decide +kernel
theorem dX9_ruled_14 : decode cX9_ruled 14 = .ok (.aload_n 0, 1) := by decide +kernel
theorem dX9_ruled_15 : decode cX9_ruled 15 = .ok (.getfield 30, 3) := by decide +kernel
theorem dX9_ruled_18 : decode cX9_ruled 18 = .ok (.iload 5, 2) := by decide +kernel
theorem dX9_ruled_20 : decode cX9_ruled 20 = .ok (.iaload, 1) := by decide +kernel
theorem dX9_ruled_21 : decode cX9_ruled 21 = .ok (.isub, 1) := by decide +kernel
theorem dX9_ruled_22 : decode cX9_ruled 22 = .ok (.goto 4, 3) := by decide +kernel
theorem dX9_ruled_25 : decode cX9_ruled 25 = .ok (.iconst (-1), 1) := by decide +kernel
theorem dX9_ruled_26 : decode cX9_ruled 26 = .ok (.istore 6, 2) := by decide +kernel
theorem dX9_ruled_28 : decode cX9_ruled 28 = .ok (.aload_n 0, 1) := by decide +kernel
theorem dX9_ruled_29 : decode cX9_ruled 29 = .ok (.iload_n 2, 1) := by decide +kernel
theorem dX9_ruled_30 : decode cX9_ruled 30 = .ok (.iload_n 3, 1) := by decide +kernel
theorem dX9_ruled_31 : decode cX9_ruled 31 = .ok (.iload_n 1, 1) := by decide +kernel
theorem dX9_ruled_32 : decode cX9_ruled 32 = .ok (.iconst 1, 1) := by decide +kernel
theorem dX9_ruled_33 : decode cX9_ruled 33 = .ok (.if_icmp .ne 13, 3) := by decide +kernel
theorem dX9_ruled_36 : decode cX9_ruled 36 = .ok (.aload_n 0, 1) := by decide +kernel
theorem dX9_ruled_37 : decode cX9_ruled 37 = .ok (.getfield 27, 3) := by decide +kernel
theorem dX9_ruled_40 : decode cX9_ruled 40 = .ok (.iload 5, 2) := by decide +kernel
theorem dX9_ruled_42 : decode cX9_ruled 42 = .ok (.iaload, 1) := by decide +kernel
theorem dX9_ruled_43 : decode cX9_ruled 43 = .ok (.goto 4, 3) := by decide +kernel
theorem dX9_ruled_46 : decode cX9_ruled 46 = .ok (.iconst (-1), 1) := by decide +kernel
theorem dX9_ruled_47 : decode cX9_ruled 47 = .ok (.iload 6, 2) := by decide +kernel
theorem dX9_ruled_49 : decode cX9_ruled 49 = .ok (.iload 4, 2) := by decide +kernel
theorem dX9_ruled_51 : decode cX9_ruled 51 = .ok (.invokevirtual 116, 3) := by decide +kernel
theorem dX9_ruled_54 : decode cX9_ruled 54 = .ok (.aload_n 0, 1) := by decide +kernel
theorem dX9_ruled_55 : decode cX9_ruled 55 = .ok (.getfield 67, 3) := by decide +kernel
theorem dX9_ruled_58 : decode cX9_ruled 58 = .ok (.ifCond .lt 26, 3) := by decide +kernel
theorem dX9_ruled_61 : decode cX9_ruled 61 = .ok (.aload_n 0, 1) := by decide +kernel
theorem dX9_ruled_62 : decode cX9_ruled 62 = .ok (.getfield 67, 3) := by decide +kernel
theorem dX9_ruled_65 : decode cX9_ruled 65 = .ok (.aload_n 0, 1) := by decide +kernel
theorem dX9_ruled_66 : decode cX9_ruled 66 = .ok (.getfield 74, 3) := by decide +kernel
theorem dX9_ruled_69 : decode cX9_ruled 69 = .ok (.if_icmp .ge 15, 3) := by decide +kernel
theorem dX9_ruled_72 : decode cX9_ruled 72 = .ok (.aload_n 0, 1) := by decide +kernel
theorem dX9_ruled_73 : decode cX9_ruled 73 = .ok (.getfield 44, 3) := by decide +kernel
theorem dX9_ruled_76 : decode cX9_ruled 76 = .ok (.aload_n 0, 1) := by decide +kernel
theorem dX9_ruled_77 : decode cX9_ruled 77 = .ok (.getfield 67, 3) := by decide +kernel
theorem dX9_ruled_80 : decode cX9_ruled 80 = .ok (.aaload, 1) := by decide +kernel
theorem dX9_ruled_81 : decode cX9_ruled 81 = .ok (.goto 4, 3) := by decide +kernel
theorem dX9_ruled_84 : decode cX9_ruled 84 = .ok (.aconst_null, 1) := by decide +kernel
theorem dX9_ruled_85 : decode cX9_ruled 85 = .ok (.astore 7, 2) := by decide +kernel
theorem dX9_ruled_87 : decode cX9_ruled 87 = .ok (.aload 7, 2) := by decide +kernel
theorem dX9_ruled_89 : decode cX9_ruled 89 = .ok (.ifnonnull 7, 3) := by decide +kernel
theorem dX9_ruled_92 : decode cX9_ruled 92 = .ok (.iconst 0, 1) := by decide +kernel
theorem dX9_ruled_93 : decode cX9_ruled 93 = .ok (.goto 8, 3) := by decide +kernel
theorem dX9_ruled_96 : decode cX9_ruled 96 = .ok (.aload 7, 2) := by decide +kernel
theorem dX9_ruled_98 : decode cX9_ruled 98 = .ok (.getfield 120, 3) := by decide +kernel
theorem dX9_ruled_101 : decode cX9_ruled 101 = .ok (.istore 8, 2) := by decide +kernel
theorem dX9_ruled_103 : decode cX9_ruled 103 = .ok (.iload 8, 2) := by decide +kernel
theorem dX9_ruled_105 : decode cX9_ruled 105 = .ok (.iconst 1, 1) := by decide +kernel
theorem dX9_ruled_106 : decode cX9_ruled 106 = .ok (.isub, 1) := by decide +kernel
theorem dX9_ruled_107 : decode cX9_ruled 107 = .ok (.istore 9, 2) := by decide +kernel
theorem dX9_ruled_109 : decode cX9_ruled 109 = .ok (.iload 9, 2) := by decide +kernel
theorem dX9_ruled_111 : decode cX9_ruled 111 = .ok (.ifCond .lt 97, 3) := by decide +kernel
theorem dX9_ruled_114 : decode cX9_ruled 114 = .ok (.aload 7, 2) := by decide +kernel
theorem dX9_ruled_116 : decode cX9_ruled 116 = .ok (.iload 9, 2) := by decide +kernel
theorem dX9_ruled_118 : decode cX9_ruled 118 = .ok (.invokevirtual 123, 3) := by decide +kernel
theorem dX9_ruled_121 : decode cX9_ruled 121 = .ok (.iload_n 1, 1) := by decide +kernel
theorem dX9_ruled_122 : decode cX9_ruled 122 = .ok (.if_icmp .ne 80, 3) := by decide +kernel
theorem dX9_ruled_125 : decode cX9_ruled 125 = .ok (.aload 7, 2) := by decide +kernel
theorem dX9_ruled_127 : decode cX9_ruled 127 = .ok (.iload 9, 2) := by decide +kernel
theorem dX9_ruled_129 : decode cX9_ruled 129 = .ok (.iconst 2, 1) := by decide +kernel
theorem dX9_ruled_130 : decode cX9_ruled 130 = .ok (.invokevirtual 126, 3) := by decide +kernel
theorem dX9_ruled_133 : decode cX9_ruled 133 = .ok (.ifCond .ne 20, 3) := by decide +kernel
theorem dX9_ruled_136 : decode cX9_ruled 136 = .ok (.aload_n 0, 1) := by decide +kernel
theorem dX9_ruled_137 : decode cX9_ruled 137 = .ok (.getfield 48, 3) := by decide +kernel
theorem dX9_ruled_140 : decode cX9_ruled 140 = .ok (.aload 7, 2) := by decide +kernel
theorem dX9_ruled_142 : decode cX9_ruled 142 = .ok (.iload 9, 2) := by decide +kernel
theorem dX9_ruled_144 : decode cX9_ruled 144 = .ok (.iconst 2, 1) := by decide +kernel
theorem dX9_ruled_145 : decode cX9_ruled 145 = .ok (.invokevirtual 129, 3) := by decide +kernel
theorem dX9_ruled_148 : decode cX9_ruled 148 = .ok (.lconst 1, 1) := by decide +kernel
theorem dX9_ruled_149 : decode cX9_ruled 149 = .ok (.lcmp, 1) := by decide +kernel
theorem dX9_ruled_150 : decode cX9_ruled 150 = .ok (.ifCond .ne 52, 3) := by decide +kernel
theorem dX9_ruled_153 : decode cX9_ruled 153 = .ok (.iload_n 1, 1) := by decide +kernel
theorem dX9_ruled_154 : decode cX9_ruled 154 = .ok (.iconst 2, 1) := by decide +kernel
theorem dX9_ruled_155 : decode cX9_ruled 155 = .ok (.if_icmp .ne 7, 3) := by decide +kernel
theorem dX9_ruled_158 : decode cX9_ruled 158 = .ok (.lconst 1, 1) := by decide +kernel
theorem dX9_ruled_159 : decode cX9_ruled 159 = .ok (.goto 15, 3) := by decide +kernel
theorem dX9_ruled_162 : decode cX9_ruled 162 = .ok (.aload_n 0, 1) := by decide +kernel
theorem dX9_ruled_163 : decode cX9_ruled 163 = .ok (.getfield 48, 3) := by decide +kernel
theorem dX9_ruled_166 : decode cX9_ruled 166 = .ok (.aload 7, 2) := by decide +kernel
theorem dX9_ruled_168 : decode cX9_ruled 168 = .ok (.iload 9, 2) := by decide +kernel
theorem dX9_ruled_170 : decode cX9_ruled 170 = .ok (.iconst 0, 1) := by decide +kernel
theorem dX9_ruled_171 : decode cX9_ruled 171 = .ok (.invokevirtual 129, 3) := by decide +kernel
theorem dX9_ruled_174 : decode cX9_ruled 174 = .ok (.lstore 10, 2) := by decide +kernel
theorem dX9_ruled_176 : decode cX9_ruled 176 = .ok (.lload 10, 2) := by decide +kernel
theorem dX9_ruled_178 : decode cX9_ruled 178 = .ok (.ldc2_w 135, 3) := by decide +kernel
theorem dX9_ruled_181 : decode cX9_ruled 181 = .ok (.lcmp, 1) := by decide +kernel
theorem dX9_ruled_182 : decode cX9_ruled 182 = .ok (.ifCond .eq 20, 3) := by decide +kernel
theorem dX9_ruled_185 : decode cX9_ruled 185 = .ok (.lconst 0, 1) := by decide +kernel
theorem dX9_ruled_186 : decode cX9_ruled 186 = .ok (.getstatic 137, 3) := by decide +kernel
theorem dX9_ruled_189 : decode cX9_ruled 189 = .ok (.iload_n 1, 1) := by decide +kernel
theorem dX9_ruled_190 : decode cX9_ruled 190 = .ok (.iaload, 1) := by decide +kernel
theorem dX9_ruled_191 : decode cX9_ruled 191 = .ok (.i2l, 1) := by decide +kernel
theorem dX9_ruled_192 : decode cX9_ruled 192 = .ok (.lload 10, 2) := by decide +kernel
theorem dX9_ruled_194 : decode cX9_ruled 194 = .ok (.invokestatic 140, 3) := by decide +kernel
theorem dX9_ruled_197 : decode cX9_ruled 197 = .ok (.invokestatic 144, 3) := by decide +kernel
theorem dX9_ruled_200 : decode cX9_ruled 200 = .ok (.l2i, 1) := by decide +kernel
theorem dX9_ruled_201 : decode cX9_ruled 201 = .ok (.ireturn, 1) := by decide +kernel
theorem dX9_ruled_202 : decode cX9_ruled 202 = .ok (.iinc 9 (-1), 3) := by decide +kernel
theorem dX9_ruled_205 : decode cX9_ruled 205 = .ok (.goto (-96), 3) := by decide +kernel
theorem dX9_ruled_208 : decode cX9_ruled 208 = .ok (.iload_n 1, 1) := by decide +kernel
theorem dX9_ruled_209 : decode cX9_ruled 209 = .ok (.iconst 1, 1) := by decide +kernel
theorem dX9_ruled_210 : decode cX9_ruled 210 = .ok (.if_icmp .ne 14, 3) := by decide +kernel
theorem dX9_ruled_213 : decode cX9_ruled 213 = .ok (.aload_n 0, 1) := by decide +kernel
theorem dX9_ruled_214 : decode cX9_ruled 214 = .ok (.getfield 27, 3) := by decide +kernel
theorem dX9_ruled_217 : decode cX9_ruled 217 = .ok (.iload 5, 2) := by decide +kernel
theorem dX9_ruled_219 : decode cX9_ruled 219 = .ok (.iaload, 1) := by decide +kernel
theorem dX9_ruled_220 : decode cX9_ruled 220 = .ok (.iload 6, 2) := by decide +kernel
theorem dX9_ruled_222 : decode cX9_ruled 222 = .ok (.iadd, 1) := by decide +kernel
theorem dX9_ruled_223 : decode cX9_ruled 223 = .ok (.ireturn, 1) := by decide +kernel
theorem dX9_ruled_224 : decode cX9_ruled 224 = .ok (.iload_n 1, 1) := by decide +kernel
theorem dX9_ruled_225 : decode cX9_ruled 225 = .ok (.ifCond .ne 13, 3) := by decide +kernel
theorem dX9_ruled_228 : decode cX9_ruled 228 = .ok (.aload_n 0, 1) := by decide +kernel
theorem dX9_ruled_229 : decode cX9_ruled 229 = .ok (.getfield 21, 3) := by decide +kernel
theorem dX9_ruled_232 : decode cX9_ruled 232 = .ok (.iload 5, 2) := by decide +kernel
theorem dX9_ruled_234 : decode cX9_ruled 234 = .ok (.iaload, 1) := by decide +kernel
theorem dX9_ruled_235 : decode cX9_ruled 235 = .ok (.goto 4, 3) := by decide +kernel
theorem dX9_ruled_238 : decode cX9_ruled 238 = .ok (.iconst 0, 1) := by decide +kernel
theorem dX9_ruled_239 : decode cX9_ruled 239 = .ok (.ireturn, 1) := by decide +kernel
def f9_ruled_j185 (S : ph_Sh) (c : Nat) (x1 : Int32) (x10 : Int64) (M : ph_Mem) : Option (Int32 × ph_Mem) :=
  cond (ph_ib x1 3) ((f9_min_f86c9 S M ((ph_tv 2).getD x1.toNatClampNeg 0).toInt64 x10).bind fun q22 => (f9_max_f86c9 S M (0 : Int64) q22).bind fun q23 => some (q23.toInt32, M)) none
set_option maxHeartbeats 4000000 in
theorem jb_f9_ruled_j185 {tb adK adV : Nat → Nat} {S : ph_Sh} {c : Nat} {X : ph_X} {ad : Nat → Nat} {o : (Int32 × ph_Mem)} (h : ph_ok (ph_ZX tb adK adV) X cX9_ruled RX9 (some .int) 12 2 S.2 ad) (fin : ph_fin X S.1 S.2 ad (some (.int o.1)) o.2) (hS : ph_SX S) (hc : ph_isS c) : ∀ (x1 : Int32) (x10 : Int64) (M : ph_Mem), ph_J X S.1 S.2 ad o 185 [(1, .int x1), (10, .long x10)] [] M (f9_ruled_j185 S c x1 x10 M) := by
  intro x1 x10 M
  unfold f9_ruled_j185
  refine j_lconst (v := (0 : Int64)) h dX9_ruled_185 (by decide) ?_
  refine j_getsN h 2 (by decide) (by decide +kernel) dX9_ruled_186 ?_
  refine j_iload_n h dX9_ruled_189 rfl 0 rfl ?_
  refine j_tald h 2 3 (by decide) rfl dX9_ruled_190 ?_
  refine j_i2l h dX9_ruled_191 ?_
  refine j_lload h dX9_ruled_192 1 rfl ?_
  refine j_callSlP (n := 2) (As := [.long ((ph_tv 2).getD x1.toNatClampNeg 0).toInt64, .long x10]) (rest := [.long (0 : Int64)]) h tw_527 tw_528 tw_16 tw_529 ydf9_min_f86c9 (by decide) (by decide) (fun q hq => cf9_min_f86c9 (ph_okI h) trivial hq) rfl (Nat.le_of_ble_eq_true rfl) rfl dX9_ruled_194 (fun q22 => ?_)
  refine j_callSlP (n := 2) (As := [.long (0 : Int64), .long q22]) (rest := []) h tw_530 tw_531 tw_16 tw_532 ydf9_max_f86c9 (by decide) (by decide) (fun q hq => cf9_max_f86c9 (ph_okI h) trivial hq) rfl (Nat.le_of_ble_eq_true rfl) rfl dX9_ruled_197 (fun q23 => ?_)
  refine j_l2i h dX9_ruled_200 ?_
  exact j_iret h rfl fin dX9_ruled_201
def f9_ruled_j202 (S : ph_Sh) (c : Nat) (rc109 : Int32 → Int32 → Int32 → Option Nat → Int32 → ph_Mem → Option (Int32 × ph_Mem)) (x1 : Int32) (x5 : Int32) (x6 : Int32) (x7 : Option Nat) (x9 : Int32) (M : ph_Mem) : Option (Int32 × ph_Mem) :=
  rc109 x1 x5 x6 x7 (x9 + (-1 : Int32)) M
set_option maxHeartbeats 4000000 in
theorem jb_f9_ruled_j202 {tb adK adV : Nat → Nat} {S : ph_Sh} {c : Nat} {X : ph_X} {ad : Nat → Nat} {o : (Int32 × ph_Mem)} (h : ph_ok (ph_ZX tb adK adV) X cX9_ruled RX9 (some .int) 12 2 S.2 ad) (fin : ph_fin X S.1 S.2 ad (some (.int o.1)) o.2) (hS : ph_SX S) (hc : ph_isS c) {rc109 : Int32 → Int32 → Int32 → Option Nat → Int32 → ph_Mem → Option (Int32 × ph_Mem)} (hrc109 : ∀ (x1 : Int32) (x5 : Int32) (x6 : Int32) (x7 : Option Nat) (x9 : Int32) (M : ph_Mem), ph_J X S.1 S.2 ad o 109 [(0, .ref (ad c)), (1, .int x1), (5, .int x5), (6, .int x6), (7, va_rf (x7.map ad)), (9, .int x9)] [] M (rc109 x1 x5 x6 x7 x9 M)) : ∀ (x1 : Int32) (x5 : Int32) (x6 : Int32) (x7 : Option Nat) (x9 : Int32) (M : ph_Mem), ph_J X S.1 S.2 ad o 202 [(0, .ref (ad c)), (1, .int x1), (5, .int x5), (6, .int x6), (7, va_rf (x7.map ad)), (9, .int x9)] [] M (f9_ruled_j202 S c rc109 x1 x5 x6 x7 x9 M) := by
  intro x1 x5 x6 x7 x9 M
  unfold f9_ruled_j202
  refine j_iinc h [(9, .int (x9 + (-1 : Int32))), (0, .ref (ad c)), (1, .int x1), (5, .int x5), (6, .int x6), (7, va_rf (x7.map ad))] dX9_ruled_202 5 rfl rfl (by decide) rfl ?_
  refine j_goto h 109 dX9_ruled_205 (by decide) ?_
  refine j_sub [1, 2, 3, 4, 5, 0] rfl ?_
  exact hrc109 x1 x5 x6 x7 (x9 + (-1 : Int32)) M
def f9_ruled_j174 (S : ph_Sh) (c : Nat) (rc109 : Int32 → Int32 → Int32 → Option Nat → Int32 → ph_Mem → Option (Int32 × ph_Mem)) (x1 : Int32) (x5 : Int32) (x6 : Int32) (x7 : Option Nat) (x9 : Int32) (s0 : Int64) (M : ph_Mem) : Option (Int32 × ph_Mem) :=
  if (lg_cmp s0 (-4000000000000000000 : Int64)) = 0 then (f9_ruled_j202 S c rc109 x1 x5 x6 x7 x9 M) else (f9_ruled_j185 S c x1 s0 M)
set_option maxHeartbeats 4000000 in
theorem jb_f9_ruled_j174 {tb adK adV : Nat → Nat} {S : ph_Sh} {c : Nat} {X : ph_X} {ad : Nat → Nat} {o : (Int32 × ph_Mem)} (h : ph_ok (ph_ZX tb adK adV) X cX9_ruled RX9 (some .int) 12 2 S.2 ad) (fin : ph_fin X S.1 S.2 ad (some (.int o.1)) o.2) (hS : ph_SX S) (hc : ph_isS c) {rc109 : Int32 → Int32 → Int32 → Option Nat → Int32 → ph_Mem → Option (Int32 × ph_Mem)} (hrc109 : ∀ (x1 : Int32) (x5 : Int32) (x6 : Int32) (x7 : Option Nat) (x9 : Int32) (M : ph_Mem), ph_J X S.1 S.2 ad o 109 [(0, .ref (ad c)), (1, .int x1), (5, .int x5), (6, .int x6), (7, va_rf (x7.map ad)), (9, .int x9)] [] M (rc109 x1 x5 x6 x7 x9 M)) : ∀ (x1 : Int32) (x5 : Int32) (x6 : Int32) (x7 : Option Nat) (x9 : Int32) (s0 : Int64) (M : ph_Mem), ph_J X S.1 S.2 ad o 174 [(0, .ref (ad c)), (1, .int x1), (5, .int x5), (6, .int x6), (7, va_rf (x7.map ad)), (9, .int x9)] [.long s0] M (f9_ruled_j174 S c rc109 x1 x5 x6 x7 x9 s0 M) := by
  intro x1 x5 x6 x7 x9 s0 M
  unfold f9_ruled_j174
  refine j_lstore h [(10, .long s0), (0, .ref (ad c)), (1, .int x1), (5, .int x5), (6, .int x6), (7, va_rf (x7.map ad)), (9, .int x9)] dX9_ruled_174 (by decide) rfl ?_
  refine j_lload h dX9_ruled_176 0 rfl ?_
  refine j_ldc2 (v := (-4000000000000000000 : Int64)) h dX9_ruled_178 tw_524 ?_
  refine j_lcmp h dX9_ruled_181 ?_
  refine j_if_eq h 202 dX9_ruled_182 (by decide) ?_ ?_
  · refine j_sub [1, 2, 3, 4, 5, 6] rfl ?_
    exact jb_f9_ruled_j202 h fin hS hc hrc109 x1 x5 x6 x7 x9 M
  · refine j_sub [2, 0] rfl ?_
    exact jb_f9_ruled_j185 h fin hS hc x1 s0 M
def f9_ruled_j153 (S : ph_Sh) (c : Nat) (rc109 : Int32 → Int32 → Int32 → Option Nat → Int32 → ph_Mem → Option (Int32 × ph_Mem)) (x1 : Int32) (x5 : Int32) (x6 : Int32) (x7 : Option Nat) (x9 : Int32) (M : ph_Mem) : Option (Int32 × ph_Mem) :=
  if x1 = (2 : Int32) then (f9_ruled_j174 S c rc109 x1 x5 x6 x7 x9 (1 : Int64) M) else (ph_opt x7 none fun c18 => cond (ph_isPb S c18) ((f2_value S M 5 c18 x9 (0 : Int32)).bind fun q21 => f9_ruled_j174 S c rc109 x1 x5 x6 x7 x9 q21.1 q21.2) none)
set_option maxHeartbeats 4000000 in
theorem jb_f9_ruled_j153 {tb adK adV : Nat → Nat} {S : ph_Sh} {c : Nat} {X : ph_X} {ad : Nat → Nat} {o : (Int32 × ph_Mem)} (h : ph_ok (ph_ZX tb adK adV) X cX9_ruled RX9 (some .int) 12 2 S.2 ad) (fin : ph_fin X S.1 S.2 ad (some (.int o.1)) o.2) (hS : ph_SX S) (hc : ph_isS c) {rc109 : Int32 → Int32 → Int32 → Option Nat → Int32 → ph_Mem → Option (Int32 × ph_Mem)} (hrc109 : ∀ (x1 : Int32) (x5 : Int32) (x6 : Int32) (x7 : Option Nat) (x9 : Int32) (M : ph_Mem), ph_J X S.1 S.2 ad o 109 [(0, .ref (ad c)), (1, .int x1), (5, .int x5), (6, .int x6), (7, va_rf (x7.map ad)), (9, .int x9)] [] M (rc109 x1 x5 x6 x7 x9 M)) : ∀ (x1 : Int32) (x5 : Int32) (x6 : Int32) (x7 : Option Nat) (x9 : Int32) (M : ph_Mem), ph_J X S.1 S.2 ad o 153 [(0, .ref (ad c)), (1, .int x1), (5, .int x5), (6, .int x6), (7, va_rf (x7.map ad)), (9, .int x9)] [] M (f9_ruled_j153 S c rc109 x1 x5 x6 x7 x9 M) := by
  intro x1 x5 x6 x7 x9 M
  unfold f9_ruled_j153
  refine j_iload_n h dX9_ruled_153 rfl 1 rfl ?_
  refine j_iconst (v := (2 : Int32)) h dX9_ruled_154 (by decide) ?_
  refine j_icmp_ne h 162 dX9_ruled_155 (by decide) ?_ ?_
  · refine j_aload_n h dX9_ruled_162 rfl 0 rfl ?_
    refine j_get (c := c) (j := 0) (v := .ref (ad 5)) h (ph_S0n hS hc) (ph_S0 hS hc) rfl ph_inX9 rfl (by decide) tw_63 rfl rfl dX9_ruled_163 ?_
    refine j_opt (fun _ => j_none) (fun c18 hx19 => ?_)
    refine j_chk (fun hb20 => ?_)
    refine j_aloadO h dX9_ruled_166 4 rfl ?_
    refine j_rf hx19 ?_
    refine j_iload h dX9_ruled_168 5 rfl ?_
    refine j_iconst (v := (0 : Int32)) h dX9_ruled_170 (by decide) ?_
    refine j_callVl (n := 3) (As := [.ref (ad c18), .int x9, .int (0 : Int32)]) (rest := []) h 5 tw_502 tw_503 tw_504 tw_2 tw_505 ydf2_value (by decide) (by decide) (ph_xlt hS (by decide)) (ph_kc5 hS) rfl (fun q hq => cf2_value (ph_okI h) hS (by decide) (ph_isPp hb20) hq) rfl (Nat.le_of_ble_eq_true rfl) rfl dX9_ruled_171 (fun q21 => ?_)
    refine j_sub [0, 1, 2, 3, 4, 5] rfl ?_
    exact jb_f9_ruled_j174 h fin hS hc hrc109 x1 x5 x6 x7 x9 q21.1 q21.2
  · refine j_lconst (v := (1 : Int64)) h dX9_ruled_158 (by decide) ?_
    refine j_goto h 174 dX9_ruled_159 (by decide) ?_
    refine j_sub [0, 1, 2, 3, 4, 5] rfl ?_
    exact jb_f9_ruled_j174 h fin hS hc hrc109 x1 x5 x6 x7 x9 (1 : Int64) M
def f9_ruled_j208 (S : ph_Sh) (c : Nat) (x1 : Int32) (x5 : Int32) (x6 : Int32) (M : ph_Mem) : Option (Int32 × ph_Mem) :=
  if x1 = (1 : Int32) then (cond (ph_ib x5 72) (some (((M.1 (c + 6) x5.toNatClampNeg) + x6), M)) none) else (if x1 = 0 then (cond (ph_ib x5 72) (some ((M.1 (c + 4) x5.toNatClampNeg), M)) none) else (some ((0 : Int32), M)))
set_option maxHeartbeats 4000000 in
theorem jb_f9_ruled_j208 {tb adK adV : Nat → Nat} {S : ph_Sh} {c : Nat} {X : ph_X} {ad : Nat → Nat} {o : (Int32 × ph_Mem)} (h : ph_ok (ph_ZX tb adK adV) X cX9_ruled RX9 (some .int) 12 2 S.2 ad) (fin : ph_fin X S.1 S.2 ad (some (.int o.1)) o.2) (hS : ph_SX S) (hc : ph_isS c) : ∀ (x1 : Int32) (x5 : Int32) (x6 : Int32) (M : ph_Mem), ph_J X S.1 S.2 ad o 208 [(0, .ref (ad c)), (1, .int x1), (5, .int x5), (6, .int x6)] [] M (f9_ruled_j208 S c x1 x5 x6 M) := by
  intro x1 x5 x6 M
  unfold f9_ruled_j208
  refine j_iload_n h dX9_ruled_208 rfl 1 rfl ?_
  refine j_iconst (v := (1 : Int32)) h dX9_ruled_209 (by decide) ?_
  refine j_icmp_ne h 224 dX9_ruled_210 (by decide) ?_ ?_
  · refine j_iload_n h dX9_ruled_224 rfl 1 rfl ?_
    refine j_if_ne h 238 dX9_ruled_225 (by decide) ?_ ?_
    · refine j_iconst (v := (0 : Int32)) h dX9_ruled_238 (by decide) ?_
      exact j_iret h rfl fin dX9_ruled_239
    · refine j_aload_n h dX9_ruled_228 rfl 0 rfl ?_
      refine j_get (c := c) (j := 5) (v := .ref (ad (c + 4))) h (ph_S0n hS hc) (ph_S0 hS hc) rfl ph_inX9 rfl (by decide) tw_81 rfl rfl dX9_ruled_229 ?_
      refine j_iload h dX9_ruled_232 2 rfl ?_
      refine j_iald (c := (c + 4)) (n := 72) h (ph_S4n hS hc) (ph_S4 hS hc) dX9_ruled_234 ?_
      refine j_goto h 239 dX9_ruled_235 (by decide) ?_
      exact j_iret h rfl fin dX9_ruled_239
  · refine j_aload_n h dX9_ruled_213 rfl 0 rfl ?_
    refine j_get (c := c) (j := 7) (v := .ref (ad (c + 6))) h (ph_S0n hS hc) (ph_S0 hS hc) rfl ph_inX9 rfl (by decide) tw_87 rfl rfl dX9_ruled_214 ?_
    refine j_iload h dX9_ruled_217 2 rfl ?_
    refine j_iald (c := (c + 6)) (n := 72) h (ph_S6n hS hc) (ph_S6 hS hc) dX9_ruled_219 ?_
    refine j_iload h dX9_ruled_220 3 rfl ?_
    refine j_iadd h dX9_ruled_222 ?_
    exact j_iret h rfl fin dX9_ruled_223
def f9_ruled_l109 (S : ph_Sh) (c : Nat) : Nat → Int32 → Int32 → Int32 → Option Nat → Int32 → ph_Mem → Option (Int32 × ph_Mem)
  | 0, _, _, _, _, _, _ => none
  | n + 1, x1, x5, x6, x7, x9, M => if x9 < 0 then (f9_ruled_j208 S c x1 x5 x6 M) else (ph_opt x7 none fun c6 => cond (ph_isPb S c6) ((f4_kindOf S M c6 x9).bind fun q9 => if q9 = x1 then (ph_opt x7 none fun c10 => cond (ph_isPb S c10) ((f4_isEmpty S M c10 x9 (2 : Int32)).bind fun q13 => if q13 = 0 then (ph_opt x7 none fun c14 => cond (ph_isPb S c14) ((f2_value S M 5 c14 x9 (2 : Int32)).bind fun q17 => if (lg_cmp q17.1 (1 : Int64)) = 0 then (f9_ruled_j153 S c (f9_ruled_l109 S c n) x1 x5 x6 x7 x9 q17.2) else (f9_ruled_j202 S c (f9_ruled_l109 S c n) x1 x5 x6 x7 x9 q17.2)) none) else (f9_ruled_j153 S c (f9_ruled_l109 S c n) x1 x5 x6 x7 x9 M)) none) else (f9_ruled_j202 S c (f9_ruled_l109 S c n) x1 x5 x6 x7 x9 M)) none)
set_option maxHeartbeats 4000000 in
theorem jb_f9_ruled_l109 {tb adK adV : Nat → Nat} {S : ph_Sh} {c : Nat} {X : ph_X} {ad : Nat → Nat} {o : (Int32 × ph_Mem)} (h : ph_ok (ph_ZX tb adK adV) X cX9_ruled RX9 (some .int) 12 2 S.2 ad) (fin : ph_fin X S.1 S.2 ad (some (.int o.1)) o.2) (hS : ph_SX S) (hc : ph_isS c) : ∀ (n : Nat) (x1 : Int32) (x5 : Int32) (x6 : Int32) (x7 : Option Nat) (x9 : Int32) (M : ph_Mem), ph_J X S.1 S.2 ad o 109 [(0, .ref (ad c)), (1, .int x1), (5, .int x5), (6, .int x6), (7, va_rf (x7.map ad)), (9, .int x9)] [] M (f9_ruled_l109 S c n x1 x5 x6 x7 x9 M) := by
  intro n
  induction n with
  | zero => intro x1 x5 x6 x7 x9 M; exact j_none
  | succ n hrc109 =>
    intro x1 x5 x6 x7 x9 M
    unfold f9_ruled_l109
    refine j_iload h dX9_ruled_109 5 rfl ?_
    refine j_if_lt h 208 dX9_ruled_111 (by decide) ?_ ?_
    · refine j_sub [0, 1, 2, 3] rfl ?_
      exact jb_f9_ruled_j208 h fin hS hc x1 x5 x6 M
    · refine j_opt (fun _ => j_none) (fun c6 hx7 => ?_)
      refine j_chk (fun hb8 => ?_)
      refine j_aloadO h dX9_ruled_114 4 rfl ?_
      refine j_rf hx7 ?_
      refine j_iload h dX9_ruled_116 5 rfl ?_
      refine j_callViP (n := 1) (As := [.int x9]) (rest := []) h c6 tw_486 tw_487 tw_488 tw_21 tw_489 ydf4_kindOf (by decide) (by decide) (ph_P0n hS (ph_isPp hb8)) (ph_P0 hS (ph_isPp hb8)) rfl (fun q hq => cf4_kindOf (ph_okI h) hS (ph_isPp hb8) hq) rfl (Nat.le_of_ble_eq_true rfl) rfl dX9_ruled_118 (fun q9 => ?_)
      refine j_iload_n h dX9_ruled_121 rfl 1 rfl ?_
      refine j_icmp_ne h 202 dX9_ruled_122 (by decide) ?_ ?_
      · refine j_sub [0, 1, 2, 3, 4, 5] rfl ?_
        exact jb_f9_ruled_j202 h fin hS hc hrc109 x1 x5 x6 x7 x9 M
      · refine j_opt (fun _ => j_none) (fun c10 hx11 => ?_)
        refine j_chk (fun hb12 => ?_)
        refine j_aloadO h dX9_ruled_125 4 rfl ?_
        refine j_rf hx11 ?_
        refine j_iload h dX9_ruled_127 5 rfl ?_
        refine j_iconst (v := (2 : Int32)) h dX9_ruled_129 (by decide) ?_
        refine j_callViP (n := 2) (As := [.int x9, .int (2 : Int32)]) (rest := []) h c10 tw_490 tw_491 tw_492 tw_21 tw_493 ydf4_isEmpty (by decide) (by decide) (ph_P0n hS (ph_isPp hb12)) (ph_P0 hS (ph_isPp hb12)) rfl (fun q hq => cf4_isEmpty (ph_okI h) hS (ph_isPp hb12) hq) rfl (Nat.le_of_ble_eq_true rfl) rfl dX9_ruled_130 (fun q13 => ?_)
        refine j_if_ne h 153 dX9_ruled_133 (by decide) ?_ ?_
        · refine j_sub [0, 1, 2, 3, 4, 5] rfl ?_
          exact jb_f9_ruled_j153 h fin hS hc hrc109 x1 x5 x6 x7 x9 M
        · refine j_aload_n h dX9_ruled_136 rfl 0 rfl ?_
          refine j_get (c := c) (j := 0) (v := .ref (ad 5)) h (ph_S0n hS hc) (ph_S0 hS hc) rfl ph_inX9 rfl (by decide) tw_63 rfl rfl dX9_ruled_137 ?_
          refine j_opt (fun _ => j_none) (fun c14 hx15 => ?_)
          refine j_chk (fun hb16 => ?_)
          refine j_aloadO h dX9_ruled_140 4 rfl ?_
          refine j_rf hx15 ?_
          refine j_iload h dX9_ruled_142 5 rfl ?_
          refine j_iconst (v := (2 : Int32)) h dX9_ruled_144 (by decide) ?_
          refine j_callVl (n := 3) (As := [.ref (ad c14), .int x9, .int (2 : Int32)]) (rest := []) h 5 tw_502 tw_503 tw_504 tw_2 tw_505 ydf2_value (by decide) (by decide) (ph_xlt hS (by decide)) (ph_kc5 hS) rfl (fun q hq => cf2_value (ph_okI h) hS (by decide) (ph_isPp hb16) hq) rfl (Nat.le_of_ble_eq_true rfl) rfl dX9_ruled_145 (fun q17 => ?_)
          refine j_lconst (v := (1 : Int64)) h dX9_ruled_148 (by decide) ?_
          refine j_lcmp h dX9_ruled_149 ?_
          refine j_if_ne h 202 dX9_ruled_150 (by decide) ?_ ?_
          · refine j_sub [0, 1, 2, 3, 4, 5] rfl ?_
            exact jb_f9_ruled_j202 h fin hS hc hrc109 x1 x5 x6 x7 x9 q17.2
          · refine j_sub [0, 1, 2, 3, 4, 5] rfl ?_
            exact jb_f9_ruled_j153 h fin hS hc hrc109 x1 x5 x6 x7 x9 q17.2
def f9_ruled_j101 (S : ph_Sh) (c : Nat) (x1 : Int32) (x5 : Int32) (x6 : Int32) (x7 : Option Nat) (s0 : Int32) (M : ph_Mem) : Option (Int32 × ph_Mem) :=
  f9_ruled_l109 S c 10000 x1 x5 x6 x7 (s0 - (1 : Int32)) M
set_option maxHeartbeats 4000000 in
theorem jb_f9_ruled_j101 {tb adK adV : Nat → Nat} {S : ph_Sh} {c : Nat} {X : ph_X} {ad : Nat → Nat} {o : (Int32 × ph_Mem)} (h : ph_ok (ph_ZX tb adK adV) X cX9_ruled RX9 (some .int) 12 2 S.2 ad) (fin : ph_fin X S.1 S.2 ad (some (.int o.1)) o.2) (hS : ph_SX S) (hc : ph_isS c) : ∀ (x1 : Int32) (x5 : Int32) (x6 : Int32) (x7 : Option Nat) (s0 : Int32) (M : ph_Mem), ph_J X S.1 S.2 ad o 101 [(0, .ref (ad c)), (1, .int x1), (5, .int x5), (6, .int x6), (7, va_rf (x7.map ad))] [.int s0] M (f9_ruled_j101 S c x1 x5 x6 x7 s0 M) := by
  intro x1 x5 x6 x7 s0 M
  unfold f9_ruled_j101
  refine j_istore h [(8, .int s0), (0, .ref (ad c)), (1, .int x1), (5, .int x5), (6, .int x6), (7, va_rf (x7.map ad))] dX9_ruled_101 (by decide) (by cases x7 <;> rfl) ?_
  refine j_iload h dX9_ruled_103 0 rfl ?_
  refine j_iconst (v := (1 : Int32)) h dX9_ruled_105 (by decide) ?_
  refine j_isub h dX9_ruled_106 ?_
  refine j_istore h [(9, .int (s0 - (1 : Int32))), (8, .int s0), (0, .ref (ad c)), (1, .int x1), (5, .int x5), (6, .int x6), (7, va_rf (x7.map ad))] dX9_ruled_107 (by decide) rfl ?_
  refine j_sub [2, 3, 4, 5, 6, 0] rfl ?_
  exact jb_f9_ruled_l109 h fin hS hc 10000 x1 x5 x6 x7 (s0 - (1 : Int32)) M
def f9_ruled_j85 (S : ph_Sh) (c : Nat) (x1 : Int32) (x5 : Int32) (x6 : Int32) (s0 : Option Nat) (M : ph_Mem) : Option (Int32 × ph_Mem) :=
  ph_opt s0 (f9_ruled_j101 S c x1 x5 x6 s0 (0 : Int32) M) fun _ => ph_opt s0 none fun c3 => cond (ph_isPb S c3) (f9_ruled_j101 S c x1 x5 x6 s0 (M.1 c3 0) M) none
set_option maxHeartbeats 4000000 in
theorem jb_f9_ruled_j85 {tb adK adV : Nat → Nat} {S : ph_Sh} {c : Nat} {X : ph_X} {ad : Nat → Nat} {o : (Int32 × ph_Mem)} (h : ph_ok (ph_ZX tb adK adV) X cX9_ruled RX9 (some .int) 12 2 S.2 ad) (fin : ph_fin X S.1 S.2 ad (some (.int o.1)) o.2) (hS : ph_SX S) (hc : ph_isS c) : ∀ (x1 : Int32) (x5 : Int32) (x6 : Int32) (s0 : Option Nat) (M : ph_Mem), ph_J X S.1 S.2 ad o 85 [(0, .ref (ad c)), (1, .int x1), (5, .int x5), (6, .int x6)] [va_rf (s0.map ad)] M (f9_ruled_j85 S c x1 x5 x6 s0 M) := by
  intro x1 x5 x6 s0 M
  unfold f9_ruled_j85
  refine j_astoreO h [(7, va_rf (s0.map ad)), (0, .ref (ad c)), (1, .int x1), (5, .int x5), (6, .int x6)] dX9_ruled_85 (by decide) rfl ?_
  refine j_aloadO h dX9_ruled_87 0 rfl ?_
  refine j_ifnonnull h 96 dX9_ruled_89 (by decide) (fun _ => ?_) (fun _ _ => ?_)
  · refine j_iconst (v := (0 : Int32)) h dX9_ruled_92 (by decide) ?_
    refine j_goto h 101 dX9_ruled_93 (by decide) ?_
    refine j_sub [1, 2, 3, 4, 0] rfl ?_
    exact jb_f9_ruled_j101 h fin hS hc x1 x5 x6 s0 (0 : Int32) M
  · refine j_opt (fun _ => j_none) (fun c3 hx4 => ?_)
    refine j_chk (fun hb5 => ?_)
    refine j_aloadO h dX9_ruled_96 0 rfl ?_
    refine j_rf hx4 ?_
    refine j_get (c := c3) (j := 0) (v := .int (M.1 c3 0)) h (ph_P0n hS (ph_isPp hb5)) (ph_P0 hS (ph_isPp hb5)) rfl ph_inX4 rfl (by decide) tw_813 rfl rfl dX9_ruled_98 ?_
    refine j_sub [1, 2, 3, 4, 0] rfl ?_
    exact jb_f9_ruled_j101 h fin hS hc x1 x5 x6 s0 (M.1 c3 0) M
def f9_ruled_j84 (S : ph_Sh) (c : Nat) (x1 : Int32) (x5 : Int32) (x6 : Int32) (M : ph_Mem) : Option (Int32 × ph_Mem) :=
  f9_ruled_j85 S c x1 x5 x6 none M
set_option maxHeartbeats 4000000 in
theorem jb_f9_ruled_j84 {tb adK adV : Nat → Nat} {S : ph_Sh} {c : Nat} {X : ph_X} {ad : Nat → Nat} {o : (Int32 × ph_Mem)} (h : ph_ok (ph_ZX tb adK adV) X cX9_ruled RX9 (some .int) 12 2 S.2 ad) (fin : ph_fin X S.1 S.2 ad (some (.int o.1)) o.2) (hS : ph_SX S) (hc : ph_isS c) : ∀ (x1 : Int32) (x5 : Int32) (x6 : Int32) (M : ph_Mem), ph_J X S.1 S.2 ad o 84 [(0, .ref (ad c)), (1, .int x1), (5, .int x5), (6, .int x6)] [] M (f9_ruled_j84 S c x1 x5 x6 M) := by
  intro x1 x5 x6 M
  unfold f9_ruled_j84
  refine j_null h dX9_ruled_84 ?_
  refine j_sub [0, 1, 2, 3] rfl ?_
  exact jb_f9_ruled_j85 h fin hS hc x1 x5 x6 none M
def f9_ruled_j47 (S : ph_Sh) (c : Nat) (x1 : Int32) (x4 : Int32) (x5 : Int32) (x6 : Int32) (s0 : Int32) (s1 : Int32) (s2 : Int32) (M : ph_Mem) : Option (Int32 × ph_Mem) :=
  (f9_describe S M c s2 s1 s0 x6 x4).bind fun q2 => if (q2.1 c 14) < 0 then (f9_ruled_j84 S c x1 x5 x6 q2) else (if (q2.1 c 13) ≤ (q2.1 c 14) then (f9_ruled_j84 S c x1 x5 x6 q2) else (cond (ph_ib (q2.1 c 14) 6) (f9_ruled_j85 S c x1 x5 x6 (q2.2.2 (c + 11) (q2.1 c 14).toNatClampNeg) q2) none))
set_option maxHeartbeats 4000000 in
theorem jb_f9_ruled_j47 {tb adK adV : Nat → Nat} {S : ph_Sh} {c : Nat} {X : ph_X} {ad : Nat → Nat} {o : (Int32 × ph_Mem)} (h : ph_ok (ph_ZX tb adK adV) X cX9_ruled RX9 (some .int) 12 2 S.2 ad) (fin : ph_fin X S.1 S.2 ad (some (.int o.1)) o.2) (hS : ph_SX S) (hc : ph_isS c) : ∀ (x1 : Int32) (x4 : Int32) (x5 : Int32) (x6 : Int32) (s0 : Int32) (s1 : Int32) (s2 : Int32) (M : ph_Mem), ph_J X S.1 S.2 ad o 47 [(0, .ref (ad c)), (1, .int x1), (4, .int x4), (5, .int x5), (6, .int x6)] [.int s0, .int s1, .int s2, .ref (ad c)] M (f9_ruled_j47 S c x1 x4 x5 x6 s0 s1 s2 M) := by
  intro x1 x4 x5 x6 s0 s1 s2 M
  unfold f9_ruled_j47
  refine j_iload h dX9_ruled_47 4 rfl ?_
  refine j_iload h dX9_ruled_49 2 rfl ?_
  refine j_callVv (n := 5) (As := [.int s2, .int s1, .int s0, .int x6, .int x4]) (rest := []) h c tw_476 tw_478 tp_2 tw_3 tw_479 ydf9_describe (by decide) (by decide) (ph_S0n hS hc) (ph_S0 hS hc) rfl (fun q hq => cf9_describe (ph_okI h) hS hc hq) rfl (Nat.le_of_ble_eq_true rfl) rfl dX9_ruled_51 (fun q2 => ?_)
  refine j_aload_n h dX9_ruled_54 rfl 0 rfl ?_
  refine j_get (c := c) (j := 14) (v := .int (q2.1 c 14)) h (ph_S0n hS hc) (ph_S0 hS hc) rfl ph_inX9 rfl (by decide) tw_108 rfl rfl dX9_ruled_55 ?_
  refine j_if_lt h 84 dX9_ruled_58 (by decide) ?_ ?_
  · refine j_sub [0, 1, 3, 4] rfl ?_
    exact jb_f9_ruled_j84 h fin hS hc x1 x5 x6 q2
  · refine j_aload_n h dX9_ruled_61 rfl 0 rfl ?_
    refine j_get (c := c) (j := 14) (v := .int (q2.1 c 14)) h (ph_S0n hS hc) (ph_S0 hS hc) rfl ph_inX9 rfl (by decide) tw_108 rfl rfl dX9_ruled_62 ?_
    refine j_aload_n h dX9_ruled_65 rfl 0 rfl ?_
    refine j_get (c := c) (j := 13) (v := .int (q2.1 c 13)) h (ph_S0n hS hc) (ph_S0 hS hc) rfl ph_inX9 rfl (by decide) tw_106 rfl rfl dX9_ruled_66 ?_
    refine j_icmp_ge h 84 dX9_ruled_69 (by decide) ?_ ?_
    · refine j_sub [0, 1, 3, 4] rfl ?_
      exact jb_f9_ruled_j84 h fin hS hc x1 x5 x6 q2
    · refine j_aload_n h dX9_ruled_72 rfl 0 rfl ?_
      refine j_get (c := c) (j := 12) (v := .ref (ad (c + 11))) h (ph_S0n hS hc) (ph_S0 hS hc) rfl ph_inX9 rfl (by decide) tw_104 rfl rfl dX9_ruled_73 ?_
      refine j_aload_n h dX9_ruled_76 rfl 0 rfl ?_
      refine j_get (c := c) (j := 14) (v := .int (q2.1 c 14)) h (ph_S0n hS hc) (ph_S0 hS hc) rfl ph_inX9 rfl (by decide) tw_108 rfl rfl dX9_ruled_77 ?_
      refine j_aald (c := (c + 11)) (n := 6) (tn := 5) (C := RX4) h (ph_S11n hS hc) (ph_S11 hS hc) (Or.inr ⟨rfl, rfl⟩) dX9_ruled_80 ?_
      refine j_goto h 85 dX9_ruled_81 (by decide) ?_
      refine j_sub [0, 1, 3, 4] rfl ?_
      exact jb_f9_ruled_j85 h fin hS hc x1 x5 x6 (q2.2.2 (c + 11) (q2.1 c 14).toNatClampNeg) q2
def f9_ruled_j26 (S : ph_Sh) (c : Nat) (x1 : Int32) (x2 : Int32) (x3 : Int32) (x4 : Int32) (x5 : Int32) (s0 : Int32) (M : ph_Mem) : Option (Int32 × ph_Mem) :=
  if x1 = (1 : Int32) then (cond (ph_ib x5 72) (f9_ruled_j47 S c x1 x4 x5 s0 (M.1 (c + 6) x5.toNatClampNeg) x3 x2 M) none) else (f9_ruled_j47 S c x1 x4 x5 s0 (-1 : Int32) x3 x2 M)
set_option maxHeartbeats 4000000 in
theorem jb_f9_ruled_j26 {tb adK adV : Nat → Nat} {S : ph_Sh} {c : Nat} {X : ph_X} {ad : Nat → Nat} {o : (Int32 × ph_Mem)} (h : ph_ok (ph_ZX tb adK adV) X cX9_ruled RX9 (some .int) 12 2 S.2 ad) (fin : ph_fin X S.1 S.2 ad (some (.int o.1)) o.2) (hS : ph_SX S) (hc : ph_isS c) : ∀ (x1 : Int32) (x2 : Int32) (x3 : Int32) (x4 : Int32) (x5 : Int32) (s0 : Int32) (M : ph_Mem), ph_J X S.1 S.2 ad o 26 [(0, .ref (ad c)), (1, .int x1), (2, .int x2), (3, .int x3), (4, .int x4), (5, .int x5)] [.int s0] M (f9_ruled_j26 S c x1 x2 x3 x4 x5 s0 M) := by
  intro x1 x2 x3 x4 x5 s0 M
  unfold f9_ruled_j26
  refine j_istore h [(6, .int s0), (0, .ref (ad c)), (1, .int x1), (2, .int x2), (3, .int x3), (4, .int x4), (5, .int x5)] dX9_ruled_26 (by decide) rfl ?_
  refine j_aload_n h dX9_ruled_28 rfl 1 rfl ?_
  refine j_iload_n h dX9_ruled_29 rfl 3 rfl ?_
  refine j_iload_n h dX9_ruled_30 rfl 4 rfl ?_
  refine j_iload_n h dX9_ruled_31 rfl 2 rfl ?_
  refine j_iconst (v := (1 : Int32)) h dX9_ruled_32 (by decide) ?_
  refine j_icmp_ne h 46 dX9_ruled_33 (by decide) ?_ ?_
  · refine j_iconst (v := (-1 : Int32)) h dX9_ruled_46 (by decide) ?_
    refine j_sub [1, 2, 5, 6, 0] rfl ?_
    exact jb_f9_ruled_j47 h fin hS hc x1 x4 x5 s0 (-1 : Int32) x3 x2 M
  · refine j_aload_n h dX9_ruled_36 rfl 1 rfl ?_
    refine j_get (c := c) (j := 7) (v := .ref (ad (c + 6))) h (ph_S0n hS hc) (ph_S0 hS hc) rfl ph_inX9 rfl (by decide) tw_87 rfl rfl dX9_ruled_37 ?_
    refine j_iload h dX9_ruled_40 6 rfl ?_
    refine j_iald (c := (c + 6)) (n := 72) h (ph_S6n hS hc) (ph_S6 hS hc) dX9_ruled_42 ?_
    refine j_goto h 47 dX9_ruled_43 (by decide) ?_
    refine j_sub [1, 2, 5, 6, 0] rfl ?_
    exact jb_f9_ruled_j47 h fin hS hc x1 x4 x5 s0 (M.1 (c + 6) x5.toNatClampNeg) x3 x2 M
theorem ydf9_ruled : ph_yd yX9_ruled 4 := ⟨by decide, by decide, by decide +kernel⟩
def f9_ruled (S : ph_Sh) (M : ph_Mem) (c : Nat) (p0 : Int32) (p1 : Int32) (p2 : Int32) (p3 : Int32) : Option (Int32 × ph_Mem) :=
  (f11_placeOf S M p1 p2).bind fun q1 => if p0 = (1 : Int32) then (cond (ph_ib q1 72) (f9_ruled_j26 S c p0 p1 p2 p3 q1 (p3 - (M.1 (c + 7) q1.toNatClampNeg)) M) none) else (f9_ruled_j26 S c p0 p1 p2 p3 q1 (-1 : Int32) M)
set_option maxHeartbeats 4000000 in
theorem cf9_ruled {tb adK adV : Nat → Nat} {S : ph_Sh} {c : Nat} {l : Launch} {D : va_G} {cA : Nat → ClassId} {ad : Nat → Nat} (hinj : ∀ i j, i < S.2 → j < S.2 → ad i = ad j → i = j) (hS : ph_SX S) (hc : ph_isS c) {M : ph_Mem} {p0 : Int32} {p1 : Int32} {p2 : Int32} {p3 : Int32} {r : Int32} {M' : ph_Mem} (hf : f9_ruled S M c p0 p1 p2 p3 = some (r, M')) : ph_C (ph_ZX tb adK adV) l 2 yX9_ruled cX9_ruled 12 (some .int) D cA S.1 S.2 ad [.ref (ad c), .int p0, .int p1, .int p2, .int p3] M (some (.int r)) M' := by
  refine ph_mk ph_ZX_ok hinj (by decide) (Nat.le_of_ble_eq_true rfl) fun X h fin hE => ?_
  refine (?_ : ph_J X S.1 S.2 ad ((r, M') : (Int32 × ph_Mem)) 0 [(0, .ref (ad c)), (1, .int p0), (2, .int p1), (3, .int p2), (4, .int p3)] [] M (f9_ruled S M c p0 p1 p2 p3)) hf
  unfold f9_ruled
  refine j_iload_n h dX9_ruled_0 rfl 2 rfl ?_
  refine j_iload_n h dX9_ruled_1 rfl 3 rfl ?_
  refine j_callNiP (n := 2) (As := [.int p1, .int p2]) (rest := []) h (by decide +kernel) tw_461 tw_1 tw_462 ydf11_placeOf (by decide) (by decide) (fun q hq => cf11_placeOf (ph_okI h) hS hq) rfl (Nat.le_of_ble_eq_true rfl) rfl dX9_ruled_2 (fun q1 => ?_)
  refine j_istore h [(5, .int q1), (0, .ref (ad c)), (1, .int p0), (2, .int p1), (3, .int p2), (4, .int p3)] dX9_ruled_5 (by decide) rfl ?_
  refine j_iload_n h dX9_ruled_7 rfl 2 rfl ?_
  refine j_iconst (v := (1 : Int32)) h dX9_ruled_8 (by decide) ?_
  refine j_icmp_ne h 25 dX9_ruled_9 (by decide) ?_ ?_
  · refine j_iconst (v := (-1 : Int32)) h dX9_ruled_25 (by decide) ?_
    refine j_sub [1, 2, 3, 4, 5, 0] rfl ?_
    exact jb_f9_ruled_j26 h fin hS hc p0 p1 p2 p3 q1 (-1 : Int32) M
  · refine j_iload h dX9_ruled_12 5 rfl ?_
    refine j_aload_n h dX9_ruled_14 rfl 1 rfl ?_
    refine j_get (c := c) (j := 8) (v := .ref (ad (c + 7))) h (ph_S0n hS hc) (ph_S0 hS hc) rfl ph_inX9 rfl (by decide) tw_90 rfl rfl dX9_ruled_15 ?_
    refine j_iload h dX9_ruled_18 0 rfl ?_
    refine j_iald (c := (c + 7)) (n := 72) h (ph_S7n hS hc) (ph_S7 hS hc) dX9_ruled_20 ?_
    refine j_isub h dX9_ruled_21 ?_
    refine j_goto h 26 dX9_ruled_22 (by decide) ?_
    refine j_sub [1, 2, 3, 4, 5, 0] rfl ?_
    exact jb_f9_ruled_j26 h fin hS hc p0 p1 p2 p3 q1 (p3 - (M.1 (c + 7) q1.toNatClampNeg)) M
theorem dX5_leavesKnown_0 : decode cX5_leavesKnown 0 = .ok (.aload_n 0, 1) := by decide +kernel
theorem dX5_leavesKnown_1 : decode cX5_leavesKnown 1 = .ok (.getfield 35, 3) := by decide +kernel
theorem dX5_leavesKnown_4 : decode cX5_leavesKnown 4 = .ok (.ifCond .eq 27, 3) := by decide +kernel
theorem dX5_leavesKnown_7 : decode cX5_leavesKnown 7 = .ok (.aload_n 0, 1) := by decide +kernel
theorem dX5_leavesKnown_8 : decode cX5_leavesKnown 8 = .ok (.getfield 18, 3) := by decide +kernel
theorem dX5_leavesKnown_11 : decode cX5_leavesKnown 11 = .ok (.aload_n 0, 1) := by decide +kernel
theorem dX5_leavesKnown_12 : decode cX5_leavesKnown 12 = .ok (.getfield 22, 3) := by decide +kernel
theorem dX5_leavesKnown_15 : decode cX5_leavesKnown 15 = .ok (.iload_n 1, 1) := by decide +kernel
theorem dX5_leavesKnown_16 : decode cX5_leavesKnown 16 = .ok (.invokevirtual 29, 3) := by decide +kernel
theorem dX5_leavesKnown_19 : decode cX5_leavesKnown 19 = .ok (.aload_n 0, 1) := by decide +kernel
theorem dX5_leavesKnown_20 : decode cX5_leavesKnown 20 = .ok (.getfield 35, 3) := by decide +kernel
theorem dX5_leavesKnown_23 : decode cX5_leavesKnown 23 = .ok (.iand, 1) := by decide +kernel
theorem dX5_leavesKnown_24 : decode cX5_leavesKnown 24 = .ok (.aload_n 0, 1) := by decide +kernel
theorem dX5_leavesKnown_25 : decode cX5_leavesKnown 25 = .ok (.getfield 35, 3) := by decide +kernel
theorem dX5_leavesKnown_28 : decode cX5_leavesKnown 28 = .ok (.if_icmp .ne 7, 3) := by decide +kernel
theorem dX5_leavesKnown_31 : decode cX5_leavesKnown 31 = .ok (.iconst 1, 1) := by decide +kernel
theorem dX5_leavesKnown_32 : decode cX5_leavesKnown 32 = .ok (.goto 4, 3) := by decide +kernel
theorem dX5_leavesKnown_35 : decode cX5_leavesKnown 35 = .ok (.iconst 0, 1) := by decide +kernel
theorem dX5_leavesKnown_36 : decode cX5_leavesKnown 36 = .ok (.ireturn, 1) := by decide +kernel
theorem ydf5_leavesKnown : ph_yd yX5_leavesKnown 1 := ⟨by decide, by decide, by decide +kernel⟩
def f5_leavesKnown (S : ph_Sh) (M : ph_Mem) (p0 : Int32) : Option Int32 :=
  if (M.1 73 5) = 0 then (some (1 : Int32)) else ((f9_knownWithout S M 11 (M.1 73 3) p0).bind fun q1 => if (q1 &&& (M.1 73 5)) = (M.1 73 5) then (some (1 : Int32)) else (some (0 : Int32)))
set_option maxHeartbeats 4000000 in
theorem cf5_leavesKnown {tb adK adV : Nat → Nat} {S : ph_Sh} {l : Launch} {D : va_G} {cA : Nat → ClassId} {ad : Nat → Nat} (hinj : ∀ i j, i < S.2 → j < S.2 → ad i = ad j → i = j) (hS : ph_SX S) {M : ph_Mem} {p0 : Int32} {r : Int32} (hf : f5_leavesKnown S M p0 = some r) : ph_C (ph_ZX tb adK adV) l 3 yX5_leavesKnown cX5_leavesKnown 2 (some .boolean) D cA S.1 S.2 ad [.ref (ad 73), .int p0] M (some (.int r)) M := by
  refine ph_mk ph_ZX_ok hinj (by decide) (Nat.le_of_ble_eq_true rfl) fun X h fin hE => ?_
  refine (?_ : ph_J X S.1 S.2 ad (r : Int32) 0 [(0, .ref (ad 73)), (1, .int p0)] [] M (f5_leavesKnown S M p0)) hf
  unfold f5_leavesKnown
  refine j_aload_n h dX5_leavesKnown_0 rfl 0 rfl ?_
  refine j_get (c := 73) (j := 5) (v := .int (M.1 73 5)) h (ph_xlt hS (by decide)) (ph_kc73 hS) rfl ph_inX5 rfl (by decide) tw_255 rfl rfl dX5_leavesKnown_1 ?_
  refine j_if_eq h 31 dX5_leavesKnown_4 (by decide) ?_ ?_
  · refine j_iconst (v := (1 : Int32)) h dX5_leavesKnown_31 (by decide) ?_
    refine j_goto h 36 dX5_leavesKnown_32 (by decide) ?_
    exact j_zretPC h rfl (by decide) fin dX5_leavesKnown_36
  · refine j_aload_n h dX5_leavesKnown_7 rfl 0 rfl ?_
    refine j_get (c := 73) (j := 0) (v := .ref (ad 11)) h (ph_xlt hS (by decide)) (ph_kc73 hS) rfl ph_inX5 rfl (by decide) tw_250 rfl rfl dX5_leavesKnown_8 ?_
    refine j_aload_n h dX5_leavesKnown_11 rfl 0 rfl ?_
    refine j_get (c := 73) (j := 3) (v := .int (M.1 73 3)) h (ph_xlt hS (by decide)) (ph_kc73 hS) rfl ph_inX5 rfl (by decide) tw_253 rfl rfl dX5_leavesKnown_12 ?_
    refine j_iload_n h dX5_leavesKnown_15 rfl 1 rfl ?_
    refine j_callViP (n := 2) (As := [.int (M.1 73 3), .int p0]) (rest := []) h 11 tw_1045 tw_548 tw_549 tw_3 tw_550 ydf9_knownWithout (by decide) (by decide) (ph_xlt hS (by decide)) (ph_kc11 hS) rfl (fun q hq => cf9_knownWithout (ph_okI h) hS (by decide) hq) rfl (Nat.le_of_ble_eq_true rfl) rfl dX5_leavesKnown_16 (fun q1 => ?_)
    refine j_aload_n h dX5_leavesKnown_19 rfl 0 rfl ?_
    refine j_get (c := 73) (j := 5) (v := .int (M.1 73 5)) h (ph_xlt hS (by decide)) (ph_kc73 hS) rfl ph_inX5 rfl (by decide) tw_255 rfl rfl dX5_leavesKnown_20 ?_
    refine j_iand h dX5_leavesKnown_23 ?_
    refine j_aload_n h dX5_leavesKnown_24 rfl 0 rfl ?_
    refine j_get (c := 73) (j := 5) (v := .int (M.1 73 5)) h (ph_xlt hS (by decide)) (ph_kc73 hS) rfl ph_inX5 rfl (by decide) tw_255 rfl rfl dX5_leavesKnown_25 ?_
    refine j_icmp_ne h 35 dX5_leavesKnown_28 (by decide) ?_ ?_
    · refine j_iconst (v := (0 : Int32)) h dX5_leavesKnown_35 (by decide) ?_
      exact j_zretPC h rfl (by decide) fin dX5_leavesKnown_36
    · refine j_iconst (v := (1 : Int32)) h dX5_leavesKnown_31 (by decide) ?_
      refine j_goto h 36 dX5_leavesKnown_32 (by decide) ?_
      exact j_zretPC h rfl (by decide) fin dX5_leavesKnown_36
theorem dX5_search_0 : decode cX5_search 0 = .ok (.iload 4, 2) := by decide +kernel
theorem dX5_search_2 : decode cX5_search 2 = .ok (.aload_n 0, 1) := by decide +kernel
theorem dX5_search_3 : decode cX5_search 3 = .ok (.getfield 53, 3) := by decide +kernel
theorem dX5_search_6 : decode cX5_search 6 = .ok (.if_icmp .ge 18, 3) := by decide +kernel
theorem dX5_search_9 : decode cX5_search 9 = .ok (.iload_n 3, 1) := by decide +kernel
theorem dX5_search_10 : decode cX5_search 10 = .ok (.aload_n 0, 1) := by decide +kernel
theorem dX5_search_11 : decode cX5_search 11 = .ok (.getfield 15, 3) := by decide +kernel
theorem dX5_search_14 : decode cX5_search 14 = .ok (.iload_n 1, 1) := by decide +kernel
theorem dX5_search_15 : decode cX5_search 15 = .ok (.iaload, 1) := by decide +kernel
theorem dX5_search_16 : decode cX5_search 16 = .ok (.iadd, 1) := by decide +kernel
theorem dX5_search_17 : decode cX5_search 17 = .ok (.aload_n 0, 1) := by decide +kernel
theorem dX5_search_18 : decode cX5_search 18 = .ok (.getfield 26, 3) := by decide +kernel
theorem dX5_search_21 : decode cX5_search 21 = .ok (.if_icmp .ge 4, 3) := by decide +kernel
theorem dX5_search_24 : decode cX5_search 24 = .ok (.return_, 1) := by decide +kernel
theorem dX5_search_25 : decode cX5_search 25 = .ok (.iload_n 1, 1) := by decide +kernel
theorem dX5_search_26 : decode cX5_search 26 = .ok (.ifCond .ne 20, 3) := by decide +kernel
theorem dX5_search_29 : decode cX5_search 29 = .ok (.aload_n 0, 1) := by decide +kernel
theorem dX5_search_30 : decode cX5_search 30 = .ok (.iload 4, 2) := by decide +kernel
theorem dX5_search_32 : decode cX5_search 32 = .ok (.putfield 53, 3) := by decide +kernel
theorem dX5_search_35 : decode cX5_search 35 = .ok (.aload_n 0, 1) := by decide +kernel
theorem dX5_search_36 : decode cX5_search 36 = .ok (.iload_n 2, 1) := by decide +kernel
theorem dX5_search_37 : decode cX5_search 37 = .ok (.putfield 60, 3) := by decide +kernel
theorem dX5_search_40 : decode cX5_search 40 = .ok (.aload_n 0, 1) := by decide +kernel
theorem dX5_search_41 : decode cX5_search 41 = .ok (.iload_n 3, 1) := by decide +kernel
theorem dX5_search_42 : decode cX5_search 42 = .ok (.putfield 63, 3) := by decide +kernel
theorem dX5_search_45 : decode cX5_search 45 = .ok (.return_, 1) := by decide +kernel
theorem dX5_search_46 : decode cX5_search 46 = .ok (.iload_n 1, 1) := by decide +kernel
theorem dX5_search_47 : decode cX5_search 47 = .ok (.iconst 1, 1) := by decide +kernel
theorem dX5_search_48 : decode cX5_search 48 = .ok (.isub, 1) := by decide +kernel
theorem dX5_search_49 : decode cX5_search 49 = .ok (.istore 5, 2) := by decide +kernel
theorem dX5_search_51 : decode cX5_search 51 = .ok (.aload_n 0, 1) := by decide +kernel
theorem dX5_search_52 : decode cX5_search 52 = .ok (.iload 5, 2) := by decide +kernel
theorem dX5_search_54 : decode cX5_search 54 = .ok (.iload_n 2, 1) := by decide +kernel
theorem dX5_search_55 : decode cX5_search 55 = .ok (.iload_n 3, 1) := by decide +kernel
theorem dX5_search_56 : decode cX5_search 56 = .ok (.iload 4, 2) := by decide +kernel
theorem dX5_search_58 : decode cX5_search 58 = .ok (.invokevirtual 56, 3) := by decide +kernel
theorem dX5_search_61 : decode cX5_search 61 = .ok (.iload_n 2, 1) := by decide +kernel
theorem dX5_search_62 : decode cX5_search 62 = .ok (.iconst 1, 1) := by decide +kernel
theorem dX5_search_63 : decode cX5_search 63 = .ok (.iload 5, 2) := by decide +kernel
theorem dX5_search_65 : decode cX5_search 65 = .ok (.ishl, 1) := by decide +kernel
theorem dX5_search_66 : decode cX5_search 66 = .ok (.ior, 1) := by decide +kernel
theorem dX5_search_67 : decode cX5_search 67 = .ok (.istore 6, 2) := by decide +kernel
theorem dX5_search_69 : decode cX5_search 69 = .ok (.aload_n 0, 1) := by decide +kernel
theorem dX5_search_70 : decode cX5_search 70 = .ok (.getfield 22, 3) := by decide +kernel
theorem dX5_search_73 : decode cX5_search 73 = .ok (.iload 5, 2) := by decide +kernel
theorem dX5_search_75 : decode cX5_search 75 = .ok (.invokestatic 66, 3) := by decide +kernel
theorem dX5_search_78 : decode cX5_search 78 = .ok (.istore 7, 2) := by decide +kernel
theorem dX5_search_80 : decode cX5_search 80 = .ok (.aload_n 0, 1) := by decide +kernel
theorem dX5_search_81 : decode cX5_search 81 = .ok (.getfield 38, 3) := by decide +kernel
theorem dX5_search_84 : decode cX5_search 84 = .ok (.iload 5, 2) := by decide +kernel
theorem dX5_search_86 : decode cX5_search 86 = .ok (.invokestatic 69, 3) := by decide +kernel
theorem dX5_search_89 : decode cX5_search 89 = .ok (.ifCond .eq 56, 3) := by decide +kernel
theorem dX5_search_92 : decode cX5_search 92 = .ok (.aload_n 0, 1) := by decide +kernel
theorem dX5_search_93 : decode cX5_search 93 = .ok (.getfield 18, 3) := by decide +kernel
theorem dX5_search_96 : decode cX5_search 96 = .ok (.getfield 72, 3) := by decide +kernel
theorem dX5_search_99 : decode cX5_search 99 = .ok (.iload 7, 2) := by decide +kernel
theorem dX5_search_101 : decode cX5_search 101 = .ok (.iaload, 1) := by decide +kernel
theorem dX5_search_102 : decode cX5_search 102 = .ok (.iconst (-1), 1) := by decide +kernel
theorem dX5_search_103 : decode cX5_search 103 = .ok (.if_icmp .eq 12, 3) := by decide +kernel
theorem dX5_search_106 : decode cX5_search 106 = .ok (.aload_n 0, 1) := by decide +kernel
theorem dX5_search_107 : decode cX5_search 107 = .ok (.iload 6, 2) := by decide +kernel
theorem dX5_search_109 : decode cX5_search 109 = .ok (.invokevirtual 75, 3) := by decide +kernel
theorem dX5_search_112 : decode cX5_search 112 = .ok (.ifCond .eq 33, 3) := by decide +kernel
theorem dX5_search_115 : decode cX5_search 115 = .ok (.aload_n 0, 1) := by decide +kernel
theorem dX5_search_116 : decode cX5_search 116 = .ok (.iload 5, 2) := by decide +kernel
theorem dX5_search_118 : decode cX5_search 118 = .ok (.iload 6, 2) := by decide +kernel
theorem dX5_search_120 : decode cX5_search 120 = .ok (.iload_n 3, 1) := by decide +kernel
theorem dX5_search_121 : decode cX5_search 121 = .ok (.aload_n 0, 1) := by decide +kernel
theorem dX5_search_122 : decode cX5_search 122 = .ok (.getfield 9, 3) := by decide +kernel
theorem dX5_search_125 : decode cX5_search 125 = .ok (.iload 5, 2) := by decide +kernel
theorem dX5_search_127 : decode cX5_search 127 = .ok (.iaload, 1) := by decide +kernel
theorem dX5_search_128 : decode cX5_search 128 = .ok (.iadd, 1) := by decide +kernel
theorem dX5_search_129 : decode cX5_search 129 = .ok (.iload 4, 2) := by decide +kernel
theorem dX5_search_131 : decode cX5_search 131 = .ok (.aload_n 0, 1) := by decide +kernel
theorem dX5_search_132 : decode cX5_search 132 = .ok (.getfield 18, 3) := by decide +kernel
theorem dX5_search_135 : decode cX5_search 135 = .ok (.getfield 79, 3) := by decide +kernel
theorem dX5_search_138 : decode cX5_search 138 = .ok (.iload 7, 2) := by decide +kernel
theorem dX5_search_140 : decode cX5_search 140 = .ok (.iaload, 1) := by decide +kernel
theorem dX5_search_141 : decode cX5_search 141 = .ok (.iadd, 1) := by decide +kernel
theorem dX5_search_142 : decode cX5_search 142 = .ok (.invokevirtual 56, 3) := by decide +kernel
theorem dX5_search_145 : decode cX5_search 145 = .ok (.return_, 1) := by decide +kernel
def f5_search_j115 (S : ph_Sh) (rs : ph_Mem → Int32 → Int32 → Int32 → Int32 → Option ph_Mem) (x3 : Int32) (x4 : Int32) (x5 : Int32) (x6 : Int32) (x7 : Int32) (M : ph_Mem) : Option ph_Mem :=
  cond (ph_ib x5 12) (cond (ph_ib x7 72) ((rs M x5 x6 (x3 + (M.1 74 x5.toNatClampNeg)) (x4 + (M.1 15 x7.toNatClampNeg))).bind fun q9 => some q9) none) none
set_option maxHeartbeats 4000000 in
theorem jb_f5_search_j115 {tb adK adV : Nat → Nat} {S : ph_Sh} {X : ph_X} {ad : Nat → Nat} {o : ph_Mem} {rs : ph_Mem → Int32 → Int32 → Int32 → Int32 → Option ph_Mem} {dr : Nat} (h : ph_ok (ph_ZX tb adK adV) X cX5_search RX5 none 8 (dr + 1) S.2 ad) (fin : ph_fin X S.1 S.2 ad none o) (hS : ph_SX S) (hB : 3 ≤ dr) (hrs : ∀ (M : ph_Mem) (a0 : Int32) (a1 : Int32) (a2 : Int32) (a3 : Int32) (q : ph_Mem), rs M a0 a1 a2 a3 = some q → ph_CX (ph_ZX tb adK adV) X dr yX5_search cX5_search 8 none  S.1 S.2 ad [.ref (ad 73), .int a0, .int a1, .int a2, .int a3] M none q) : ∀ (x3 : Int32) (x4 : Int32) (x5 : Int32) (x6 : Int32) (x7 : Int32) (M : ph_Mem), ph_J X S.1 S.2 ad o 115 [(0, .ref (ad 73)), (3, .int x3), (4, .int x4), (5, .int x5), (6, .int x6), (7, .int x7)] [] M (f5_search_j115 S rs x3 x4 x5 x6 x7 M) := by
  intro x3 x4 x5 x6 x7 M
  unfold f5_search_j115
  refine j_aload_n h dX5_search_115 rfl 0 rfl ?_
  refine j_iload h dX5_search_116 3 rfl ?_
  refine j_iload h dX5_search_118 4 rfl ?_
  refine j_iload_n h dX5_search_120 rfl 1 rfl ?_
  refine j_aload_n h dX5_search_121 rfl 0 rfl ?_
  refine j_get (c := 73) (j := 1) (v := .ref (ad 74)) h (ph_xlt hS (by decide)) (ph_kc73 hS) rfl ph_inX5 rfl (by decide) tw_251 rfl rfl dX5_search_122 ?_
  refine j_iload h dX5_search_125 3 rfl ?_
  refine j_iald (c := 74) (n := 12) h (ph_xlt hS (by decide)) (ph_kc74 hS) dX5_search_127 ?_
  refine j_iadd h dX5_search_128 ?_
  refine j_iload h dX5_search_129 2 rfl ?_
  refine j_aload_n h dX5_search_131 rfl 0 rfl ?_
  refine j_get (c := 73) (j := 0) (v := .ref (ad 11)) h (ph_xlt hS (by decide)) (ph_kc73 hS) rfl ph_inX5 rfl (by decide) tw_250 rfl rfl dX5_search_132 ?_
  refine j_get (c := 11) (j := 5) (v := .ref (ad 15)) h (ph_xlt hS (by decide)) (ph_kc11 hS) rfl ph_inX9 rfl (by decide) tw_82 rfl rfl dX5_search_135 ?_
  refine j_iload h dX5_search_138 5 rfl ?_
  refine j_iald (c := 15) (n := 72) h (ph_xlt hS (by decide)) (ph_kc15 hS) dX5_search_140 ?_
  refine j_iadd h dX5_search_141 ?_
  refine j_callVv (n := 4) (As := [.int x5, .int x6, .int (x3 + (M.1 74 x5.toNatClampNeg)), .int (x4 + (M.1 15 x7.toNatClampNeg))]) (rest := []) h 73 tw_1049 tw_1051 tp_38 tw_10 tw_1052 ydf5_search (by omega) (by decide) (ph_xlt hS (by decide)) (ph_kc73 hS) rfl (fun q hq => hrs _ _ _ _ _ q hq) rfl (Nat.le_of_ble_eq_true rfl) rfl dX5_search_142 (fun q9 => ?_)
  exact j_vret h rfl fin dX5_search_145
def f5_search_b (S : ph_Sh) (rs : ph_Mem → Int32 → Int32 → Int32 → Int32 → Option ph_Mem) (M : ph_Mem) (p0 : Int32) (p1 : Int32) (p2 : Int32) (p3 : Int32) : Option ph_Mem :=
  if (M.1 73 7) ≤ p3 then (some M) else (cond (ph_ib p0 13) (if (M.1 73 4) ≤ (p2 + (M.1 75 p0.toNatClampNeg)) then (if p0 = 0 then (ph_let (ph_wi M 73 7 p3) fun M6 => ph_let (ph_wi M6 73 8 p1) fun M7 => ph_let (ph_wi M7 73 9 p2) fun M8 => some M8) else ((rs M (p0 - (1 : Int32)) p1 p2 p3).bind fun q1 => ph_let (p1 ||| ((1 : Int32) <<< ((p0 - (1 : Int32)) &&& 31))) fun z2 => (f11_placeOf S q1 (q1.1 73 3) (p0 - (1 : Int32))).bind fun q3 => (f9_hasBit S q1 (q1.1 73 6) (p0 - (1 : Int32))).bind fun q4 => if q4 = 0 then (some q1) else (cond (ph_ib q3 72) (if (q1.1 13 q3.toNatClampNeg) = (-1 : Int32) then (f5_search_j115 S rs p2 p3 (p0 - (1 : Int32)) z2 q3 q1) else ((f5_leavesKnown S q1 z2).bind fun q5 => if q5 = 0 then (some q1) else (f5_search_j115 S rs p2 p3 (p0 - (1 : Int32)) z2 q3 q1))) none))) else (some M)) none)
set_option maxHeartbeats 4000000 in
theorem cf5_search_b {tb adK adV : Nat → Nat} {S : ph_Sh} {l : Launch} {D : va_G} {cA : Nat → ClassId} {ad : Nat → Nat} (hinj : ∀ i j, i < S.2 → j < S.2 → ad i = ad j → i = j) (hS : ph_SX S) {rs : ph_Mem → Int32 → Int32 → Int32 → Int32 → Option ph_Mem} {dr : Nat} (hB : 3 ≤ dr) (hrs : ∀ (M : ph_Mem) (a0 : Int32) (a1 : Int32) (a2 : Int32) (a3 : Int32) (q : ph_Mem), rs M a0 a1 a2 a3 = some q → ph_C (ph_ZX tb adK adV) l dr yX5_search cX5_search 8 none D cA S.1 S.2 ad [.ref (ad 73), .int a0, .int a1, .int a2, .int a3] M none q) {M : ph_Mem} {p0 : Int32} {p1 : Int32} {p2 : Int32} {p3 : Int32} {M' : ph_Mem} (hf : f5_search_b S rs M p0 p1 p2 p3 = some M') : ph_C (ph_ZX tb adK adV) l (dr + 1) yX5_search cX5_search 8 none D cA S.1 S.2 ad [.ref (ad 73), .int p0, .int p1, .int p2, .int p3] M none M' := by
  refine ph_mk ph_ZX_ok hinj (by decide) (Nat.le_of_ble_eq_true rfl) fun X h fin hE => ?_
  obtain ⟨rfl, rfl, rfl⟩ := hE
  refine (?_ : ph_J X S.1 S.2 ad (M' : ph_Mem) 0 [(0, .ref (ad 73)), (1, .int p0), (2, .int p1), (3, .int p2), (4, .int p3)] [] M (f5_search_b S rs M p0 p1 p2 p3)) hf
  unfold f5_search_b
  refine j_iload h dX5_search_0 4 rfl ?_
  refine j_aload_n h dX5_search_2 rfl 0 rfl ?_
  refine j_get (c := 73) (j := 7) (v := .int (M.1 73 7)) h (ph_xlt hS (by decide)) (ph_kc73 hS) rfl ph_inX5 rfl (by decide) tw_257 rfl rfl dX5_search_3 ?_
  refine j_icmp_ge h 24 dX5_search_6 (by decide) ?_ ?_
  · exact j_vret h rfl fin dX5_search_24
  · refine j_iload_n h dX5_search_9 rfl 3 rfl ?_
    refine j_aload_n h dX5_search_10 rfl 0 rfl ?_
    refine j_get (c := 73) (j := 2) (v := .ref (ad 75)) h (ph_xlt hS (by decide)) (ph_kc73 hS) rfl ph_inX5 rfl (by decide) tw_252 rfl rfl dX5_search_11 ?_
    refine j_iload_n h dX5_search_14 rfl 1 rfl ?_
    refine j_iald (c := 75) (n := 13) h (ph_xlt hS (by decide)) (ph_kc75 hS) dX5_search_15 ?_
    refine j_iadd h dX5_search_16 ?_
    refine j_aload_n h dX5_search_17 rfl 0 rfl ?_
    refine j_get (c := 73) (j := 4) (v := .int (M.1 73 4)) h (ph_xlt hS (by decide)) (ph_kc73 hS) rfl ph_inX5 rfl (by decide) tw_254 rfl rfl dX5_search_18 ?_
    refine j_icmp_ge h 25 dX5_search_21 (by decide) ?_ ?_
    · refine j_iload_n h dX5_search_25 rfl 1 rfl ?_
      refine j_if_ne h 46 dX5_search_26 (by decide) ?_ ?_
      · refine j_iload_n h dX5_search_46 rfl 1 rfl ?_
        refine j_iconst (v := (1 : Int32)) h dX5_search_47 (by decide) ?_
        refine j_isub h dX5_search_48 ?_
        refine j_istore h [(5, .int (p0 - (1 : Int32))), (0, .ref (ad 73)), (1, .int p0), (2, .int p1), (3, .int p2), (4, .int p3)] dX5_search_49 (by decide) rfl ?_
        refine j_aload_n h dX5_search_51 rfl 1 rfl ?_
        refine j_iload h dX5_search_52 0 rfl ?_
        refine j_iload_n h dX5_search_54 rfl 3 rfl ?_
        refine j_iload_n h dX5_search_55 rfl 4 rfl ?_
        refine j_iload h dX5_search_56 5 rfl ?_
        refine j_callVv (n := 4) (As := [.int (p0 - (1 : Int32)), .int p1, .int p2, .int p3]) (rest := []) h 73 tw_1049 tw_1051 tp_38 tw_10 tw_1052 ydf5_search (by omega) (by decide) (ph_xlt hS (by decide)) (ph_kc73 hS) rfl (fun q hq => hrs _ _ _ _ _ q hq) rfl (Nat.le_of_ble_eq_true rfl) rfl dX5_search_58 (fun q1 => ?_)
        refine j_iload_n h dX5_search_61 rfl 3 rfl ?_
        refine j_iconst (v := (1 : Int32)) h dX5_search_62 (by decide) ?_
        refine j_iload h dX5_search_63 0 rfl ?_
        refine j_ishl h dX5_search_65 ?_
        refine j_ior h dX5_search_66 ?_
        refine j_istore h [(6, .int (p1 ||| ((1 : Int32) <<< ((p0 - (1 : Int32)) &&& 31)))), (5, .int (p0 - (1 : Int32))), (0, .ref (ad 73)), (1, .int p0), (2, .int p1), (3, .int p2), (4, .int p3)] dX5_search_67 (by decide) rfl ?_
        refine j_letI (lvf := fun z2 => [(6, .int z2), (5, .int (p0 - (1 : Int32))), (0, .ref (ad 73)), (1, .int p0), (2, .int p1), (3, .int p2), (4, .int p3)]) (fun z2 => ?_)
        refine j_aload_n h dX5_search_69 rfl 2 rfl ?_
        refine j_get (c := 73) (j := 3) (v := .int (q1.1 73 3)) h (ph_xlt hS (by decide)) (ph_kc73 hS) rfl ph_inX5 rfl (by decide) tw_253 rfl rfl dX5_search_70 ?_
        refine j_iload h dX5_search_73 1 rfl ?_
        refine j_callNiP (n := 2) (As := [.int (q1.1 73 3), .int (p0 - (1 : Int32))]) (rest := []) h (by decide +kernel) tw_461 tw_1 tw_462 ydf11_placeOf (by omega) (by decide) (fun q hq => cf11_placeOf (ph_okI h) hS hq) rfl (Nat.le_of_ble_eq_true rfl) rfl dX5_search_75 (fun q3 => ?_)
        refine j_istore h [(7, .int q3), (6, .int z2), (5, .int (p0 - (1 : Int32))), (0, .ref (ad 73)), (1, .int p0), (2, .int p1), (3, .int p2), (4, .int p3)] dX5_search_78 (by decide) rfl ?_
        refine j_aload_n h dX5_search_80 rfl 3 rfl ?_
        refine j_get (c := 73) (j := 6) (v := .int (q1.1 73 6)) h (ph_xlt hS (by decide)) (ph_kc73 hS) rfl ph_inX5 rfl (by decide) tw_256 rfl rfl dX5_search_81 ?_
        refine j_iload h dX5_search_84 2 rfl ?_
        refine j_callSiP (n := 2) (As := [.int (q1.1 73 6), .int (p0 - (1 : Int32))]) (rest := []) h tw_1054 tw_454 tw_3 tw_455 ydf9_hasBit (by omega) (by decide) (fun q hq => cf9_hasBit (ph_okI h) hS hq) rfl (Nat.le_of_ble_eq_true rfl) rfl dX5_search_86 (fun q4 => ?_)
        refine j_if_eq h 145 dX5_search_89 (by decide) ?_ ?_
        · exact j_vret h rfl fin dX5_search_145
        · refine j_aload_n h dX5_search_92 rfl 3 rfl ?_
          refine j_get (c := 73) (j := 0) (v := .ref (ad 11)) h (ph_xlt hS (by decide)) (ph_kc73 hS) rfl ph_inX5 rfl (by decide) tw_250 rfl rfl dX5_search_93 ?_
          refine j_get (c := 11) (j := 3) (v := .ref (ad 13)) h (ph_xlt hS (by decide)) (ph_kc11 hS) rfl ph_inX9 rfl (by decide) tw_77 rfl rfl dX5_search_96 ?_
          refine j_iload h dX5_search_99 0 rfl ?_
          refine j_iald (c := 13) (n := 72) h (ph_xlt hS (by decide)) (ph_kc13 hS) dX5_search_101 ?_
          refine j_iconst (v := (-1 : Int32)) h dX5_search_102 (by decide) ?_
          refine j_icmp_eq h 115 dX5_search_103 (by decide) ?_ ?_
          · refine j_sub [3, 6, 7, 2, 1, 0] rfl ?_
            exact jb_f5_search_j115 h fin hS hB hrs p2 p3 (p0 - (1 : Int32)) z2 q3 q1
          · refine j_aload_n h dX5_search_106 rfl 3 rfl ?_
            refine j_iload h dX5_search_107 1 rfl ?_
            refine j_callViP (n := 1) (As := [.int z2]) (rest := []) h 73 tw_1055 tw_1057 tp_39 tw_10 tw_1058 ydf5_leavesKnown (by omega) (by decide) (ph_xlt hS (by decide)) (ph_kc73 hS) rfl (fun q hq => cf5_leavesKnown (ph_okI h) hS hq) rfl (Nat.le_of_ble_eq_true rfl) rfl dX5_search_109 (fun q5 => ?_)
            refine j_if_eq h 145 dX5_search_112 (by decide) ?_ ?_
            · exact j_vret h rfl fin dX5_search_145
            · refine j_sub [3, 6, 7, 2, 1, 0] rfl ?_
              exact jb_f5_search_j115 h fin hS hB hrs p2 p3 (p0 - (1 : Int32)) z2 q3 q1
      · refine j_aload_n h dX5_search_29 rfl 0 rfl ?_
        refine j_iload h dX5_search_30 4 rfl ?_
        refine j_puti (c := 73) (j := 7) (ty := .int) h (ph_xlt hS (by decide)) (ph_kc73 hS) rfl ph_inX5 tyX5 tyX5_ok nmX5 rfl (by decide) tw_257 rfl rfl (tyX5_ok 7 (by decide)) rfl rfl dX5_search_32 ?_
        refine j_letM (fun M6 => ?_)
        refine j_aload_n h dX5_search_35 rfl 0 rfl ?_
        refine j_iload_n h dX5_search_36 rfl 2 rfl ?_
        refine j_puti (c := 73) (j := 8) (ty := .int) h (ph_xlt hS (by decide)) (ph_kc73 hS) rfl ph_inX5 tyX5 tyX5_ok nmX5 rfl (by decide) tw_259 rfl rfl (tyX5_ok 8 (by decide)) rfl rfl dX5_search_37 ?_
        refine j_letM (fun M7 => ?_)
        refine j_aload_n h dX5_search_40 rfl 0 rfl ?_
        refine j_iload_n h dX5_search_41 rfl 3 rfl ?_
        refine j_puti (c := 73) (j := 9) (ty := .int) h (ph_xlt hS (by decide)) (ph_kc73 hS) rfl ph_inX5 tyX5 tyX5_ok nmX5 rfl (by decide) tw_261 rfl rfl (tyX5_ok 9 (by decide)) rfl rfl dX5_search_42 ?_
        refine j_letM (fun M8 => ?_)
        exact j_vret h rfl fin dX5_search_45
    · exact j_vret h rfl fin dX5_search_24
def f5_search_n (S : ph_Sh) : Nat → ph_Mem → Int32 → Int32 → Int32 → Int32 → Option ph_Mem
  | 0, _, _, _, _, _ => none
  | n + 1, M, p0, p1, p2, p3 => f5_search_b S (f5_search_n S n) M p0 p1 p2 p3
theorem cf5_search_n {tb adK adV : Nat → Nat} {S : ph_Sh} {l : Launch} {D : va_G} {cA : Nat → ClassId} {ad : Nat → Nat} (hinj : ∀ i j, i < S.2 → j < S.2 → ad i = ad j → i = j) (hS : ph_SX S) : ∀ (n : Nat) {M : ph_Mem} {p0 : Int32} {p1 : Int32} {p2 : Int32} {p3 : Int32} {M' : ph_Mem} (_ : f5_search_n S n M p0 p1 p2 p3 = some M'), ph_C (ph_ZX tb adK adV) l (3 + 1 * n) yX5_search cX5_search 8 none D cA S.1 S.2 ad [.ref (ad 73), .int p0, .int p1, .int p2, .int p3] M none M'
  | 0, _, _, _, _, _, _, h => by cases h
  | n + 1, _, _, _, _, _, _, h => by
    rw [show 3 + 1 * (n + 1) = 3 + 1 * n + 1 by omega]
    exact cf5_search_b hinj hS (rs := f5_search_n S n) (dr := 3 + 1 * n) (Nat.le_add_right _ _) (fun _ _ _ _ _ q hq => cf5_search_n hinj hS n hq) h
def f5_search (S : ph_Sh) (M : ph_Mem) (p0 : Int32) (p1 : Int32) (p2 : Int32) (p3 : Int32) : Option ph_Mem := f5_search_n S 20 M p0 p1 p2 p3
theorem cf5_search {tb adK adV : Nat → Nat} {S : ph_Sh} {l : Launch} {D : va_G} {cA : Nat → ClassId} {ad : Nat → Nat} (hinj : ∀ i j, i < S.2 → j < S.2 → ad i = ad j → i = j) (hS : ph_SX S) {M : ph_Mem} {p0 : Int32} {p1 : Int32} {p2 : Int32} {p3 : Int32} {M' : ph_Mem} (hf : f5_search S M p0 p1 p2 p3 = some M') : ph_C (ph_ZX tb adK adV) l 23 yX5_search cX5_search 8 none D cA S.1 S.2 ad [.ref (ad 73), .int p0, .int p1, .int p2, .int p3] M none M' := cf5_search_n hinj hS 20 hf
theorem dX5_plan_0 : decode cX5_plan 0 = .ok (.aload_n 0, 1) := by decide +kernel
theorem dX5_plan_1 : decode cX5_plan 1 = .ok (.iload_n 1, 1) := by decide +kernel
theorem dX5_plan_2 : decode cX5_plan 2 = .ok (.putfield 22, 3) := by decide +kernel
theorem dX5_plan_5 : decode cX5_plan 5 = .ok (.aload_n 0, 1) := by decide +kernel
theorem dX5_plan_6 : decode cX5_plan 6 = .ok (.iload_n 2, 1) := by decide +kernel
theorem dX5_plan_7 : decode cX5_plan 7 = .ok (.putfield 26, 3) := by decide +kernel
theorem dX5_plan_10 : decode cX5_plan 10 = .ok (.aload_n 0, 1) := by decide +kernel
theorem dX5_plan_11 : decode cX5_plan 11 = .ok (.iload_n 3, 1) := by decide +kernel
theorem dX5_plan_12 : decode cX5_plan 12 = .ok (.aload_n 0, 1) := by decide +kernel
theorem dX5_plan_13 : decode cX5_plan 13 = .ok (.getfield 18, 3) := by decide +kernel
theorem dX5_plan_16 : decode cX5_plan 16 = .ok (.aload_n 0, 1) := by decide +kernel
theorem dX5_plan_17 : decode cX5_plan 17 = .ok (.getfield 22, 3) := by decide +kernel
theorem dX5_plan_20 : decode cX5_plan 20 = .ok (.iconst 0, 1) := by decide +kernel
theorem dX5_plan_21 : decode cX5_plan 21 = .ok (.invokevirtual 29, 3) := by decide +kernel
theorem dX5_plan_24 : decode cX5_plan 24 = .ok (.iand, 1) := by decide +kernel
theorem dX5_plan_25 : decode cX5_plan 25 = .ok (.putfield 35, 3) := by decide +kernel
theorem dX5_plan_28 : decode cX5_plan 28 = .ok (.aload_n 0, 1) := by decide +kernel
theorem dX5_plan_29 : decode cX5_plan 29 = .ok (.iconst 0, 1) := by decide +kernel
theorem dX5_plan_30 : decode cX5_plan 30 = .ok (.putfield 38, 3) := by decide +kernel
theorem dX5_plan_33 : decode cX5_plan 33 = .ok (.iconst 0, 1) := by decide +kernel
theorem dX5_plan_34 : decode cX5_plan 34 = .ok (.istore 4, 2) := by decide +kernel
theorem dX5_plan_36 : decode cX5_plan 36 = .ok (.iload 4, 2) := by decide +kernel
theorem dX5_plan_38 : decode cX5_plan 38 = .ok (.bipush 12, 2) := by decide +kernel
theorem dX5_plan_40 : decode cX5_plan 40 = .ok (.if_icmp .ge 143, 3) := by decide +kernel
theorem dX5_plan_43 : decode cX5_plan 43 = .ok (.aload_n 0, 1) := by decide +kernel
theorem dX5_plan_44 : decode cX5_plan 44 = .ok (.getfield 18, 3) := by decide +kernel
theorem dX5_plan_47 : decode cX5_plan 47 = .ok (.aload_n 0, 1) := by decide +kernel
theorem dX5_plan_48 : decode cX5_plan 48 = .ok (.getfield 22, 3) := by decide +kernel
theorem dX5_plan_51 : decode cX5_plan 51 = .ok (.iload 4, 2) := by decide +kernel
theorem dX5_plan_53 : decode cX5_plan 53 = .ok (.invokevirtual 41, 3) := by decide +kernel
theorem dX5_plan_56 : decode cX5_plan 56 = .ok (.ifCond .eq 33, 3) := by decide +kernel
theorem dX5_plan_59 : decode cX5_plan 59 = .ok (.aload_n 0, 1) := by decide +kernel
theorem dX5_plan_60 : decode cX5_plan 60 = .ok (.getfield 18, 3) := by decide +kernel
theorem dX5_plan_63 : decode cX5_plan 63 = .ok (.iconst 2, 1) := by decide +kernel
theorem dX5_plan_64 : decode cX5_plan 64 = .ok (.aload_n 0, 1) := by decide +kernel
theorem dX5_plan_65 : decode cX5_plan 65 = .ok (.getfield 22, 3) := by decide +kernel
theorem dX5_plan_68 : decode cX5_plan 68 = .ok (.iload 4, 2) := by decide +kernel
theorem dX5_plan_70 : decode cX5_plan 70 = .ok (.aload_n 0, 1) := by decide +kernel
theorem dX5_plan_71 : decode cX5_plan 71 = .ok (.getfield 18, 3) := by decide +kernel
theorem dX5_plan_74 : decode cX5_plan 74 = .ok (.getfield 45, 3) := by decide +kernel
theorem dX5_plan_77 : decode cX5_plan 77 = .ok (.iconst 0, 1) := by decide +kernel
theorem dX5_plan_78 : decode cX5_plan 78 = .ok (.iaload, 1) := by decide +kernel
theorem dX5_plan_79 : decode cX5_plan 79 = .ok (.invokevirtual 48, 3) := by decide +kernel
theorem dX5_plan_82 : decode cX5_plan 82 = .ok (.ifCond .ne 7, 3) := by decide +kernel
theorem dX5_plan_85 : decode cX5_plan 85 = .ok (.iconst 1, 1) := by decide +kernel
theorem dX5_plan_86 : decode cX5_plan 86 = .ok (.goto 4, 3) := by decide +kernel
theorem dX5_plan_89 : decode cX5_plan 89 = .ok (.iconst 0, 1) := by decide +kernel
theorem dX5_plan_90 : decode cX5_plan 90 = .ok (.istore 5, 2) := by decide +kernel
theorem dX5_plan_92 : decode cX5_plan 92 = .ok (.aload_n 0, 1) := by decide +kernel
theorem dX5_plan_93 : decode cX5_plan 93 = .ok (.getfield 9, 3) := by decide +kernel
theorem dX5_plan_96 : decode cX5_plan 96 = .ok (.iload 4, 2) := by decide +kernel
theorem dX5_plan_98 : decode cX5_plan 98 = .ok (.iload 5, 2) := by decide +kernel
theorem dX5_plan_100 : decode cX5_plan 100 = .ok (.ifCond .eq 29, 3) := by decide +kernel
theorem dX5_plan_103 : decode cX5_plan 103 = .ok (.aload_n 0, 1) := by decide +kernel
theorem dX5_plan_104 : decode cX5_plan 104 = .ok (.getfield 18, 3) := by decide +kernel
theorem dX5_plan_107 : decode cX5_plan 107 = .ok (.iconst 0, 1) := by decide +kernel
theorem dX5_plan_108 : decode cX5_plan 108 = .ok (.aload_n 0, 1) := by decide +kernel
theorem dX5_plan_109 : decode cX5_plan 109 = .ok (.getfield 22, 3) := by decide +kernel
theorem dX5_plan_112 : decode cX5_plan 112 = .ok (.iload 4, 2) := by decide +kernel
theorem dX5_plan_114 : decode cX5_plan 114 = .ok (.aload_n 0, 1) := by decide +kernel
theorem dX5_plan_115 : decode cX5_plan 115 = .ok (.getfield 18, 3) := by decide +kernel
theorem dX5_plan_118 : decode cX5_plan 118 = .ok (.getfield 45, 3) := by decide +kernel
theorem dX5_plan_121 : decode cX5_plan 121 = .ok (.iconst 0, 1) := by decide +kernel
theorem dX5_plan_122 : decode cX5_plan 122 = .ok (.iaload, 1) := by decide +kernel
theorem dX5_plan_123 : decode cX5_plan 123 = .ok (.invokevirtual 48, 3) := by decide +kernel
theorem dX5_plan_126 : decode cX5_plan 126 = .ok (.goto 4, 3) := by decide +kernel
theorem dX5_plan_129 : decode cX5_plan 129 = .ok (.iconst 0, 1) := by decide +kernel
theorem dX5_plan_130 : decode cX5_plan 130 = .ok (.iastore, 1) := by decide +kernel
theorem dX5_plan_131 : decode cX5_plan 131 = .ok (.aload_n 0, 1) := by decide +kernel
theorem dX5_plan_132 : decode cX5_plan 132 = .ok (.getfield 15, 3) := by decide +kernel
theorem dX5_plan_135 : decode cX5_plan 135 = .ok (.iload 4, 2) := by decide +kernel
theorem dX5_plan_137 : decode cX5_plan 137 = .ok (.iconst 1, 1) := by decide +kernel
theorem dX5_plan_138 : decode cX5_plan 138 = .ok (.iadd, 1) := by decide +kernel
theorem dX5_plan_139 : decode cX5_plan 139 = .ok (.aload_n 0, 1) := by decide +kernel
theorem dX5_plan_140 : decode cX5_plan 140 = .ok (.getfield 15, 3) := by decide +kernel
theorem dX5_plan_143 : decode cX5_plan 143 = .ok (.iload 4, 2) := by decide +kernel
theorem dX5_plan_145 : decode cX5_plan 145 = .ok (.iaload, 1) := by decide +kernel
theorem dX5_plan_146 : decode cX5_plan 146 = .ok (.aload_n 0, 1) := by decide +kernel
theorem dX5_plan_147 : decode cX5_plan 147 = .ok (.getfield 9, 3) := by decide +kernel
theorem dX5_plan_150 : decode cX5_plan 150 = .ok (.iload 4, 2) := by decide +kernel
theorem dX5_plan_152 : decode cX5_plan 152 = .ok (.iaload, 1) := by decide +kernel
theorem dX5_plan_153 : decode cX5_plan 153 = .ok (.iadd, 1) := by decide +kernel
theorem dX5_plan_154 : decode cX5_plan 154 = .ok (.iastore, 1) := by decide +kernel
theorem dX5_plan_155 : decode cX5_plan 155 = .ok (.aload_n 0, 1) := by decide +kernel
theorem dX5_plan_156 : decode cX5_plan 156 = .ok (.dup, 1) := by decide +kernel
theorem dX5_plan_157 : decode cX5_plan 157 = .ok (.getfield 38, 3) := by decide +kernel
theorem dX5_plan_160 : decode cX5_plan 160 = .ok (.iload 5, 2) := by decide +kernel
theorem dX5_plan_162 : decode cX5_plan 162 = .ok (.ifCond .eq 10, 3) := by decide +kernel
theorem dX5_plan_165 : decode cX5_plan 165 = .ok (.iconst 1, 1) := by decide +kernel
theorem dX5_plan_166 : decode cX5_plan 166 = .ok (.iload 4, 2) := by decide +kernel
theorem dX5_plan_168 : decode cX5_plan 168 = .ok (.ishl, 1) := by decide +kernel
theorem dX5_plan_169 : decode cX5_plan 169 = .ok (.goto 4, 3) := by decide +kernel
theorem dX5_plan_172 : decode cX5_plan 172 = .ok (.iconst 0, 1) := by decide +kernel
theorem dX5_plan_173 : decode cX5_plan 173 = .ok (.ior, 1) := by decide +kernel
theorem dX5_plan_174 : decode cX5_plan 174 = .ok (.putfield 38, 3) := by decide +kernel
theorem dX5_plan_177 : decode cX5_plan 177 = .ok (.iinc 4 1, 3) := by decide +kernel
theorem dX5_plan_180 : decode cX5_plan 180 = .ok (.goto (-144), 3) := by decide +kernel
theorem dX5_plan_183 : decode cX5_plan 183 = .ok (.aload_n 0, 1) := by decide +kernel
theorem dX5_plan_184 : decode cX5_plan 184 = .ok (.ldc 52, 2) := by decide +kernel
theorem dX5_plan_186 : decode cX5_plan 186 = .ok (.putfield 53, 3) := by decide +kernel
theorem dX5_plan_189 : decode cX5_plan 189 = .ok (.aload_n 0, 1) := by decide +kernel
theorem dX5_plan_190 : decode cX5_plan 190 = .ok (.bipush 12, 2) := by decide +kernel
theorem dX5_plan_192 : decode cX5_plan 192 = .ok (.iconst 0, 1) := by decide +kernel
theorem dX5_plan_193 : decode cX5_plan 193 = .ok (.iconst 0, 1) := by decide +kernel
theorem dX5_plan_194 : decode cX5_plan 194 = .ok (.iconst 0, 1) := by decide +kernel
theorem dX5_plan_195 : decode cX5_plan 195 = .ok (.invokevirtual 56, 3) := by decide +kernel
theorem dX5_plan_198 : decode cX5_plan 198 = .ok (.aload_n 0, 1) := by decide +kernel
theorem dX5_plan_199 : decode cX5_plan 199 = .ok (.getfield 53, 3) := by decide +kernel
theorem dX5_plan_202 : decode cX5_plan 202 = .ok (.ldc 52, 2) := by decide +kernel
theorem dX5_plan_204 : decode cX5_plan 204 = .ok (.if_icmp .eq 7, 3) := by decide +kernel
theorem dX5_plan_207 : decode cX5_plan 207 = .ok (.iconst 1, 1) := by decide +kernel
theorem dX5_plan_208 : decode cX5_plan 208 = .ok (.goto 4, 3) := by decide +kernel
theorem dX5_plan_211 : decode cX5_plan 211 = .ok (.iconst 0, 1) := by decide +kernel
theorem dX5_plan_212 : decode cX5_plan 212 = .ok (.ireturn, 1) := by decide +kernel
def f5_plan_j173 (S : ph_Sh) (rc36 : Int32 → ph_Mem → Option (Int32 × ph_Mem)) (x4 : Int32) (s0 : Int32) (s1 : Int32) (M : ph_Mem) : Option (Int32 × ph_Mem) :=
  ph_let (ph_wi M 73 6 (s1 ||| s0)) fun M11 => rc36 (x4 + (1 : Int32)) M11
set_option maxHeartbeats 4000000 in
theorem jb_f5_plan_j173 {tb adK adV : Nat → Nat} {S : ph_Sh} {X : ph_X} {ad : Nat → Nat} {o : (Int32 × ph_Mem)} (h : ph_ok (ph_ZX tb adK adV) X cX5_plan RX5 (some .boolean) 6 24 S.2 ad) (fin : ph_fin X S.1 S.2 ad (some (.int o.1)) o.2) (hS : ph_SX S) {rc36 : Int32 → ph_Mem → Option (Int32 × ph_Mem)} (hrc36 : ∀ (x4 : Int32) (M : ph_Mem), ph_J X S.1 S.2 ad o 36 [(0, .ref (ad 73)), (4, .int x4)] [] M (rc36 x4 M)) : ∀ (x4 : Int32) (s0 : Int32) (s1 : Int32) (M : ph_Mem), ph_J X S.1 S.2 ad o 173 [(0, .ref (ad 73)), (4, .int x4)] [.int s0, .int s1, .ref (ad 73)] M (f5_plan_j173 S rc36 x4 s0 s1 M) := by
  intro x4 s0 s1 M
  unfold f5_plan_j173
  refine j_ior h dX5_plan_173 ?_
  refine j_puti (c := 73) (j := 6) (ty := .int) h (ph_xlt hS (by decide)) (ph_kc73 hS) rfl ph_inX5 tyX5 tyX5_ok nmX5 rfl (by decide) tw_256 rfl rfl (tyX5_ok 6 (by decide)) rfl rfl dX5_plan_174 ?_
  refine j_letM (fun M11 => ?_)
  refine j_iinc h [(4, .int (x4 + (1 : Int32))), (0, .ref (ad 73))] dX5_plan_177 1 rfl rfl (by decide) rfl ?_
  refine j_goto h 36 dX5_plan_180 (by decide) ?_
  refine j_sub [1, 0] rfl ?_
  exact hrc36 (x4 + (1 : Int32)) M11
def f5_plan_j130 (S : ph_Sh) (rc36 : Int32 → ph_Mem → Option (Int32 × ph_Mem)) (x4 : Int32) (x5 : Int32) (s0 : Int32) (s1 : Int32) (M : ph_Mem) : Option (Int32 × ph_Mem) :=
  cond (ph_ib s1 12) (ph_let (ph_wi M 74 s1.toNatClampNeg s0) fun M9 => cond (ph_ib x4 13) (cond (ph_ib x4 12) (cond (ph_ib (x4 + (1 : Int32)) 13) (ph_let (ph_wi M9 75 (x4 + (1 : Int32)).toNatClampNeg ((M9.1 75 x4.toNatClampNeg) + (M9.1 74 x4.toNatClampNeg))) fun M10 => if x5 = 0 then (f5_plan_j173 S rc36 x4 (0 : Int32) (M10.1 73 6) M10) else (f5_plan_j173 S rc36 x4 ((1 : Int32) <<< (x4 &&& 31)) (M10.1 73 6) M10)) none) none) none) none
set_option maxHeartbeats 4000000 in
theorem jb_f5_plan_j130 {tb adK adV : Nat → Nat} {S : ph_Sh} {X : ph_X} {ad : Nat → Nat} {o : (Int32 × ph_Mem)} (h : ph_ok (ph_ZX tb adK adV) X cX5_plan RX5 (some .boolean) 6 24 S.2 ad) (fin : ph_fin X S.1 S.2 ad (some (.int o.1)) o.2) (hS : ph_SX S) {rc36 : Int32 → ph_Mem → Option (Int32 × ph_Mem)} (hrc36 : ∀ (x4 : Int32) (M : ph_Mem), ph_J X S.1 S.2 ad o 36 [(0, .ref (ad 73)), (4, .int x4)] [] M (rc36 x4 M)) : ∀ (x4 : Int32) (x5 : Int32) (s0 : Int32) (s1 : Int32) (M : ph_Mem), ph_J X S.1 S.2 ad o 130 [(0, .ref (ad 73)), (4, .int x4), (5, .int x5)] [.int s0, .int s1, .ref (ad 74)] M (f5_plan_j130 S rc36 x4 x5 s0 s1 M) := by
  intro x4 x5 s0 s1 M
  unfold f5_plan_j130
  refine j_iast (c := 74) (n := 12) h (ph_xlt hS (by decide)) (ph_kc74 hS) dX5_plan_130 ?_
  refine j_letM (fun M9 => ?_)
  refine j_aload_n h dX5_plan_131 rfl 0 rfl ?_
  refine j_get (c := 73) (j := 2) (v := .ref (ad 75)) h (ph_xlt hS (by decide)) (ph_kc73 hS) rfl ph_inX5 rfl (by decide) tw_252 rfl rfl dX5_plan_132 ?_
  refine j_iload h dX5_plan_135 1 rfl ?_
  refine j_iconst (v := (1 : Int32)) h dX5_plan_137 (by decide) ?_
  refine j_iadd h dX5_plan_138 ?_
  refine j_aload_n h dX5_plan_139 rfl 0 rfl ?_
  refine j_get (c := 73) (j := 2) (v := .ref (ad 75)) h (ph_xlt hS (by decide)) (ph_kc73 hS) rfl ph_inX5 rfl (by decide) tw_252 rfl rfl dX5_plan_140 ?_
  refine j_iload h dX5_plan_143 1 rfl ?_
  refine j_iald (c := 75) (n := 13) h (ph_xlt hS (by decide)) (ph_kc75 hS) dX5_plan_145 ?_
  refine j_aload_n h dX5_plan_146 rfl 0 rfl ?_
  refine j_get (c := 73) (j := 1) (v := .ref (ad 74)) h (ph_xlt hS (by decide)) (ph_kc73 hS) rfl ph_inX5 rfl (by decide) tw_251 rfl rfl dX5_plan_147 ?_
  refine j_iload h dX5_plan_150 1 rfl ?_
  refine j_iald (c := 74) (n := 12) h (ph_xlt hS (by decide)) (ph_kc74 hS) dX5_plan_152 ?_
  refine j_iadd h dX5_plan_153 ?_
  refine j_iast (c := 75) (n := 13) h (ph_xlt hS (by decide)) (ph_kc75 hS) dX5_plan_154 ?_
  refine j_letM (fun M10 => ?_)
  refine j_aload_n h dX5_plan_155 rfl 0 rfl ?_
  refine j_dup h dX5_plan_156 rfl ?_
  refine j_get (c := 73) (j := 6) (v := .int (M10.1 73 6)) h (ph_xlt hS (by decide)) (ph_kc73 hS) rfl ph_inX5 rfl (by decide) tw_256 rfl rfl dX5_plan_157 ?_
  refine j_iload h dX5_plan_160 2 rfl ?_
  refine j_if_eq h 172 dX5_plan_162 (by decide) ?_ ?_
  · refine j_iconst (v := (0 : Int32)) h dX5_plan_172 (by decide) ?_
    refine j_sub [0, 1] rfl ?_
    exact jb_f5_plan_j173 h fin hS hrc36 x4 (0 : Int32) (M10.1 73 6) M10
  · refine j_iconst (v := (1 : Int32)) h dX5_plan_165 (by decide) ?_
    refine j_iload h dX5_plan_166 1 rfl ?_
    refine j_ishl h dX5_plan_168 ?_
    refine j_goto h 173 dX5_plan_169 (by decide) ?_
    refine j_sub [0, 1] rfl ?_
    exact jb_f5_plan_j173 h fin hS hrc36 x4 ((1 : Int32) <<< (x4 &&& 31)) (M10.1 73 6) M10
def f5_plan_j90 (S : ph_Sh) (rc36 : Int32 → ph_Mem → Option (Int32 × ph_Mem)) (x4 : Int32) (s0 : Int32) (M : ph_Mem) : Option (Int32 × ph_Mem) :=
  if s0 = 0 then (f5_plan_j130 S rc36 x4 s0 (0 : Int32) x4 M) else ((f9_ruled S M 11 (0 : Int32) (M.1 73 3) x4 (M.1 21 0)).bind fun q8 => f5_plan_j130 S rc36 x4 s0 q8.1 x4 q8.2)
set_option maxHeartbeats 4000000 in
theorem jb_f5_plan_j90 {tb adK adV : Nat → Nat} {S : ph_Sh} {X : ph_X} {ad : Nat → Nat} {o : (Int32 × ph_Mem)} (h : ph_ok (ph_ZX tb adK adV) X cX5_plan RX5 (some .boolean) 6 24 S.2 ad) (fin : ph_fin X S.1 S.2 ad (some (.int o.1)) o.2) (hS : ph_SX S) {rc36 : Int32 → ph_Mem → Option (Int32 × ph_Mem)} (hrc36 : ∀ (x4 : Int32) (M : ph_Mem), ph_J X S.1 S.2 ad o 36 [(0, .ref (ad 73)), (4, .int x4)] [] M (rc36 x4 M)) : ∀ (x4 : Int32) (s0 : Int32) (M : ph_Mem), ph_J X S.1 S.2 ad o 90 [(0, .ref (ad 73)), (4, .int x4)] [.int s0] M (f5_plan_j90 S rc36 x4 s0 M) := by
  intro x4 s0 M
  unfold f5_plan_j90
  refine j_istore h [(5, .int s0), (0, .ref (ad 73)), (4, .int x4)] dX5_plan_90 (by decide) rfl ?_
  refine j_aload_n h dX5_plan_92 rfl 1 rfl ?_
  refine j_get (c := 73) (j := 1) (v := .ref (ad 74)) h (ph_xlt hS (by decide)) (ph_kc73 hS) rfl ph_inX5 rfl (by decide) tw_251 rfl rfl dX5_plan_93 ?_
  refine j_iload h dX5_plan_96 2 rfl ?_
  refine j_iload h dX5_plan_98 0 rfl ?_
  refine j_if_eq h 129 dX5_plan_100 (by decide) ?_ ?_
  · refine j_iconst (v := (0 : Int32)) h dX5_plan_129 (by decide) ?_
    refine j_sub [1, 2, 0] rfl ?_
    exact jb_f5_plan_j130 h fin hS hrc36 x4 s0 (0 : Int32) x4 M
  · refine j_aload_n h dX5_plan_103 rfl 1 rfl ?_
    refine j_get (c := 73) (j := 0) (v := .ref (ad 11)) h (ph_xlt hS (by decide)) (ph_kc73 hS) rfl ph_inX5 rfl (by decide) tw_250 rfl rfl dX5_plan_104 ?_
    refine j_iconst (v := (0 : Int32)) h dX5_plan_107 (by decide) ?_
    refine j_aload_n h dX5_plan_108 rfl 1 rfl ?_
    refine j_get (c := 73) (j := 3) (v := .int (M.1 73 3)) h (ph_xlt hS (by decide)) (ph_kc73 hS) rfl ph_inX5 rfl (by decide) tw_253 rfl rfl dX5_plan_109 ?_
    refine j_iload h dX5_plan_112 2 rfl ?_
    refine j_aload_n h dX5_plan_114 rfl 1 rfl ?_
    refine j_get (c := 73) (j := 0) (v := .ref (ad 11)) h (ph_xlt hS (by decide)) (ph_kc73 hS) rfl ph_inX5 rfl (by decide) tw_250 rfl rfl dX5_plan_115 ?_
    refine j_get (c := 11) (j := 11) (v := .ref (ad 21)) h (ph_xlt hS (by decide)) (ph_kc11 hS) rfl ph_inX9 rfl (by decide) tw_99 rfl rfl dX5_plan_118 ?_
    refine j_iconst (v := (0 : Int32)) h dX5_plan_121 (by decide) ?_
    refine j_ialdK (c := 21) (n := 5) (kn := 0) h (ph_xlt hS (by decide)) (ph_kc21 hS) rfl (by decide) dX5_plan_122 ?_
    refine j_callVi (n := 4) (As := [.int (0 : Int32), .int (M.1 73 3), .int x4, .int (M.1 21 0)]) (rest := [.int x4, .ref (ad 74)]) h 11 tw_1047 tw_472 tw_473 tw_3 tw_474 ydf9_ruled (by decide) (by decide) (ph_xlt hS (by decide)) (ph_kc11 hS) rfl (fun q hq => cf9_ruled (ph_okI h) hS (by decide) hq) rfl (Nat.le_of_ble_eq_true rfl) rfl dX5_plan_123 (fun q8 => ?_)
    refine j_goto h 130 dX5_plan_126 (by decide) ?_
    refine j_sub [1, 2, 0] rfl ?_
    exact jb_f5_plan_j130 h fin hS hrc36 x4 s0 q8.1 x4 q8.2
def f5_plan_j89 (S : ph_Sh) (rc36 : Int32 → ph_Mem → Option (Int32 × ph_Mem)) (x4 : Int32) (M : ph_Mem) : Option (Int32 × ph_Mem) :=
  f5_plan_j90 S rc36 x4 (0 : Int32) M
set_option maxHeartbeats 4000000 in
theorem jb_f5_plan_j89 {tb adK adV : Nat → Nat} {S : ph_Sh} {X : ph_X} {ad : Nat → Nat} {o : (Int32 × ph_Mem)} (h : ph_ok (ph_ZX tb adK adV) X cX5_plan RX5 (some .boolean) 6 24 S.2 ad) (fin : ph_fin X S.1 S.2 ad (some (.int o.1)) o.2) (hS : ph_SX S) {rc36 : Int32 → ph_Mem → Option (Int32 × ph_Mem)} (hrc36 : ∀ (x4 : Int32) (M : ph_Mem), ph_J X S.1 S.2 ad o 36 [(0, .ref (ad 73)), (4, .int x4)] [] M (rc36 x4 M)) : ∀ (x4 : Int32) (M : ph_Mem), ph_J X S.1 S.2 ad o 89 [(0, .ref (ad 73)), (4, .int x4)] [] M (f5_plan_j89 S rc36 x4 M) := by
  intro x4 M
  unfold f5_plan_j89
  refine j_iconst (v := (0 : Int32)) h dX5_plan_89 (by decide) ?_
  refine j_sub [0, 1] rfl ?_
  exact jb_f5_plan_j90 h fin hS hrc36 x4 (0 : Int32) M
def f5_plan_j183 (S : ph_Sh) (M : ph_Mem) : Option (Int32 × ph_Mem) :=
  ph_let (ph_wi M 73 7 (1000000 : Int32)) fun M12 => (f5_search S M12 (12 : Int32) (0 : Int32) (0 : Int32) (0 : Int32)).bind fun q13 => if (q13.1 73 7) = (1000000 : Int32) then (some ((0 : Int32), q13)) else (some ((1 : Int32), q13))
set_option maxHeartbeats 4000000 in
theorem jb_f5_plan_j183 {tb adK adV : Nat → Nat} {S : ph_Sh} {X : ph_X} {ad : Nat → Nat} {o : (Int32 × ph_Mem)} (h : ph_ok (ph_ZX tb adK adV) X cX5_plan RX5 (some .boolean) 6 24 S.2 ad) (fin : ph_fin X S.1 S.2 ad (some (.int o.1)) o.2) (hS : ph_SX S) : ∀ (M : ph_Mem), ph_J X S.1 S.2 ad o 183 [(0, .ref (ad 73))] [] M (f5_plan_j183 S M) := by
  intro M
  unfold f5_plan_j183
  refine j_aload_n h dX5_plan_183 rfl 0 rfl ?_
  refine j_ldc (v := (1000000 : Int32)) h dX5_plan_184 tw_1048 ?_
  refine j_puti (c := 73) (j := 7) (ty := .int) h (ph_xlt hS (by decide)) (ph_kc73 hS) rfl ph_inX5 tyX5 tyX5_ok nmX5 rfl (by decide) tw_257 rfl rfl (tyX5_ok 7 (by decide)) rfl rfl dX5_plan_186 ?_
  refine j_letM (fun M12 => ?_)
  refine j_aload_n h dX5_plan_189 rfl 0 rfl ?_
  refine j_bipush (v := (12 : Int32)) h dX5_plan_190 (by decide) ?_
  refine j_iconst (v := (0 : Int32)) h dX5_plan_192 (by decide) ?_
  refine j_iconst (v := (0 : Int32)) h dX5_plan_193 (by decide) ?_
  refine j_iconst (v := (0 : Int32)) h dX5_plan_194 (by decide) ?_
  refine j_callVv (n := 4) (As := [.int (12 : Int32), .int (0 : Int32), .int (0 : Int32), .int (0 : Int32)]) (rest := []) h 73 tw_1049 tw_1051 tp_38 tw_10 tw_1052 ydf5_search (by decide) (by decide) (ph_xlt hS (by decide)) (ph_kc73 hS) rfl (fun q hq => cf5_search (ph_okI h) hS hq) rfl (Nat.le_of_ble_eq_true rfl) rfl dX5_plan_195 (fun q13 => ?_)
  refine j_aload_n h dX5_plan_198 rfl 0 rfl ?_
  refine j_get (c := 73) (j := 7) (v := .int (q13.1 73 7)) h (ph_xlt hS (by decide)) (ph_kc73 hS) rfl ph_inX5 rfl (by decide) tw_257 rfl rfl dX5_plan_199 ?_
  refine j_ldc (v := (1000000 : Int32)) h dX5_plan_202 tw_1048 ?_
  refine j_icmp_eq h 211 dX5_plan_204 (by decide) ?_ ?_
  · refine j_iconst (v := (0 : Int32)) h dX5_plan_211 (by decide) ?_
    exact j_zretC h rfl (by decide) fin dX5_plan_212
  · refine j_iconst (v := (1 : Int32)) h dX5_plan_207 (by decide) ?_
    refine j_goto h 212 dX5_plan_208 (by decide) ?_
    exact j_zretC h rfl (by decide) fin dX5_plan_212
def f5_plan_l36 (S : ph_Sh) : Nat → Int32 → ph_Mem → Option (Int32 × ph_Mem)
  | 0, _, _ => none
  | n + 1, x4, M => if (12 : Int32) ≤ x4 then (f5_plan_j183 S  M) else ((f9_holds S M 11 (M.1 73 3) x4).bind fun q6 => if q6 = 0 then (f5_plan_j89 S (f5_plan_l36 S n) x4 M) else ((f9_ruled S M 11 (2 : Int32) (M.1 73 3) x4 (M.1 21 0)).bind fun q7 => if q7.1 = 0 then (f5_plan_j90 S (f5_plan_l36 S n) x4 (1 : Int32) q7.2) else (f5_plan_j89 S (f5_plan_l36 S n) x4 q7.2)))
set_option maxHeartbeats 4000000 in
theorem jb_f5_plan_l36 {tb adK adV : Nat → Nat} {S : ph_Sh} {X : ph_X} {ad : Nat → Nat} {o : (Int32 × ph_Mem)} (h : ph_ok (ph_ZX tb adK adV) X cX5_plan RX5 (some .boolean) 6 24 S.2 ad) (fin : ph_fin X S.1 S.2 ad (some (.int o.1)) o.2) (hS : ph_SX S) : ∀ (n : Nat) (x4 : Int32) (M : ph_Mem), ph_J X S.1 S.2 ad o 36 [(0, .ref (ad 73)), (4, .int x4)] [] M (f5_plan_l36 S n x4 M) := by
  intro n
  induction n with
  | zero => intro x4 M; exact j_none
  | succ n hrc36 =>
    intro x4 M
    unfold f5_plan_l36
    refine j_iload h dX5_plan_36 1 rfl ?_
    refine j_bipush (v := (12 : Int32)) h dX5_plan_38 (by decide) ?_
    refine j_icmp_ge h 183 dX5_plan_40 (by decide) ?_ ?_
    · refine j_sub [0] rfl ?_
      exact jb_f5_plan_j183 h fin hS  M
    · refine j_aload_n h dX5_plan_43 rfl 0 rfl ?_
      refine j_get (c := 73) (j := 0) (v := .ref (ad 11)) h (ph_xlt hS (by decide)) (ph_kc73 hS) rfl ph_inX5 rfl (by decide) tw_250 rfl rfl dX5_plan_44 ?_
      refine j_aload_n h dX5_plan_47 rfl 0 rfl ?_
      refine j_get (c := 73) (j := 3) (v := .int (M.1 73 3)) h (ph_xlt hS (by decide)) (ph_kc73 hS) rfl ph_inX5 rfl (by decide) tw_253 rfl rfl dX5_plan_48 ?_
      refine j_iload h dX5_plan_51 1 rfl ?_
      refine j_callViP (n := 2) (As := [.int (M.1 73 3), .int x4]) (rest := []) h 11 tw_1046 tw_552 tw_553 tw_3 tw_554 ydf9_holds (by decide) (by decide) (ph_xlt hS (by decide)) (ph_kc11 hS) rfl (fun q hq => cf9_holds (ph_okI h) hS (by decide) hq) rfl (Nat.le_of_ble_eq_true rfl) rfl dX5_plan_53 (fun q6 => ?_)
      refine j_if_eq h 89 dX5_plan_56 (by decide) ?_ ?_
      · refine j_sub [0, 1] rfl ?_
        exact jb_f5_plan_j89 h fin hS hrc36 x4 M
      · refine j_aload_n h dX5_plan_59 rfl 0 rfl ?_
        refine j_get (c := 73) (j := 0) (v := .ref (ad 11)) h (ph_xlt hS (by decide)) (ph_kc73 hS) rfl ph_inX5 rfl (by decide) tw_250 rfl rfl dX5_plan_60 ?_
        refine j_iconst (v := (2 : Int32)) h dX5_plan_63 (by decide) ?_
        refine j_aload_n h dX5_plan_64 rfl 0 rfl ?_
        refine j_get (c := 73) (j := 3) (v := .int (M.1 73 3)) h (ph_xlt hS (by decide)) (ph_kc73 hS) rfl ph_inX5 rfl (by decide) tw_253 rfl rfl dX5_plan_65 ?_
        refine j_iload h dX5_plan_68 1 rfl ?_
        refine j_aload_n h dX5_plan_70 rfl 0 rfl ?_
        refine j_get (c := 73) (j := 0) (v := .ref (ad 11)) h (ph_xlt hS (by decide)) (ph_kc73 hS) rfl ph_inX5 rfl (by decide) tw_250 rfl rfl dX5_plan_71 ?_
        refine j_get (c := 11) (j := 11) (v := .ref (ad 21)) h (ph_xlt hS (by decide)) (ph_kc11 hS) rfl ph_inX9 rfl (by decide) tw_99 rfl rfl dX5_plan_74 ?_
        refine j_iconst (v := (0 : Int32)) h dX5_plan_77 (by decide) ?_
        refine j_ialdK (c := 21) (n := 5) (kn := 0) h (ph_xlt hS (by decide)) (ph_kc21 hS) rfl (by decide) dX5_plan_78 ?_
        refine j_callVi (n := 4) (As := [.int (2 : Int32), .int (M.1 73 3), .int x4, .int (M.1 21 0)]) (rest := []) h 11 tw_1047 tw_472 tw_473 tw_3 tw_474 ydf9_ruled (by decide) (by decide) (ph_xlt hS (by decide)) (ph_kc11 hS) rfl (fun q hq => cf9_ruled (ph_okI h) hS (by decide) hq) rfl (Nat.le_of_ble_eq_true rfl) rfl dX5_plan_79 (fun q7 => ?_)
        refine j_if_ne h 89 dX5_plan_82 (by decide) ?_ ?_
        · refine j_sub [0, 1] rfl ?_
          exact jb_f5_plan_j89 h fin hS hrc36 x4 q7.2
        · refine j_iconst (v := (1 : Int32)) h dX5_plan_85 (by decide) ?_
          refine j_goto h 90 dX5_plan_86 (by decide) ?_
          refine j_sub [0, 1] rfl ?_
          exact jb_f5_plan_j90 h fin hS hrc36 x4 (1 : Int32) q7.2
theorem ydf5_plan : ph_yd yX5_plan 3 := ⟨by decide, by decide, by decide +kernel⟩
def f5_plan (S : ph_Sh) (M : ph_Mem) (p0 : Int32) (p1 : Int32) (p2 : Int32) : Option (Int32 × ph_Mem) :=
  ph_let (ph_wi M 73 3 p0) fun M1 => ph_let (ph_wi M1 73 4 p1) fun M2 => (f9_knownWithout S M2 11 (M2.1 73 3) (0 : Int32)).bind fun q3 => ph_let (ph_wi M2 73 5 (p2 &&& q3)) fun M4 => ph_let (ph_wi M4 73 6 (0 : Int32)) fun M5 => f5_plan_l36 S 10000 (0 : Int32) M5
set_option maxHeartbeats 4000000 in
theorem cf5_plan {tb adK adV : Nat → Nat} {S : ph_Sh} {l : Launch} {D : va_G} {cA : Nat → ClassId} {ad : Nat → Nat} (hinj : ∀ i j, i < S.2 → j < S.2 → ad i = ad j → i = j) (hS : ph_SX S) {M : ph_Mem} {p0 : Int32} {p1 : Int32} {p2 : Int32} {r : Int32} {M' : ph_Mem} (hf : f5_plan S M p0 p1 p2 = some (r, M')) : ph_C (ph_ZX tb adK adV) l 24 yX5_plan cX5_plan 6 (some .boolean) D cA S.1 S.2 ad [.ref (ad 73), .int p0, .int p1, .int p2] M (some (.int r)) M' := by
  refine ph_mk ph_ZX_ok hinj (by decide) (Nat.le_of_ble_eq_true rfl) fun X h fin hE => ?_
  refine (?_ : ph_J X S.1 S.2 ad ((r, M') : (Int32 × ph_Mem)) 0 [(0, .ref (ad 73)), (1, .int p0), (2, .int p1), (3, .int p2)] [] M (f5_plan S M p0 p1 p2)) hf
  unfold f5_plan
  refine j_aload_n h dX5_plan_0 rfl 0 rfl ?_
  refine j_iload_n h dX5_plan_1 rfl 1 rfl ?_
  refine j_puti (c := 73) (j := 3) (ty := .int) h (ph_xlt hS (by decide)) (ph_kc73 hS) rfl ph_inX5 tyX5 tyX5_ok nmX5 rfl (by decide) tw_253 rfl rfl (tyX5_ok 3 (by decide)) rfl rfl dX5_plan_2 ?_
  refine j_letM (fun M1 => ?_)
  refine j_aload_n h dX5_plan_5 rfl 0 rfl ?_
  refine j_iload_n h dX5_plan_6 rfl 2 rfl ?_
  refine j_puti (c := 73) (j := 4) (ty := .int) h (ph_xlt hS (by decide)) (ph_kc73 hS) rfl ph_inX5 tyX5 tyX5_ok nmX5 rfl (by decide) tw_254 rfl rfl (tyX5_ok 4 (by decide)) rfl rfl dX5_plan_7 ?_
  refine j_letM (fun M2 => ?_)
  refine j_aload_n h dX5_plan_10 rfl 0 rfl ?_
  refine j_iload_n h dX5_plan_11 rfl 3 rfl ?_
  refine j_aload_n h dX5_plan_12 rfl 0 rfl ?_
  refine j_get (c := 73) (j := 0) (v := .ref (ad 11)) h (ph_xlt hS (by decide)) (ph_kc73 hS) rfl ph_inX5 rfl (by decide) tw_250 rfl rfl dX5_plan_13 ?_
  refine j_aload_n h dX5_plan_16 rfl 0 rfl ?_
  refine j_get (c := 73) (j := 3) (v := .int (M2.1 73 3)) h (ph_xlt hS (by decide)) (ph_kc73 hS) rfl ph_inX5 rfl (by decide) tw_253 rfl rfl dX5_plan_17 ?_
  refine j_iconst (v := (0 : Int32)) h dX5_plan_20 (by decide) ?_
  refine j_callViP (n := 2) (As := [.int (M2.1 73 3), .int (0 : Int32)]) (rest := [.int p2, .ref (ad 73)]) h 11 tw_1045 tw_548 tw_549 tw_3 tw_550 ydf9_knownWithout (by decide) (by decide) (ph_xlt hS (by decide)) (ph_kc11 hS) rfl (fun q hq => cf9_knownWithout (ph_okI h) hS (by decide) hq) rfl (Nat.le_of_ble_eq_true rfl) rfl dX5_plan_21 (fun q3 => ?_)
  refine j_iand h dX5_plan_24 ?_
  refine j_puti (c := 73) (j := 5) (ty := .int) h (ph_xlt hS (by decide)) (ph_kc73 hS) rfl ph_inX5 tyX5 tyX5_ok nmX5 rfl (by decide) tw_255 rfl rfl (tyX5_ok 5 (by decide)) rfl rfl dX5_plan_25 ?_
  refine j_letM (fun M4 => ?_)
  refine j_aload_n h dX5_plan_28 rfl 0 rfl ?_
  refine j_iconst (v := (0 : Int32)) h dX5_plan_29 (by decide) ?_
  refine j_puti (c := 73) (j := 6) (ty := .int) h (ph_xlt hS (by decide)) (ph_kc73 hS) rfl ph_inX5 tyX5 tyX5_ok nmX5 rfl (by decide) tw_256 rfl rfl (tyX5_ok 6 (by decide)) rfl rfl dX5_plan_30 ?_
  refine j_letM (fun M5 => ?_)
  refine j_iconst (v := (0 : Int32)) h dX5_plan_33 (by decide) ?_
  refine j_istore h [(4, .int (0 : Int32)), (0, .ref (ad 73)), (1, .int p0), (2, .int p1), (3, .int p2)] dX5_plan_34 (by decide) rfl ?_
  refine j_sub [1, 0] rfl ?_
  exact jb_f5_plan_l36 h fin hS 10000 (0 : Int32) M5
