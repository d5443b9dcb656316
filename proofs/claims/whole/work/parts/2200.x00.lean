theorem dX11_placeOf_0 : decode cX11_placeOf 0 = .ok (.iload_n 0, 1) := by decide +kernel
theorem dX11_placeOf_1 : decode cX11_placeOf 1 = .ok (.bipush 12, 2) := by decide +kernel
theorem dX11_placeOf_3 : decode cX11_placeOf 3 = .ok (.imul, 1) := by decide +kernel
theorem dX11_placeOf_4 : decode cX11_placeOf 4 = .ok (.iload_n 1, 1) := by decide +kernel
theorem dX11_placeOf_5 : decode cX11_placeOf 5 = .ok (.iadd, 1) := by decide +kernel
theorem dX11_placeOf_6 : decode cX11_placeOf 6 = .ok (.ireturn, 1) := by decide +kernel
theorem ydf11_placeOf : ph_yd yX11_placeOf 2 := ⟨by decide, by decide, by decide +kernel⟩
def f11_placeOf (S : ph_Sh) (M : ph_Mem) (p0 : Int32) (p1 : Int32) : Option Int32 :=
  some ((p0 * (12 : Int32)) + p1)
set_option maxHeartbeats 4000000 in
theorem cf11_placeOf {tb adK adV : Nat → Nat} {S : ph_Sh} {l : Launch} {D : va_G} {cA : Nat → ClassId} {ad : Nat → Nat} (hinj : ∀ i j, i < S.2 → j < S.2 → ad i = ad j → i = j) (hS : ph_SX S) {M : ph_Mem} {p0 : Int32} {p1 : Int32} {r : Int32} (hf : f11_placeOf S M p0 p1 = some r) : ph_C (ph_ZX tb adK adV) l 0 yX11_placeOf cX11_placeOf 2 (some .int) D cA S.1 S.2 ad [.int p0, .int p1] M (some (.int r)) M := by
  refine ph_mk ph_ZX_ok hinj (by decide) (Nat.le_of_ble_eq_true rfl) fun X h fin hE => ?_
  refine (?_ : ph_J X S.1 S.2 ad (r : Int32) 0 [(0, .int p0), (1, .int p1)] [] M (f11_placeOf S M p0 p1)) hf
  unfold f11_placeOf
  refine j_iload_n h dX11_placeOf_0 rfl 0 rfl ?_
  refine j_bipush (v := (12 : Int32)) h dX11_placeOf_1 (by decide) ?_
  refine j_imul h dX11_placeOf_3 ?_
  refine j_iload_n h dX11_placeOf_4 rfl 1 rfl ?_
  refine j_iadd h dX11_placeOf_5 ?_
  exact j_iretP h rfl fin dX11_placeOf_6
theorem dX9_holds_0 : decode cX9_holds 0 = .ok (.aload_n 0, 1) := by decide +kernel
theorem dX9_holds_1 : decode cX9_holds 1 = .ok (.getfield 24, 3) := by decide +kernel
theorem dX9_holds_4 : decode cX9_holds 4 = .ok (.iload_n 1, 1) := by decide +kernel
theorem dX9_holds_5 : decode cX9_holds 5 = .ok (.iload_n 2, 1) := by decide +kernel
theorem dX9_holds_6 : decode cX9_holds 6 = .ok (.invokestatic 88, 3) := by decide +kernel
theorem dX9_holds_9 : decode cX9_holds 9 = .ok (.iaload, 1) := by decide +kernel
theorem dX9_holds_10 : decode cX9_holds 10 = .ok (.ifCond .ne 7, 3) := by decide +kernel
theorem dX9_holds_13 : decode cX9_holds 13 = .ok (.iconst 1, 1) := by decide +kernel
theorem dX9_holds_14 : decode cX9_holds 14 = .ok (.goto 4, 3) := by decide +kernel
theorem dX9_holds_17 : decode cX9_holds 17 = .ok (.iconst 0, 1) := by decide +kernel
theorem dX9_holds_18 : decode cX9_holds 18 = .ok (.ireturn, 1) := by decide +kernel
theorem ydf9_holds : ph_yd yX9_holds 2 := ⟨by decide, by decide, by decide +kernel⟩
def f9_holds (S : ph_Sh) (M : ph_Mem) (c : Nat) (p0 : Int32) (p1 : Int32) : Option Int32 :=
  (f11_placeOf S M p0 p1).bind fun q1 => cond (ph_ib q1 72) (if (M.1 (c + 5) q1.toNatClampNeg) = 0 then (some (1 : Int32)) else (some (0 : Int32))) none
set_option maxHeartbeats 4000000 in
theorem cf9_holds {tb adK adV : Nat → Nat} {S : ph_Sh} {c : Nat} {l : Launch} {D : va_G} {cA : Nat → ClassId} {ad : Nat → Nat} (hinj : ∀ i j, i < S.2 → j < S.2 → ad i = ad j → i = j) (hS : ph_SX S) (hc : ph_isS c) {M : ph_Mem} {p0 : Int32} {p1 : Int32} {r : Int32} (hf : f9_holds S M c p0 p1 = some r) : ph_C (ph_ZX tb adK adV) l 1 yX9_holds cX9_holds 3 (some .boolean) D cA S.1 S.2 ad [.ref (ad c), .int p0, .int p1] M (some (.int r)) M := by
  refine ph_mk ph_ZX_ok hinj (by decide) (Nat.le_of_ble_eq_true rfl) fun X h fin hE => ?_
  refine (?_ : ph_J X S.1 S.2 ad (r : Int32) 0 [(0, .ref (ad c)), (1, .int p0), (2, .int p1)] [] M (f9_holds S M c p0 p1)) hf
  unfold f9_holds
  refine j_aload_n h dX9_holds_0 rfl 0 rfl ?_
  refine j_get (c := c) (j := 6) (v := .ref (ad (c + 5))) h (ph_S0n hS hc) (ph_S0 hS hc) rfl ph_inX9 rfl (by decide) tw_84 rfl rfl dX9_holds_1 ?_
  refine j_iload_n h dX9_holds_4 rfl 1 rfl ?_
  refine j_iload_n h dX9_holds_5 rfl 2 rfl ?_
  refine j_callNiP (n := 2) (As := [.int p0, .int p1]) (rest := [.ref (ad (c + 5))]) h (by decide +kernel) tw_461 tw_1 tw_462 ydf11_placeOf (by decide) (by decide) (fun q hq => cf11_placeOf (ph_okI h) hS hq) rfl (Nat.le_of_ble_eq_true rfl) rfl dX9_holds_6 (fun q1 => ?_)
  refine j_iald (c := (c + 5)) (n := 72) h (ph_S5n hS hc) (ph_S5 hS hc) dX9_holds_9 ?_
  refine j_if_ne h 17 dX9_holds_10 (by decide) ?_ ?_
  · refine j_iconst (v := (0 : Int32)) h dX9_holds_17 (by decide) ?_
    exact j_zretPC h rfl (by decide) fin dX9_holds_18
  · refine j_iconst (v := (1 : Int32)) h dX9_holds_13 (by decide) ?_
    refine j_goto h 18 dX9_holds_14 (by decide) ?_
    exact j_zretPC h rfl (by decide) fin dX9_holds_18
theorem dX9_hasBit_0 : decode cX9_hasBit 0 = .ok (.iload_n 1, 1) := by decide +kernel
theorem dX9_hasBit_1 : decode cX9_hasBit 1 = .ok (.ifCond .lt 22, 3) := by decide +kernel
theorem dX9_hasBit_4 : decode cX9_hasBit 4 = .ok (.iload_n 1, 1) := by decide +kernel
theorem dX9_hasBit_5 : decode cX9_hasBit 5 = .ok (.bipush 31, 2) := by decide +kernel
theorem dX9_hasBit_7 : decode cX9_hasBit 7 = .ok (.if_icmp .ge 16, 3) := by decide +kernel
theorem dX9_hasBit_10 : decode cX9_hasBit 10 = .ok (.iload_n 0, 1) := by decide +kernel
theorem dX9_hasBit_11 : decode cX9_hasBit 11 = .ok (.iload_n 1, 1) := by decide +kernel
theorem dX9_hasBit_12 : decode cX9_hasBit 12 = .ok (.ishr, 1) := by decide +kernel
theorem dX9_hasBit_13 : decode cX9_hasBit 13 = .ok (.iconst 1, 1) := by decide +kernel
theorem dX9_hasBit_14 : decode cX9_hasBit 14 = .ok (.iand, 1) := by decide +kernel
theorem dX9_hasBit_15 : decode cX9_hasBit 15 = .ok (.iconst 1, 1) := by decide +kernel
theorem dX9_hasBit_16 : decode cX9_hasBit 16 = .ok (.if_icmp .ne 7, 3) := by decide +kernel
theorem dX9_hasBit_19 : decode cX9_hasBit 19 = .ok (.iconst 1, 1) := by decide +kernel
theorem dX9_hasBit_20 : decode cX9_hasBit 20 = .ok (.goto 4, 3) := by decide +kernel
theorem dX9_hasBit_23 : decode cX9_hasBit 23 = .ok (.iconst 0, 1) := by decide +kernel
theorem dX9_hasBit_24 : decode cX9_hasBit 24 = .ok (.ireturn, 1) := by decide +kernel
theorem ydf9_hasBit : ph_yd yX9_hasBit 2 := ⟨by decide, by decide, by decide +kernel⟩
def f9_hasBit (S : ph_Sh) (M : ph_Mem) (p0 : Int32) (p1 : Int32) : Option Int32 :=
  if p1 < 0 then (some (0 : Int32)) else (if (31 : Int32) ≤ p1 then (some (0 : Int32)) else (if ((p0 >>> (p1 &&& 31)) &&& (1 : Int32)) = (1 : Int32) then (some (1 : Int32)) else (some (0 : Int32))))
set_option maxHeartbeats 4000000 in
theorem cf9_hasBit {tb adK adV : Nat → Nat} {S : ph_Sh} {l : Launch} {D : va_G} {cA : Nat → ClassId} {ad : Nat → Nat} (hinj : ∀ i j, i < S.2 → j < S.2 → ad i = ad j → i = j) (hS : ph_SX S) {M : ph_Mem} {p0 : Int32} {p1 : Int32} {r : Int32} (hf : f9_hasBit S M p0 p1 = some r) : ph_C (ph_ZX tb adK adV) l 0 yX9_hasBit cX9_hasBit 2 (some .boolean) D cA S.1 S.2 ad [.int p0, .int p1] M (some (.int r)) M := by
  refine ph_mk ph_ZX_ok hinj (by decide) (Nat.le_of_ble_eq_true rfl) fun X h fin hE => ?_
  refine (?_ : ph_J X S.1 S.2 ad (r : Int32) 0 [(0, .int p0), (1, .int p1)] [] M (f9_hasBit S M p0 p1)) hf
  unfold f9_hasBit
  refine j_iload_n h dX9_hasBit_0 rfl 1 rfl ?_
  refine j_if_lt h 23 dX9_hasBit_1 (by decide) ?_ ?_
  · refine j_iconst (v := (0 : Int32)) h dX9_hasBit_23 (by decide) ?_
    exact j_zretPC h rfl (by decide) fin dX9_hasBit_24
  · refine j_iload_n h dX9_hasBit_4 rfl 1 rfl ?_
    refine j_bipush (v := (31 : Int32)) h dX9_hasBit_5 (by decide) ?_
    refine j_icmp_ge h 23 dX9_hasBit_7 (by decide) ?_ ?_
    · refine j_iconst (v := (0 : Int32)) h dX9_hasBit_23 (by decide) ?_
      exact j_zretPC h rfl (by decide) fin dX9_hasBit_24
    · refine j_iload_n h dX9_hasBit_10 rfl 0 rfl ?_
      refine j_iload_n h dX9_hasBit_11 rfl 1 rfl ?_
      refine j_ishr h dX9_hasBit_12 ?_
      refine j_iconst (v := (1 : Int32)) h dX9_hasBit_13 (by decide) ?_
      refine j_iand h dX9_hasBit_14 ?_
      refine j_iconst (v := (1 : Int32)) h dX9_hasBit_15 (by decide) ?_
      refine j_icmp_ne h 23 dX9_hasBit_16 (by decide) ?_ ?_
      · refine j_iconst (v := (0 : Int32)) h dX9_hasBit_23 (by decide) ?_
        exact j_zretPC h rfl (by decide) fin dX9_hasBit_24
      · refine j_iconst (v := (1 : Int32)) h dX9_hasBit_19 (by decide) ?_
        refine j_goto h 24 dX9_hasBit_20 (by decide) ?_
        exact j_zretPC h rfl (by decide) fin dX9_hasBit_24
theorem dX9_wasWith_0 : decode cX9_wasWith 0 = .ok (.aload_n 0, 1) := by decide +kernel
theorem dX9_wasWith_1 : decode cX9_wasWith 1 = .ok (.getfield 18, 3) := by decide +kernel
theorem dX9_wasWith_4 : decode cX9_wasWith 4 = .ok (.iload_n 1, 1) := by decide +kernel
theorem dX9_wasWith_5 : decode cX9_wasWith 5 = .ok (.iload_n 2, 1) := by decide +kernel
theorem dX9_wasWith_6 : decode cX9_wasWith 6 = .ok (.invokestatic 88, 3) := by decide +kernel
theorem dX9_wasWith_9 : decode cX9_wasWith 9 = .ok (.iaload, 1) := by decide +kernel
theorem dX9_wasWith_10 : decode cX9_wasWith 10 = .ok (.iload_n 3, 1) := by decide +kernel
theorem dX9_wasWith_11 : decode cX9_wasWith 11 = .ok (.invokestatic 84, 3) := by decide +kernel
theorem dX9_wasWith_14 : decode cX9_wasWith 14 = .ok (.ireturn, 1) := by decide +kernel
theorem ydf9_wasWith : ph_yd yX9_wasWith 3 := ⟨by decide, by decide, by decide +kernel⟩
def f9_wasWith (S : ph_Sh) (M : ph_Mem) (c : Nat) (p0 : Int32) (p1 : Int32) (p2 : Int32) : Option Int32 :=
  (f11_placeOf S M p0 p1).bind fun q1 => cond (ph_ib q1 72) ((f9_hasBit S M (M.1 (c + 3) q1.toNatClampNeg) p2).bind fun q2 => cond (ph_isz q2) (some q2) none) none
set_option maxHeartbeats 4000000 in
theorem cf9_wasWith {tb adK adV : Nat → Nat} {S : ph_Sh} {c : Nat} {l : Launch} {D : va_G} {cA : Nat → ClassId} {ad : Nat → Nat} (hinj : ∀ i j, i < S.2 → j < S.2 → ad i = ad j → i = j) (hS : ph_SX S) (hc : ph_isS c) {M : ph_Mem} {p0 : Int32} {p1 : Int32} {p2 : Int32} {r : Int32} (hf : f9_wasWith S M c p0 p1 p2 = some r) : ph_C (ph_ZX tb adK adV) l 1 yX9_wasWith cX9_wasWith 4 (some .boolean) D cA S.1 S.2 ad [.ref (ad c), .int p0, .int p1, .int p2] M (some (.int r)) M := by
  refine ph_mk ph_ZX_ok hinj (by decide) (Nat.le_of_ble_eq_true rfl) fun X h fin hE => ?_
  refine (?_ : ph_J X S.1 S.2 ad (r : Int32) 0 [(0, .ref (ad c)), (1, .int p0), (2, .int p1), (3, .int p2)] [] M (f9_wasWith S M c p0 p1 p2)) hf
  unfold f9_wasWith
  refine j_aload_n h dX9_wasWith_0 rfl 0 rfl ?_
  refine j_get (c := c) (j := 4) (v := .ref (ad (c + 3))) h (ph_S0n hS hc) (ph_S0 hS hc) rfl ph_inX9 rfl (by decide) tw_79 rfl rfl dX9_wasWith_1 ?_
  refine j_iload_n h dX9_wasWith_4 rfl 1 rfl ?_
  refine j_iload_n h dX9_wasWith_5 rfl 2 rfl ?_
  refine j_callNiP (n := 2) (As := [.int p0, .int p1]) (rest := [.ref (ad (c + 3))]) h (by decide +kernel) tw_461 tw_1 tw_462 ydf11_placeOf (by decide) (by decide) (fun q hq => cf11_placeOf (ph_okI h) hS hq) rfl (Nat.le_of_ble_eq_true rfl) rfl dX9_wasWith_6 (fun q1 => ?_)
  refine j_iald (c := (c + 3)) (n := 72) h (ph_S3n hS hc) (ph_S3 hS hc) dX9_wasWith_9 ?_
  refine j_iload_n h dX9_wasWith_10 rfl 3 rfl ?_
  refine j_callSiP (n := 2) (As := [.int (M.1 (c + 3) q1.toNatClampNeg), .int p2]) (rest := []) h tw_453 tw_454 tw_3 tw_455 ydf9_hasBit (by decide) (by decide) (fun q hq => cf9_hasBit (ph_okI h) hS hq) rfl (Nat.le_of_ble_eq_true rfl) rfl dX9_wasWith_11 (fun q2 => ?_)
  exact j_zretP h rfl fin dX9_wasWith_14
theorem dX9_metIn_0 : decode cX9_metIn 0 = .ok (.aload_n 0, 1) := by decide +kernel
theorem dX9_metIn_1 : decode cX9_metIn 1 = .ok (.iload_n 2, 1) := by decide +kernel
theorem dX9_metIn_2 : decode cX9_metIn 2 = .ok (.iload_n 1, 1) := by decide +kernel
theorem dX9_metIn_3 : decode cX9_metIn 3 = .ok (.invokevirtual 106, 3) := by decide +kernel
theorem dX9_metIn_6 : decode cX9_metIn 6 = .ok (.ifCond .eq 36, 3) := by decide +kernel
theorem dX9_metIn_9 : decode cX9_metIn 9 = .ok (.aload_n 0, 1) := by decide +kernel
theorem dX9_metIn_10 : decode cX9_metIn 10 = .ok (.iload_n 3, 1) := by decide +kernel
theorem dX9_metIn_11 : decode cX9_metIn 11 = .ok (.iload_n 1, 1) := by decide +kernel
theorem dX9_metIn_12 : decode cX9_metIn 12 = .ok (.invokevirtual 106, 3) := by decide +kernel
theorem dX9_metIn_15 : decode cX9_metIn 15 = .ok (.ifCond .eq 27, 3) := by decide +kernel
theorem dX9_metIn_18 : decode cX9_metIn 18 = .ok (.aload_n 0, 1) := by decide +kernel
theorem dX9_metIn_19 : decode cX9_metIn 19 = .ok (.iload_n 2, 1) := by decide +kernel
theorem dX9_metIn_20 : decode cX9_metIn 20 = .ok (.iload_n 1, 1) := by decide +kernel
theorem dX9_metIn_21 : decode cX9_metIn 21 = .ok (.iload_n 3, 1) := by decide +kernel
theorem dX9_metIn_22 : decode cX9_metIn 22 = .ok (.invokevirtual 109, 3) := by decide +kernel
theorem dX9_metIn_25 : decode cX9_metIn 25 = .ok (.ifCond .eq 17, 3) := by decide +kernel
theorem dX9_metIn_28 : decode cX9_metIn 28 = .ok (.aload_n 0, 1) := by decide +kernel
theorem dX9_metIn_29 : decode cX9_metIn 29 = .ok (.iload_n 3, 1) := by decide +kernel
theorem dX9_metIn_30 : decode cX9_metIn 30 = .ok (.iload_n 1, 1) := by decide +kernel
theorem dX9_metIn_31 : decode cX9_metIn 31 = .ok (.iload_n 2, 1) := by decide +kernel
theorem dX9_metIn_32 : decode cX9_metIn 32 = .ok (.invokevirtual 109, 3) := by decide +kernel
theorem dX9_metIn_35 : decode cX9_metIn 35 = .ok (.ifCond .eq 7, 3) := by decide +kernel
theorem dX9_metIn_38 : decode cX9_metIn 38 = .ok (.iconst 1, 1) := by decide +kernel
theorem dX9_metIn_39 : decode cX9_metIn 39 = .ok (.goto 4, 3) := by decide +kernel
theorem dX9_metIn_42 : decode cX9_metIn 42 = .ok (.iconst 0, 1) := by decide +kernel
theorem dX9_metIn_43 : decode cX9_metIn 43 = .ok (.ireturn, 1) := by decide +kernel
theorem ydf9_metIn : ph_yd yX9_metIn 3 := ⟨by decide, by decide, by decide +kernel⟩
def f9_metIn (S : ph_Sh) (M : ph_Mem) (c : Nat) (p0 : Int32) (p1 : Int32) (p2 : Int32) : Option Int32 :=
  (f9_holds S M c p1 p0).bind fun q1 => if q1 = 0 then (some (0 : Int32)) else ((f9_holds S M c p2 p0).bind fun q2 => if q2 = 0 then (some (0 : Int32)) else ((f9_wasWith S M c p1 p0 p2).bind fun q3 => if q3 = 0 then (some (0 : Int32)) else ((f9_wasWith S M c p2 p0 p1).bind fun q4 => if q4 = 0 then (some (0 : Int32)) else (some (1 : Int32)))))
set_option maxHeartbeats 4000000 in
theorem cf9_metIn {tb adK adV : Nat → Nat} {S : ph_Sh} {c : Nat} {l : Launch} {D : va_G} {cA : Nat → ClassId} {ad : Nat → Nat} (hinj : ∀ i j, i < S.2 → j < S.2 → ad i = ad j → i = j) (hS : ph_SX S) (hc : ph_isS c) {M : ph_Mem} {p0 : Int32} {p1 : Int32} {p2 : Int32} {r : Int32} (hf : f9_metIn S M c p0 p1 p2 = some r) : ph_C (ph_ZX tb adK adV) l 2 yX9_metIn cX9_metIn 4 (some .boolean) D cA S.1 S.2 ad [.ref (ad c), .int p0, .int p1, .int p2] M (some (.int r)) M := by
  refine ph_mk ph_ZX_ok hinj (by decide) (Nat.le_of_ble_eq_true rfl) fun X h fin hE => ?_
  refine (?_ : ph_J X S.1 S.2 ad (r : Int32) 0 [(0, .ref (ad c)), (1, .int p0), (2, .int p1), (3, .int p2)] [] M (f9_metIn S M c p0 p1 p2)) hf
  unfold f9_metIn
  refine j_aload_n h dX9_metIn_0 rfl 0 rfl ?_
  refine j_iload_n h dX9_metIn_1 rfl 2 rfl ?_
  refine j_iload_n h dX9_metIn_2 rfl 1 rfl ?_
  refine j_callViP (n := 2) (As := [.int p1, .int p0]) (rest := []) h c tw_551 tw_552 tw_553 tw_3 tw_554 ydf9_holds (by decide) (by decide) (ph_S0n hS hc) (ph_S0 hS hc) rfl (fun q hq => cf9_holds (ph_okI h) hS hc hq) rfl (Nat.le_of_ble_eq_true rfl) rfl dX9_metIn_3 (fun q1 => ?_)
  refine j_if_eq h 42 dX9_metIn_6 (by decide) ?_ ?_
  · refine j_iconst (v := (0 : Int32)) h dX9_metIn_42 (by decide) ?_
    exact j_zretPC h rfl (by decide) fin dX9_metIn_43
  · refine j_aload_n h dX9_metIn_9 rfl 0 rfl ?_
    refine j_iload_n h dX9_metIn_10 rfl 3 rfl ?_
    refine j_iload_n h dX9_metIn_11 rfl 1 rfl ?_
    refine j_callViP (n := 2) (As := [.int p2, .int p0]) (rest := []) h c tw_551 tw_552 tw_553 tw_3 tw_554 ydf9_holds (by decide) (by decide) (ph_S0n hS hc) (ph_S0 hS hc) rfl (fun q hq => cf9_holds (ph_okI h) hS hc hq) rfl (Nat.le_of_ble_eq_true rfl) rfl dX9_metIn_12 (fun q2 => ?_)
    refine j_if_eq h 42 dX9_metIn_15 (by decide) ?_ ?_
    · refine j_iconst (v := (0 : Int32)) h dX9_metIn_42 (by decide) ?_
      exact j_zretPC h rfl (by decide) fin dX9_metIn_43
    · refine j_aload_n h dX9_metIn_18 rfl 0 rfl ?_
      refine j_iload_n h dX9_metIn_19 rfl 2 rfl ?_
      refine j_iload_n h dX9_metIn_20 rfl 1 rfl ?_
      refine j_iload_n h dX9_metIn_21 rfl 3 rfl ?_
      refine j_callViP (n := 3) (As := [.int p1, .int p0, .int p2]) (rest := []) h c tw_947 tw_948 tw_949 tw_3 tw_950 ydf9_wasWith (by decide) (by decide) (ph_S0n hS hc) (ph_S0 hS hc) rfl (fun q hq => cf9_wasWith (ph_okI h) hS hc hq) rfl (Nat.le_of_ble_eq_true rfl) rfl dX9_metIn_22 (fun q3 => ?_)
      refine j_if_eq h 42 dX9_metIn_25 (by decide) ?_ ?_
      · refine j_iconst (v := (0 : Int32)) h dX9_metIn_42 (by decide) ?_
        exact j_zretPC h rfl (by decide) fin dX9_metIn_43
      · refine j_aload_n h dX9_metIn_28 rfl 0 rfl ?_
        refine j_iload_n h dX9_metIn_29 rfl 3 rfl ?_
        refine j_iload_n h dX9_metIn_30 rfl 1 rfl ?_
        refine j_iload_n h dX9_metIn_31 rfl 2 rfl ?_
        refine j_callViP (n := 3) (As := [.int p2, .int p0, .int p1]) (rest := []) h c tw_947 tw_948 tw_949 tw_3 tw_950 ydf9_wasWith (by decide) (by decide) (ph_S0n hS hc) (ph_S0 hS hc) rfl (fun q hq => cf9_wasWith (ph_okI h) hS hc hq) rfl (Nat.le_of_ble_eq_true rfl) rfl dX9_metIn_32 (fun q4 => ?_)
        refine j_if_eq h 42 dX9_metIn_35 (by decide) ?_ ?_
        · refine j_iconst (v := (0 : Int32)) h dX9_metIn_42 (by decide) ?_
          exact j_zretPC h rfl (by decide) fin dX9_metIn_43
        · refine j_iconst (v := (1 : Int32)) h dX9_metIn_38 (by decide) ?_
          refine j_goto h 43 dX9_metIn_39 (by decide) ?_
          exact j_zretPC h rfl (by decide) fin dX9_metIn_43
theorem dX0_hoursTogether_0 : decode cX0_hoursTogether 0 = .ok (.iconst 0, 1) := by decide +kernel
theorem dX0_hoursTogether_1 : decode cX0_hoursTogether 1 = .ok (.istore_n 3, 1) := by decide +kernel
theorem dX0_hoursTogether_2 : decode cX0_hoursTogether 2 = .ok (.iconst 0, 1) := by decide +kernel
theorem dX0_hoursTogether_3 : decode cX0_hoursTogether 3 = .ok (.istore 4, 2) := by decide +kernel
theorem dX0_hoursTogether_5 : decode cX0_hoursTogether 5 = .ok (.iload 4, 2) := by decide +kernel
theorem dX0_hoursTogether_7 : decode cX0_hoursTogether 7 = .ok (.bipush 12, 2) := by decide +kernel
theorem dX0_hoursTogether_9 : decode cX0_hoursTogether 9 = .ok (.if_icmp .ge 30, 3) := by decide +kernel
theorem dX0_hoursTogether_12 : decode cX0_hoursTogether 12 = .ok (.aload_n 0, 1) := by decide +kernel
theorem dX0_hoursTogether_13 : decode cX0_hoursTogether 13 = .ok (.getfield 15, 3) := by decide +kernel
theorem dX0_hoursTogether_16 : decode cX0_hoursTogether 16 = .ok (.iload 4, 2) := by decide +kernel
theorem dX0_hoursTogether_18 : decode cX0_hoursTogether 18 = .ok (.iload_n 1, 1) := by decide +kernel
theorem dX0_hoursTogether_19 : decode cX0_hoursTogether 19 = .ok (.iload_n 2, 1) := by decide +kernel
theorem dX0_hoursTogether_20 : decode cX0_hoursTogether 20 = .ok (.invokevirtual 19, 3) := by decide +kernel
theorem dX0_hoursTogether_23 : decode cX0_hoursTogether 23 = .ok (.ifCond .eq 10, 3) := by decide +kernel
theorem dX0_hoursTogether_26 : decode cX0_hoursTogether 26 = .ok (.iload_n 3, 1) := by decide +kernel
theorem dX0_hoursTogether_27 : decode cX0_hoursTogether 27 = .ok (.iconst 1, 1) := by decide +kernel
theorem dX0_hoursTogether_28 : decode cX0_hoursTogether 28 = .ok (.iload 4, 2) := by decide +kernel
theorem dX0_hoursTogether_30 : decode cX0_hoursTogether 30 = .ok (.ishl, 1) := by decide +kernel
theorem dX0_hoursTogether_31 : decode cX0_hoursTogether 31 = .ok (.ior, 1) := by decide +kernel
theorem dX0_hoursTogether_32 : decode cX0_hoursTogether 32 = .ok (.istore_n 3, 1) := by decide +kernel
theorem dX0_hoursTogether_33 : decode cX0_hoursTogether 33 = .ok (.iinc 4 1, 3) := by decide +kernel
theorem dX0_hoursTogether_36 : decode cX0_hoursTogether 36 = .ok (.goto (-31), 3) := by decide +kernel
theorem dX0_hoursTogether_39 : decode cX0_hoursTogether 39 = .ok (.iload_n 3, 1) := by decide +kernel
theorem dX0_hoursTogether_40 : decode cX0_hoursTogether 40 = .ok (.ireturn, 1) := by decide +kernel
def f0_hoursTogether_j33 (S : ph_Sh) (M : ph_Mem) (rc5 : Int32 → Int32 → Int32 → Int32 → Option Int32) (x1 : Int32) (x2 : Int32) (x3 : Int32) (x4 : Int32) : Option Int32 :=
  rc5 x1 x2 x3 (x4 + (1 : Int32))
set_option maxHeartbeats 4000000 in
theorem jb_f0_hoursTogether_j33 {tb adK adV : Nat → Nat} {S : ph_Sh} {X : ph_X} {ad : Nat → Nat} {o : Int32} {M : ph_Mem} (h : ph_ok (ph_ZX tb adK adV) X cX0_hoursTogether RX0 (some .int) 5 3 S.2 ad) (fin : ph_fin X S.1 S.2 ad (some (.int o)) M) (hS : ph_SX S) {rc5 : Int32 → Int32 → Int32 → Int32 → Option Int32} (hrc5 : ∀ (x1 : Int32) (x2 : Int32) (x3 : Int32) (x4 : Int32), ph_J X S.1 S.2 ad o 5 [(0, .ref (ad 71)), (1, .int x1), (2, .int x2), (3, .int x3), (4, .int x4)] [] M (rc5 x1 x2 x3 x4)) : ∀ (x1 : Int32) (x2 : Int32) (x3 : Int32) (x4 : Int32), ph_J X S.1 S.2 ad o 33 [(0, .ref (ad 71)), (1, .int x1), (2, .int x2), (3, .int x3), (4, .int x4)] [] M (f0_hoursTogether_j33 S M rc5 x1 x2 x3 x4) := by
  intro x1 x2 x3 x4
  unfold f0_hoursTogether_j33
  refine j_iinc h [(4, .int (x4 + (1 : Int32))), (0, .ref (ad 71)), (1, .int x1), (2, .int x2), (3, .int x3)] dX0_hoursTogether_33 4 rfl rfl (by decide) rfl ?_
  refine j_goto h 5 dX0_hoursTogether_36 (by decide) ?_
  refine j_sub [1, 2, 3, 4, 0] rfl ?_
  exact hrc5 x1 x2 x3 (x4 + (1 : Int32))
def f0_hoursTogether_l5 (S : ph_Sh) (M : ph_Mem) : Nat → Int32 → Int32 → Int32 → Int32 → Option Int32
  | 0, _, _, _, _ => none
  | n + 1, x1, x2, x3, x4 => if (12 : Int32) ≤ x4 then (some x3) else ((f9_metIn S M 11 x4 x1 x2).bind fun q1 => if q1 = 0 then (f0_hoursTogether_j33 S M (f0_hoursTogether_l5 S M n) x1 x2 x3 x4) else (ph_let (x3 ||| ((1 : Int32) <<< (x4 &&& 31))) fun z2 => f0_hoursTogether_j33 S M (f0_hoursTogether_l5 S M n) x1 x2 z2 x4))
set_option maxHeartbeats 4000000 in
theorem jb_f0_hoursTogether_l5 {tb adK adV : Nat → Nat} {S : ph_Sh} {X : ph_X} {ad : Nat → Nat} {o : Int32} {M : ph_Mem} (h : ph_ok (ph_ZX tb adK adV) X cX0_hoursTogether RX0 (some .int) 5 3 S.2 ad) (fin : ph_fin X S.1 S.2 ad (some (.int o)) M) (hS : ph_SX S) : ∀ (n : Nat) (x1 : Int32) (x2 : Int32) (x3 : Int32) (x4 : Int32), ph_J X S.1 S.2 ad o 5 [(0, .ref (ad 71)), (1, .int x1), (2, .int x2), (3, .int x3), (4, .int x4)] [] M (f0_hoursTogether_l5 S M n x1 x2 x3 x4) := by
  intro n
  induction n with
  | zero => intro x1 x2 x3 x4; exact j_none
  | succ n hrc5 =>
    intro x1 x2 x3 x4
    unfold f0_hoursTogether_l5
    refine j_iload h dX0_hoursTogether_5 4 rfl ?_
    refine j_bipush (v := (12 : Int32)) h dX0_hoursTogether_7 (by decide) ?_
    refine j_icmp_ge h 39 dX0_hoursTogether_9 (by decide) ?_ ?_
    · refine j_iload_n h dX0_hoursTogether_39 rfl 3 rfl ?_
      exact j_iretP h rfl fin dX0_hoursTogether_40
    · refine j_aload_n h dX0_hoursTogether_12 rfl 0 rfl ?_
      refine j_get (c := 71) (j := 0) (v := .ref (ad 11)) h (ph_xlt hS (by decide)) (ph_kc71 hS) rfl ph_inX0 rfl (by decide) tw_237 rfl rfl dX0_hoursTogether_13 ?_
      refine j_iload h dX0_hoursTogether_16 4 rfl ?_
      refine j_iload_n h dX0_hoursTogether_18 rfl 1 rfl ?_
      refine j_iload_n h dX0_hoursTogether_19 rfl 2 rfl ?_
      refine j_callViP (n := 3) (As := [.int x4, .int x1, .int x2]) (rest := []) h 11 tw_943 tw_944 tw_945 tw_3 tw_946 ydf9_metIn (by decide) (by decide) (ph_xlt hS (by decide)) (ph_kc11 hS) rfl (fun q hq => cf9_metIn (ph_okI h) hS (by decide) hq) rfl (Nat.le_of_ble_eq_true rfl) rfl dX0_hoursTogether_20 (fun q1 => ?_)
      refine j_if_eq h 33 dX0_hoursTogether_23 (by decide) ?_ ?_
      · refine j_sub [0, 1, 2, 3, 4] rfl ?_
        exact jb_f0_hoursTogether_j33 h fin hS hrc5 x1 x2 x3 x4
      · refine j_iload_n h dX0_hoursTogether_26 rfl 3 rfl ?_
        refine j_iconst (v := (1 : Int32)) h dX0_hoursTogether_27 (by decide) ?_
        refine j_iload h dX0_hoursTogether_28 4 rfl ?_
        refine j_ishl h dX0_hoursTogether_30 ?_
        refine j_ior h dX0_hoursTogether_31 ?_
        refine j_istore_n h [(3, .int (x3 ||| ((1 : Int32) <<< (x4 &&& 31)))), (0, .ref (ad 71)), (1, .int x1), (2, .int x2), (4, .int x4)] dX0_hoursTogether_32 rfl (by decide) rfl ?_
        refine j_letI (lvf := fun z2 => [(3, .int z2), (0, .ref (ad 71)), (1, .int x1), (2, .int x2), (4, .int x4)]) (fun z2 => ?_)
        refine j_sub [1, 2, 3, 0, 4] rfl ?_
        exact jb_f0_hoursTogether_j33 h fin hS hrc5 x1 x2 z2 x4
theorem ydf0_hoursTogether : ph_yd yX0_hoursTogether 2 := ⟨by decide, by decide, by decide +kernel⟩
def f0_hoursTogether (S : ph_Sh) (M : ph_Mem) (p0 : Int32) (p1 : Int32) : Option Int32 :=
  f0_hoursTogether_l5 S M 10000 p0 p1 (0 : Int32) (0 : Int32)
set_option maxHeartbeats 4000000 in
theorem cf0_hoursTogether {tb adK adV : Nat → Nat} {S : ph_Sh} {l : Launch} {D : va_G} {cA : Nat → ClassId} {ad : Nat → Nat} (hinj : ∀ i j, i < S.2 → j < S.2 → ad i = ad j → i = j) (hS : ph_SX S) {M : ph_Mem} {p0 : Int32} {p1 : Int32} {r : Int32} (hf : f0_hoursTogether S M p0 p1 = some r) : ph_C (ph_ZX tb adK adV) l 3 yX0_hoursTogether cX0_hoursTogether 5 (some .int) D cA S.1 S.2 ad [.ref (ad 71), .int p0, .int p1] M (some (.int r)) M := by
  refine ph_mk ph_ZX_ok hinj (by decide) (Nat.le_of_ble_eq_true rfl) fun X h fin hE => ?_
  refine (?_ : ph_J X S.1 S.2 ad (r : Int32) 0 [(0, .ref (ad 71)), (1, .int p0), (2, .int p1)] [] M (f0_hoursTogether S M p0 p1)) hf
  unfold f0_hoursTogether
  refine j_iconst (v := (0 : Int32)) h dX0_hoursTogether_0 (by decide) ?_
  refine j_istore_n h [(3, .int (0 : Int32)), (0, .ref (ad 71)), (1, .int p0), (2, .int p1)] dX0_hoursTogether_1 rfl (by decide) rfl ?_
  refine j_iconst (v := (0 : Int32)) h dX0_hoursTogether_2 (by decide) ?_
  refine j_istore h [(4, .int (0 : Int32)), (3, .int (0 : Int32)), (0, .ref (ad 71)), (1, .int p0), (2, .int p1)] dX0_hoursTogether_3 (by decide) rfl ?_
  refine j_sub [2, 3, 4, 1, 0] rfl ?_
  exact jb_f0_hoursTogether_l5 h fin hS 10000 p0 p1 (0 : Int32) (0 : Int32)
theorem dX9_learnable_0 : decode cX9_learnable 0 = .ok (.iload_n 1, 1) := by decide +kernel
theorem dX9_learnable_1 : decode cX9_learnable 1 = .ok (.iconst (-1), 1) := by decide +kernel
theorem dX9_learnable_2 : decode cX9_learnable 2 = .ok (.if_icmp .ne 5, 3) := by decide +kernel
theorem dX9_learnable_5 : decode cX9_learnable 5 = .ok (.iconst 0, 1) := by decide +kernel
theorem dX9_learnable_6 : decode cX9_learnable 6 = .ok (.ireturn, 1) := by decide +kernel
theorem dX9_learnable_7 : decode cX9_learnable 7 = .ok (.aload_n 0, 1) := by decide +kernel
theorem dX9_learnable_8 : decode cX9_learnable 8 = .ok (.getfield 33, 3) := by decide +kernel
theorem dX9_learnable_11 : decode cX9_learnable 11 = .ok (.iload_n 1, 1) := by decide +kernel
theorem dX9_learnable_12 : decode cX9_learnable 12 = .ok (.iaload, 1) := by decide +kernel
theorem dX9_learnable_13 : decode cX9_learnable 13 = .ok (.iconst (-1), 1) := by decide +kernel
theorem dX9_learnable_14 : decode cX9_learnable 14 = .ok (.if_icmp .eq 16, 3) := by decide +kernel
theorem dX9_learnable_17 : decode cX9_learnable 17 = .ok (.iload_n 2, 1) := by decide +kernel
theorem dX9_learnable_18 : decode cX9_learnable 18 = .ok (.aload_n 0, 1) := by decide +kernel
theorem dX9_learnable_19 : decode cX9_learnable 19 = .ok (.getfield 33, 3) := by decide +kernel
theorem dX9_learnable_22 : decode cX9_learnable 22 = .ok (.iload_n 1, 1) := by decide +kernel
theorem dX9_learnable_23 : decode cX9_learnable 23 = .ok (.iaload, 1) := by decide +kernel
theorem dX9_learnable_24 : decode cX9_learnable 24 = .ok (.invokestatic 84, 3) := by decide +kernel
theorem dX9_learnable_27 : decode cX9_learnable 27 = .ok (.ifCond .eq 9, 3) := by decide +kernel
theorem dX9_learnable_30 : decode cX9_learnable 30 = .ok (.iconst 1, 1) := by decide +kernel
theorem dX9_learnable_31 : decode cX9_learnable 31 = .ok (.iload_n 1, 1) := by decide +kernel
theorem dX9_learnable_32 : decode cX9_learnable 32 = .ok (.ishl, 1) := by decide +kernel
theorem dX9_learnable_33 : decode cX9_learnable 33 = .ok (.goto 4, 3) := by decide +kernel
theorem dX9_learnable_36 : decode cX9_learnable 36 = .ok (.iconst 0, 1) := by decide +kernel
theorem dX9_learnable_37 : decode cX9_learnable 37 = .ok (.ireturn, 1) := by decide +kernel
def f9_learnable_j30 (S : ph_Sh) (c : Nat) (M : ph_Mem) (x1 : Int32) : Option Int32 :=
  some ((1 : Int32) <<< (x1 &&& 31))
set_option maxHeartbeats 4000000 in
theorem jb_f9_learnable_j30 {tb adK adV : Nat → Nat} {S : ph_Sh} {c : Nat} {X : ph_X} {ad : Nat → Nat} {o : Int32} {M : ph_Mem} (h : ph_ok (ph_ZX tb adK adV) X cX9_learnable RX9 (some .int) 3 1 S.2 ad) (fin : ph_fin X S.1 S.2 ad (some (.int o)) M) (hS : ph_SX S) (hc : ph_isS c) : ∀ (x1 : Int32), ph_J X S.1 S.2 ad o 30 [(1, .int x1)] [] M (f9_learnable_j30 S c M x1) := by
  intro x1
  unfold f9_learnable_j30
  refine j_iconst (v := (1 : Int32)) h dX9_learnable_30 (by decide) ?_
  refine j_iload_n h dX9_learnable_31 rfl 0 rfl ?_
  refine j_ishl h dX9_learnable_32 ?_
  refine j_goto h 37 dX9_learnable_33 (by decide) ?_
  exact j_iretP h rfl fin dX9_learnable_37
theorem ydf9_learnable : ph_yd yX9_learnable 2 := ⟨by decide, by decide, by decide +kernel⟩
def f9_learnable (S : ph_Sh) (M : ph_Mem) (c : Nat) (p0 : Int32) (p1 : Int32) : Option Int32 :=
  if p0 = (-1 : Int32) then (some (0 : Int32)) else (cond (ph_ib p0 8) (if (M.1 (c + 8) p0.toNatClampNeg) = (-1 : Int32) then (f9_learnable_j30 S c M p0) else (cond (ph_ib p0 8) ((f9_hasBit S M p1 (M.1 (c + 8) p0.toNatClampNeg)).bind fun q1 => if q1 = 0 then (some (0 : Int32)) else (f9_learnable_j30 S c M p0)) none)) none)
set_option maxHeartbeats 4000000 in
theorem cf9_learnable {tb adK adV : Nat → Nat} {S : ph_Sh} {c : Nat} {l : Launch} {D : va_G} {cA : Nat → ClassId} {ad : Nat → Nat} (hinj : ∀ i j, i < S.2 → j < S.2 → ad i = ad j → i = j) (hS : ph_SX S) (hc : ph_isS c) {M : ph_Mem} {p0 : Int32} {p1 : Int32} {r : Int32} (hf : f9_learnable S M c p0 p1 = some r) : ph_C (ph_ZX tb adK adV) l 1 yX9_learnable cX9_learnable 3 (some .int) D cA S.1 S.2 ad [.ref (ad c), .int p0, .int p1] M (some (.int r)) M := by
  refine ph_mk ph_ZX_ok hinj (by decide) (Nat.le_of_ble_eq_true rfl) fun X h fin hE => ?_
  refine (?_ : ph_J X S.1 S.2 ad (r : Int32) 0 [(0, .ref (ad c)), (1, .int p0), (2, .int p1)] [] M (f9_learnable S M c p0 p1)) hf
  unfold f9_learnable
  refine j_iload_n h dX9_learnable_0 rfl 1 rfl ?_
  refine j_iconst (v := (-1 : Int32)) h dX9_learnable_1 (by decide) ?_
  refine j_icmp_ne h 7 dX9_learnable_2 (by decide) ?_ ?_
  · refine j_aload_n h dX9_learnable_7 rfl 0 rfl ?_
    refine j_get (c := c) (j := 9) (v := .ref (ad (c + 8))) h (ph_S0n hS hc) (ph_S0 hS hc) rfl ph_inX9 rfl (by decide) tw_93 rfl rfl dX9_learnable_8 ?_
    refine j_iload_n h dX9_learnable_11 rfl 1 rfl ?_
    refine j_iald (c := (c + 8)) (n := 8) h (ph_S8n hS hc) (ph_S8 hS hc) dX9_learnable_12 ?_
    refine j_iconst (v := (-1 : Int32)) h dX9_learnable_13 (by decide) ?_
    refine j_icmp_eq h 30 dX9_learnable_14 (by decide) ?_ ?_
    · refine j_sub [1] rfl ?_
      exact jb_f9_learnable_j30 h fin hS hc p0
    · refine j_iload_n h dX9_learnable_17 rfl 2 rfl ?_
      refine j_aload_n h dX9_learnable_18 rfl 0 rfl ?_
      refine j_get (c := c) (j := 9) (v := .ref (ad (c + 8))) h (ph_S0n hS hc) (ph_S0 hS hc) rfl ph_inX9 rfl (by decide) tw_93 rfl rfl dX9_learnable_19 ?_
      refine j_iload_n h dX9_learnable_22 rfl 1 rfl ?_
      refine j_iald (c := (c + 8)) (n := 8) h (ph_S8n hS hc) (ph_S8 hS hc) dX9_learnable_23 ?_
      refine j_callSiP (n := 2) (As := [.int p1, .int (M.1 (c + 8) p0.toNatClampNeg)]) (rest := []) h tw_453 tw_454 tw_3 tw_455 ydf9_hasBit (by decide) (by decide) (fun q hq => cf9_hasBit (ph_okI h) hS hq) rfl (Nat.le_of_ble_eq_true rfl) rfl dX9_learnable_24 (fun q1 => ?_)
      refine j_if_eq h 36 dX9_learnable_27 (by decide) ?_ ?_
      · refine j_iconst (v := (0 : Int32)) h dX9_learnable_36 (by decide) ?_
        exact j_iretP h rfl fin dX9_learnable_37
      · refine j_sub [1] rfl ?_
        exact jb_f9_learnable_j30 h fin hS hc p0
  · refine j_iconst (v := (0 : Int32)) h dX9_learnable_5 (by decide) ?_
    exact j_iretP h rfl fin dX9_learnable_6
theorem dX9_hourOfLearning_0 : decode cX9_hourOfLearning 0 = .ok (.iconst 0, 1) := by decide +kernel
theorem dX9_hourOfLearning_1 : decode cX9_hourOfLearning 1 = .ok (.istore_n 3, 1) := by decide +kernel
theorem dX9_hourOfLearning_2 : decode cX9_hourOfLearning 2 = .ok (.iconst 0, 1) := by decide +kernel
theorem dX9_hourOfLearning_3 : decode cX9_hourOfLearning 3 = .ok (.istore 4, 2) := by decide +kernel
theorem dX9_hourOfLearning_5 : decode cX9_hourOfLearning 5 = .ok (.iload 4, 2) := by decide +kernel
theorem dX9_hourOfLearning_7 : decode cX9_hourOfLearning 7 = .ok (.bipush 12, 2) := by decide +kernel
theorem dX9_hourOfLearning_9 : decode cX9_hourOfLearning 9 = .ok (.if_icmp .ge 49, 3) := by decide +kernel
theorem dX9_hourOfLearning_12 : decode cX9_hourOfLearning 12 = .ok (.aload_n 0, 1) := by decide +kernel
theorem dX9_hourOfLearning_13 : decode cX9_hourOfLearning 13 = .ok (.iload_n 1, 1) := by decide +kernel
theorem dX9_hourOfLearning_14 : decode cX9_hourOfLearning 14 = .ok (.iload 4, 2) := by decide +kernel
theorem dX9_hourOfLearning_16 : decode cX9_hourOfLearning 16 = .ok (.invokevirtual 106, 3) := by decide +kernel
theorem dX9_hourOfLearning_19 : decode cX9_hourOfLearning 19 = .ok (.ifCond .eq 22, 3) := by decide +kernel
theorem dX9_hourOfLearning_22 : decode cX9_hourOfLearning 22 = .ok (.iload_n 3, 1) := by decide +kernel
theorem dX9_hourOfLearning_23 : decode cX9_hourOfLearning 23 = .ok (.aload_n 0, 1) := by decide +kernel
theorem dX9_hourOfLearning_24 : decode cX9_hourOfLearning 24 = .ok (.aload_n 0, 1) := by decide +kernel
theorem dX9_hourOfLearning_25 : decode cX9_hourOfLearning 25 = .ok (.getfield 15, 3) := by decide +kernel
theorem dX9_hourOfLearning_28 : decode cX9_hourOfLearning 28 = .ok (.iload_n 1, 1) := by decide +kernel
theorem dX9_hourOfLearning_29 : decode cX9_hourOfLearning 29 = .ok (.iload 4, 2) := by decide +kernel
theorem dX9_hourOfLearning_31 : decode cX9_hourOfLearning 31 = .ok (.invokestatic 88, 3) := by decide +kernel
theorem dX9_hourOfLearning_34 : decode cX9_hourOfLearning 34 = .ok (.iaload, 1) := by decide +kernel
theorem dX9_hourOfLearning_35 : decode cX9_hourOfLearning 35 = .ok (.iload_n 3, 1) := by decide +kernel
theorem dX9_hourOfLearning_36 : decode cX9_hourOfLearning 36 = .ok (.invokevirtual 113, 3) := by decide +kernel
theorem dX9_hourOfLearning_39 : decode cX9_hourOfLearning 39 = .ok (.ior, 1) := by decide +kernel
theorem dX9_hourOfLearning_40 : decode cX9_hourOfLearning 40 = .ok (.istore_n 3, 1) := by decide +kernel
theorem dX9_hourOfLearning_41 : decode cX9_hourOfLearning 41 = .ok (.iload_n 3, 1) := by decide +kernel
theorem dX9_hourOfLearning_42 : decode cX9_hourOfLearning 42 = .ok (.iload_n 2, 1) := by decide +kernel
theorem dX9_hourOfLearning_43 : decode cX9_hourOfLearning 43 = .ok (.invokestatic 84, 3) := by decide +kernel
theorem dX9_hourOfLearning_46 : decode cX9_hourOfLearning 46 = .ok (.ifCond .eq 6, 3) := by decide +kernel
theorem dX9_hourOfLearning_49 : decode cX9_hourOfLearning 49 = .ok (.iload 4, 2) := by decide +kernel
theorem dX9_hourOfLearning_51 : decode cX9_hourOfLearning 51 = .ok (.ireturn, 1) := by decide +kernel
theorem dX9_hourOfLearning_52 : decode cX9_hourOfLearning 52 = .ok (.iinc 4 1, 3) := by decide +kernel
theorem dX9_hourOfLearning_55 : decode cX9_hourOfLearning 55 = .ok (.goto (-50), 3) := by decide +kernel
theorem dX9_hourOfLearning_58 : decode cX9_hourOfLearning 58 = .ok (.iconst (-1), 1) := by decide +kernel
theorem dX9_hourOfLearning_59 : decode cX9_hourOfLearning 59 = .ok (.ireturn, 1) := by decide +kernel
def f9_hourOfLearning_j41 (S : ph_Sh) (c : Nat) (M : ph_Mem) (rc5 : Int32 → Int32 → Int32 → Int32 → Option Int32) (x1 : Int32) (x2 : Int32) (x3 : Int32) (x4 : Int32) : Option Int32 :=
  (f9_hasBit S M x3 x2).bind fun q4 => if q4 = 0 then (rc5 x1 x2 x3 (x4 + (1 : Int32))) else (some x4)
set_option maxHeartbeats 4000000 in
theorem jb_f9_hourOfLearning_j41 {tb adK adV : Nat → Nat} {S : ph_Sh} {c : Nat} {X : ph_X} {ad : Nat → Nat} {o : Int32} {M : ph_Mem} (h : ph_ok (ph_ZX tb adK adV) X cX9_hourOfLearning RX9 (some .int) 5 2 S.2 ad) (fin : ph_fin X S.1 S.2 ad (some (.int o)) M) (hS : ph_SX S) (hc : ph_isS c) {rc5 : Int32 → Int32 → Int32 → Int32 → Option Int32} (hrc5 : ∀ (x1 : Int32) (x2 : Int32) (x3 : Int32) (x4 : Int32), ph_J X S.1 S.2 ad o 5 [(0, .ref (ad c)), (1, .int x1), (2, .int x2), (3, .int x3), (4, .int x4)] [] M (rc5 x1 x2 x3 x4)) : ∀ (x1 : Int32) (x2 : Int32) (x3 : Int32) (x4 : Int32), ph_J X S.1 S.2 ad o 41 [(0, .ref (ad c)), (1, .int x1), (2, .int x2), (3, .int x3), (4, .int x4)] [] M (f9_hourOfLearning_j41 S c M rc5 x1 x2 x3 x4) := by
  intro x1 x2 x3 x4
  unfold f9_hourOfLearning_j41
  refine j_iload_n h dX9_hourOfLearning_41 rfl 3 rfl ?_
  refine j_iload_n h dX9_hourOfLearning_42 rfl 2 rfl ?_
  refine j_callSiP (n := 2) (As := [.int x3, .int x2]) (rest := []) h tw_453 tw_454 tw_3 tw_455 ydf9_hasBit (by decide) (by decide) (fun q hq => cf9_hasBit (ph_okI h) hS hq) rfl (Nat.le_of_ble_eq_true rfl) rfl dX9_hourOfLearning_43 (fun q4 => ?_)
  refine j_if_eq h 52 dX9_hourOfLearning_46 (by decide) ?_ ?_
  · refine j_iinc h [(4, .int (x4 + (1 : Int32))), (0, .ref (ad c)), (1, .int x1), (2, .int x2), (3, .int x3)] dX9_hourOfLearning_52 4 rfl rfl (by decide) rfl ?_
    refine j_goto h 5 dX9_hourOfLearning_55 (by decide) ?_
    refine j_sub [1, 2, 3, 4, 0] rfl ?_
    exact hrc5 x1 x2 x3 (x4 + (1 : Int32))
  · refine j_iload h dX9_hourOfLearning_49 4 rfl ?_
    exact j_iretP h rfl fin dX9_hourOfLearning_51
def f9_hourOfLearning_l5 (S : ph_Sh) (c : Nat) (M : ph_Mem) : Nat → Int32 → Int32 → Int32 → Int32 → Option Int32
  | 0, _, _, _, _ => none
  | n + 1, x1, x2, x3, x4 => if (12 : Int32) ≤ x4 then (some (-1 : Int32)) else ((f9_holds S M c x1 x4).bind fun q1 => if q1 = 0 then (f9_hourOfLearning_j41 S c M (f9_hourOfLearning_l5 S c M n) x1 x2 x3 x4) else ((f11_placeOf S M x1 x4).bind fun q2 => cond (ph_ib q2 72) ((f9_learnable S M c (M.1 (c + 2) q2.toNatClampNeg) x3).bind fun q3 => f9_hourOfLearning_j41 S c M (f9_hourOfLearning_l5 S c M n) x1 x2 (x3 ||| q3) x4) none))
set_option maxHeartbeats 4000000 in
theorem jb_f9_hourOfLearning_l5 {tb adK adV : Nat → Nat} {S : ph_Sh} {c : Nat} {X : ph_X} {ad : Nat → Nat} {o : Int32} {M : ph_Mem} (h : ph_ok (ph_ZX tb adK adV) X cX9_hourOfLearning RX9 (some .int) 5 2 S.2 ad) (fin : ph_fin X S.1 S.2 ad (some (.int o)) M) (hS : ph_SX S) (hc : ph_isS c) : ∀ (n : Nat) (x1 : Int32) (x2 : Int32) (x3 : Int32) (x4 : Int32), ph_J X S.1 S.2 ad o 5 [(0, .ref (ad c)), (1, .int x1), (2, .int x2), (3, .int x3), (4, .int x4)] [] M (f9_hourOfLearning_l5 S c M n x1 x2 x3 x4) := by
  intro n
  induction n with
  | zero => intro x1 x2 x3 x4; exact j_none
  | succ n hrc5 =>
    intro x1 x2 x3 x4
    unfold f9_hourOfLearning_l5
    refine j_iload h dX9_hourOfLearning_5 4 rfl ?_
    refine j_bipush (v := (12 : Int32)) h dX9_hourOfLearning_7 (by decide) ?_
    refine j_icmp_ge h 58 dX9_hourOfLearning_9 (by decide) ?_ ?_
    · refine j_iconst (v := (-1 : Int32)) h dX9_hourOfLearning_58 (by decide) ?_
      exact j_iretP h rfl fin dX9_hourOfLearning_59
    · refine j_aload_n h dX9_hourOfLearning_12 rfl 0 rfl ?_
      refine j_iload_n h dX9_hourOfLearning_13 rfl 1 rfl ?_
      refine j_iload h dX9_hourOfLearning_14 4 rfl ?_
      refine j_callViP (n := 2) (As := [.int x1, .int x4]) (rest := []) h c tw_551 tw_552 tw_553 tw_3 tw_554 ydf9_holds (by decide) (by decide) (ph_S0n hS hc) (ph_S0 hS hc) rfl (fun q hq => cf9_holds (ph_okI h) hS hc hq) rfl (Nat.le_of_ble_eq_true rfl) rfl dX9_hourOfLearning_16 (fun q1 => ?_)
      refine j_if_eq h 41 dX9_hourOfLearning_19 (by decide) ?_ ?_
      · refine j_sub [0, 1, 2, 3, 4] rfl ?_
        exact jb_f9_hourOfLearning_j41 h fin hS hc hrc5 x1 x2 x3 x4
      · refine j_iload_n h dX9_hourOfLearning_22 rfl 3 rfl ?_
        refine j_aload_n h dX9_hourOfLearning_23 rfl 0 rfl ?_
        refine j_aload_n h dX9_hourOfLearning_24 rfl 0 rfl ?_
        refine j_get (c := c) (j := 3) (v := .ref (ad (c + 2))) h (ph_S0n hS hc) (ph_S0 hS hc) rfl ph_inX9 rfl (by decide) tw_76 rfl rfl dX9_hourOfLearning_25 ?_
        refine j_iload_n h dX9_hourOfLearning_28 rfl 1 rfl ?_
        refine j_iload h dX9_hourOfLearning_29 4 rfl ?_
        refine j_callNiP (n := 2) (As := [.int x1, .int x4]) (rest := [.ref (ad (c + 2)), .ref (ad c), .int x3]) h (by decide +kernel) tw_461 tw_1 tw_462 ydf11_placeOf (by decide) (by decide) (fun q hq => cf11_placeOf (ph_okI h) hS hq) rfl (Nat.le_of_ble_eq_true rfl) rfl dX9_hourOfLearning_31 (fun q2 => ?_)
        refine j_iald (c := (c + 2)) (n := 72) h (ph_S2n hS hc) (ph_S2 hS hc) dX9_hourOfLearning_34 ?_
        refine j_iload_n h dX9_hourOfLearning_35 rfl 3 rfl ?_
        refine j_callViP (n := 2) (As := [.int (M.1 (c + 2) q2.toNatClampNeg), .int x3]) (rest := [.int x3]) h c tw_555 tw_557 tp_4 tw_3 tw_558 ydf9_learnable (by decide) (by decide) (ph_S0n hS hc) (ph_S0 hS hc) rfl (fun q hq => cf9_learnable (ph_okI h) hS hc hq) rfl (Nat.le_of_ble_eq_true rfl) rfl dX9_hourOfLearning_36 (fun q3 => ?_)
        refine j_ior h dX9_hourOfLearning_39 ?_
        refine j_istore_n h [(3, .int (x3 ||| q3)), (0, .ref (ad c)), (1, .int x1), (2, .int x2), (4, .int x4)] dX9_hourOfLearning_40 rfl (by decide) rfl ?_
        refine j_sub [1, 2, 3, 0, 4] rfl ?_
        exact jb_f9_hourOfLearning_j41 h fin hS hc hrc5 x1 x2 (x3 ||| q3) x4
theorem ydf9_hourOfLearning : ph_yd yX9_hourOfLearning 2 := ⟨by decide, by decide, by decide +kernel⟩
def f9_hourOfLearning (S : ph_Sh) (M : ph_Mem) (c : Nat) (p0 : Int32) (p1 : Int32) : Option Int32 :=
  f9_hourOfLearning_l5 S c M 10000 p0 p1 (0 : Int32) (0 : Int32)
set_option maxHeartbeats 4000000 in
theorem cf9_hourOfLearning {tb adK adV : Nat → Nat} {S : ph_Sh} {c : Nat} {l : Launch} {D : va_G} {cA : Nat → ClassId} {ad : Nat → Nat} (hinj : ∀ i j, i < S.2 → j < S.2 → ad i = ad j → i = j) (hS : ph_SX S) (hc : ph_isS c) {M : ph_Mem} {p0 : Int32} {p1 : Int32} {r : Int32} (hf : f9_hourOfLearning S M c p0 p1 = some r) : ph_C (ph_ZX tb adK adV) l 2 yX9_hourOfLearning cX9_hourOfLearning 5 (some .int) D cA S.1 S.2 ad [.ref (ad c), .int p0, .int p1] M (some (.int r)) M := by
  refine ph_mk ph_ZX_ok hinj (by decide) (Nat.le_of_ble_eq_true rfl) fun X h fin hE => ?_
  refine (?_ : ph_J X S.1 S.2 ad (r : Int32) 0 [(0, .ref (ad c)), (1, .int p0), (2, .int p1)] [] M (f9_hourOfLearning S M c p0 p1)) hf
  unfold f9_hourOfLearning
  refine j_iconst (v := (0 : Int32)) h dX9_hourOfLearning_0 (by decide) ?_
  refine j_istore_n h [(3, .int (0 : Int32)), (0, .ref (ad c)), (1, .int p0), (2, .int p1)] dX9_hourOfLearning_1 rfl (by decide) rfl ?_
  refine j_iconst (v := (0 : Int32)) h dX9_hourOfLearning_2 (by decide) ?_
  refine j_istore h [(4, .int (0 : Int32)), (3, .int (0 : Int32)), (0, .ref (ad c)), (1, .int p0), (2, .int p1)] dX9_hourOfLearning_3 (by decide) rfl ?_
  refine j_sub [2, 3, 4, 1, 0] rfl ?_
  exact jb_f9_hourOfLearning_l5 h fin hS hc 10000 p0 p1 (0 : Int32) (0 : Int32)
theorem dX0_knowsOf_0 : decode cX0_knowsOf 0 = .ok (.aload_n 0, 1) := by decide +kernel
theorem dX0_knowsOf_1 : decode cX0_knowsOf 1 = .ok (.getfield 15, 3) := by decide +kernel
theorem dX0_knowsOf_4 : decode cX0_knowsOf 4 = .ok (.iload_n 2, 1) := by decide +kernel
theorem dX0_knowsOf_5 : decode cX0_knowsOf 5 = .ok (.iload_n 3, 1) := by decide +kernel
theorem dX0_knowsOf_6 : decode cX0_knowsOf 6 = .ok (.invokevirtual 25, 3) := by decide +kernel
theorem dX0_knowsOf_9 : decode cX0_knowsOf 9 = .ok (.istore 4, 2) := by decide +kernel
theorem dX0_knowsOf_11 : decode cX0_knowsOf 11 = .ok (.iload 4, 2) := by decide +kernel
theorem dX0_knowsOf_13 : decode cX0_knowsOf 13 = .ok (.iconst (-1), 1) := by decide +kernel
theorem dX0_knowsOf_14 : decode cX0_knowsOf 14 = .ok (.if_icmp .eq 39, 3) := by decide +kernel
theorem dX0_knowsOf_17 : decode cX0_knowsOf 17 = .ok (.aload_n 0, 1) := by decide +kernel
theorem dX0_knowsOf_18 : decode cX0_knowsOf 18 = .ok (.getfield 15, 3) := by decide +kernel
theorem dX0_knowsOf_21 : decode cX0_knowsOf 21 = .ok (.iload_n 1, 1) := by decide +kernel
theorem dX0_knowsOf_22 : decode cX0_knowsOf 22 = .ok (.iload_n 3, 1) := by decide +kernel
theorem dX0_knowsOf_23 : decode cX0_knowsOf 23 = .ok (.invokevirtual 25, 3) := by decide +kernel
theorem dX0_knowsOf_26 : decode cX0_knowsOf 26 = .ok (.iconst (-1), 1) := by decide +kernel
theorem dX0_knowsOf_27 : decode cX0_knowsOf 27 = .ok (.if_icmp .eq 26, 3) := by decide +kernel
theorem dX0_knowsOf_30 : decode cX0_knowsOf 30 = .ok (.iload_n 1, 1) := by decide +kernel
theorem dX0_knowsOf_31 : decode cX0_knowsOf 31 = .ok (.iload_n 2, 1) := by decide +kernel
theorem dX0_knowsOf_32 : decode cX0_knowsOf 32 = .ok (.if_icmp .eq 17, 3) := by decide +kernel
theorem dX0_knowsOf_35 : decode cX0_knowsOf 35 = .ok (.aload_n 0, 1) := by decide +kernel
theorem dX0_knowsOf_36 : decode cX0_knowsOf 36 = .ok (.getfield 15, 3) := by decide +kernel
theorem dX0_knowsOf_39 : decode cX0_knowsOf 39 = .ok (.iload 4, 2) := by decide +kernel
theorem dX0_knowsOf_41 : decode cX0_knowsOf 41 = .ok (.iload_n 1, 1) := by decide +kernel
theorem dX0_knowsOf_42 : decode cX0_knowsOf 42 = .ok (.iload_n 2, 1) := by decide +kernel
theorem dX0_knowsOf_43 : decode cX0_knowsOf 43 = .ok (.invokevirtual 19, 3) := by decide +kernel
theorem dX0_knowsOf_46 : decode cX0_knowsOf 46 = .ok (.ifCond .eq 7, 3) := by decide +kernel
theorem dX0_knowsOf_49 : decode cX0_knowsOf 49 = .ok (.iconst 1, 1) := by decide +kernel
theorem dX0_knowsOf_50 : decode cX0_knowsOf 50 = .ok (.goto 4, 3) := by decide +kernel
theorem dX0_knowsOf_53 : decode cX0_knowsOf 53 = .ok (.iconst 0, 1) := by decide +kernel
theorem dX0_knowsOf_54 : decode cX0_knowsOf 54 = .ok (.ireturn, 1) := by decide +kernel
theorem ydf0_knowsOf : ph_yd yX0_knowsOf 3 := ⟨by decide, by decide, by decide +kernel⟩
def f0_knowsOf (S : ph_Sh) (M : ph_Mem) (p0 : Int32) (p1 : Int32) (p2 : Int32) : Option Int32 :=
  (f9_hourOfLearning S M 11 p1 p2).bind fun q1 => if q1 = (-1 : Int32) then (some (0 : Int32)) else ((f9_hourOfLearning S M 11 p0 p2).bind fun q2 => if q2 = (-1 : Int32) then (some (0 : Int32)) else (if p0 = p1 then (some (1 : Int32)) else ((f9_metIn S M 11 q1 p0 p1).bind fun q3 => if q3 = 0 then (some (0 : Int32)) else (some (1 : Int32)))))
set_option maxHeartbeats 4000000 in
theorem cf0_knowsOf {tb adK adV : Nat → Nat} {S : ph_Sh} {l : Launch} {D : va_G} {cA : Nat → ClassId} {ad : Nat → Nat} (hinj : ∀ i j, i < S.2 → j < S.2 → ad i = ad j → i = j) (hS : ph_SX S) {M : ph_Mem} {p0 : Int32} {p1 : Int32} {p2 : Int32} {r : Int32} (hf : f0_knowsOf S M p0 p1 p2 = some r) : ph_C (ph_ZX tb adK adV) l 3 yX0_knowsOf cX0_knowsOf 5 (some .boolean) D cA S.1 S.2 ad [.ref (ad 71), .int p0, .int p1, .int p2] M (some (.int r)) M := by
  refine ph_mk ph_ZX_ok hinj (by decide) (Nat.le_of_ble_eq_true rfl) fun X h fin hE => ?_
  refine (?_ : ph_J X S.1 S.2 ad (r : Int32) 0 [(0, .ref (ad 71)), (1, .int p0), (2, .int p1), (3, .int p2)] [] M (f0_knowsOf S M p0 p1 p2)) hf
  unfold f0_knowsOf
  refine j_aload_n h dX0_knowsOf_0 rfl 0 rfl ?_
  refine j_get (c := 71) (j := 0) (v := .ref (ad 11)) h (ph_xlt hS (by decide)) (ph_kc71 hS) rfl ph_inX0 rfl (by decide) tw_237 rfl rfl dX0_knowsOf_1 ?_
  refine j_iload_n h dX0_knowsOf_4 rfl 2 rfl ?_
  refine j_iload_n h dX0_knowsOf_5 rfl 3 rfl ?_
  refine j_callViP (n := 2) (As := [.int p1, .int p2]) (rest := []) h 11 tw_955 tw_956 tw_957 tw_3 tw_958 ydf9_hourOfLearning (by decide) (by decide) (ph_xlt hS (by decide)) (ph_kc11 hS) rfl (fun q hq => cf9_hourOfLearning (ph_okI h) hS (by decide) hq) rfl (Nat.le_of_ble_eq_true rfl) rfl dX0_knowsOf_6 (fun q1 => ?_)
  refine j_istore h [(4, .int q1), (0, .ref (ad 71)), (1, .int p0), (2, .int p1), (3, .int p2)] dX0_knowsOf_9 (by decide) rfl ?_
  refine j_iload h dX0_knowsOf_11 0 rfl ?_
  refine j_iconst (v := (-1 : Int32)) h dX0_knowsOf_13 (by decide) ?_
  refine j_icmp_eq h 53 dX0_knowsOf_14 (by decide) ?_ ?_
  · refine j_iconst (v := (0 : Int32)) h dX0_knowsOf_53 (by decide) ?_
    exact j_zretPC h rfl (by decide) fin dX0_knowsOf_54
  · refine j_aload_n h dX0_knowsOf_17 rfl 1 rfl ?_
    refine j_get (c := 71) (j := 0) (v := .ref (ad 11)) h (ph_xlt hS (by decide)) (ph_kc71 hS) rfl ph_inX0 rfl (by decide) tw_237 rfl rfl dX0_knowsOf_18 ?_
    refine j_iload_n h dX0_knowsOf_21 rfl 2 rfl ?_
    refine j_iload_n h dX0_knowsOf_22 rfl 4 rfl ?_
    refine j_callViP (n := 2) (As := [.int p0, .int p2]) (rest := []) h 11 tw_955 tw_956 tw_957 tw_3 tw_958 ydf9_hourOfLearning (by decide) (by decide) (ph_xlt hS (by decide)) (ph_kc11 hS) rfl (fun q hq => cf9_hourOfLearning (ph_okI h) hS (by decide) hq) rfl (Nat.le_of_ble_eq_true rfl) rfl dX0_knowsOf_23 (fun q2 => ?_)
    refine j_iconst (v := (-1 : Int32)) h dX0_knowsOf_26 (by decide) ?_
    refine j_icmp_eq h 53 dX0_knowsOf_27 (by decide) ?_ ?_
    · refine j_iconst (v := (0 : Int32)) h dX0_knowsOf_53 (by decide) ?_
      exact j_zretPC h rfl (by decide) fin dX0_knowsOf_54
    · refine j_iload_n h dX0_knowsOf_30 rfl 2 rfl ?_
      refine j_iload_n h dX0_knowsOf_31 rfl 3 rfl ?_
      refine j_icmp_eq h 49 dX0_knowsOf_32 (by decide) ?_ ?_
      · refine j_iconst (v := (1 : Int32)) h dX0_knowsOf_49 (by decide) ?_
        refine j_goto h 54 dX0_knowsOf_50 (by decide) ?_
        exact j_zretPC h rfl (by decide) fin dX0_knowsOf_54
      · refine j_aload_n h dX0_knowsOf_35 rfl 1 rfl ?_
        refine j_get (c := 71) (j := 0) (v := .ref (ad 11)) h (ph_xlt hS (by decide)) (ph_kc71 hS) rfl ph_inX0 rfl (by decide) tw_237 rfl rfl dX0_knowsOf_36 ?_
        refine j_iload h dX0_knowsOf_39 0 rfl ?_
        refine j_iload_n h dX0_knowsOf_41 rfl 2 rfl ?_
        refine j_iload_n h dX0_knowsOf_42 rfl 3 rfl ?_
        refine j_callViP (n := 3) (As := [.int q1, .int p0, .int p1]) (rest := []) h 11 tw_943 tw_944 tw_945 tw_3 tw_946 ydf9_metIn (by decide) (by decide) (ph_xlt hS (by decide)) (ph_kc11 hS) rfl (fun q hq => cf9_metIn (ph_okI h) hS (by decide) hq) rfl (Nat.le_of_ble_eq_true rfl) rfl dX0_knowsOf_43 (fun q3 => ?_)
        refine j_if_eq h 53 dX0_knowsOf_46 (by decide) ?_ ?_
        · refine j_iconst (v := (0 : Int32)) h dX0_knowsOf_53 (by decide) ?_
          exact j_zretPC h rfl (by decide) fin dX0_knowsOf_54
        · refine j_iconst (v := (1 : Int32)) h dX0_knowsOf_49 (by decide) ?_
          refine j_goto h 54 dX0_knowsOf_50 (by decide) ?_
          exact j_zretPC h rfl (by decide) fin dX0_knowsOf_54
theorem dX9_knownWithout_0 : decode cX9_knownWithout 0 = .ok (.iconst 0, 1) := by decide +kernel
theorem dX9_knownWithout_1 : decode cX9_knownWithout 1 = .ok (.istore_n 3, 1) := by decide +kernel
theorem dX9_knownWithout_2 : decode cX9_knownWithout 2 = .ok (.iconst 0, 1) := by decide +kernel
theorem dX9_knownWithout_3 : decode cX9_knownWithout 3 = .ok (.istore 4, 2) := by decide +kernel
theorem dX9_knownWithout_5 : decode cX9_knownWithout 5 = .ok (.iload 4, 2) := by decide +kernel
theorem dX9_knownWithout_7 : decode cX9_knownWithout 7 = .ok (.bipush 12, 2) := by decide +kernel
theorem dX9_knownWithout_9 : decode cX9_knownWithout 9 = .ok (.if_icmp .ge 47, 3) := by decide +kernel
theorem dX9_knownWithout_12 : decode cX9_knownWithout 12 = .ok (.aload_n 0, 1) := by decide +kernel
theorem dX9_knownWithout_13 : decode cX9_knownWithout 13 = .ok (.iload_n 1, 1) := by decide +kernel
theorem dX9_knownWithout_14 : decode cX9_knownWithout 14 = .ok (.iload 4, 2) := by decide +kernel
theorem dX9_knownWithout_16 : decode cX9_knownWithout 16 = .ok (.invokevirtual 106, 3) := by decide +kernel
theorem dX9_knownWithout_19 : decode cX9_knownWithout 19 = .ok (.ifCond .eq 31, 3) := by decide +kernel
theorem dX9_knownWithout_22 : decode cX9_knownWithout 22 = .ok (.iload_n 2, 1) := by decide +kernel
theorem dX9_knownWithout_23 : decode cX9_knownWithout 23 = .ok (.iload 4, 2) := by decide +kernel
theorem dX9_knownWithout_25 : decode cX9_knownWithout 25 = .ok (.invokestatic 84, 3) := by decide +kernel
theorem dX9_knownWithout_28 : decode cX9_knownWithout 28 = .ok (.ifCond .ne 22, 3) := by decide +kernel
theorem dX9_knownWithout_31 : decode cX9_knownWithout 31 = .ok (.iload_n 3, 1) := by decide +kernel
theorem dX9_knownWithout_32 : decode cX9_knownWithout 32 = .ok (.aload_n 0, 1) := by decide +kernel
theorem dX9_knownWithout_33 : decode cX9_knownWithout 33 = .ok (.aload_n 0, 1) := by decide +kernel
theorem dX9_knownWithout_34 : decode cX9_knownWithout 34 = .ok (.getfield 15, 3) := by decide +kernel
theorem dX9_knownWithout_37 : decode cX9_knownWithout 37 = .ok (.iload_n 1, 1) := by decide +kernel
theorem dX9_knownWithout_38 : decode cX9_knownWithout 38 = .ok (.iload 4, 2) := by decide +kernel
theorem dX9_knownWithout_40 : decode cX9_knownWithout 40 = .ok (.invokestatic 88, 3) := by decide +kernel
theorem dX9_knownWithout_43 : decode cX9_knownWithout 43 = .ok (.iaload, 1) := by decide +kernel
theorem dX9_knownWithout_44 : decode cX9_knownWithout 44 = .ok (.iload_n 3, 1) := by decide +kernel
theorem dX9_knownWithout_45 : decode cX9_knownWithout 45 = .ok (.invokevirtual 113, 3) := by decide +kernel
theorem dX9_knownWithout_48 : decode cX9_knownWithout 48 = .ok (.ior, 1) := by decide +kernel
theorem dX9_knownWithout_49 : decode cX9_knownWithout 49 = .ok (.istore_n 3, 1) := by decide +kernel
theorem dX9_knownWithout_50 : decode cX9_knownWithout 50 = .ok (.iinc 4 1, 3) := by decide +kernel
theorem dX9_knownWithout_53 : decode cX9_knownWithout 53 = .ok (.goto (-48), 3) := by decide +kernel
theorem dX9_knownWithout_56 : decode cX9_knownWithout 56 = .ok (.iload_n 3, 1) := by decide +kernel
theorem dX9_knownWithout_57 : decode cX9_knownWithout 57 = .ok (.ireturn, 1) := by decide +kernel
def f9_knownWithout_j50 (S : ph_Sh) (c : Nat) (M : ph_Mem) (rc5 : Int32 → Int32 → Int32 → Int32 → Option Int32) (x1 : Int32) (x2 : Int32) (x3 : Int32) (x4 : Int32) : Option Int32 :=
  rc5 x1 x2 x3 (x4 + (1 : Int32))
set_option maxHeartbeats 4000000 in
theorem jb_f9_knownWithout_j50 {tb adK adV : Nat → Nat} {S : ph_Sh} {c : Nat} {X : ph_X} {ad : Nat → Nat} {o : Int32} {M : ph_Mem} (h : ph_ok (ph_ZX tb adK adV) X cX9_knownWithout RX9 (some .int) 5 2 S.2 ad) (fin : ph_fin X S.1 S.2 ad (some (.int o)) M) (hS : ph_SX S) (hc : ph_isS c) {rc5 : Int32 → Int32 → Int32 → Int32 → Option Int32} (hrc5 : ∀ (x1 : Int32) (x2 : Int32) (x3 : Int32) (x4 : Int32), ph_J X S.1 S.2 ad o 5 [(0, .ref (ad c)), (1, .int x1), (2, .int x2), (3, .int x3), (4, .int x4)] [] M (rc5 x1 x2 x3 x4)) : ∀ (x1 : Int32) (x2 : Int32) (x3 : Int32) (x4 : Int32), ph_J X S.1 S.2 ad o 50 [(0, .ref (ad c)), (1, .int x1), (2, .int x2), (3, .int x3), (4, .int x4)] [] M (f9_knownWithout_j50 S c M rc5 x1 x2 x3 x4) := by
  intro x1 x2 x3 x4
  unfold f9_knownWithout_j50
  refine j_iinc h [(4, .int (x4 + (1 : Int32))), (0, .ref (ad c)), (1, .int x1), (2, .int x2), (3, .int x3)] dX9_knownWithout_50 4 rfl rfl (by decide) rfl ?_
  refine j_goto h 5 dX9_knownWithout_53 (by decide) ?_
  refine j_sub [1, 2, 3, 4, 0] rfl ?_
  exact hrc5 x1 x2 x3 (x4 + (1 : Int32))
def f9_knownWithout_l5 (S : ph_Sh) (c : Nat) (M : ph_Mem) : Nat → Int32 → Int32 → Int32 → Int32 → Option Int32
  | 0, _, _, _, _ => none
  | n + 1, x1, x2, x3, x4 => if (12 : Int32) ≤ x4 then (some x3) else ((f9_holds S M c x1 x4).bind fun q1 => if q1 = 0 then (f9_knownWithout_j50 S c M (f9_knownWithout_l5 S c M n) x1 x2 x3 x4) else ((f9_hasBit S M x2 x4).bind fun q2 => if q2 = 0 then ((f11_placeOf S M x1 x4).bind fun q3 => cond (ph_ib q3 72) ((f9_learnable S M c (M.1 (c + 2) q3.toNatClampNeg) x3).bind fun q4 => f9_knownWithout_j50 S c M (f9_knownWithout_l5 S c M n) x1 x2 (x3 ||| q4) x4) none) else (f9_knownWithout_j50 S c M (f9_knownWithout_l5 S c M n) x1 x2 x3 x4)))
set_option maxHeartbeats 4000000 in
theorem jb_f9_knownWithout_l5 {tb adK adV : Nat → Nat} {S : ph_Sh} {c : Nat} {X : ph_X} {ad : Nat → Nat} {o : Int32} {M : ph_Mem} (h : ph_ok (ph_ZX tb adK adV) X cX9_knownWithout RX9 (some .int) 5 2 S.2 ad) (fin : ph_fin X S.1 S.2 ad (some (.int o)) M) (hS : ph_SX S) (hc : ph_isS c) : ∀ (n : Nat) (x1 : Int32) (x2 : Int32) (x3 : Int32) (x4 : Int32), ph_J X S.1 S.2 ad o 5 [(0, .ref (ad c)), (1, .int x1), (2, .int x2), (3, .int x3), (4, .int x4)] [] M (f9_knownWithout_l5 S c M n x1 x2 x3 x4) := by
  intro n
  induction n with
  | zero => intro x1 x2 x3 x4; exact j_none
  | succ n hrc5 =>
    intro x1 x2 x3 x4
    unfold f9_knownWithout_l5
    refine j_iload h dX9_knownWithout_5 4 rfl ?_
    refine j_bipush (v := (12 : Int32)) h dX9_knownWithout_7 (by decide) ?_
    refine j_icmp_ge h 56 dX9_knownWithout_9 (by decide) ?_ ?_
    · refine j_iload_n h dX9_knownWithout_56 rfl 3 rfl ?_
      exact j_iretP h rfl fin dX9_knownWithout_57
    · refine j_aload_n h dX9_knownWithout_12 rfl 0 rfl ?_
      refine j_iload_n h dX9_knownWithout_13 rfl 1 rfl ?_
      refine j_iload h dX9_knownWithout_14 4 rfl ?_
      refine j_callViP (n := 2) (As := [.int x1, .int x4]) (rest := []) h c tw_551 tw_552 tw_553 tw_3 tw_554 ydf9_holds (by decide) (by decide) (ph_S0n hS hc) (ph_S0 hS hc) rfl (fun q hq => cf9_holds (ph_okI h) hS hc hq) rfl (Nat.le_of_ble_eq_true rfl) rfl dX9_knownWithout_16 (fun q1 => ?_)
      refine j_if_eq h 50 dX9_knownWithout_19 (by decide) ?_ ?_
      · refine j_sub [0, 1, 2, 3, 4] rfl ?_
        exact jb_f9_knownWithout_j50 h fin hS hc hrc5 x1 x2 x3 x4
      · refine j_iload_n h dX9_knownWithout_22 rfl 2 rfl ?_
        refine j_iload h dX9_knownWithout_23 4 rfl ?_
        refine j_callSiP (n := 2) (As := [.int x2, .int x4]) (rest := []) h tw_453 tw_454 tw_3 tw_455 ydf9_hasBit (by decide) (by decide) (fun q hq => cf9_hasBit (ph_okI h) hS hq) rfl (Nat.le_of_ble_eq_true rfl) rfl dX9_knownWithout_25 (fun q2 => ?_)
        refine j_if_ne h 50 dX9_knownWithout_28 (by decide) ?_ ?_
        · refine j_sub [0, 1, 2, 3, 4] rfl ?_
          exact jb_f9_knownWithout_j50 h fin hS hc hrc5 x1 x2 x3 x4
        · refine j_iload_n h dX9_knownWithout_31 rfl 3 rfl ?_
          refine j_aload_n h dX9_knownWithout_32 rfl 0 rfl ?_
          refine j_aload_n h dX9_knownWithout_33 rfl 0 rfl ?_
          refine j_get (c := c) (j := 3) (v := .ref (ad (c + 2))) h (ph_S0n hS hc) (ph_S0 hS hc) rfl ph_inX9 rfl (by decide) tw_76 rfl rfl dX9_knownWithout_34 ?_
          refine j_iload_n h dX9_knownWithout_37 rfl 1 rfl ?_
          refine j_iload h dX9_knownWithout_38 4 rfl ?_
          refine j_callNiP (n := 2) (As := [.int x1, .int x4]) (rest := [.ref (ad (c + 2)), .ref (ad c), .int x3]) h (by decide +kernel) tw_461 tw_1 tw_462 ydf11_placeOf (by decide) (by decide) (fun q hq => cf11_placeOf (ph_okI h) hS hq) rfl (Nat.le_of_ble_eq_true rfl) rfl dX9_knownWithout_40 (fun q3 => ?_)
          refine j_iald (c := (c + 2)) (n := 72) h (ph_S2n hS hc) (ph_S2 hS hc) dX9_knownWithout_43 ?_
          refine j_iload_n h dX9_knownWithout_44 rfl 3 rfl ?_
          refine j_callViP (n := 2) (As := [.int (M.1 (c + 2) q3.toNatClampNeg), .int x3]) (rest := [.int x3]) h c tw_555 tw_557 tp_4 tw_3 tw_558 ydf9_learnable (by decide) (by decide) (ph_S0n hS hc) (ph_S0 hS hc) rfl (fun q hq => cf9_learnable (ph_okI h) hS hc hq) rfl (Nat.le_of_ble_eq_true rfl) rfl dX9_knownWithout_45 (fun q4 => ?_)
          refine j_ior h dX9_knownWithout_48 ?_
          refine j_istore_n h [(3, .int (x3 ||| q4)), (0, .ref (ad c)), (1, .int x1), (2, .int x2), (4, .int x4)] dX9_knownWithout_49 rfl (by decide) rfl ?_
          refine j_sub [1, 2, 3, 0, 4] rfl ?_
          exact jb_f9_knownWithout_j50 h fin hS hc hrc5 x1 x2 (x3 ||| q4) x4
theorem ydf9_knownWithout : ph_yd yX9_knownWithout 2 := ⟨by decide, by decide, by decide +kernel⟩
def f9_knownWithout (S : ph_Sh) (M : ph_Mem) (c : Nat) (p0 : Int32) (p1 : Int32) : Option Int32 :=
  f9_knownWithout_l5 S c M 10000 p0 p1 (0 : Int32) (0 : Int32)
set_option maxHeartbeats 4000000 in
theorem cf9_knownWithout {tb adK adV : Nat → Nat} {S : ph_Sh} {c : Nat} {l : Launch} {D : va_G} {cA : Nat → ClassId} {ad : Nat → Nat} (hinj : ∀ i j, i < S.2 → j < S.2 → ad i = ad j → i = j) (hS : ph_SX S) (hc : ph_isS c) {M : ph_Mem} {p0 : Int32} {p1 : Int32} {r : Int32} (hf : f9_knownWithout S M c p0 p1 = some r) : ph_C (ph_ZX tb adK adV) l 2 yX9_knownWithout cX9_knownWithout 5 (some .int) D cA S.1 S.2 ad [.ref (ad c), .int p0, .int p1] M (some (.int r)) M := by
  refine ph_mk ph_ZX_ok hinj (by decide) (Nat.le_of_ble_eq_true rfl) fun X h fin hE => ?_
  refine (?_ : ph_J X S.1 S.2 ad (r : Int32) 0 [(0, .ref (ad c)), (1, .int p0), (2, .int p1)] [] M (f9_knownWithout S M c p0 p1)) hf
  unfold f9_knownWithout
  refine j_iconst (v := (0 : Int32)) h dX9_knownWithout_0 (by decide) ?_
  refine j_istore_n h [(3, .int (0 : Int32)), (0, .ref (ad c)), (1, .int p0), (2, .int p1)] dX9_knownWithout_1 rfl (by decide) rfl ?_
  refine j_iconst (v := (0 : Int32)) h dX9_knownWithout_2 (by decide) ?_
  refine j_istore h [(4, .int (0 : Int32)), (3, .int (0 : Int32)), (0, .ref (ad c)), (1, .int p0), (2, .int p1)] dX9_knownWithout_3 (by decide) rfl ?_
  refine j_sub [2, 3, 4, 1, 0] rfl ?_
  exact jb_f9_knownWithout_l5 h fin hS hc 10000 p0 p1 (0 : Int32) (0 : Int32)
theorem dX0_isKnownOf_0 : decode cX0_isKnownOf 0 = .ok (.aload_n 0, 1) := by decide +kernel
theorem dX0_isKnownOf_1 : decode cX0_isKnownOf 1 = .ok (.getfield 15, 3) := by decide +kernel
theorem dX0_isKnownOf_4 : decode cX0_isKnownOf 4 = .ok (.iload_n 1, 1) := by decide +kernel
theorem dX0_isKnownOf_5 : decode cX0_isKnownOf 5 = .ok (.iload_n 2, 1) := by decide +kernel
theorem dX0_isKnownOf_6 : decode cX0_isKnownOf 6 = .ok (.invokevirtual 25, 3) := by decide +kernel
theorem dX0_isKnownOf_9 : decode cX0_isKnownOf 9 = .ok (.istore 4, 2) := by decide +kernel
theorem dX0_isKnownOf_11 : decode cX0_isKnownOf 11 = .ok (.iload 4, 2) := by decide +kernel
theorem dX0_isKnownOf_13 : decode cX0_isKnownOf 13 = .ok (.iconst (-1), 1) := by decide +kernel
theorem dX0_isKnownOf_14 : decode cX0_isKnownOf 14 = .ok (.if_icmp .ne 5, 3) := by decide +kernel
theorem dX0_isKnownOf_17 : decode cX0_isKnownOf 17 = .ok (.iconst 0, 1) := by decide +kernel
theorem dX0_isKnownOf_18 : decode cX0_isKnownOf 18 = .ok (.ireturn, 1) := by decide +kernel
theorem dX0_isKnownOf_19 : decode cX0_isKnownOf 19 = .ok (.iconst 0, 1) := by decide +kernel
theorem dX0_isKnownOf_20 : decode cX0_isKnownOf 20 = .ok (.istore 5, 2) := by decide +kernel
theorem dX0_isKnownOf_22 : decode cX0_isKnownOf 22 = .ok (.iload 5, 2) := by decide +kernel
theorem dX0_isKnownOf_24 : decode cX0_isKnownOf 24 = .ok (.aload_n 0, 1) := by decide +kernel
theorem dX0_isKnownOf_25 : decode cX0_isKnownOf 25 = .ok (.getfield 15, 3) := by decide +kernel
theorem dX0_isKnownOf_28 : decode cX0_isKnownOf 28 = .ok (.getfield 29, 3) := by decide +kernel
theorem dX0_isKnownOf_31 : decode cX0_isKnownOf 31 = .ok (.if_icmp .ge 72, 3) := by decide +kernel
theorem dX0_isKnownOf_34 : decode cX0_isKnownOf 34 = .ok (.iconst 0, 1) := by decide +kernel
theorem dX0_isKnownOf_35 : decode cX0_isKnownOf 35 = .ok (.istore 6, 2) := by decide +kernel
theorem dX0_isKnownOf_37 : decode cX0_isKnownOf 37 = .ok (.iload 6, 2) := by decide +kernel
theorem dX0_isKnownOf_39 : decode cX0_isKnownOf 39 = .ok (.iload 5, 2) := by decide +kernel
theorem dX0_isKnownOf_41 : decode cX0_isKnownOf 41 = .ok (.if_icmp .ge 56, 3) := by decide +kernel
theorem dX0_isKnownOf_44 : decode cX0_isKnownOf 44 = .ok (.iload_n 3, 1) := by decide +kernel
theorem dX0_isKnownOf_45 : decode cX0_isKnownOf 45 = .ok (.iconst 2, 1) := by decide +kernel
theorem dX0_isKnownOf_46 : decode cX0_isKnownOf 46 = .ok (.if_icmp .gt 15, 3) := by decide +kernel
theorem dX0_isKnownOf_49 : decode cX0_isKnownOf 49 = .ok (.iload 5, 2) := by decide +kernel
theorem dX0_isKnownOf_51 : decode cX0_isKnownOf 51 = .ok (.iload_n 1, 1) := by decide +kernel
theorem dX0_isKnownOf_52 : decode cX0_isKnownOf 52 = .ok (.if_icmp .eq 9, 3) := by decide +kernel
theorem dX0_isKnownOf_55 : decode cX0_isKnownOf 55 = .ok (.iload 6, 2) := by decide +kernel
theorem dX0_isKnownOf_57 : decode cX0_isKnownOf 57 = .ok (.iload_n 1, 1) := by decide +kernel
theorem dX0_isKnownOf_58 : decode cX0_isKnownOf 58 = .ok (.if_icmp .ne 7, 3) := by decide +kernel
theorem dX0_isKnownOf_61 : decode cX0_isKnownOf 61 = .ok (.iconst 1, 1) := by decide +kernel
theorem dX0_isKnownOf_62 : decode cX0_isKnownOf 62 = .ok (.goto 4, 3) := by decide +kernel
theorem dX0_isKnownOf_65 : decode cX0_isKnownOf 65 = .ok (.iconst 0, 1) := by decide +kernel
theorem dX0_isKnownOf_66 : decode cX0_isKnownOf 66 = .ok (.istore 7, 2) := by decide +kernel
theorem dX0_isKnownOf_68 : decode cX0_isKnownOf 68 = .ok (.iload 7, 2) := by decide +kernel
theorem dX0_isKnownOf_70 : decode cX0_isKnownOf 70 = .ok (.ifCond .eq 21, 3) := by decide +kernel
theorem dX0_isKnownOf_73 : decode cX0_isKnownOf 73 = .ok (.aload_n 0, 1) := by decide +kernel
theorem dX0_isKnownOf_74 : decode cX0_isKnownOf 74 = .ok (.getfield 15, 3) := by decide +kernel
theorem dX0_isKnownOf_77 : decode cX0_isKnownOf 77 = .ok (.iload 4, 2) := by decide +kernel
theorem dX0_isKnownOf_79 : decode cX0_isKnownOf 79 = .ok (.iload 5, 2) := by decide +kernel
theorem dX0_isKnownOf_81 : decode cX0_isKnownOf 81 = .ok (.iload 6, 2) := by decide +kernel
theorem dX0_isKnownOf_83 : decode cX0_isKnownOf 83 = .ok (.invokevirtual 19, 3) := by decide +kernel
theorem dX0_isKnownOf_86 : decode cX0_isKnownOf 86 = .ok (.ifCond .ne 5, 3) := by decide +kernel
theorem dX0_isKnownOf_89 : decode cX0_isKnownOf 89 = .ok (.iconst 0, 1) := by decide +kernel
theorem dX0_isKnownOf_90 : decode cX0_isKnownOf 90 = .ok (.ireturn, 1) := by decide +kernel
theorem dX0_isKnownOf_91 : decode cX0_isKnownOf 91 = .ok (.iinc 6 1, 3) := by decide +kernel
theorem dX0_isKnownOf_94 : decode cX0_isKnownOf 94 = .ok (.goto (-57), 3) := by decide +kernel
theorem dX0_isKnownOf_97 : decode cX0_isKnownOf 97 = .ok (.iinc 5 1, 3) := by decide +kernel
theorem dX0_isKnownOf_100 : decode cX0_isKnownOf 100 = .ok (.goto (-78), 3) := by decide +kernel
theorem dX0_isKnownOf_103 : decode cX0_isKnownOf 103 = .ok (.iconst 1, 1) := by decide +kernel
theorem dX0_isKnownOf_104 : decode cX0_isKnownOf 104 = .ok (.ireturn, 1) := by decide +kernel
def f0_isKnownOf_j91 (S : ph_Sh) (M : ph_Mem) (rc22 : Int32 → Int32 → Int32 → Int32 → Option Int32) (rc37 : Int32 → Int32 → Int32 → Int32 → Int32 → Option Int32) (x1 : Int32) (x3 : Int32) (x4 : Int32) (x5 : Int32) (x6 : Int32) : Option Int32 :=
  rc37 x1 x3 x4 x5 (x6 + (1 : Int32))
set_option maxHeartbeats 4000000 in
theorem jb_f0_isKnownOf_j91 {tb adK adV : Nat → Nat} {S : ph_Sh} {X : ph_X} {ad : Nat → Nat} {o : Int32} {M : ph_Mem} (h : ph_ok (ph_ZX tb adK adV) X cX0_isKnownOf RX0 (some .boolean) 8 3 S.2 ad) (fin : ph_fin X S.1 S.2 ad (some (.int o)) M) (hS : ph_SX S) {rc22 : Int32 → Int32 → Int32 → Int32 → Option Int32} (hrc22 : ∀ (x1 : Int32) (x3 : Int32) (x4 : Int32) (x5 : Int32), ph_J X S.1 S.2 ad o 22 [(0, .ref (ad 71)), (1, .int x1), (3, .int x3), (4, .int x4), (5, .int x5)] [] M (rc22 x1 x3 x4 x5)) {rc37 : Int32 → Int32 → Int32 → Int32 → Int32 → Option Int32} (hrc37 : ∀ (x1 : Int32) (x3 : Int32) (x4 : Int32) (x5 : Int32) (x6 : Int32), ph_J X S.1 S.2 ad o 37 [(0, .ref (ad 71)), (1, .int x1), (3, .int x3), (4, .int x4), (5, .int x5), (6, .int x6)] [] M (rc37 x1 x3 x4 x5 x6)) : ∀ (x1 : Int32) (x3 : Int32) (x4 : Int32) (x5 : Int32) (x6 : Int32), ph_J X S.1 S.2 ad o 91 [(0, .ref (ad 71)), (1, .int x1), (3, .int x3), (4, .int x4), (5, .int x5), (6, .int x6)] [] M (f0_isKnownOf_j91 S M rc22 rc37 x1 x3 x4 x5 x6) := by
  intro x1 x3 x4 x5 x6
  unfold f0_isKnownOf_j91
  refine j_iinc h [(6, .int (x6 + (1 : Int32))), (0, .ref (ad 71)), (1, .int x1), (3, .int x3), (4, .int x4), (5, .int x5)] dX0_isKnownOf_91 5 rfl rfl (by decide) rfl ?_
  refine j_goto h 37 dX0_isKnownOf_94 (by decide) ?_
  refine j_sub [1, 2, 3, 4, 5, 0] rfl ?_
  exact hrc37 x1 x3 x4 x5 (x6 + (1 : Int32))
def f0_isKnownOf_j66 (S : ph_Sh) (M : ph_Mem) (rc22 : Int32 → Int32 → Int32 → Int32 → Option Int32) (rc37 : Int32 → Int32 → Int32 → Int32 → Int32 → Option Int32) (x1 : Int32) (x3 : Int32) (x4 : Int32) (x5 : Int32) (x6 : Int32) (s0 : Int32) : Option Int32 :=
  if s0 = 0 then (f0_isKnownOf_j91 S M rc22 rc37 x1 x3 x4 x5 x6) else ((f9_metIn S M 11 x4 x5 x6).bind fun q2 => if q2 = 0 then (some (0 : Int32)) else (f0_isKnownOf_j91 S M rc22 rc37 x1 x3 x4 x5 x6))
set_option maxHeartbeats 4000000 in
theorem jb_f0_isKnownOf_j66 {tb adK adV : Nat → Nat} {S : ph_Sh} {X : ph_X} {ad : Nat → Nat} {o : Int32} {M : ph_Mem} (h : ph_ok (ph_ZX tb adK adV) X cX0_isKnownOf RX0 (some .boolean) 8 3 S.2 ad) (fin : ph_fin X S.1 S.2 ad (some (.int o)) M) (hS : ph_SX S) {rc22 : Int32 → Int32 → Int32 → Int32 → Option Int32} (hrc22 : ∀ (x1 : Int32) (x3 : Int32) (x4 : Int32) (x5 : Int32), ph_J X S.1 S.2 ad o 22 [(0, .ref (ad 71)), (1, .int x1), (3, .int x3), (4, .int x4), (5, .int x5)] [] M (rc22 x1 x3 x4 x5)) {rc37 : Int32 → Int32 → Int32 → Int32 → Int32 → Option Int32} (hrc37 : ∀ (x1 : Int32) (x3 : Int32) (x4 : Int32) (x5 : Int32) (x6 : Int32), ph_J X S.1 S.2 ad o 37 [(0, .ref (ad 71)), (1, .int x1), (3, .int x3), (4, .int x4), (5, .int x5), (6, .int x6)] [] M (rc37 x1 x3 x4 x5 x6)) : ∀ (x1 : Int32) (x3 : Int32) (x4 : Int32) (x5 : Int32) (x6 : Int32) (s0 : Int32), ph_J X S.1 S.2 ad o 66 [(0, .ref (ad 71)), (1, .int x1), (3, .int x3), (4, .int x4), (5, .int x5), (6, .int x6)] [.int s0] M (f0_isKnownOf_j66 S M rc22 rc37 x1 x3 x4 x5 x6 s0) := by
  intro x1 x3 x4 x5 x6 s0
  unfold f0_isKnownOf_j66
  refine j_istore h [(7, .int s0), (0, .ref (ad 71)), (1, .int x1), (3, .int x3), (4, .int x4), (5, .int x5), (6, .int x6)] dX0_isKnownOf_66 (by decide) rfl ?_
  refine j_iload h dX0_isKnownOf_68 0 rfl ?_
  refine j_if_eq h 91 dX0_isKnownOf_70 (by decide) ?_ ?_
  · refine j_sub [1, 2, 3, 4, 5, 6] rfl ?_
    exact jb_f0_isKnownOf_j91 h fin hS hrc22 hrc37 x1 x3 x4 x5 x6
  · refine j_aload_n h dX0_isKnownOf_73 rfl 1 rfl ?_
    refine j_get (c := 71) (j := 0) (v := .ref (ad 11)) h (ph_xlt hS (by decide)) (ph_kc71 hS) rfl ph_inX0 rfl (by decide) tw_237 rfl rfl dX0_isKnownOf_74 ?_
    refine j_iload h dX0_isKnownOf_77 4 rfl ?_
    refine j_iload h dX0_isKnownOf_79 5 rfl ?_
    refine j_iload h dX0_isKnownOf_81 6 rfl ?_
    refine j_callViP (n := 3) (As := [.int x4, .int x5, .int x6]) (rest := []) h 11 tw_943 tw_944 tw_945 tw_3 tw_946 ydf9_metIn (by decide) (by decide) (ph_xlt hS (by decide)) (ph_kc11 hS) rfl (fun q hq => cf9_metIn (ph_okI h) hS (by decide) hq) rfl (Nat.le_of_ble_eq_true rfl) rfl dX0_isKnownOf_83 (fun q2 => ?_)
    refine j_if_ne h 91 dX0_isKnownOf_86 (by decide) ?_ ?_
    · refine j_sub [1, 2, 3, 4, 5, 6] rfl ?_
      exact jb_f0_isKnownOf_j91 h fin hS hrc22 hrc37 x1 x3 x4 x5 x6
    · refine j_iconst (v := (0 : Int32)) h dX0_isKnownOf_89 (by decide) ?_
      exact j_zretPC h rfl (by decide) fin dX0_isKnownOf_90
def f0_isKnownOf_j61 (S : ph_Sh) (M : ph_Mem) (rc22 : Int32 → Int32 → Int32 → Int32 → Option Int32) (rc37 : Int32 → Int32 → Int32 → Int32 → Int32 → Option Int32) (x1 : Int32) (x3 : Int32) (x4 : Int32) (x5 : Int32) (x6 : Int32) : Option Int32 :=
  f0_isKnownOf_j66 S M rc22 rc37 x1 x3 x4 x5 x6 (1 : Int32)
set_option maxHeartbeats 4000000 in
theorem jb_f0_isKnownOf_j61 {tb adK adV : Nat → Nat} {S : ph_Sh} {X : ph_X} {ad : Nat → Nat} {o : Int32} {M : ph_Mem} (h : ph_ok (ph_ZX tb adK adV) X cX0_isKnownOf RX0 (some .boolean) 8 3 S.2 ad) (fin : ph_fin X S.1 S.2 ad (some (.int o)) M) (hS : ph_SX S) {rc22 : Int32 → Int32 → Int32 → Int32 → Option Int32} (hrc22 : ∀ (x1 : Int32) (x3 : Int32) (x4 : Int32) (x5 : Int32), ph_J X S.1 S.2 ad o 22 [(0, .ref (ad 71)), (1, .int x1), (3, .int x3), (4, .int x4), (5, .int x5)] [] M (rc22 x1 x3 x4 x5)) {rc37 : Int32 → Int32 → Int32 → Int32 → Int32 → Option Int32} (hrc37 : ∀ (x1 : Int32) (x3 : Int32) (x4 : Int32) (x5 : Int32) (x6 : Int32), ph_J X S.1 S.2 ad o 37 [(0, .ref (ad 71)), (1, .int x1), (3, .int x3), (4, .int x4), (5, .int x5), (6, .int x6)] [] M (rc37 x1 x3 x4 x5 x6)) : ∀ (x1 : Int32) (x3 : Int32) (x4 : Int32) (x5 : Int32) (x6 : Int32), ph_J X S.1 S.2 ad o 61 [(0, .ref (ad 71)), (1, .int x1), (3, .int x3), (4, .int x4), (5, .int x5), (6, .int x6)] [] M (f0_isKnownOf_j61 S M rc22 rc37 x1 x3 x4 x5 x6) := by
  intro x1 x3 x4 x5 x6
  unfold f0_isKnownOf_j61
  refine j_iconst (v := (1 : Int32)) h dX0_isKnownOf_61 (by decide) ?_
  refine j_goto h 66 dX0_isKnownOf_62 (by decide) ?_
  refine j_sub [0, 1, 2, 3, 4, 5] rfl ?_
  exact jb_f0_isKnownOf_j66 h fin hS hrc22 hrc37 x1 x3 x4 x5 x6 (1 : Int32)
def f0_isKnownOf_j97 (S : ph_Sh) (M : ph_Mem) (rc22 : Int32 → Int32 → Int32 → Int32 → Option Int32) (x1 : Int32) (x3 : Int32) (x4 : Int32) (x5 : Int32) : Option Int32 :=
  rc22 x1 x3 x4 (x5 + (1 : Int32))
set_option maxHeartbeats 4000000 in
theorem jb_f0_isKnownOf_j97 {tb adK adV : Nat → Nat} {S : ph_Sh} {X : ph_X} {ad : Nat → Nat} {o : Int32} {M : ph_Mem} (h : ph_ok (ph_ZX tb adK adV) X cX0_isKnownOf RX0 (some .boolean) 8 3 S.2 ad) (fin : ph_fin X S.1 S.2 ad (some (.int o)) M) (hS : ph_SX S) {rc22 : Int32 → Int32 → Int32 → Int32 → Option Int32} (hrc22 : ∀ (x1 : Int32) (x3 : Int32) (x4 : Int32) (x5 : Int32), ph_J X S.1 S.2 ad o 22 [(0, .ref (ad 71)), (1, .int x1), (3, .int x3), (4, .int x4), (5, .int x5)] [] M (rc22 x1 x3 x4 x5)) : ∀ (x1 : Int32) (x3 : Int32) (x4 : Int32) (x5 : Int32), ph_J X S.1 S.2 ad o 97 [(0, .ref (ad 71)), (1, .int x1), (3, .int x3), (4, .int x4), (5, .int x5)] [] M (f0_isKnownOf_j97 S M rc22 x1 x3 x4 x5) := by
  intro x1 x3 x4 x5
  unfold f0_isKnownOf_j97
  refine j_iinc h [(5, .int (x5 + (1 : Int32))), (0, .ref (ad 71)), (1, .int x1), (3, .int x3), (4, .int x4)] dX0_isKnownOf_97 4 rfl rfl (by decide) rfl ?_
  refine j_goto h 22 dX0_isKnownOf_100 (by decide) ?_
  refine j_sub [1, 2, 3, 4, 0] rfl ?_
  exact hrc22 x1 x3 x4 (x5 + (1 : Int32))
def f0_isKnownOf_l37 (S : ph_Sh) (M : ph_Mem) (rc22 : Int32 → Int32 → Int32 → Int32 → Option Int32) : Nat → Int32 → Int32 → Int32 → Int32 → Int32 → Option Int32
  | 0, _, _, _, _, _ => none
  | n + 1, x1, x3, x4, x5, x6 => if x5 ≤ x6 then (f0_isKnownOf_j97 S M rc22 x1 x3 x4 x5) else (if (2 : Int32) < x3 then (f0_isKnownOf_j61 S M rc22 (f0_isKnownOf_l37 S M rc22 n) x1 x3 x4 x5 x6) else (if x5 = x1 then (f0_isKnownOf_j61 S M rc22 (f0_isKnownOf_l37 S M rc22 n) x1 x3 x4 x5 x6) else (if x6 = x1 then (f0_isKnownOf_j61 S M rc22 (f0_isKnownOf_l37 S M rc22 n) x1 x3 x4 x5 x6) else (f0_isKnownOf_j66 S M rc22 (f0_isKnownOf_l37 S M rc22 n) x1 x3 x4 x5 x6 (0 : Int32)))))
set_option maxHeartbeats 4000000 in
theorem jb_f0_isKnownOf_l37 {tb adK adV : Nat → Nat} {S : ph_Sh} {X : ph_X} {ad : Nat → Nat} {o : Int32} {M : ph_Mem} (h : ph_ok (ph_ZX tb adK adV) X cX0_isKnownOf RX0 (some .boolean) 8 3 S.2 ad) (fin : ph_fin X S.1 S.2 ad (some (.int o)) M) (hS : ph_SX S) {rc22 : Int32 → Int32 → Int32 → Int32 → Option Int32} (hrc22 : ∀ (x1 : Int32) (x3 : Int32) (x4 : Int32) (x5 : Int32), ph_J X S.1 S.2 ad o 22 [(0, .ref (ad 71)), (1, .int x1), (3, .int x3), (4, .int x4), (5, .int x5)] [] M (rc22 x1 x3 x4 x5)) : ∀ (n : Nat) (x1 : Int32) (x3 : Int32) (x4 : Int32) (x5 : Int32) (x6 : Int32), ph_J X S.1 S.2 ad o 37 [(0, .ref (ad 71)), (1, .int x1), (3, .int x3), (4, .int x4), (5, .int x5), (6, .int x6)] [] M (f0_isKnownOf_l37 S M rc22 n x1 x3 x4 x5 x6) := by
  intro n
  induction n with
  | zero => intro x1 x3 x4 x5 x6; exact j_none
  | succ n hrc37 =>
    intro x1 x3 x4 x5 x6
    unfold f0_isKnownOf_l37
    refine j_iload h dX0_isKnownOf_37 5 rfl ?_
    refine j_iload h dX0_isKnownOf_39 4 rfl ?_
    refine j_icmp_ge h 97 dX0_isKnownOf_41 (by decide) ?_ ?_
    · refine j_sub [0, 1, 2, 3, 4] rfl ?_
      exact jb_f0_isKnownOf_j97 h fin hS hrc22 x1 x3 x4 x5
    · refine j_iload_n h dX0_isKnownOf_44 rfl 2 rfl ?_
      refine j_iconst (v := (2 : Int32)) h dX0_isKnownOf_45 (by decide) ?_
      refine j_icmp_gt h 61 dX0_isKnownOf_46 (by decide) ?_ ?_
      · refine j_sub [0, 1, 2, 3, 4, 5] rfl ?_
        exact jb_f0_isKnownOf_j61 h fin hS hrc22 hrc37 x1 x3 x4 x5 x6
      · refine j_iload h dX0_isKnownOf_49 4 rfl ?_
        refine j_iload_n h dX0_isKnownOf_51 rfl 1 rfl ?_
        refine j_icmp_eq h 61 dX0_isKnownOf_52 (by decide) ?_ ?_
        · refine j_sub [0, 1, 2, 3, 4, 5] rfl ?_
          exact jb_f0_isKnownOf_j61 h fin hS hrc22 hrc37 x1 x3 x4 x5 x6
        · refine j_iload h dX0_isKnownOf_55 5 rfl ?_
          refine j_iload_n h dX0_isKnownOf_57 rfl 1 rfl ?_
          refine j_icmp_ne h 65 dX0_isKnownOf_58 (by decide) ?_ ?_
          · refine j_iconst (v := (0 : Int32)) h dX0_isKnownOf_65 (by decide) ?_
            refine j_sub [0, 1, 2, 3, 4, 5] rfl ?_
            exact jb_f0_isKnownOf_j66 h fin hS hrc22 hrc37 x1 x3 x4 x5 x6 (0 : Int32)
          · refine j_sub [0, 1, 2, 3, 4, 5] rfl ?_
            exact jb_f0_isKnownOf_j61 h fin hS hrc22 hrc37 x1 x3 x4 x5 x6
def f0_isKnownOf_l22 (S : ph_Sh) (M : ph_Mem) : Nat → Int32 → Int32 → Int32 → Int32 → Option Int32
  | 0, _, _, _, _ => none
  | n + 1, x1, x3, x4, x5 => if (M.1 11 1) ≤ x5 then (some (1 : Int32)) else (f0_isKnownOf_l37 S M (f0_isKnownOf_l22 S M n) 10000 x1 x3 x4 x5 (0 : Int32))
set_option maxHeartbeats 4000000 in
theorem jb_f0_isKnownOf_l22 {tb adK adV : Nat → Nat} {S : ph_Sh} {X : ph_X} {ad : Nat → Nat} {o : Int32} {M : ph_Mem} (h : ph_ok (ph_ZX tb adK adV) X cX0_isKnownOf RX0 (some .boolean) 8 3 S.2 ad) (fin : ph_fin X S.1 S.2 ad (some (.int o)) M) (hS : ph_SX S) : ∀ (n : Nat) (x1 : Int32) (x3 : Int32) (x4 : Int32) (x5 : Int32), ph_J X S.1 S.2 ad o 22 [(0, .ref (ad 71)), (1, .int x1), (3, .int x3), (4, .int x4), (5, .int x5)] [] M (f0_isKnownOf_l22 S M n x1 x3 x4 x5) := by
  intro n
  induction n with
  | zero => intro x1 x3 x4 x5; exact j_none
  | succ n hrc22 =>
    intro x1 x3 x4 x5
    unfold f0_isKnownOf_l22
    refine j_iload h dX0_isKnownOf_22 4 rfl ?_
    refine j_aload_n h dX0_isKnownOf_24 rfl 0 rfl ?_
    refine j_get (c := 71) (j := 0) (v := .ref (ad 11)) h (ph_xlt hS (by decide)) (ph_kc71 hS) rfl ph_inX0 rfl (by decide) tw_237 rfl rfl dX0_isKnownOf_25 ?_
    refine j_get (c := 11) (j := 1) (v := .int (M.1 11 1)) h (ph_xlt hS (by decide)) (ph_kc11 hS) rfl ph_inX9 rfl (by decide) tw_69 rfl rfl dX0_isKnownOf_28 ?_
    refine j_icmp_ge h 103 dX0_isKnownOf_31 (by decide) ?_ ?_
    · refine j_iconst (v := (1 : Int32)) h dX0_isKnownOf_103 (by decide) ?_
      exact j_zretPC h rfl (by decide) fin dX0_isKnownOf_104
    · refine j_iconst (v := (0 : Int32)) h dX0_isKnownOf_34 (by decide) ?_
      refine j_istore h [(6, .int (0 : Int32)), (0, .ref (ad 71)), (1, .int x1), (3, .int x3), (4, .int x4), (5, .int x5)] dX0_isKnownOf_35 (by decide) rfl ?_
      refine j_sub [1, 2, 3, 4, 5, 0] rfl ?_
      exact jb_f0_isKnownOf_l37 h fin hS hrc22 10000 x1 x3 x4 x5 (0 : Int32)
theorem ydf0_isKnownOf : ph_yd yX0_isKnownOf 3 := ⟨by decide, by decide, by decide +kernel⟩
def f0_isKnownOf (S : ph_Sh) (M : ph_Mem) (p0 : Int32) (p1 : Int32) (p2 : Int32) : Option Int32 :=
  (f9_hourOfLearning S M 11 p0 p1).bind fun q1 => if q1 = (-1 : Int32) then (some (0 : Int32)) else (f0_isKnownOf_l22 S M 10000 p0 p2 q1 (0 : Int32))
set_option maxHeartbeats 4000000 in
theorem cf0_isKnownOf {tb adK adV : Nat → Nat} {S : ph_Sh} {l : Launch} {D : va_G} {cA : Nat → ClassId} {ad : Nat → Nat} (hinj : ∀ i j, i < S.2 → j < S.2 → ad i = ad j → i = j) (hS : ph_SX S) {M : ph_Mem} {p0 : Int32} {p1 : Int32} {p2 : Int32} {r : Int32} (hf : f0_isKnownOf S M p0 p1 p2 = some r) : ph_C (ph_ZX tb adK adV) l 3 yX0_isKnownOf cX0_isKnownOf 8 (some .boolean) D cA S.1 S.2 ad [.ref (ad 71), .int p0, .int p1, .int p2] M (some (.int r)) M := by
  refine ph_mk ph_ZX_ok hinj (by decide) (Nat.le_of_ble_eq_true rfl) fun X h fin hE => ?_
  refine (?_ : ph_J X S.1 S.2 ad (r : Int32) 0 [(0, .ref (ad 71)), (1, .int p0), (2, .int p1), (3, .int p2)] [] M (f0_isKnownOf S M p0 p1 p2)) hf
  unfold f0_isKnownOf
  refine j_aload_n h dX0_isKnownOf_0 rfl 0 rfl ?_
  refine j_get (c := 71) (j := 0) (v := .ref (ad 11)) h (ph_xlt hS (by decide)) (ph_kc71 hS) rfl ph_inX0 rfl (by decide) tw_237 rfl rfl dX0_isKnownOf_1 ?_
  refine j_iload_n h dX0_isKnownOf_4 rfl 1 rfl ?_
  refine j_iload_n h dX0_isKnownOf_5 rfl 2 rfl ?_
  refine j_callViP (n := 2) (As := [.int p0, .int p1]) (rest := []) h 11 tw_955 tw_956 tw_957 tw_3 tw_958 ydf9_hourOfLearning (by decide) (by decide) (ph_xlt hS (by decide)) (ph_kc11 hS) rfl (fun q hq => cf9_hourOfLearning (ph_okI h) hS (by decide) hq) rfl (Nat.le_of_ble_eq_true rfl) rfl dX0_isKnownOf_6 (fun q1 => ?_)
  refine j_istore h [(4, .int q1), (0, .ref (ad 71)), (1, .int p0), (2, .int p1), (3, .int p2)] dX0_isKnownOf_9 (by decide) rfl ?_
  refine j_iload h dX0_isKnownOf_11 0 rfl ?_
  refine j_iconst (v := (-1 : Int32)) h dX0_isKnownOf_13 (by decide) ?_
  refine j_icmp_ne h 19 dX0_isKnownOf_14 (by decide) ?_ ?_
  · refine j_iconst (v := (0 : Int32)) h dX0_isKnownOf_19 (by decide) ?_
    refine j_istore h [(5, .int (0 : Int32)), (4, .int q1), (0, .ref (ad 71)), (1, .int p0), (2, .int p1), (3, .int p2)] dX0_isKnownOf_20 (by decide) rfl ?_
    refine j_sub [2, 3, 5, 1, 0] rfl ?_
    exact jb_f0_isKnownOf_l22 h fin hS 10000 p0 p2 q1 (0 : Int32)
  · refine j_iconst (v := (0 : Int32)) h dX0_isKnownOf_17 (by decide) ?_
    exact j_zretPC h rfl (by decide) fin dX0_isKnownOf_18
theorem dX0_factsKnownDeep_0 : decode cX0_factsKnownDeep 0 = .ok (.sipush 255, 3) := by decide +kernel
theorem dX0_factsKnownDeep_3 : decode cX0_factsKnownDeep 3 = .ok (.istore_n 2, 1) := by decide +kernel
theorem dX0_factsKnownDeep_4 : decode cX0_factsKnownDeep 4 = .ok (.iconst 0, 1) := by decide +kernel
theorem dX0_factsKnownDeep_5 : decode cX0_factsKnownDeep 5 = .ok (.istore_n 3, 1) := by decide +kernel
theorem dX0_factsKnownDeep_6 : decode cX0_factsKnownDeep 6 = .ok (.iload_n 3, 1) := by decide +kernel
theorem dX0_factsKnownDeep_7 : decode cX0_factsKnownDeep 7 = .ok (.aload_n 0, 1) := by decide +kernel
theorem dX0_factsKnownDeep_8 : decode cX0_factsKnownDeep 8 = .ok (.getfield 15, 3) := by decide +kernel
theorem dX0_factsKnownDeep_11 : decode cX0_factsKnownDeep 11 = .ok (.getfield 29, 3) := by decide +kernel
theorem dX0_factsKnownDeep_14 : decode cX0_factsKnownDeep 14 = .ok (.if_icmp .ge 21, 3) := by decide +kernel
theorem dX0_factsKnownDeep_17 : decode cX0_factsKnownDeep 17 = .ok (.iload_n 2, 1) := by decide +kernel
theorem dX0_factsKnownDeep_18 : decode cX0_factsKnownDeep 18 = .ok (.aload_n 0, 1) := by decide +kernel
theorem dX0_factsKnownDeep_19 : decode cX0_factsKnownDeep 19 = .ok (.getfield 15, 3) := by decide +kernel
theorem dX0_factsKnownDeep_22 : decode cX0_factsKnownDeep 22 = .ok (.iload_n 3, 1) := by decide +kernel
theorem dX0_factsKnownDeep_23 : decode cX0_factsKnownDeep 23 = .ok (.iconst 0, 1) := by decide +kernel
theorem dX0_factsKnownDeep_24 : decode cX0_factsKnownDeep 24 = .ok (.invokevirtual 33, 3) := by decide +kernel
theorem dX0_factsKnownDeep_27 : decode cX0_factsKnownDeep 27 = .ok (.iand, 1) := by decide +kernel
theorem dX0_factsKnownDeep_28 : decode cX0_factsKnownDeep 28 = .ok (.istore_n 2, 1) := by decide +kernel
theorem dX0_factsKnownDeep_29 : decode cX0_factsKnownDeep 29 = .ok (.iinc 3 1, 3) := by decide +kernel
theorem dX0_factsKnownDeep_32 : decode cX0_factsKnownDeep 32 = .ok (.goto (-26), 3) := by decide +kernel
theorem dX0_factsKnownDeep_35 : decode cX0_factsKnownDeep 35 = .ok (.iconst 0, 1) := by decide +kernel
theorem dX0_factsKnownDeep_36 : decode cX0_factsKnownDeep 36 = .ok (.istore_n 3, 1) := by decide +kernel
theorem dX0_factsKnownDeep_37 : decode cX0_factsKnownDeep 37 = .ok (.iload_n 3, 1) := by decide +kernel
theorem dX0_factsKnownDeep_38 : decode cX0_factsKnownDeep 38 = .ok (.aload_n 0, 1) := by decide +kernel
theorem dX0_factsKnownDeep_39 : decode cX0_factsKnownDeep 39 = .ok (.getfield 15, 3) := by decide +kernel
theorem dX0_factsKnownDeep_42 : decode cX0_factsKnownDeep 42 = .ok (.getfield 29, 3) := by decide +kernel
theorem dX0_factsKnownDeep_45 : decode cX0_factsKnownDeep 45 = .ok (.if_icmp .ge 59, 3) := by decide +kernel
theorem dX0_factsKnownDeep_48 : decode cX0_factsKnownDeep 48 = .ok (.iload_n 1, 1) := by decide +kernel
theorem dX0_factsKnownDeep_49 : decode cX0_factsKnownDeep 49 = .ok (.iconst 1, 1) := by decide +kernel
theorem dX0_factsKnownDeep_50 : decode cX0_factsKnownDeep 50 = .ok (.if_icmp .le 54, 3) := by decide +kernel
theorem dX0_factsKnownDeep_53 : decode cX0_factsKnownDeep 53 = .ok (.iconst 0, 1) := by decide +kernel
theorem dX0_factsKnownDeep_54 : decode cX0_factsKnownDeep 54 = .ok (.istore 4, 2) := by decide +kernel
theorem dX0_factsKnownDeep_56 : decode cX0_factsKnownDeep 56 = .ok (.iload 4, 2) := by decide +kernel
theorem dX0_factsKnownDeep_58 : decode cX0_factsKnownDeep 58 = .ok (.bipush 8, 2) := by decide +kernel
theorem dX0_factsKnownDeep_60 : decode cX0_factsKnownDeep 60 = .ok (.if_icmp .ge 38, 3) := by decide +kernel
theorem dX0_factsKnownDeep_63 : decode cX0_factsKnownDeep 63 = .ok (.iload_n 2, 1) := by decide +kernel
theorem dX0_factsKnownDeep_64 : decode cX0_factsKnownDeep 64 = .ok (.iload 4, 2) := by decide +kernel
theorem dX0_factsKnownDeep_66 : decode cX0_factsKnownDeep 66 = .ok (.invokestatic 36, 3) := by decide +kernel
theorem dX0_factsKnownDeep_69 : decode cX0_factsKnownDeep 69 = .ok (.ifCond .eq 23, 3) := by decide +kernel
theorem dX0_factsKnownDeep_72 : decode cX0_factsKnownDeep 72 = .ok (.aload_n 0, 1) := by decide +kernel
theorem dX0_factsKnownDeep_73 : decode cX0_factsKnownDeep 73 = .ok (.iload_n 3, 1) := by decide +kernel
theorem dX0_factsKnownDeep_74 : decode cX0_factsKnownDeep 74 = .ok (.iload 4, 2) := by decide +kernel
theorem dX0_factsKnownDeep_76 : decode cX0_factsKnownDeep 76 = .ok (.iload_n 1, 1) := by decide +kernel
theorem dX0_factsKnownDeep_77 : decode cX0_factsKnownDeep 77 = .ok (.invokevirtual 40, 3) := by decide +kernel
theorem dX0_factsKnownDeep_80 : decode cX0_factsKnownDeep 80 = .ok (.ifCond .ne 12, 3) := by decide +kernel
theorem dX0_factsKnownDeep_83 : decode cX0_factsKnownDeep 83 = .ok (.iload_n 2, 1) := by decide +kernel
theorem dX0_factsKnownDeep_84 : decode cX0_factsKnownDeep 84 = .ok (.iconst 1, 1) := by decide +kernel
theorem dX0_factsKnownDeep_85 : decode cX0_factsKnownDeep 85 = .ok (.iload 4, 2) := by decide +kernel
theorem dX0_factsKnownDeep_87 : decode cX0_factsKnownDeep 87 = .ok (.ishl, 1) := by decide +kernel
theorem dX0_factsKnownDeep_88 : decode cX0_factsKnownDeep 88 = .ok (.iconst (-1), 1) := by decide +kernel
theorem dX0_factsKnownDeep_89 : decode cX0_factsKnownDeep 89 = .ok (.ixor, 1) := by decide +kernel
theorem dX0_factsKnownDeep_90 : decode cX0_factsKnownDeep 90 = .ok (.iand, 1) := by decide +kernel
theorem dX0_factsKnownDeep_91 : decode cX0_factsKnownDeep 91 = .ok (.istore_n 2, 1) := by decide +kernel
theorem dX0_factsKnownDeep_92 : decode cX0_factsKnownDeep 92 = .ok (.iinc 4 1, 3) := by decide +kernel
theorem dX0_factsKnownDeep_95 : decode cX0_factsKnownDeep 95 = .ok (.goto (-39), 3) := by decide +kernel
theorem dX0_factsKnownDeep_98 : decode cX0_factsKnownDeep 98 = .ok (.iinc 3 1, 3) := by decide +kernel
theorem dX0_factsKnownDeep_101 : decode cX0_factsKnownDeep 101 = .ok (.goto (-64), 3) := by decide +kernel
theorem dX0_factsKnownDeep_104 : decode cX0_factsKnownDeep 104 = .ok (.iload_n 2, 1) := by decide +kernel
theorem dX0_factsKnownDeep_105 : decode cX0_factsKnownDeep 105 = .ok (.ireturn, 1) := by decide +kernel
def f0_factsKnownDeep_j92 (S : ph_Sh) (M : ph_Mem) (rc37 : Int32 → Int32 → Int32 → Option Int32) (rc56 : Int32 → Int32 → Int32 → Int32 → Option Int32) (x1 : Int32) (x2 : Int32) (x3 : Int32) (x4 : Int32) : Option Int32 :=
  rc56 x1 x2 x3 (x4 + (1 : Int32))
set_option maxHeartbeats 4000000 in
theorem jb_f0_factsKnownDeep_j92 {tb adK adV : Nat → Nat} {S : ph_Sh} {X : ph_X} {ad : Nat → Nat} {o : Int32} {M : ph_Mem} (h : ph_ok (ph_ZX tb adK adV) X cX0_factsKnownDeep RX0 (some .int) 5 4 S.2 ad) (fin : ph_fin X S.1 S.2 ad (some (.int o)) M) (hS : ph_SX S) {rc37 : Int32 → Int32 → Int32 → Option Int32} (hrc37 : ∀ (x1 : Int32) (x2 : Int32) (x3 : Int32), ph_J X S.1 S.2 ad o 37 [(0, .ref (ad 71)), (1, .int x1), (2, .int x2), (3, .int x3)] [] M (rc37 x1 x2 x3)) {rc56 : Int32 → Int32 → Int32 → Int32 → Option Int32} (hrc56 : ∀ (x1 : Int32) (x2 : Int32) (x3 : Int32) (x4 : Int32), ph_J X S.1 S.2 ad o 56 [(0, .ref (ad 71)), (1, .int x1), (2, .int x2), (3, .int x3), (4, .int x4)] [] M (rc56 x1 x2 x3 x4)) : ∀ (x1 : Int32) (x2 : Int32) (x3 : Int32) (x4 : Int32), ph_J X S.1 S.2 ad o 92 [(0, .ref (ad 71)), (1, .int x1), (2, .int x2), (3, .int x3), (4, .int x4)] [] M (f0_factsKnownDeep_j92 S M rc37 rc56 x1 x2 x3 x4) := by
  intro x1 x2 x3 x4
  unfold f0_factsKnownDeep_j92
  refine j_iinc h [(4, .int (x4 + (1 : Int32))), (0, .ref (ad 71)), (1, .int x1), (2, .int x2), (3, .int x3)] dX0_factsKnownDeep_92 4 rfl rfl (by decide) rfl ?_
  refine j_goto h 56 dX0_factsKnownDeep_95 (by decide) ?_
  refine j_sub [1, 2, 3, 4, 0] rfl ?_
  exact hrc56 x1 x2 x3 (x4 + (1 : Int32))
def f0_factsKnownDeep_j98 (S : ph_Sh) (M : ph_Mem) (rc37 : Int32 → Int32 → Int32 → Option Int32) (x1 : Int32) (x2 : Int32) (x3 : Int32) : Option Int32 :=
  rc37 x1 x2 (x3 + (1 : Int32))
set_option maxHeartbeats 4000000 in
theorem jb_f0_factsKnownDeep_j98 {tb adK adV : Nat → Nat} {S : ph_Sh} {X : ph_X} {ad : Nat → Nat} {o : Int32} {M : ph_Mem} (h : ph_ok (ph_ZX tb adK adV) X cX0_factsKnownDeep RX0 (some .int) 5 4 S.2 ad) (fin : ph_fin X S.1 S.2 ad (some (.int o)) M) (hS : ph_SX S) {rc37 : Int32 → Int32 → Int32 → Option Int32} (hrc37 : ∀ (x1 : Int32) (x2 : Int32) (x3 : Int32), ph_J X S.1 S.2 ad o 37 [(0, .ref (ad 71)), (1, .int x1), (2, .int x2), (3, .int x3)] [] M (rc37 x1 x2 x3)) : ∀ (x1 : Int32) (x2 : Int32) (x3 : Int32), ph_J X S.1 S.2 ad o 98 [(0, .ref (ad 71)), (1, .int x1), (2, .int x2), (3, .int x3)] [] M (f0_factsKnownDeep_j98 S M rc37 x1 x2 x3) := by
  intro x1 x2 x3
  unfold f0_factsKnownDeep_j98
  refine j_iinc h [(3, .int (x3 + (1 : Int32))), (0, .ref (ad 71)), (1, .int x1), (2, .int x2)] dX0_factsKnownDeep_98 3 rfl rfl (by decide) rfl ?_
  refine j_goto h 37 dX0_factsKnownDeep_101 (by decide) ?_
  refine j_sub [1, 2, 3, 0] rfl ?_
  exact hrc37 x1 x2 (x3 + (1 : Int32))
def f0_factsKnownDeep_l56 (S : ph_Sh) (M : ph_Mem) (rc37 : Int32 → Int32 → Int32 → Option Int32) : Nat → Int32 → Int32 → Int32 → Int32 → Option Int32
  | 0, _, _, _, _ => none
  | n + 1, x1, x2, x3, x4 => if (8 : Int32) ≤ x4 then (f0_factsKnownDeep_j98 S M rc37 x1 x2 x3) else ((f9_hasBit S M x2 x4).bind fun q2 => if q2 = 0 then (f0_factsKnownDeep_j92 S M rc37 (f0_factsKnownDeep_l56 S M rc37 n) x1 x2 x3 x4) else ((f0_isKnownOf S M x3 x4 x1).bind fun q3 => if q3 = 0 then (ph_let (x2 &&& (((1 : Int32) <<< (x4 &&& 31)) ^^^ (-1 : Int32))) fun z4 => f0_factsKnownDeep_j92 S M rc37 (f0_factsKnownDeep_l56 S M rc37 n) x1 z4 x3 x4) else (f0_factsKnownDeep_j92 S M rc37 (f0_factsKnownDeep_l56 S M rc37 n) x1 x2 x3 x4)))
set_option maxHeartbeats 4000000 in
theorem jb_f0_factsKnownDeep_l56 {tb adK adV : Nat → Nat} {S : ph_Sh} {X : ph_X} {ad : Nat → Nat} {o : Int32} {M : ph_Mem} (h : ph_ok (ph_ZX tb adK adV) X cX0_factsKnownDeep RX0 (some .int) 5 4 S.2 ad) (fin : ph_fin X S.1 S.2 ad (some (.int o)) M) (hS : ph_SX S) {rc37 : Int32 → Int32 → Int32 → Option Int32} (hrc37 : ∀ (x1 : Int32) (x2 : Int32) (x3 : Int32), ph_J X S.1 S.2 ad o 37 [(0, .ref (ad 71)), (1, .int x1), (2, .int x2), (3, .int x3)] [] M (rc37 x1 x2 x3)) : ∀ (n : Nat) (x1 : Int32) (x2 : Int32) (x3 : Int32) (x4 : Int32), ph_J X S.1 S.2 ad o 56 [(0, .ref (ad 71)), (1, .int x1), (2, .int x2), (3, .int x3), (4, .int x4)] [] M (f0_factsKnownDeep_l56 S M rc37 n x1 x2 x3 x4) := by
  intro n
  induction n with
  | zero => intro x1 x2 x3 x4; exact j_none
  | succ n hrc56 =>
    intro x1 x2 x3 x4
    unfold f0_factsKnownDeep_l56
    refine j_iload h dX0_factsKnownDeep_56 4 rfl ?_
    refine j_bipush (v := (8 : Int32)) h dX0_factsKnownDeep_58 (by decide) ?_
    refine j_icmp_ge h 98 dX0_factsKnownDeep_60 (by decide) ?_ ?_
    · refine j_sub [0, 1, 2, 3] rfl ?_
      exact jb_f0_factsKnownDeep_j98 h fin hS hrc37 x1 x2 x3
    · refine j_iload_n h dX0_factsKnownDeep_63 rfl 2 rfl ?_
      refine j_iload h dX0_factsKnownDeep_64 4 rfl ?_
      refine j_callSiP (n := 2) (As := [.int x2, .int x4]) (rest := []) h tw_973 tw_454 tw_3 tw_455 ydf9_hasBit (by decide) (by decide) (fun q hq => cf9_hasBit (ph_okI h) hS hq) rfl (Nat.le_of_ble_eq_true rfl) rfl dX0_factsKnownDeep_66 (fun q2 => ?_)
      refine j_if_eq h 92 dX0_factsKnownDeep_69 (by decide) ?_ ?_
      · refine j_sub [0, 1, 2, 3, 4] rfl ?_
        exact jb_f0_factsKnownDeep_j92 h fin hS hrc37 hrc56 x1 x2 x3 x4
      · refine j_aload_n h dX0_factsKnownDeep_72 rfl 0 rfl ?_
        refine j_iload_n h dX0_factsKnownDeep_73 rfl 3 rfl ?_
        refine j_iload h dX0_factsKnownDeep_74 4 rfl ?_
        refine j_iload_n h dX0_factsKnownDeep_76 rfl 1 rfl ?_
        refine j_callViP (n := 3) (As := [.int x3, .int x4, .int x1]) (rest := []) h 71 tw_974 tw_976 tp_32 tw_9 tw_977 ydf0_isKnownOf (by decide) (by decide) (ph_xlt hS (by decide)) (ph_kc71 hS) rfl (fun q hq => cf0_isKnownOf (ph_okI h) hS hq) rfl (Nat.le_of_ble_eq_true rfl) rfl dX0_factsKnownDeep_77 (fun q3 => ?_)
        refine j_if_ne h 92 dX0_factsKnownDeep_80 (by decide) ?_ ?_
        · refine j_sub [0, 1, 2, 3, 4] rfl ?_
          exact jb_f0_factsKnownDeep_j92 h fin hS hrc37 hrc56 x1 x2 x3 x4
        · refine j_iload_n h dX0_factsKnownDeep_83 rfl 2 rfl ?_
          refine j_iconst (v := (1 : Int32)) h dX0_factsKnownDeep_84 (by decide) ?_
          refine j_iload h dX0_factsKnownDeep_85 4 rfl ?_
          refine j_ishl h dX0_factsKnownDeep_87 ?_
          refine j_iconst (v := (-1 : Int32)) h dX0_factsKnownDeep_88 (by decide) ?_
          refine j_ixor h dX0_factsKnownDeep_89 ?_
          refine j_iand h dX0_factsKnownDeep_90 ?_
          refine j_istore_n h [(2, .int (x2 &&& (((1 : Int32) <<< (x4 &&& 31)) ^^^ (-1 : Int32)))), (0, .ref (ad 71)), (1, .int x1), (3, .int x3), (4, .int x4)] dX0_factsKnownDeep_91 rfl (by decide) rfl ?_
          refine j_letI (lvf := fun z4 => [(2, .int z4), (0, .ref (ad 71)), (1, .int x1), (3, .int x3), (4, .int x4)]) (fun z4 => ?_)
          refine j_sub [1, 2, 0, 3, 4] rfl ?_
          exact jb_f0_factsKnownDeep_j92 h fin hS hrc37 hrc56 x1 z4 x3 x4
def f0_factsKnownDeep_l37 (S : ph_Sh) (M : ph_Mem) : Nat → Int32 → Int32 → Int32 → Option Int32
  | 0, _, _, _ => none
  | n + 1, x1, x2, x3 => if (M.1 11 1) ≤ x3 then (some x2) else (if x1 ≤ (1 : Int32) then (some x2) else (f0_factsKnownDeep_l56 S M (f0_factsKnownDeep_l37 S M n) 10000 x1 x2 x3 (0 : Int32)))
set_option maxHeartbeats 4000000 in
theorem jb_f0_factsKnownDeep_l37 {tb adK adV : Nat → Nat} {S : ph_Sh} {X : ph_X} {ad : Nat → Nat} {o : Int32} {M : ph_Mem} (h : ph_ok (ph_ZX tb adK adV) X cX0_factsKnownDeep RX0 (some .int) 5 4 S.2 ad) (fin : ph_fin X S.1 S.2 ad (some (.int o)) M) (hS : ph_SX S) : ∀ (n : Nat) (x1 : Int32) (x2 : Int32) (x3 : Int32), ph_J X S.1 S.2 ad o 37 [(0, .ref (ad 71)), (1, .int x1), (2, .int x2), (3, .int x3)] [] M (f0_factsKnownDeep_l37 S M n x1 x2 x3) := by
  intro n
  induction n with
  | zero => intro x1 x2 x3; exact j_none
  | succ n hrc37 =>
    intro x1 x2 x3
    unfold f0_factsKnownDeep_l37
    refine j_iload_n h dX0_factsKnownDeep_37 rfl 3 rfl ?_
    refine j_aload_n h dX0_factsKnownDeep_38 rfl 0 rfl ?_
    refine j_get (c := 71) (j := 0) (v := .ref (ad 11)) h (ph_xlt hS (by decide)) (ph_kc71 hS) rfl ph_inX0 rfl (by decide) tw_237 rfl rfl dX0_factsKnownDeep_39 ?_
    refine j_get (c := 11) (j := 1) (v := .int (M.1 11 1)) h (ph_xlt hS (by decide)) (ph_kc11 hS) rfl ph_inX9 rfl (by decide) tw_69 rfl rfl dX0_factsKnownDeep_42 ?_
    refine j_icmp_ge h 104 dX0_factsKnownDeep_45 (by decide) ?_ ?_
    · refine j_iload_n h dX0_factsKnownDeep_104 rfl 2 rfl ?_
      exact j_iretP h rfl fin dX0_factsKnownDeep_105
    · refine j_iload_n h dX0_factsKnownDeep_48 rfl 1 rfl ?_
      refine j_iconst (v := (1 : Int32)) h dX0_factsKnownDeep_49 (by decide) ?_
      refine j_icmp_le h 104 dX0_factsKnownDeep_50 (by decide) ?_ ?_
      · refine j_iload_n h dX0_factsKnownDeep_104 rfl 2 rfl ?_
        exact j_iretP h rfl fin dX0_factsKnownDeep_105
      · refine j_iconst (v := (0 : Int32)) h dX0_factsKnownDeep_53 (by decide) ?_
        refine j_istore h [(4, .int (0 : Int32)), (0, .ref (ad 71)), (1, .int x1), (2, .int x2), (3, .int x3)] dX0_factsKnownDeep_54 (by decide) rfl ?_
        refine j_sub [1, 2, 3, 4, 0] rfl ?_
        exact jb_f0_factsKnownDeep_l56 h fin hS hrc37 10000 x1 x2 x3 (0 : Int32)
def f0_factsKnownDeep_j35 (S : ph_Sh) (M : ph_Mem) (x1 : Int32) (x2 : Int32) : Option Int32 :=
  f0_factsKnownDeep_l37 S M 10000 x1 x2 (0 : Int32)
set_option maxHeartbeats 4000000 in
theorem jb_f0_factsKnownDeep_j35 {tb adK adV : Nat → Nat} {S : ph_Sh} {X : ph_X} {ad : Nat → Nat} {o : Int32} {M : ph_Mem} (h : ph_ok (ph_ZX tb adK adV) X cX0_factsKnownDeep RX0 (some .int) 5 4 S.2 ad) (fin : ph_fin X S.1 S.2 ad (some (.int o)) M) (hS : ph_SX S) : ∀ (x1 : Int32) (x2 : Int32), ph_J X S.1 S.2 ad o 35 [(0, .ref (ad 71)), (1, .int x1), (2, .int x2)] [] M (f0_factsKnownDeep_j35 S M x1 x2) := by
  intro x1 x2
  unfold f0_factsKnownDeep_j35
  refine j_iconst (v := (0 : Int32)) h dX0_factsKnownDeep_35 (by decide) ?_
  refine j_istore_n h [(3, .int (0 : Int32)), (0, .ref (ad 71)), (1, .int x1), (2, .int x2)] dX0_factsKnownDeep_36 rfl (by decide) rfl ?_
  refine j_sub [1, 2, 3, 0] rfl ?_
  exact jb_f0_factsKnownDeep_l37 h fin hS 10000 x1 x2 (0 : Int32)
def f0_factsKnownDeep_l6 (S : ph_Sh) (M : ph_Mem) : Nat → Int32 → Int32 → Int32 → Option Int32
  | 0, _, _, _ => none
  | n + 1, x1, x2, x3 => if (M.1 11 1) ≤ x3 then (f0_factsKnownDeep_j35 S M x1 x2) else ((f9_knownWithout S M 11 x3 (0 : Int32)).bind fun q1 => (f0_factsKnownDeep_l6 S M n) x1 (x2 &&& q1) (x3 + (1 : Int32)))
set_option maxHeartbeats 4000000 in
theorem jb_f0_factsKnownDeep_l6 {tb adK adV : Nat → Nat} {S : ph_Sh} {X : ph_X} {ad : Nat → Nat} {o : Int32} {M : ph_Mem} (h : ph_ok (ph_ZX tb adK adV) X cX0_factsKnownDeep RX0 (some .int) 5 4 S.2 ad) (fin : ph_fin X S.1 S.2 ad (some (.int o)) M) (hS : ph_SX S) : ∀ (n : Nat) (x1 : Int32) (x2 : Int32) (x3 : Int32), ph_J X S.1 S.2 ad o 6 [(0, .ref (ad 71)), (1, .int x1), (2, .int x2), (3, .int x3)] [] M (f0_factsKnownDeep_l6 S M n x1 x2 x3) := by
  intro n
  induction n with
  | zero => intro x1 x2 x3; exact j_none
  | succ n hrc6 =>
    intro x1 x2 x3
    unfold f0_factsKnownDeep_l6
    refine j_iload_n h dX0_factsKnownDeep_6 rfl 3 rfl ?_
    refine j_aload_n h dX0_factsKnownDeep_7 rfl 0 rfl ?_
    refine j_get (c := 71) (j := 0) (v := .ref (ad 11)) h (ph_xlt hS (by decide)) (ph_kc71 hS) rfl ph_inX0 rfl (by decide) tw_237 rfl rfl dX0_factsKnownDeep_8 ?_
    refine j_get (c := 11) (j := 1) (v := .int (M.1 11 1)) h (ph_xlt hS (by decide)) (ph_kc11 hS) rfl ph_inX9 rfl (by decide) tw_69 rfl rfl dX0_factsKnownDeep_11 ?_
    refine j_icmp_ge h 35 dX0_factsKnownDeep_14 (by decide) ?_ ?_
    · refine j_sub [0, 1, 2] rfl ?_
      exact jb_f0_factsKnownDeep_j35 h fin hS x1 x2
    · refine j_iload_n h dX0_factsKnownDeep_17 rfl 2 rfl ?_
      refine j_aload_n h dX0_factsKnownDeep_18 rfl 0 rfl ?_
      refine j_get (c := 71) (j := 0) (v := .ref (ad 11)) h (ph_xlt hS (by decide)) (ph_kc71 hS) rfl ph_inX0 rfl (by decide) tw_237 rfl rfl dX0_factsKnownDeep_19 ?_
      refine j_iload_n h dX0_factsKnownDeep_22 rfl 3 rfl ?_
      refine j_iconst (v := (0 : Int32)) h dX0_factsKnownDeep_23 (by decide) ?_
      refine j_callViP (n := 2) (As := [.int x3, .int (0 : Int32)]) (rest := [.int x2]) h 11 tw_972 tw_548 tw_549 tw_3 tw_550 ydf9_knownWithout (by decide) (by decide) (ph_xlt hS (by decide)) (ph_kc11 hS) rfl (fun q hq => cf9_knownWithout (ph_okI h) hS (by decide) hq) rfl (Nat.le_of_ble_eq_true rfl) rfl dX0_factsKnownDeep_24 (fun q1 => ?_)
      refine j_iand h dX0_factsKnownDeep_27 ?_
      refine j_istore_n h [(2, .int (x2 &&& q1)), (0, .ref (ad 71)), (1, .int x1), (3, .int x3)] dX0_factsKnownDeep_28 rfl (by decide) rfl ?_
      refine j_iinc h [(3, .int (x3 + (1 : Int32))), (2, .int (x2 &&& q1)), (0, .ref (ad 71)), (1, .int x1)] dX0_factsKnownDeep_29 3 rfl rfl (by decide) rfl ?_
      refine j_goto h 6 dX0_factsKnownDeep_32 (by decide) ?_
      refine j_sub [2, 3, 1, 0] rfl ?_
      exact hrc6 x1 (x2 &&& q1) (x3 + (1 : Int32))
theorem ydf0_factsKnownDeep : ph_yd yX0_factsKnownDeep 1 := ⟨by decide, by decide, by decide +kernel⟩
def f0_factsKnownDeep (S : ph_Sh) (M : ph_Mem) (p0 : Int32) : Option Int32 :=
  f0_factsKnownDeep_l6 S M 10000 p0 (255 : Int32) (0 : Int32)
set_option maxHeartbeats 4000000 in
theorem cf0_factsKnownDeep {tb adK adV : Nat → Nat} {S : ph_Sh} {l : Launch} {D : va_G} {cA : Nat → ClassId} {ad : Nat → Nat} (hinj : ∀ i j, i < S.2 → j < S.2 → ad i = ad j → i = j) (hS : ph_SX S) {M : ph_Mem} {p0 : Int32} {r : Int32} (hf : f0_factsKnownDeep S M p0 = some r) : ph_C (ph_ZX tb adK adV) l 4 yX0_factsKnownDeep cX0_factsKnownDeep 5 (some .int) D cA S.1 S.2 ad [.ref (ad 71), .int p0] M (some (.int r)) M := by
  refine ph_mk ph_ZX_ok hinj (by decide) (Nat.le_of_ble_eq_true rfl) fun X h fin hE => ?_
  refine (?_ : ph_J X S.1 S.2 ad (r : Int32) 0 [(0, .ref (ad 71)), (1, .int p0)] [] M (f0_factsKnownDeep S M p0)) hf
  unfold f0_factsKnownDeep
  refine j_sipush (v := (255 : Int32)) h dX0_factsKnownDeep_0 (by decide) ?_
  refine j_istore_n h [(2, .int (255 : Int32)), (0, .ref (ad 71)), (1, .int p0)] dX0_factsKnownDeep_3 rfl (by decide) rfl ?_
  refine j_iconst (v := (0 : Int32)) h dX0_factsKnownDeep_4 (by decide) ?_
  refine j_istore_n h [(3, .int (0 : Int32)), (2, .int (255 : Int32)), (0, .ref (ad 71)), (1, .int p0)] dX0_factsKnownDeep_5 rfl (by decide) rfl ?_
  refine j_sub [2, 3, 1, 0] rfl ?_
  exact jb_f0_factsKnownDeep_l6 h fin hS 10000 p0 (255 : Int32) (0 : Int32)
theorem dX0_isLie_0 : decode cX0_isLie 0 = .ok (.iload_n 2, 1) := by decide +kernel
theorem dX0_isLie_1 : decode cX0_isLie 1 = .ok (.iload_n 3, 1) := by decide +kernel
theorem dX0_isLie_2 : decode cX0_isLie 2 = .ok (.if_icmp .eq 57, 3) := by decide +kernel
theorem dX0_isLie_5 : decode cX0_isLie 5 = .ok (.aload_n 0, 1) := by decide +kernel
theorem dX0_isLie_6 : decode cX0_isLie 6 = .ok (.getfield 15, 3) := by decide +kernel
theorem dX0_isLie_9 : decode cX0_isLie 9 = .ok (.iload_n 2, 1) := by decide +kernel
theorem dX0_isLie_10 : decode cX0_isLie 10 = .ok (.iload_n 1, 1) := by decide +kernel
theorem dX0_isLie_11 : decode cX0_isLie 11 = .ok (.invokevirtual 43, 3) := by decide +kernel
theorem dX0_isLie_14 : decode cX0_isLie 14 = .ok (.ifCond .eq 45, 3) := by decide +kernel
theorem dX0_isLie_17 : decode cX0_isLie 17 = .ok (.aload_n 0, 1) := by decide +kernel
theorem dX0_isLie_18 : decode cX0_isLie 18 = .ok (.getfield 15, 3) := by decide +kernel
theorem dX0_isLie_21 : decode cX0_isLie 21 = .ok (.iload_n 3, 1) := by decide +kernel
theorem dX0_isLie_22 : decode cX0_isLie 22 = .ok (.iload_n 1, 1) := by decide +kernel
theorem dX0_isLie_23 : decode cX0_isLie 23 = .ok (.invokevirtual 43, 3) := by decide +kernel
theorem dX0_isLie_26 : decode cX0_isLie 26 = .ok (.ifCond .eq 33, 3) := by decide +kernel
theorem dX0_isLie_29 : decode cX0_isLie 29 = .ok (.aload_n 0, 1) := by decide +kernel
theorem dX0_isLie_30 : decode cX0_isLie 30 = .ok (.getfield 15, 3) := by decide +kernel
theorem dX0_isLie_33 : decode cX0_isLie 33 = .ok (.iload_n 2, 1) := by decide +kernel
theorem dX0_isLie_34 : decode cX0_isLie 34 = .ok (.iload_n 1, 1) := by decide +kernel
theorem dX0_isLie_35 : decode cX0_isLie 35 = .ok (.iload_n 3, 1) := by decide +kernel
theorem dX0_isLie_36 : decode cX0_isLie 36 = .ok (.invokevirtual 46, 3) := by decide +kernel
theorem dX0_isLie_39 : decode cX0_isLie 39 = .ok (.ifCond .eq 20, 3) := by decide +kernel
theorem dX0_isLie_42 : decode cX0_isLie 42 = .ok (.aload_n 0, 1) := by decide +kernel
theorem dX0_isLie_43 : decode cX0_isLie 43 = .ok (.getfield 15, 3) := by decide +kernel
theorem dX0_isLie_46 : decode cX0_isLie 46 = .ok (.iload_n 3, 1) := by decide +kernel
theorem dX0_isLie_47 : decode cX0_isLie 47 = .ok (.iload_n 1, 1) := by decide +kernel
theorem dX0_isLie_48 : decode cX0_isLie 48 = .ok (.iload_n 2, 1) := by decide +kernel
theorem dX0_isLie_49 : decode cX0_isLie 49 = .ok (.invokevirtual 46, 3) := by decide +kernel
theorem dX0_isLie_52 : decode cX0_isLie 52 = .ok (.ifCond .ne 7, 3) := by decide +kernel
theorem dX0_isLie_55 : decode cX0_isLie 55 = .ok (.iconst 1, 1) := by decide +kernel
theorem dX0_isLie_56 : decode cX0_isLie 56 = .ok (.goto 4, 3) := by decide +kernel
theorem dX0_isLie_59 : decode cX0_isLie 59 = .ok (.iconst 0, 1) := by decide +kernel
theorem dX0_isLie_60 : decode cX0_isLie 60 = .ok (.ireturn, 1) := by decide +kernel
theorem ydf0_isLie : ph_yd yX0_isLie 3 := ⟨by decide, by decide, by decide +kernel⟩
def f0_isLie (S : ph_Sh) (M : ph_Mem) (p0 : Int32) (p1 : Int32) (p2 : Int32) : Option Int32 :=
  if p1 = p2 then (some (0 : Int32)) else ((f9_holds S M 11 p1 p0).bind fun q1 => if q1 = 0 then (some (0 : Int32)) else ((f9_holds S M 11 p2 p0).bind fun q2 => if q2 = 0 then (some (0 : Int32)) else ((f9_wasWith S M 11 p1 p0 p2).bind fun q3 => if q3 = 0 then (some (0 : Int32)) else ((f9_wasWith S M 11 p2 p0 p1).bind fun q4 => if q4 = 0 then (some (1 : Int32)) else (some (0 : Int32))))))
set_option maxHeartbeats 4000000 in
theorem cf0_isLie {tb adK adV : Nat → Nat} {S : ph_Sh} {l : Launch} {D : va_G} {cA : Nat → ClassId} {ad : Nat → Nat} (hinj : ∀ i j, i < S.2 → j < S.2 → ad i = ad j → i = j) (hS : ph_SX S) {M : ph_Mem} {p0 : Int32} {p1 : Int32} {p2 : Int32} {r : Int32} (hf : f0_isLie S M p0 p1 p2 = some r) : ph_C (ph_ZX tb adK adV) l 2 yX0_isLie cX0_isLie 4 (some .boolean) D cA S.1 S.2 ad [.ref (ad 71), .int p0, .int p1, .int p2] M (some (.int r)) M := by
  refine ph_mk ph_ZX_ok hinj (by decide) (Nat.le_of_ble_eq_true rfl) fun X h fin hE => ?_
  refine (?_ : ph_J X S.1 S.2 ad (r : Int32) 0 [(0, .ref (ad 71)), (1, .int p0), (2, .int p1), (3, .int p2)] [] M (f0_isLie S M p0 p1 p2)) hf
  unfold f0_isLie
  refine j_iload_n h dX0_isLie_0 rfl 2 rfl ?_
  refine j_iload_n h dX0_isLie_1 rfl 3 rfl ?_
  refine j_icmp_eq h 59 dX0_isLie_2 (by decide) ?_ ?_
  · refine j_iconst (v := (0 : Int32)) h dX0_isLie_59 (by decide) ?_
    exact j_zretPC h rfl (by decide) fin dX0_isLie_60
  · refine j_aload_n h dX0_isLie_5 rfl 0 rfl ?_
    refine j_get (c := 71) (j := 0) (v := .ref (ad 11)) h (ph_xlt hS (by decide)) (ph_kc71 hS) rfl ph_inX0 rfl (by decide) tw_237 rfl rfl dX0_isLie_6 ?_
    refine j_iload_n h dX0_isLie_9 rfl 2 rfl ?_
    refine j_iload_n h dX0_isLie_10 rfl 1 rfl ?_
    refine j_callViP (n := 2) (As := [.int p1, .int p0]) (rest := []) h 11 tw_995 tw_552 tw_553 tw_3 tw_554 ydf9_holds (by decide) (by decide) (ph_xlt hS (by decide)) (ph_kc11 hS) rfl (fun q hq => cf9_holds (ph_okI h) hS (by decide) hq) rfl (Nat.le_of_ble_eq_true rfl) rfl dX0_isLie_11 (fun q1 => ?_)
    refine j_if_eq h 59 dX0_isLie_14 (by decide) ?_ ?_
    · refine j_iconst (v := (0 : Int32)) h dX0_isLie_59 (by decide) ?_
      exact j_zretPC h rfl (by decide) fin dX0_isLie_60
    · refine j_aload_n h dX0_isLie_17 rfl 0 rfl ?_
      refine j_get (c := 71) (j := 0) (v := .ref (ad 11)) h (ph_xlt hS (by decide)) (ph_kc71 hS) rfl ph_inX0 rfl (by decide) tw_237 rfl rfl dX0_isLie_18 ?_
      refine j_iload_n h dX0_isLie_21 rfl 3 rfl ?_
      refine j_iload_n h dX0_isLie_22 rfl 1 rfl ?_
      refine j_callViP (n := 2) (As := [.int p2, .int p0]) (rest := []) h 11 tw_995 tw_552 tw_553 tw_3 tw_554 ydf9_holds (by decide) (by decide) (ph_xlt hS (by decide)) (ph_kc11 hS) rfl (fun q hq => cf9_holds (ph_okI h) hS (by decide) hq) rfl (Nat.le_of_ble_eq_true rfl) rfl dX0_isLie_23 (fun q2 => ?_)
      refine j_if_eq h 59 dX0_isLie_26 (by decide) ?_ ?_
      · refine j_iconst (v := (0 : Int32)) h dX0_isLie_59 (by decide) ?_
        exact j_zretPC h rfl (by decide) fin dX0_isLie_60
      · refine j_aload_n h dX0_isLie_29 rfl 0 rfl ?_
        refine j_get (c := 71) (j := 0) (v := .ref (ad 11)) h (ph_xlt hS (by decide)) (ph_kc71 hS) rfl ph_inX0 rfl (by decide) tw_237 rfl rfl dX0_isLie_30 ?_
        refine j_iload_n h dX0_isLie_33 rfl 2 rfl ?_
        refine j_iload_n h dX0_isLie_34 rfl 1 rfl ?_
        refine j_iload_n h dX0_isLie_35 rfl 3 rfl ?_
        refine j_callViP (n := 3) (As := [.int p1, .int p0, .int p2]) (rest := []) h 11 tw_996 tw_948 tw_949 tw_3 tw_950 ydf9_wasWith (by decide) (by decide) (ph_xlt hS (by decide)) (ph_kc11 hS) rfl (fun q hq => cf9_wasWith (ph_okI h) hS (by decide) hq) rfl (Nat.le_of_ble_eq_true rfl) rfl dX0_isLie_36 (fun q3 => ?_)
        refine j_if_eq h 59 dX0_isLie_39 (by decide) ?_ ?_
        · refine j_iconst (v := (0 : Int32)) h dX0_isLie_59 (by decide) ?_
          exact j_zretPC h rfl (by decide) fin dX0_isLie_60
        · refine j_aload_n h dX0_isLie_42 rfl 0 rfl ?_
          refine j_get (c := 71) (j := 0) (v := .ref (ad 11)) h (ph_xlt hS (by decide)) (ph_kc71 hS) rfl ph_inX0 rfl (by decide) tw_237 rfl rfl dX0_isLie_43 ?_
          refine j_iload_n h dX0_isLie_46 rfl 3 rfl ?_
          refine j_iload_n h dX0_isLie_47 rfl 1 rfl ?_
          refine j_iload_n h dX0_isLie_48 rfl 2 rfl ?_
          refine j_callViP (n := 3) (As := [.int p2, .int p0, .int p1]) (rest := []) h 11 tw_996 tw_948 tw_949 tw_3 tw_950 ydf9_wasWith (by decide) (by decide) (ph_xlt hS (by decide)) (ph_kc11 hS) rfl (fun q hq => cf9_wasWith (ph_okI h) hS (by decide) hq) rfl (Nat.le_of_ble_eq_true rfl) rfl dX0_isLie_49 (fun q4 => ?_)
          refine j_if_ne h 59 dX0_isLie_52 (by decide) ?_ ?_
          · refine j_iconst (v := (0 : Int32)) h dX0_isLie_59 (by decide) ?_
            exact j_zretPC h rfl (by decide) fin dX0_isLie_60
          · refine j_iconst (v := (1 : Int32)) h dX0_isLie_55 (by decide) ?_
            refine j_goto h 60 dX0_isLie_56 (by decide) ?_
            exact j_zretPC h rfl (by decide) fin dX0_isLie_60
