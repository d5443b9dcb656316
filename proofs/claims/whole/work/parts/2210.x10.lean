theorem dX9_countAll_0 : decode cX9_countAll 0 = .ok (.iconst 0, 1) := by decide +kernel
theorem dX9_countAll_1 : decode cX9_countAll 1 = .ok (.istore_n 2, 1) := by decide +kernel
theorem dX9_countAll_2 : decode cX9_countAll 2 = .ok (.iconst 0, 1) := by decide +kernel
theorem dX9_countAll_3 : decode cX9_countAll 3 = .ok (.istore_n 3, 1) := by decide +kernel
theorem dX9_countAll_4 : decode cX9_countAll 4 = .ok (.iload_n 3, 1) := by decide +kernel
theorem dX9_countAll_5 : decode cX9_countAll 5 = .ok (.aload_n 0, 1) := by decide +kernel
theorem dX9_countAll_6 : decode cX9_countAll 6 = .ok (.getfield 71, 3) := by decide +kernel
theorem dX9_countAll_9 : decode cX9_countAll 9 = .ok (.if_icmp .ge 21, 3) := by decide +kernel
theorem dX9_countAll_12 : decode cX9_countAll 12 = .ok (.iload_n 2, 1) := by decide +kernel
theorem dX9_countAll_13 : decode cX9_countAll 13 = .ok (.aload_n 0, 1) := by decide +kernel
theorem dX9_countAll_14 : decode cX9_countAll 14 = .ok (.iload_n 1, 1) := by decide +kernel
theorem dX9_countAll_15 : decode cX9_countAll 15 = .ok (.iload_n 3, 1) := by decide +kernel
theorem dX9_countAll_16 : decode cX9_countAll 16 = .ok (.invokevirtual 92, 3) := by decide +kernel
theorem dX9_countAll_19 : decode cX9_countAll 19 = .ok (.invokestatic 95, 3) := by decide +kernel
theorem dX9_countAll_22 : decode cX9_countAll 22 = .ok (.iadd, 1) := by decide +kernel
theorem dX9_countAll_23 : decode cX9_countAll 23 = .ok (.istore_n 2, 1) := by decide +kernel
theorem dX9_countAll_24 : decode cX9_countAll 24 = .ok (.iinc 3 1, 3) := by decide +kernel
theorem dX9_countAll_27 : decode cX9_countAll 27 = .ok (.goto (-23), 3) := by decide +kernel
theorem dX9_countAll_30 : decode cX9_countAll 30 = .ok (.iload_n 2, 1) := by decide +kernel
theorem dX9_countAll_31 : decode cX9_countAll 31 = .ok (.ireturn, 1) := by decide +kernel
def f9_countAll_l4 (S : ph_Sh) (c : Nat) (M : ph_Mem) : Nat → Int32 → Int32 → Int32 → Option Int32
  | 0, _, _, _ => none
  | n + 1, x1, x2, x3 => if (M.1 c 1) ≤ x3 then (some x2) else ((f9_hoursThatAre S M c x1 x3).bind fun q1 => (f6_bitCount_0f7a4 S M q1).bind fun q2 => (f9_countAll_l4 S c M n) x1 (x2 + q2) (x3 + (1 : Int32)))
set_option maxHeartbeats 4000000 in
theorem jb_f9_countAll_l4 {tb adK adV : Nat → Nat} {S : ph_Sh} {c : Nat} {X : ph_X} {ad : Nat → Nat} {o : Int32} {M : ph_Mem} (h : ph_ok (ph_ZX tb adK adV) X cX9_countAll RX9 (some .int) 4 2 S.2 ad) (fin : ph_fin X S.1 S.2 ad (some (.int o)) M) (hS : ph_SX S) (hc : ph_isS c) : ∀ (n : Nat) (x1 : Int32) (x2 : Int32) (x3 : Int32), ph_J X S.1 S.2 ad o 4 [(0, .ref (ad c)), (1, .int x1), (2, .int x2), (3, .int x3)] [] M (f9_countAll_l4 S c M n x1 x2 x3) := by
  intro n
  induction n with
  | zero => intro x1 x2 x3; exact j_none
  | succ n hrc4 =>
    intro x1 x2 x3
    unfold f9_countAll_l4
    refine j_iload_n h dX9_countAll_4 rfl 3 rfl ?_
    refine j_aload_n h dX9_countAll_5 rfl 0 rfl ?_
    refine j_get (c := c) (j := 1) (v := .int (M.1 c 1)) h (ph_S0n hS hc) (ph_S0 hS hc) rfl ph_inX9 rfl (by decide) tw_64 rfl rfl dX9_countAll_6 ?_
    refine j_icmp_ge h 30 dX9_countAll_9 (by decide) ?_ ?_
    · refine j_iload_n h dX9_countAll_30 rfl 2 rfl ?_
      exact j_iretP h rfl fin dX9_countAll_31
    · refine j_iload_n h dX9_countAll_12 rfl 2 rfl ?_
      refine j_aload_n h dX9_countAll_13 rfl 0 rfl ?_
      refine j_iload_n h dX9_countAll_14 rfl 1 rfl ?_
      refine j_iload_n h dX9_countAll_15 rfl 3 rfl ?_
      refine j_callViP (n := 2) (As := [.int x1, .int x3]) (rest := [.int x2]) h c tw_1188 tw_543 tw_544 tw_3 tw_545 ydf9_hoursThatAre (by decide) (by decide) (ph_S0n hS hc) (ph_S0 hS hc) rfl (fun q hq => cf9_hoursThatAre (ph_okI h) hS hc hq) rfl (Nat.le_of_ble_eq_true rfl) rfl dX9_countAll_16 (fun q1 => ?_)
      refine j_callSiP (n := 1) (As := [.int q1]) (rest := [.int x2]) h tw_480 tw_481 tw_15 tw_482 ydf6_bitCount_0f7a4 (by decide) (by decide) (fun q hq => cf6_bitCount_0f7a4 (ph_okI h) trivial hq) rfl (Nat.le_of_ble_eq_true rfl) rfl dX9_countAll_19 (fun q2 => ?_)
      refine j_iadd h dX9_countAll_22 ?_
      refine j_istore_n h [(2, .int (x2 + q2)), (0, .ref (ad c)), (1, .int x1), (3, .int x3)] dX9_countAll_23 rfl (by decide) rfl ?_
      refine j_iinc h [(3, .int (x3 + (1 : Int32))), (2, .int (x2 + q2)), (0, .ref (ad c)), (1, .int x1)] dX9_countAll_24 3 rfl rfl (by decide) rfl ?_
      refine j_goto h 4 dX9_countAll_27 (by decide) ?_
      refine j_sub [2, 3, 1, 0] rfl ?_
      exact hrc4 x1 (x2 + q2) (x3 + (1 : Int32))
theorem ydf9_countAll : ph_yd yX9_countAll 1 := ⟨by decide, by decide, by decide +kernel⟩
def f9_countAll (S : ph_Sh) (M : ph_Mem) (c : Nat) (p0 : Int32) : Option Int32 :=
  f9_countAll_l4 S c M 10000 p0 (0 : Int32) (0 : Int32)
set_option maxHeartbeats 4000000 in
theorem cf9_countAll {tb adK adV : Nat → Nat} {S : ph_Sh} {c : Nat} {l : Launch} {D : va_G} {cA : Nat → ClassId} {ad : Nat → Nat} (hinj : ∀ i j, i < S.2 → j < S.2 → ad i = ad j → i = j) (hS : ph_SX S) (hc : ph_isS c) {M : ph_Mem} {p0 : Int32} {r : Int32} (hf : f9_countAll S M c p0 = some r) : ph_C (ph_ZX tb adK adV) l 2 yX9_countAll cX9_countAll 4 (some .int) D cA S.1 S.2 ad [.ref (ad c), .int p0] M (some (.int r)) M := by
  refine ph_mk ph_ZX_ok hinj (by decide) (Nat.le_of_ble_eq_true rfl) fun X h fin hE => ?_
  refine (?_ : ph_J X S.1 S.2 ad (r : Int32) 0 [(0, .ref (ad c)), (1, .int p0)] [] M (f9_countAll S M c p0)) hf
  unfold f9_countAll
  refine j_iconst (v := (0 : Int32)) h dX9_countAll_0 (by decide) ?_
  refine j_istore_n h [(2, .int (0 : Int32)), (0, .ref (ad c)), (1, .int p0)] dX9_countAll_1 rfl (by decide) rfl ?_
  refine j_iconst (v := (0 : Int32)) h dX9_countAll_2 (by decide) ?_
  refine j_istore_n h [(3, .int (0 : Int32)), (2, .int (0 : Int32)), (0, .ref (ad c)), (1, .int p0)] dX9_countAll_3 rfl (by decide) rfl ?_
  refine j_sub [2, 3, 1, 0] rfl ?_
  exact jb_f9_countAll_l4 h fin hS hc 10000 p0 (0 : Int32) (0 : Int32)
theorem dX9_latestPawnDay_0 : decode cX9_latestPawnDay 0 = .ok (.iconst (-1), 1) := by decide +kernel
theorem dX9_latestPawnDay_1 : decode cX9_latestPawnDay 1 = .ok (.istore_n 1, 1) := by decide +kernel
theorem dX9_latestPawnDay_2 : decode cX9_latestPawnDay 2 = .ok (.iconst 0, 1) := by decide +kernel
theorem dX9_latestPawnDay_3 : decode cX9_latestPawnDay 3 = .ok (.istore_n 2, 1) := by decide +kernel
theorem dX9_latestPawnDay_4 : decode cX9_latestPawnDay 4 = .ok (.iload_n 2, 1) := by decide +kernel
theorem dX9_latestPawnDay_5 : decode cX9_latestPawnDay 5 = .ok (.aload_n 0, 1) := by decide +kernel
theorem dX9_latestPawnDay_6 : decode cX9_latestPawnDay 6 = .ok (.getfield 71, 3) := by decide +kernel
theorem dX9_latestPawnDay_9 : decode cX9_latestPawnDay 9 = .ok (.bipush 12, 2) := by decide +kernel
theorem dX9_latestPawnDay_11 : decode cX9_latestPawnDay 11 = .ok (.imul, 1) := by decide +kernel
theorem dX9_latestPawnDay_12 : decode cX9_latestPawnDay 12 = .ok (.if_icmp .ge 20, 3) := by decide +kernel
theorem dX9_latestPawnDay_15 : decode cX9_latestPawnDay 15 = .ok (.iload_n 1, 1) := by decide +kernel
theorem dX9_latestPawnDay_16 : decode cX9_latestPawnDay 16 = .ok (.aload_n 0, 1) := by decide +kernel
theorem dX9_latestPawnDay_17 : decode cX9_latestPawnDay 17 = .ok (.getfield 30, 3) := by decide +kernel
theorem dX9_latestPawnDay_20 : decode cX9_latestPawnDay 20 = .ok (.iload_n 2, 1) := by decide +kernel
theorem dX9_latestPawnDay_21 : decode cX9_latestPawnDay 21 = .ok (.iaload, 1) := by decide +kernel
theorem dX9_latestPawnDay_22 : decode cX9_latestPawnDay 22 = .ok (.invokestatic 101, 3) := by decide +kernel
theorem dX9_latestPawnDay_25 : decode cX9_latestPawnDay 25 = .ok (.istore_n 1, 1) := by decide +kernel
theorem dX9_latestPawnDay_26 : decode cX9_latestPawnDay 26 = .ok (.iinc 2 1, 3) := by decide +kernel
theorem dX9_latestPawnDay_29 : decode cX9_latestPawnDay 29 = .ok (.goto (-25), 3) := by decide +kernel
theorem dX9_latestPawnDay_32 : decode cX9_latestPawnDay 32 = .ok (.iload_n 1, 1) := by decide +kernel
theorem dX9_latestPawnDay_33 : decode cX9_latestPawnDay 33 = .ok (.ireturn, 1) := by decide +kernel
def f9_latestPawnDay_l4 (S : ph_Sh) (c : Nat) (M : ph_Mem) : Nat → Int32 → Int32 → Option Int32
  | 0, _, _ => none
  | n + 1, x1, x2 => if ((M.1 c 1) * (12 : Int32)) ≤ x2 then (some x1) else (cond (ph_ib x2 72) ((f9_max_7cf53 S M x1 (M.1 (c + 7) x2.toNatClampNeg)).bind fun q1 => (f9_latestPawnDay_l4 S c M n) q1 (x2 + (1 : Int32))) none)
set_option maxHeartbeats 4000000 in
theorem jb_f9_latestPawnDay_l4 {tb adK adV : Nat → Nat} {S : ph_Sh} {c : Nat} {X : ph_X} {ad : Nat → Nat} {o : Int32} {M : ph_Mem} (h : ph_ok (ph_ZX tb adK adV) X cX9_latestPawnDay RX9 (some .int) 3 1 S.2 ad) (fin : ph_fin X S.1 S.2 ad (some (.int o)) M) (hS : ph_SX S) (hc : ph_isS c) : ∀ (n : Nat) (x1 : Int32) (x2 : Int32), ph_J X S.1 S.2 ad o 4 [(0, .ref (ad c)), (1, .int x1), (2, .int x2)] [] M (f9_latestPawnDay_l4 S c M n x1 x2) := by
  intro n
  induction n with
  | zero => intro x1 x2; exact j_none
  | succ n hrc4 =>
    intro x1 x2
    unfold f9_latestPawnDay_l4
    refine j_iload_n h dX9_latestPawnDay_4 rfl 2 rfl ?_
    refine j_aload_n h dX9_latestPawnDay_5 rfl 0 rfl ?_
    refine j_get (c := c) (j := 1) (v := .int (M.1 c 1)) h (ph_S0n hS hc) (ph_S0 hS hc) rfl ph_inX9 rfl (by decide) tw_64 rfl rfl dX9_latestPawnDay_6 ?_
    refine j_bipush (v := (12 : Int32)) h dX9_latestPawnDay_9 (by decide) ?_
    refine j_imul h dX9_latestPawnDay_11 ?_
    refine j_icmp_ge h 32 dX9_latestPawnDay_12 (by decide) ?_ ?_
    · refine j_iload_n h dX9_latestPawnDay_32 rfl 1 rfl ?_
      exact j_iretP h rfl fin dX9_latestPawnDay_33
    · refine j_iload_n h dX9_latestPawnDay_15 rfl 1 rfl ?_
      refine j_aload_n h dX9_latestPawnDay_16 rfl 0 rfl ?_
      refine j_get (c := c) (j := 8) (v := .ref (ad (c + 7))) h (ph_S0n hS hc) (ph_S0 hS hc) rfl ph_inX9 rfl (by decide) tw_90 rfl rfl dX9_latestPawnDay_17 ?_
      refine j_iload_n h dX9_latestPawnDay_20 rfl 2 rfl ?_
      refine j_iald (c := (c + 7)) (n := 72) h (ph_S7n hS hc) (ph_S7 hS hc) dX9_latestPawnDay_21 ?_
      refine j_callSiP (n := 2) (As := [.int x1, .int (M.1 (c + 7) x2.toNatClampNeg)]) (rest := []) h tw_576 tw_517 tw_16 tw_518 ydf9_max_7cf53 (by decide) (by decide) (fun q hq => cf9_max_7cf53 (ph_okI h) trivial hq) rfl (Nat.le_of_ble_eq_true rfl) rfl dX9_latestPawnDay_22 (fun q1 => ?_)
      refine j_istore_n h [(1, .int q1), (0, .ref (ad c)), (2, .int x2)] dX9_latestPawnDay_25 rfl (by decide) rfl ?_
      refine j_iinc h [(2, .int (x2 + (1 : Int32))), (1, .int q1), (0, .ref (ad c))] dX9_latestPawnDay_26 2 rfl rfl (by decide) rfl ?_
      refine j_goto h 4 dX9_latestPawnDay_29 (by decide) ?_
      refine j_sub [2, 1, 0] rfl ?_
      exact hrc4 q1 (x2 + (1 : Int32))
theorem ydf9_latestPawnDay : ph_yd yX9_latestPawnDay 0 := ⟨by decide, by decide, by decide +kernel⟩
def f9_latestPawnDay (S : ph_Sh) (M : ph_Mem) (c : Nat) : Option Int32 :=
  f9_latestPawnDay_l4 S c M 10000 (-1 : Int32) (0 : Int32)
set_option maxHeartbeats 4000000 in
theorem cf9_latestPawnDay {tb adK adV : Nat → Nat} {S : ph_Sh} {c : Nat} {l : Launch} {D : va_G} {cA : Nat → ClassId} {ad : Nat → Nat} (hinj : ∀ i j, i < S.2 → j < S.2 → ad i = ad j → i = j) (hS : ph_SX S) (hc : ph_isS c) {M : ph_Mem} {r : Int32} (hf : f9_latestPawnDay S M c = some r) : ph_C (ph_ZX tb adK adV) l 1 yX9_latestPawnDay cX9_latestPawnDay 3 (some .int) D cA S.1 S.2 ad [.ref (ad c)] M (some (.int r)) M := by
  refine ph_mk ph_ZX_ok hinj (by decide) (Nat.le_of_ble_eq_true rfl) fun X h fin hE => ?_
  refine (?_ : ph_J X S.1 S.2 ad (r : Int32) 0 [(0, .ref (ad c))] [] M (f9_latestPawnDay S M c)) hf
  unfold f9_latestPawnDay
  refine j_iconst (v := (-1 : Int32)) h dX9_latestPawnDay_0 (by decide) ?_
  refine j_istore_n h [(1, .int (-1 : Int32)), (0, .ref (ad c))] dX9_latestPawnDay_1 rfl (by decide) rfl ?_
  refine j_iconst (v := (0 : Int32)) h dX9_latestPawnDay_2 (by decide) ?_
  refine j_istore_n h [(2, .int (0 : Int32)), (1, .int (-1 : Int32)), (0, .ref (ad c))] dX9_latestPawnDay_3 rfl (by decide) rfl ?_
  refine j_sub [2, 1, 0] rfl ?_
  exact jb_f9_latestPawnDay_l4 h fin hS hc 10000 (-1 : Int32) (0 : Int32)
theorem dX9_tryAuction_0 : decode cX9_tryAuction 0 = .ok (.iload_n 1, 1) := by decide +kernel
theorem dX9_tryAuction_1 : decode cX9_tryAuction 1 = .ok (.iload_n 2, 1) := by decide +kernel
theorem dX9_tryAuction_2 : decode cX9_tryAuction 2 = .ok (.invokestatic 88, 3) := by decide +kernel
theorem dX9_tryAuction_5 : decode cX9_tryAuction 5 = .ok (.istore 4, 2) := by decide +kernel
theorem dX9_tryAuction_7 : decode cX9_tryAuction 7 = .ok (.aload_n 0, 1) := by decide +kernel
theorem dX9_tryAuction_8 : decode cX9_tryAuction 8 = .ok (.getfield 24, 3) := by decide +kernel
theorem dX9_tryAuction_11 : decode cX9_tryAuction 11 = .ok (.iload 4, 2) := by decide +kernel
theorem dX9_tryAuction_13 : decode cX9_tryAuction 13 = .ok (.iaload, 1) := by decide +kernel
theorem dX9_tryAuction_14 : decode cX9_tryAuction 14 = .ok (.iconst 1, 1) := by decide +kernel
theorem dX9_tryAuction_15 : decode cX9_tryAuction 15 = .ok (.if_icmp .ne 26, 3) := by decide +kernel
theorem dX9_tryAuction_18 : decode cX9_tryAuction 18 = .ok (.aload_n 0, 1) := by decide +kernel
theorem dX9_tryAuction_19 : decode cX9_tryAuction 19 = .ok (.getfield 39, 3) := by decide +kernel
theorem dX9_tryAuction_22 : decode cX9_tryAuction 22 = .ok (.iconst 0, 1) := by decide +kernel
theorem dX9_tryAuction_23 : decode cX9_tryAuction 23 = .ok (.iaload, 1) := by decide +kernel
theorem dX9_tryAuction_24 : decode cX9_tryAuction 24 = .ok (.aload_n 0, 1) := by decide +kernel
theorem dX9_tryAuction_25 : decode cX9_tryAuction 25 = .ok (.getfield 30, 3) := by decide +kernel
theorem dX9_tryAuction_28 : decode cX9_tryAuction 28 = .ok (.iload 4, 2) := by decide +kernel
theorem dX9_tryAuction_30 : decode cX9_tryAuction 30 = .ok (.iaload, 1) := by decide +kernel
theorem dX9_tryAuction_31 : decode cX9_tryAuction 31 = .ok (.isub, 1) := by decide +kernel
theorem dX9_tryAuction_32 : decode cX9_tryAuction 32 = .ok (.aload_n 0, 1) := by decide +kernel
theorem dX9_tryAuction_33 : decode cX9_tryAuction 33 = .ok (.getfield 39, 3) := by decide +kernel
theorem dX9_tryAuction_36 : decode cX9_tryAuction 36 = .ok (.iconst 2, 1) := by decide +kernel
theorem dX9_tryAuction_37 : decode cX9_tryAuction 37 = .ok (.iaload, 1) := by decide +kernel
theorem dX9_tryAuction_38 : decode cX9_tryAuction 38 = .ok (.if_icmp .ge 6, 3) := by decide +kernel
theorem dX9_tryAuction_41 : decode cX9_tryAuction 41 = .ok (.bipush (-3), 2) := by decide +kernel
theorem dX9_tryAuction_43 : decode cX9_tryAuction 43 = .ok (.ireturn, 1) := by decide +kernel
theorem dX9_tryAuction_44 : decode cX9_tryAuction 44 = .ok (.aload_n 0, 1) := by decide +kernel
theorem dX9_tryAuction_45 : decode cX9_tryAuction 45 = .ok (.getfield 27, 3) := by decide +kernel
theorem dX9_tryAuction_48 : decode cX9_tryAuction 48 = .ok (.iload 4, 2) := by decide +kernel
theorem dX9_tryAuction_50 : decode cX9_tryAuction 50 = .ok (.iaload, 1) := by decide +kernel
theorem dX9_tryAuction_51 : decode cX9_tryAuction 51 = .ok (.istore 5, 2) := by decide +kernel
theorem dX9_tryAuction_53 : decode cX9_tryAuction 53 = .ok (.aload_n 3, 1) := by decide +kernel
theorem dX9_tryAuction_54 : decode cX9_tryAuction 54 = .ok (.iconst 3, 1) := by decide +kernel
theorem dX9_tryAuction_55 : decode cX9_tryAuction 55 = .ok (.iload 4, 2) := by decide +kernel
theorem dX9_tryAuction_57 : decode cX9_tryAuction 57 = .ok (.aload_n 0, 1) := by decide +kernel
theorem dX9_tryAuction_58 : decode cX9_tryAuction 58 = .ok (.invokevirtual 153, 3) := by decide +kernel
theorem dX9_tryAuction_61 : decode cX9_tryAuction 61 = .ok (.aload_n 0, 1) := by decide +kernel
theorem dX9_tryAuction_62 : decode cX9_tryAuction 62 = .ok (.iload 4, 2) := by decide +kernel
theorem dX9_tryAuction_64 : decode cX9_tryAuction 64 = .ok (.iconst 2, 1) := by decide +kernel
theorem dX9_tryAuction_65 : decode cX9_tryAuction 65 = .ok (.iconst (-1), 1) := by decide +kernel
theorem dX9_tryAuction_66 : decode cX9_tryAuction 66 = .ok (.iconst (-1), 1) := by decide +kernel
theorem dX9_tryAuction_67 : decode cX9_tryAuction 67 = .ok (.invokevirtual 162, 3) := by decide +kernel
theorem dX9_tryAuction_70 : decode cX9_tryAuction 70 = .ok (.iload 5, 2) := by decide +kernel
theorem dX9_tryAuction_72 : decode cX9_tryAuction 72 = .ok (.ireturn, 1) := by decide +kernel
theorem ydf9_tryAuction : ph_yd yX9_tryAuction 3 := ⟨by decide, by decide, by decide +kernel⟩
def f9_tryAuction (S : ph_Sh) (M : ph_Mem) (c : Nat) (p0 : Int32) (p1 : Int32) (p2 : Nat) : Option (Int32 × ph_Mem) :=
  (f11_placeOf S M p0 p1).bind fun q1 => cond (ph_ib q1 72) (if (M.1 (c + 5) q1.toNatClampNeg) = (1 : Int32) then (cond (ph_ib q1 72) (if (M.1 (c + 10) 2) ≤ ((M.1 (c + 10) 0) - (M.1 (c + 7) q1.toNatClampNeg)) then (cond (ph_ib q1 72) (ph_let (M.1 (c + 6) q1.toNatClampNeg) fun z2 => (f1_add S M p2 (3 : Int32) q1 c).bind fun q3 => (f9_setState S q3 c q1 (2 : Int32) (-1 : Int32) (-1 : Int32)).bind fun q4 => some (z2, q4)) none) else (some ((-3 : Int32), M))) none) else (some ((-3 : Int32), M))) none
set_option maxHeartbeats 4000000 in
theorem cf9_tryAuction {tb adK adV : Nat → Nat} {S : ph_Sh} {c : Nat} {p2 : Nat} {l : Launch} {D : va_G} {cA : Nat → ClassId} {ad : Nat → Nat} (hinj : ∀ i j, i < S.2 → j < S.2 → ad i = ad j → i = j) (hS : ph_SX S) (hc : ph_isS c) (hp2 : ph_isL p2) {M : ph_Mem} {p0 : Int32} {p1 : Int32} {r : Int32} {M' : ph_Mem} (hf : f9_tryAuction S M c p0 p1 p2 = some (r, M')) : ph_C (ph_ZX tb adK adV) l 2 yX9_tryAuction cX9_tryAuction 6 (some .int) D cA S.1 S.2 ad [.ref (ad c), .int p0, .int p1, .ref (ad p2)] M (some (.int r)) M' := by
  refine ph_mk ph_ZX_ok hinj (by decide) (Nat.le_of_ble_eq_true rfl) fun X h fin hE => ?_
  refine (?_ : ph_J X S.1 S.2 ad ((r, M') : (Int32 × ph_Mem)) 0 [(0, .ref (ad c)), (1, .int p0), (2, .int p1), (3, .ref (ad p2))] [] M (f9_tryAuction S M c p0 p1 p2)) hf
  unfold f9_tryAuction
  refine j_iload_n h dX9_tryAuction_0 rfl 1 rfl ?_
  refine j_iload_n h dX9_tryAuction_1 rfl 2 rfl ?_
  refine j_callNiP (n := 2) (As := [.int p0, .int p1]) (rest := []) h (by decide +kernel) tw_461 tw_1 tw_462 ydf11_placeOf (by decide) (by decide) (fun q hq => cf11_placeOf (ph_okI h) hS hq) rfl (Nat.le_of_ble_eq_true rfl) rfl dX9_tryAuction_2 (fun q1 => ?_)
  refine j_istore h [(4, .int q1), (0, .ref (ad c)), (1, .int p0), (2, .int p1), (3, .ref (ad p2))] dX9_tryAuction_5 (by decide) rfl ?_
  refine j_aload_n h dX9_tryAuction_7 rfl 1 rfl ?_
  refine j_get (c := c) (j := 6) (v := .ref (ad (c + 5))) h (ph_S0n hS hc) (ph_S0 hS hc) rfl ph_inX9 rfl (by decide) tw_84 rfl rfl dX9_tryAuction_8 ?_
  refine j_iload h dX9_tryAuction_11 0 rfl ?_
  refine j_iald (c := (c + 5)) (n := 72) h (ph_S5n hS hc) (ph_S5 hS hc) dX9_tryAuction_13 ?_
  refine j_iconst (v := (1 : Int32)) h dX9_tryAuction_14 (by decide) ?_
  refine j_icmp_ne h 41 dX9_tryAuction_15 (by decide) ?_ ?_
  · refine j_bipush (v := (-3 : Int32)) h dX9_tryAuction_41 (by decide) ?_
    exact j_iret h rfl fin dX9_tryAuction_43
  · refine j_aload_n h dX9_tryAuction_18 rfl 1 rfl ?_
    refine j_get (c := c) (j := 11) (v := .ref (ad (c + 10))) h (ph_S0n hS hc) (ph_S0 hS hc) rfl ph_inX9 rfl (by decide) tw_98 rfl rfl dX9_tryAuction_19 ?_
    refine j_iconst (v := (0 : Int32)) h dX9_tryAuction_22 (by decide) ?_
    refine j_ialdK (c := (c + 10)) (n := 5) (kn := 0) h (ph_S10n hS hc) (ph_S10 hS hc) rfl (by decide) dX9_tryAuction_23 ?_
    refine j_aload_n h dX9_tryAuction_24 rfl 1 rfl ?_
    refine j_get (c := c) (j := 8) (v := .ref (ad (c + 7))) h (ph_S0n hS hc) (ph_S0 hS hc) rfl ph_inX9 rfl (by decide) tw_90 rfl rfl dX9_tryAuction_25 ?_
    refine j_iload h dX9_tryAuction_28 0 rfl ?_
    refine j_iald (c := (c + 7)) (n := 72) h (ph_S7n hS hc) (ph_S7 hS hc) dX9_tryAuction_30 ?_
    refine j_isub h dX9_tryAuction_31 ?_
    refine j_aload_n h dX9_tryAuction_32 rfl 1 rfl ?_
    refine j_get (c := c) (j := 11) (v := .ref (ad (c + 10))) h (ph_S0n hS hc) (ph_S0 hS hc) rfl ph_inX9 rfl (by decide) tw_98 rfl rfl dX9_tryAuction_33 ?_
    refine j_iconst (v := (2 : Int32)) h dX9_tryAuction_36 (by decide) ?_
    refine j_ialdK (c := (c + 10)) (n := 5) (kn := 2) h (ph_S10n hS hc) (ph_S10 hS hc) rfl (by decide) dX9_tryAuction_37 ?_
    refine j_icmp_ge h 44 dX9_tryAuction_38 (by decide) ?_ ?_
    · refine j_aload_n h dX9_tryAuction_44 rfl 1 rfl ?_
      refine j_get (c := c) (j := 7) (v := .ref (ad (c + 6))) h (ph_S0n hS hc) (ph_S0 hS hc) rfl ph_inX9 rfl (by decide) tw_87 rfl rfl dX9_tryAuction_45 ?_
      refine j_iload h dX9_tryAuction_48 0 rfl ?_
      refine j_iald (c := (c + 6)) (n := 72) h (ph_S6n hS hc) (ph_S6 hS hc) dX9_tryAuction_50 ?_
      refine j_istore h [(5, .int (M.1 (c + 6) q1.toNatClampNeg)), (4, .int q1), (0, .ref (ad c)), (1, .int p0), (2, .int p1), (3, .ref (ad p2))] dX9_tryAuction_51 (by decide) rfl ?_
      refine j_letI (lvf := fun z2 => [(5, .int z2), (4, .int q1), (0, .ref (ad c)), (1, .int p0), (2, .int p1), (3, .ref (ad p2))]) (fun z2 => ?_)
      refine j_aload_n h dX9_tryAuction_53 rfl 5 rfl ?_
      refine j_iconst (v := (3 : Int32)) h dX9_tryAuction_54 (by decide) ?_
      refine j_iload h dX9_tryAuction_55 1 rfl ?_
      refine j_aload_n h dX9_tryAuction_57 rfl 2 rfl ?_
      refine j_callVv (n := 3) (As := [.int (3 : Int32), .int q1, .ref (ad c)]) (rest := []) h p2 tw_865 tw_866 tw_867 tw_6 tw_868 ydf1_add (by decide) (by decide) (ph_L0n hS hp2) (ph_L0 hS hp2) rfl (fun q hq => cf1_add (ph_okI h) hS hp2 hc hq) rfl (Nat.le_of_ble_eq_true rfl) rfl dX9_tryAuction_58 (fun q3 => ?_)
      refine j_aload_n h dX9_tryAuction_61 rfl 2 rfl ?_
      refine j_iload h dX9_tryAuction_62 1 rfl ?_
      refine j_iconst (v := (2 : Int32)) h dX9_tryAuction_64 (by decide) ?_
      refine j_iconst (v := (-1 : Int32)) h dX9_tryAuction_65 (by decide) ?_
      refine j_iconst (v := (-1 : Int32)) h dX9_tryAuction_66 (by decide) ?_
      refine j_callVv (n := 4) (As := [.int q1, .int (2 : Int32), .int (-1 : Int32), .int (-1 : Int32)]) (rest := []) h c tw_879 tw_880 tw_881 tw_3 tw_882 ydf9_setState (by decide) (by decide) (ph_S0n hS hc) (ph_S0 hS hc) rfl (fun q hq => cf9_setState (ph_okI h) hS hc hq) rfl (Nat.le_of_ble_eq_true rfl) rfl dX9_tryAuction_67 (fun q4 => ?_)
      refine j_iload h dX9_tryAuction_70 0 rfl ?_
      exact j_iret h rfl fin dX9_tryAuction_72
    · refine j_bipush (v := (-3 : Int32)) h dX9_tryAuction_41 (by decide) ?_
      exact j_iret h rfl fin dX9_tryAuction_43
theorem dX10_draw_0 : decode cX10_draw 0 = .ok (.aload_n 0, 1) := by decide +kernel
theorem dX10_draw_1 : decode cX10_draw 1 = .ok (.aload_n 0, 1) := by decide +kernel
theorem dX10_draw_2 : decode cX10_draw 2 = .ok (.getfield 21, 3) := by decide +kernel
theorem dX10_draw_5 : decode cX10_draw 5 = .ok (.ldc2_w 54, 3) := by decide +kernel
theorem dX10_draw_8 : decode cX10_draw 8 = .ok (.lmul, 1) := by decide +kernel
theorem dX10_draw_9 : decode cX10_draw 9 = .ok (.ldc2_w 56, 3) := by decide +kernel
theorem dX10_draw_12 : decode cX10_draw 12 = .ok (.ladd, 1) := by decide +kernel
theorem dX10_draw_13 : decode cX10_draw 13 = .ok (.ldc2_w 58, 3) := by decide +kernel
theorem dX10_draw_16 : decode cX10_draw 16 = .ok (.lrem, 1) := by decide +kernel
theorem dX10_draw_17 : decode cX10_draw 17 = .ok (.putfield 21, 3) := by decide +kernel
theorem dX10_draw_20 : decode cX10_draw 20 = .ok (.iload_n 1, 1) := by decide +kernel
theorem dX10_draw_21 : decode cX10_draw 21 = .ok (.iconst 1, 1) := by decide +kernel
theorem dX10_draw_22 : decode cX10_draw 22 = .ok (.if_icmp .ge 7, 3) := by decide +kernel
theorem dX10_draw_25 : decode cX10_draw 25 = .ok (.iconst 0, 1) := by decide +kernel
theorem dX10_draw_26 : decode cX10_draw 26 = .ok (.goto 11, 3) := by decide +kernel
theorem dX10_draw_29 : decode cX10_draw 29 = .ok (.aload_n 0, 1) := by decide +kernel
theorem dX10_draw_30 : decode cX10_draw 30 = .ok (.getfield 21, 3) := by decide +kernel
theorem dX10_draw_33 : decode cX10_draw 33 = .ok (.iload_n 1, 1) := by decide +kernel
theorem dX10_draw_34 : decode cX10_draw 34 = .ok (.i2l, 1) := by decide +kernel
theorem dX10_draw_35 : decode cX10_draw 35 = .ok (.lrem, 1) := by decide +kernel
theorem dX10_draw_36 : decode cX10_draw 36 = .ok (.l2i, 1) := by decide +kernel
theorem dX10_draw_37 : decode cX10_draw 37 = .ok (.ireturn, 1) := by decide +kernel
theorem ydf10_draw : ph_yd yX10_draw 1 := ⟨by decide, by decide, by decide +kernel⟩
def f10_draw (S : ph_Sh) (M : ph_Mem) (p0 : Int32) : Option (Int32 × ph_Mem) :=
  ph_let (ph_wl M 84 4 ((((M.2.1 84 4) * (1103 : Int64)) + (12345 : Int64)) - (((M.2.1 84 4) * (1103 : Int64)) + (12345 : Int64)) / (1000003 : Int64) * (1000003 : Int64))) fun M1 => if (1 : Int32) ≤ p0 then (if p0.toInt64 = 0 then none else some (((M1.2.1 84 4) - (M1.2.1 84 4) / p0.toInt64 * p0.toInt64).toInt32, M1)) else (some ((0 : Int32), M1))
set_option maxHeartbeats 4000000 in
theorem cf10_draw {tb adK adV : Nat → Nat} {S : ph_Sh} {l : Launch} {D : va_G} {cA : Nat → ClassId} {ad : Nat → Nat} (hinj : ∀ i j, i < S.2 → j < S.2 → ad i = ad j → i = j) (hS : ph_SX S) {M : ph_Mem} {p0 : Int32} {r : Int32} {M' : ph_Mem} (hf : f10_draw S M p0 = some (r, M')) : ph_C (ph_ZX tb adK adV) l 0 yX10_draw cX10_draw 2 (some .int) D cA S.1 S.2 ad [.ref (ad 84), .int p0] M (some (.int r)) M' := by
  refine ph_mk ph_ZX_ok hinj (by decide) (Nat.le_of_ble_eq_true rfl) fun X h fin hE => ?_
  refine (?_ : ph_J X S.1 S.2 ad ((r, M') : (Int32 × ph_Mem)) 0 [(0, .ref (ad 84)), (1, .int p0)] [] M (f10_draw S M p0)) hf
  unfold f10_draw
  refine j_aload_n h dX10_draw_0 rfl 0 rfl ?_
  refine j_aload_n h dX10_draw_1 rfl 0 rfl ?_
  refine j_get (c := 84) (j := 4) (v := .long (M.2.1 84 4)) h (ph_xlt hS (by decide)) (ph_kc84 hS) rfl ph_inX10 rfl (by decide) tw_349 rfl rfl dX10_draw_2 ?_
  refine j_ldc2 (v := (1103 : Int64)) h dX10_draw_5 tw_1155 ?_
  refine j_lmul h dX10_draw_8 ?_
  refine j_ldc2 (v := (12345 : Int64)) h dX10_draw_9 tw_1156 ?_
  refine j_ladd h dX10_draw_12 ?_
  refine j_ldc2 (v := (1000003 : Int64)) h dX10_draw_13 tw_1157 ?_
  refine j_lremK h dX10_draw_16 (by decide) ?_
  refine j_putl (c := 84) (j := 4)  h (ph_xlt hS (by decide)) (ph_kc84 hS) rfl ph_inX10 tyX10 tyX10_ok nmX10 rfl (by decide) tw_349 rfl rfl (tyX10_ok 4 (by decide)) dX10_draw_17 ?_
  refine j_letM (fun M1 => ?_)
  refine j_iload_n h dX10_draw_20 rfl 1 rfl ?_
  refine j_iconst (v := (1 : Int32)) h dX10_draw_21 (by decide) ?_
  refine j_icmp_ge h 29 dX10_draw_22 (by decide) ?_ ?_
  · refine j_aload_n h dX10_draw_29 rfl 0 rfl ?_
    refine j_get (c := 84) (j := 4) (v := .long (M1.2.1 84 4)) h (ph_xlt hS (by decide)) (ph_kc84 hS) rfl ph_inX10 rfl (by decide) tw_349 rfl rfl dX10_draw_30 ?_
    refine j_iload_n h dX10_draw_33 rfl 1 rfl ?_
    refine j_i2l h dX10_draw_34 ?_
    refine j_lrem h dX10_draw_35 ?_
    refine j_l2i h dX10_draw_36 ?_
    exact j_iret h rfl fin dX10_draw_37
  · refine j_iconst (v := (0 : Int32)) h dX10_draw_25 (by decide) ?_
    refine j_goto h 37 dX10_draw_26 (by decide) ?_
    exact j_iret h rfl fin dX10_draw_37
theorem dX10_keep_0 : decode cX10_keep 0 = .ok (.aload_n 0, 1) := by decide +kernel
theorem dX10_keep_1 : decode cX10_keep 1 = .ok (.aload_n 1, 1) := by decide +kernel
theorem dX10_keep_2 : decode cX10_keep 2 = .ok (.getfield 25, 3) := by decide +kernel
theorem dX10_keep_5 : decode cX10_keep 5 = .ok (.putfield 60, 3) := by decide +kernel
theorem dX10_keep_8 : decode cX10_keep 8 = .ok (.iconst 0, 1) := by decide +kernel
theorem dX10_keep_9 : decode cX10_keep 9 = .ok (.istore_n 2, 1) := by decide +kernel
theorem dX10_keep_10 : decode cX10_keep 10 = .ok (.iload_n 2, 1) := by decide +kernel
theorem dX10_keep_11 : decode cX10_keep 11 = .ok (.aload_n 0, 1) := by decide +kernel
theorem dX10_keep_12 : decode cX10_keep 12 = .ok (.getfield 60, 3) := by decide +kernel
theorem dX10_keep_15 : decode cX10_keep 15 = .ok (.if_icmp .ge 45, 3) := by decide +kernel
theorem dX10_keep_18 : decode cX10_keep 18 = .ok (.aload_n 0, 1) := by decide +kernel
theorem dX10_keep_19 : decode cX10_keep 19 = .ok (.getfield 9, 3) := by decide +kernel
theorem dX10_keep_22 : decode cX10_keep 22 = .ok (.iload_n 2, 1) := by decide +kernel
theorem dX10_keep_23 : decode cX10_keep 23 = .ok (.aload_n 1, 1) := by decide +kernel
theorem dX10_keep_24 : decode cX10_keep 24 = .ok (.getfield 61, 3) := by decide +kernel
theorem dX10_keep_27 : decode cX10_keep 27 = .ok (.iload_n 2, 1) := by decide +kernel
theorem dX10_keep_28 : decode cX10_keep 28 = .ok (.iaload, 1) := by decide +kernel
theorem dX10_keep_29 : decode cX10_keep 29 = .ok (.iastore, 1) := by decide +kernel
theorem dX10_keep_30 : decode cX10_keep 30 = .ok (.aload_n 0, 1) := by decide +kernel
theorem dX10_keep_31 : decode cX10_keep 31 = .ok (.getfield 15, 3) := by decide +kernel
theorem dX10_keep_34 : decode cX10_keep 34 = .ok (.iload_n 2, 1) := by decide +kernel
theorem dX10_keep_35 : decode cX10_keep 35 = .ok (.aload_n 1, 1) := by decide +kernel
theorem dX10_keep_36 : decode cX10_keep 36 = .ok (.iload_n 2, 1) := by decide +kernel
theorem dX10_keep_37 : decode cX10_keep 37 = .ok (.iconst 0, 1) := by decide +kernel
theorem dX10_keep_38 : decode cX10_keep 38 = .ok (.invokevirtual 62, 3) := by decide +kernel
theorem dX10_keep_41 : decode cX10_keep 41 = .ok (.iastore, 1) := by decide +kernel
theorem dX10_keep_42 : decode cX10_keep 42 = .ok (.aload_n 0, 1) := by decide +kernel
theorem dX10_keep_43 : decode cX10_keep 43 = .ok (.getfield 18, 3) := by decide +kernel
theorem dX10_keep_46 : decode cX10_keep 46 = .ok (.iload_n 2, 1) := by decide +kernel
theorem dX10_keep_47 : decode cX10_keep 47 = .ok (.aload_n 1, 1) := by decide +kernel
theorem dX10_keep_48 : decode cX10_keep 48 = .ok (.iconst 0, 1) := by decide +kernel
theorem dX10_keep_49 : decode cX10_keep 49 = .ok (.iload_n 2, 1) := by decide +kernel
theorem dX10_keep_50 : decode cX10_keep 50 = .ok (.invokevirtual 66, 3) := by decide +kernel
theorem dX10_keep_53 : decode cX10_keep 53 = .ok (.iastore, 1) := by decide +kernel
theorem dX10_keep_54 : decode cX10_keep 54 = .ok (.iinc 2 1, 3) := by decide +kernel
theorem dX10_keep_57 : decode cX10_keep 57 = .ok (.goto (-47), 3) := by decide +kernel
theorem dX10_keep_60 : decode cX10_keep 60 = .ok (.return_, 1) := by decide +kernel
def f10_keep_l10 (S : ph_Sh) (p0 : Nat) : Nat → Int32 → ph_Mem → Option ph_Mem
  | 0, _, _ => none
  | n + 1, x2, M => if (M.1 84 0) ≤ x2 then (some M) else (cond (ph_ib x2 6) (cond (ph_ib x2 6) (ph_let (ph_wi M 85 x2.toNatClampNeg (M.1 (p0 + 1) x2.toNatClampNeg)) fun M2 => (f9_knownWithout S M2 p0 x2 (0 : Int32)).bind fun q3 => cond (ph_ib x2 6) (ph_let (ph_wi M2 86 x2.toNatClampNeg q3) fun M4 => (f9_hoursThatAre S M4 p0 (0 : Int32) x2).bind fun q5 => cond (ph_ib x2 6) (ph_let (ph_wi M4 87 x2.toNatClampNeg q5) fun M6 => (f10_keep_l10 S p0 n) (x2 + (1 : Int32)) M6) none) none) none) none)
set_option maxHeartbeats 4000000 in
theorem jb_f10_keep_l10 {tb adK adV : Nat → Nat} {S : ph_Sh} {p0 : Nat} {X : ph_X} {ad : Nat → Nat} {o : ph_Mem} (h : ph_ok (ph_ZX tb adK adV) X cX10_keep RX10 none 3 3 S.2 ad) (fin : ph_fin X S.1 S.2 ad none o) (hS : ph_SX S) (hp0 : ph_isS p0) : ∀ (n : Nat) (x2 : Int32) (M : ph_Mem), ph_J X S.1 S.2 ad o 10 [(0, .ref (ad 84)), (1, .ref (ad p0)), (2, .int x2)] [] M (f10_keep_l10 S p0 n x2 M) := by
  intro n
  induction n with
  | zero => intro x2 M; exact j_none
  | succ n hrc10 =>
    intro x2 M
    unfold f10_keep_l10
    refine j_iload_n h dX10_keep_10 rfl 2 rfl ?_
    refine j_aload_n h dX10_keep_11 rfl 0 rfl ?_
    refine j_get (c := 84) (j := 0) (v := .int (M.1 84 0)) h (ph_xlt hS (by decide)) (ph_kc84 hS) rfl ph_inX10 rfl (by decide) tw_341 rfl rfl dX10_keep_12 ?_
    refine j_icmp_ge h 60 dX10_keep_15 (by decide) ?_ ?_
    · exact j_vret h rfl fin dX10_keep_60
    · refine j_aload_n h dX10_keep_18 rfl 0 rfl ?_
      refine j_get (c := 84) (j := 1) (v := .ref (ad 85)) h (ph_xlt hS (by decide)) (ph_kc84 hS) rfl ph_inX10 rfl (by decide) tw_343 rfl rfl dX10_keep_19 ?_
      refine j_iload_n h dX10_keep_22 rfl 2 rfl ?_
      refine j_aload_n h dX10_keep_23 rfl 1 rfl ?_
      refine j_get (c := p0) (j := 2) (v := .ref (ad (p0 + 1))) h (ph_S0n hS hp0) (ph_S0 hS hp0) rfl ph_inX9 rfl (by decide) tw_74 rfl rfl dX10_keep_24 ?_
      refine j_iload_n h dX10_keep_27 rfl 2 rfl ?_
      refine j_iald (c := (p0 + 1)) (n := 6) h (ph_S1n hS hp0) (ph_S1 hS hp0) dX10_keep_28 ?_
      refine j_iast (c := 85) (n := 6) h (ph_xlt hS (by decide)) (ph_kc85 hS) dX10_keep_29 ?_
      refine j_letM (fun M2 => ?_)
      refine j_aload_n h dX10_keep_30 rfl 0 rfl ?_
      refine j_get (c := 84) (j := 2) (v := .ref (ad 86)) h (ph_xlt hS (by decide)) (ph_kc84 hS) rfl ph_inX10 rfl (by decide) tw_345 rfl rfl dX10_keep_31 ?_
      refine j_iload_n h dX10_keep_34 rfl 2 rfl ?_
      refine j_aload_n h dX10_keep_35 rfl 1 rfl ?_
      refine j_iload_n h dX10_keep_36 rfl 2 rfl ?_
      refine j_iconst (v := (0 : Int32)) h dX10_keep_37 (by decide) ?_
      refine j_callViP (n := 2) (As := [.int x2, .int (0 : Int32)]) (rest := [.int x2, .ref (ad 86)]) h p0 tw_1166 tw_548 tw_549 tw_3 tw_550 ydf9_knownWithout (by decide) (by decide) (ph_S0n hS hp0) (ph_S0 hS hp0) rfl (fun q hq => cf9_knownWithout (ph_okI h) hS hp0 hq) rfl (Nat.le_of_ble_eq_true rfl) rfl dX10_keep_38 (fun q3 => ?_)
      refine j_iast (c := 86) (n := 6) h (ph_xlt hS (by decide)) (ph_kc86 hS) dX10_keep_41 ?_
      refine j_letM (fun M4 => ?_)
      refine j_aload_n h dX10_keep_42 rfl 0 rfl ?_
      refine j_get (c := 84) (j := 3) (v := .ref (ad 87)) h (ph_xlt hS (by decide)) (ph_kc84 hS) rfl ph_inX10 rfl (by decide) tw_347 rfl rfl dX10_keep_43 ?_
      refine j_iload_n h dX10_keep_46 rfl 2 rfl ?_
      refine j_aload_n h dX10_keep_47 rfl 1 rfl ?_
      refine j_iconst (v := (0 : Int32)) h dX10_keep_48 (by decide) ?_
      refine j_iload_n h dX10_keep_49 rfl 2 rfl ?_
      refine j_callViP (n := 2) (As := [.int (0 : Int32), .int x2]) (rest := [.int x2, .ref (ad 87)]) h p0 tw_1167 tw_543 tw_544 tw_3 tw_545 ydf9_hoursThatAre (by decide) (by decide) (ph_S0n hS hp0) (ph_S0 hS hp0) rfl (fun q hq => cf9_hoursThatAre (ph_okI h) hS hp0 hq) rfl (Nat.le_of_ble_eq_true rfl) rfl dX10_keep_50 (fun q5 => ?_)
      refine j_iast (c := 87) (n := 6) h (ph_xlt hS (by decide)) (ph_kc87 hS) dX10_keep_53 ?_
      refine j_letM (fun M6 => ?_)
      refine j_iinc h [(2, .int (x2 + (1 : Int32))), (0, .ref (ad 84)), (1, .ref (ad p0))] dX10_keep_54 2 rfl rfl (by decide) rfl ?_
      refine j_goto h 10 dX10_keep_57 (by decide) ?_
      refine j_sub [1, 2, 0] rfl ?_
      exact hrc10 (x2 + (1 : Int32)) M6
theorem ydf10_keep : ph_yd yX10_keep 1 := ⟨by decide, by decide, by decide +kernel⟩
def f10_keep (S : ph_Sh) (M : ph_Mem) (p0 : Nat) : Option ph_Mem :=
  ph_let (ph_wi M 84 0 (M.1 p0 1)) fun M1 => f10_keep_l10 S p0 10000 (0 : Int32) M1
set_option maxHeartbeats 4000000 in
theorem cf10_keep {tb adK adV : Nat → Nat} {S : ph_Sh} {p0 : Nat} {l : Launch} {D : va_G} {cA : Nat → ClassId} {ad : Nat → Nat} (hinj : ∀ i j, i < S.2 → j < S.2 → ad i = ad j → i = j) (hS : ph_SX S) (hp0 : ph_isS p0) {M : ph_Mem} {M' : ph_Mem} (hf : f10_keep S M p0 = some M') : ph_C (ph_ZX tb adK adV) l 3 yX10_keep cX10_keep 3 none D cA S.1 S.2 ad [.ref (ad 84), .ref (ad p0)] M none M' := by
  refine ph_mk ph_ZX_ok hinj (by decide) (Nat.le_of_ble_eq_true rfl) fun X h fin hE => ?_
  refine (?_ : ph_J X S.1 S.2 ad (M' : ph_Mem) 0 [(0, .ref (ad 84)), (1, .ref (ad p0))] [] M (f10_keep S M p0)) hf
  unfold f10_keep
  refine j_aload_n h dX10_keep_0 rfl 0 rfl ?_
  refine j_aload_n h dX10_keep_1 rfl 1 rfl ?_
  refine j_get (c := p0) (j := 1) (v := .int (M.1 p0 1)) h (ph_S0n hS hp0) (ph_S0 hS hp0) rfl ph_inX9 rfl (by decide) tw_67 rfl rfl dX10_keep_2 ?_
  refine j_puti (c := 84) (j := 0) (ty := .int) h (ph_xlt hS (by decide)) (ph_kc84 hS) rfl ph_inX10 tyX10 tyX10_ok nmX10 rfl (by decide) tw_341 rfl rfl (tyX10_ok 0 (by decide)) rfl rfl dX10_keep_5 ?_
  refine j_letM (fun M1 => ?_)
  refine j_iconst (v := (0 : Int32)) h dX10_keep_8 (by decide) ?_
  refine j_istore_n h [(2, .int (0 : Int32)), (0, .ref (ad 84)), (1, .ref (ad p0))] dX10_keep_9 rfl (by decide) rfl ?_
  refine j_sub [1, 2, 0] rfl ?_
  exact jb_f10_keep_l10 h fin hS hp0 10000 (0 : Int32) M1
theorem dX10_live_0 : decode cX10_live 0 = .ok (.aload_n 0, 1) := by decide +kernel
theorem dX10_live_1 : decode cX10_live 1 = .ok (.iload_n 3, 1) := by decide +kernel
theorem dX10_live_2 : decode cX10_live 2 = .ok (.i2l, 1) := by decide +kernel
theorem dX10_live_3 : decode cX10_live 3 = .ok (.putfield 21, 3) := by decide +kernel
theorem dX10_live_6 : decode cX10_live 6 = .ok (.iconst 0, 1) := by decide +kernel
theorem dX10_live_7 : decode cX10_live 7 = .ok (.istore 5, 2) := by decide +kernel
theorem dX10_live_9 : decode cX10_live 9 = .ok (.iconst 1, 1) := by decide +kernel
theorem dX10_live_10 : decode cX10_live 10 = .ok (.istore 6, 2) := by decide +kernel
theorem dX10_live_12 : decode cX10_live 12 = .ok (.iconst 0, 1) := by decide +kernel
theorem dX10_live_13 : decode cX10_live 13 = .ok (.istore 7, 2) := by decide +kernel
theorem dX10_live_15 : decode cX10_live 15 = .ok (.iload 7, 2) := by decide +kernel
theorem dX10_live_17 : decode cX10_live 17 = .ok (.iload 4, 2) := by decide +kernel
theorem dX10_live_19 : decode cX10_live 19 = .ok (.if_icmp .ge 97, 3) := by decide +kernel
theorem dX10_live_22 : decode cX10_live 22 = .ok (.iload 6, 2) := by decide +kernel
theorem dX10_live_24 : decode cX10_live 24 = .ok (.ifCond .eq 92, 3) := by decide +kernel
theorem dX10_live_27 : decode cX10_live 27 = .ok (.aload_n 0, 1) := by decide +kernel
theorem dX10_live_28 : decode cX10_live 28 = .ok (.aload_n 1, 1) := by decide +kernel
theorem dX10_live_29 : decode cX10_live 29 = .ok (.getfield 25, 3) := by decide +kernel
theorem dX10_live_32 : decode cX10_live 32 = .ok (.invokevirtual 31, 3) := by decide +kernel
theorem dX10_live_35 : decode cX10_live 35 = .ok (.istore 8, 2) := by decide +kernel
theorem dX10_live_37 : decode cX10_live 37 = .ok (.aload_n 0, 1) := by decide +kernel
theorem dX10_live_38 : decode cX10_live 38 = .ok (.bipush 12, 2) := by decide +kernel
theorem dX10_live_40 : decode cX10_live 40 = .ok (.invokevirtual 31, 3) := by decide +kernel
theorem dX10_live_43 : decode cX10_live 43 = .ok (.istore 9, 2) := by decide +kernel
theorem dX10_live_45 : decode cX10_live 45 = .ok (.aload_n 1, 1) := by decide +kernel
theorem dX10_live_46 : decode cX10_live 46 = .ok (.iload 8, 2) := by decide +kernel
theorem dX10_live_48 : decode cX10_live 48 = .ok (.iload 9, 2) := by decide +kernel
theorem dX10_live_50 : decode cX10_live 50 = .ok (.invokevirtual 35, 3) := by decide +kernel
theorem dX10_live_53 : decode cX10_live 53 = .ok (.ifCond .eq 30, 3) := by decide +kernel
theorem dX10_live_56 : decode cX10_live 56 = .ok (.iload 5, 2) := by decide +kernel
theorem dX10_live_58 : decode cX10_live 58 = .ok (.aload_n 1, 1) := by decide +kernel
theorem dX10_live_59 : decode cX10_live 59 = .ok (.iload 8, 2) := by decide +kernel
theorem dX10_live_61 : decode cX10_live 61 = .ok (.iload 9, 2) := by decide +kernel
theorem dX10_live_63 : decode cX10_live 63 = .ok (.aload_n 2, 1) := by decide +kernel
theorem dX10_live_64 : decode cX10_live 64 = .ok (.invokevirtual 39, 3) := by decide +kernel
theorem dX10_live_67 : decode cX10_live 67 = .ok (.bipush (-3), 2) := by decide +kernel
theorem dX10_live_69 : decode cX10_live 69 = .ok (.if_icmp .ne 7, 3) := by decide +kernel
theorem dX10_live_72 : decode cX10_live 72 = .ok (.iconst 0, 1) := by decide +kernel
theorem dX10_live_73 : decode cX10_live 73 = .ok (.goto 4, 3) := by decide +kernel
theorem dX10_live_76 : decode cX10_live 76 = .ok (.iconst 1, 1) := by decide +kernel
theorem dX10_live_77 : decode cX10_live 77 = .ok (.iadd, 1) := by decide +kernel
theorem dX10_live_78 : decode cX10_live 78 = .ok (.istore 5, 2) := by decide +kernel
theorem dX10_live_80 : decode cX10_live 80 = .ok (.goto 13, 3) := by decide +kernel
theorem dX10_live_83 : decode cX10_live 83 = .ok (.aload_n 1, 1) := by decide +kernel
theorem dX10_live_84 : decode cX10_live 84 = .ok (.iload 8, 2) := by decide +kernel
theorem dX10_live_86 : decode cX10_live 86 = .ok (.iload 9, 2) := by decide +kernel
theorem dX10_live_88 : decode cX10_live 88 = .ok (.aload_n 2, 1) := by decide +kernel
theorem dX10_live_89 : decode cX10_live 89 = .ok (.invokevirtual 43, 3) := by decide +kernel
theorem dX10_live_92 : decode cX10_live 92 = .ok (.pop, 1) := by decide +kernel
theorem dX10_live_93 : decode cX10_live 93 = .ok (.aload_n 1, 1) := by decide +kernel
theorem dX10_live_94 : decode cX10_live 94 = .ok (.aload_n 2, 1) := by decide +kernel
theorem dX10_live_95 : decode cX10_live 95 = .ok (.invokevirtual 46, 3) := by decide +kernel
theorem dX10_live_98 : decode cX10_live 98 = .ok (.bipush (-3), 2) := by decide +kernel
theorem dX10_live_100 : decode cX10_live 100 = .ok (.if_icmp .eq 7, 3) := by decide +kernel
theorem dX10_live_103 : decode cX10_live 103 = .ok (.iconst 1, 1) := by decide +kernel
theorem dX10_live_104 : decode cX10_live 104 = .ok (.goto 4, 3) := by decide +kernel
theorem dX10_live_107 : decode cX10_live 107 = .ok (.iconst 0, 1) := by decide +kernel
theorem dX10_live_108 : decode cX10_live 108 = .ok (.istore 6, 2) := by decide +kernel
theorem dX10_live_110 : decode cX10_live 110 = .ok (.iinc 7 1, 3) := by decide +kernel
theorem dX10_live_113 : decode cX10_live 113 = .ok (.goto (-98), 3) := by decide +kernel
theorem dX10_live_116 : decode cX10_live 116 = .ok (.aload_n 0, 1) := by decide +kernel
theorem dX10_live_117 : decode cX10_live 117 = .ok (.aload_n 1, 1) := by decide +kernel
theorem dX10_live_118 : decode cX10_live 118 = .ok (.invokevirtual 50, 3) := by decide +kernel
theorem dX10_live_121 : decode cX10_live 121 = .ok (.iload 5, 2) := by decide +kernel
theorem dX10_live_123 : decode cX10_live 123 = .ok (.ireturn, 1) := by decide +kernel
def f10_live_j108 (S : ph_Sh) (p0 : Nat) (p1 : Nat) (rc15 : Int32 → Int32 → Int32 → Int32 → ph_Mem → Option (Int32 × ph_Mem)) (x4 : Int32) (x5 : Int32) (x7 : Int32) (s0 : Int32) (M : ph_Mem) : Option (Int32 × ph_Mem) :=
  rc15 x4 x5 s0 (x7 + (1 : Int32)) M
set_option maxHeartbeats 4000000 in
theorem jb_f10_live_j108 {tb adK adV : Nat → Nat} {S : ph_Sh} {p0 : Nat} {p1 : Nat} {X : ph_X} {ad : Nat → Nat} {o : (Int32 × ph_Mem)} (h : ph_ok (ph_ZX tb adK adV) X cX10_live RX10 (some .int) 10 4 S.2 ad) (fin : ph_fin X S.1 S.2 ad (some (.int o.1)) o.2) (hS : ph_SX S) (hp0 : ph_isS p0) (hp1 : ph_isL p1) {rc15 : Int32 → Int32 → Int32 → Int32 → ph_Mem → Option (Int32 × ph_Mem)} (hrc15 : ∀ (x4 : Int32) (x5 : Int32) (x6 : Int32) (x7 : Int32) (M : ph_Mem), ph_J X S.1 S.2 ad o 15 [(0, .ref (ad 84)), (1, .ref (ad p0)), (2, .ref (ad p1)), (4, .int x4), (5, .int x5), (6, .int x6), (7, .int x7)] [] M (rc15 x4 x5 x6 x7 M)) : ∀ (x4 : Int32) (x5 : Int32) (x7 : Int32) (s0 : Int32) (M : ph_Mem), ph_J X S.1 S.2 ad o 108 [(0, .ref (ad 84)), (1, .ref (ad p0)), (2, .ref (ad p1)), (4, .int x4), (5, .int x5), (7, .int x7)] [.int s0] M (f10_live_j108 S p0 p1 rc15 x4 x5 x7 s0 M) := by
  intro x4 x5 x7 s0 M
  unfold f10_live_j108
  refine j_istore h [(6, .int s0), (0, .ref (ad 84)), (1, .ref (ad p0)), (2, .ref (ad p1)), (4, .int x4), (5, .int x5), (7, .int x7)] dX10_live_108 (by decide) rfl ?_
  refine j_iinc h [(7, .int (x7 + (1 : Int32))), (6, .int s0), (0, .ref (ad 84)), (1, .ref (ad p0)), (2, .ref (ad p1)), (4, .int x4), (5, .int x5)] dX10_live_110 6 rfl rfl (by decide) rfl ?_
  refine j_goto h 15 dX10_live_113 (by decide) ?_
  refine j_sub [2, 3, 4, 5, 6, 1, 0] rfl ?_
  exact hrc15 x4 x5 s0 (x7 + (1 : Int32)) M
def f10_live_j93 (S : ph_Sh) (p0 : Nat) (p1 : Nat) (rc15 : Int32 → Int32 → Int32 → Int32 → ph_Mem → Option (Int32 × ph_Mem)) (x4 : Int32) (x5 : Int32) (x7 : Int32) (M : ph_Mem) : Option (Int32 × ph_Mem) :=
  (f9_tryNextDay S M p0 p1).bind fun q7 => if q7.1 = (-3 : Int32) then (f10_live_j108 S p0 p1 rc15 x4 x5 x7 (0 : Int32) q7.2) else (f10_live_j108 S p0 p1 rc15 x4 x5 x7 (1 : Int32) q7.2)
set_option maxHeartbeats 4000000 in
theorem jb_f10_live_j93 {tb adK adV : Nat → Nat} {S : ph_Sh} {p0 : Nat} {p1 : Nat} {X : ph_X} {ad : Nat → Nat} {o : (Int32 × ph_Mem)} (h : ph_ok (ph_ZX tb adK adV) X cX10_live RX10 (some .int) 10 4 S.2 ad) (fin : ph_fin X S.1 S.2 ad (some (.int o.1)) o.2) (hS : ph_SX S) (hp0 : ph_isS p0) (hp1 : ph_isL p1) {rc15 : Int32 → Int32 → Int32 → Int32 → ph_Mem → Option (Int32 × ph_Mem)} (hrc15 : ∀ (x4 : Int32) (x5 : Int32) (x6 : Int32) (x7 : Int32) (M : ph_Mem), ph_J X S.1 S.2 ad o 15 [(0, .ref (ad 84)), (1, .ref (ad p0)), (2, .ref (ad p1)), (4, .int x4), (5, .int x5), (6, .int x6), (7, .int x7)] [] M (rc15 x4 x5 x6 x7 M)) : ∀ (x4 : Int32) (x5 : Int32) (x7 : Int32) (M : ph_Mem), ph_J X S.1 S.2 ad o 93 [(0, .ref (ad 84)), (1, .ref (ad p0)), (2, .ref (ad p1)), (4, .int x4), (5, .int x5), (7, .int x7)] [] M (f10_live_j93 S p0 p1 rc15 x4 x5 x7 M) := by
  intro x4 x5 x7 M
  unfold f10_live_j93
  refine j_aload_n h dX10_live_93 rfl 1 rfl ?_
  refine j_aload_n h dX10_live_94 rfl 2 rfl ?_
  refine j_callVi (n := 1) (As := [.ref (ad p1)]) (rest := []) h p0 tw_1161 tw_862 tw_863 tw_3 tw_864 ydf9_tryNextDay (by decide) (by decide) (ph_S0n hS hp0) (ph_S0 hS hp0) rfl (fun q hq => cf9_tryNextDay (ph_okI h) hS hp0 hp1 hq) rfl (Nat.le_of_ble_eq_true rfl) rfl dX10_live_95 (fun q7 => ?_)
  refine j_bipush (v := (-3 : Int32)) h dX10_live_98 (by decide) ?_
  refine j_icmp_eq h 107 dX10_live_100 (by decide) ?_ ?_
  · refine j_iconst (v := (0 : Int32)) h dX10_live_107 (by decide) ?_
    refine j_sub [0, 1, 2, 3, 4, 5] rfl ?_
    exact jb_f10_live_j108 h fin hS hp0 hp1 hrc15 x4 x5 x7 (0 : Int32) q7.2
  · refine j_iconst (v := (1 : Int32)) h dX10_live_103 (by decide) ?_
    refine j_goto h 108 dX10_live_104 (by decide) ?_
    refine j_sub [0, 1, 2, 3, 4, 5] rfl ?_
    exact jb_f10_live_j108 h fin hS hp0 hp1 hrc15 x4 x5 x7 (1 : Int32) q7.2
def f10_live_j77 (S : ph_Sh) (p0 : Nat) (p1 : Nat) (rc15 : Int32 → Int32 → Int32 → Int32 → ph_Mem → Option (Int32 × ph_Mem)) (x4 : Int32) (x7 : Int32) (s0 : Int32) (s1 : Int32) (M : ph_Mem) : Option (Int32 × ph_Mem) :=
  f10_live_j93 S p0 p1 rc15 x4 (s1 + s0) x7 M
set_option maxHeartbeats 4000000 in
theorem jb_f10_live_j77 {tb adK adV : Nat → Nat} {S : ph_Sh} {p0 : Nat} {p1 : Nat} {X : ph_X} {ad : Nat → Nat} {o : (Int32 × ph_Mem)} (h : ph_ok (ph_ZX tb adK adV) X cX10_live RX10 (some .int) 10 4 S.2 ad) (fin : ph_fin X S.1 S.2 ad (some (.int o.1)) o.2) (hS : ph_SX S) (hp0 : ph_isS p0) (hp1 : ph_isL p1) {rc15 : Int32 → Int32 → Int32 → Int32 → ph_Mem → Option (Int32 × ph_Mem)} (hrc15 : ∀ (x4 : Int32) (x5 : Int32) (x6 : Int32) (x7 : Int32) (M : ph_Mem), ph_J X S.1 S.2 ad o 15 [(0, .ref (ad 84)), (1, .ref (ad p0)), (2, .ref (ad p1)), (4, .int x4), (5, .int x5), (6, .int x6), (7, .int x7)] [] M (rc15 x4 x5 x6 x7 M)) : ∀ (x4 : Int32) (x7 : Int32) (s0 : Int32) (s1 : Int32) (M : ph_Mem), ph_J X S.1 S.2 ad o 77 [(0, .ref (ad 84)), (1, .ref (ad p0)), (2, .ref (ad p1)), (4, .int x4), (7, .int x7)] [.int s0, .int s1] M (f10_live_j77 S p0 p1 rc15 x4 x7 s0 s1 M) := by
  intro x4 x7 s0 s1 M
  unfold f10_live_j77
  refine j_iadd h dX10_live_77 ?_
  refine j_istore h [(5, .int (s1 + s0)), (0, .ref (ad 84)), (1, .ref (ad p0)), (2, .ref (ad p1)), (4, .int x4), (7, .int x7)] dX10_live_78 (by decide) rfl ?_
  refine j_goto h 93 dX10_live_80 (by decide) ?_
  refine j_sub [1, 2, 3, 4, 0, 5] rfl ?_
  exact jb_f10_live_j93 h fin hS hp0 hp1 hrc15 x4 (s1 + s0) x7 M
def f10_live_j116 (S : ph_Sh) (p0 : Nat) (p1 : Nat) (x5 : Int32) (M : ph_Mem) : Option (Int32 × ph_Mem) :=
  (f10_keep S M p0).bind fun q8 => some (x5, q8)
set_option maxHeartbeats 4000000 in
theorem jb_f10_live_j116 {tb adK adV : Nat → Nat} {S : ph_Sh} {p0 : Nat} {p1 : Nat} {X : ph_X} {ad : Nat → Nat} {o : (Int32 × ph_Mem)} (h : ph_ok (ph_ZX tb adK adV) X cX10_live RX10 (some .int) 10 4 S.2 ad) (fin : ph_fin X S.1 S.2 ad (some (.int o.1)) o.2) (hS : ph_SX S) (hp0 : ph_isS p0) (hp1 : ph_isL p1) : ∀ (x5 : Int32) (M : ph_Mem), ph_J X S.1 S.2 ad o 116 [(0, .ref (ad 84)), (1, .ref (ad p0)), (5, .int x5)] [] M (f10_live_j116 S p0 p1 x5 M) := by
  intro x5 M
  unfold f10_live_j116
  refine j_aload_n h dX10_live_116 rfl 0 rfl ?_
  refine j_aload_n h dX10_live_117 rfl 1 rfl ?_
  refine j_callVv (n := 1) (As := [.ref (ad p0)]) (rest := []) h 84 tw_1162 tw_1164 tp_48 tw_13 tw_1165 ydf10_keep (by decide) (by decide) (ph_xlt hS (by decide)) (ph_kc84 hS) rfl (fun q hq => cf10_keep (ph_okI h) hS hp0 hq) rfl (Nat.le_of_ble_eq_true rfl) rfl dX10_live_118 (fun q8 => ?_)
  refine j_iload h dX10_live_121 2 rfl ?_
  exact j_iret h rfl fin dX10_live_123
def f10_live_l15 (S : ph_Sh) (p0 : Nat) (p1 : Nat) : Nat → Int32 → Int32 → Int32 → Int32 → ph_Mem → Option (Int32 × ph_Mem)
  | 0, _, _, _, _, _ => none
  | n + 1, x4, x5, x6, x7, M => if x4 ≤ x7 then (f10_live_j116 S p0 p1 x5 M) else (if x6 = 0 then (f10_live_j116 S p0 p1 x5 M) else ((f10_draw S M (M.1 p0 1)).bind fun q2 => (f10_draw S q2.2 (12 : Int32)).bind fun q3 => (f9_holds S q3.2 p0 q2.1 q3.1).bind fun q4 => if q4 = 0 then ((f9_tryRedeem S q3.2 p0 q2.1 q3.1 p1).bind fun q5 => f10_live_j93 S p0 p1 (f10_live_l15 S p0 p1 n) x4 x5 x7 q5.2) else ((f9_tryPawn S q3.2 p0 q2.1 q3.1 p1).bind fun q6 => if q6.1 = (-3 : Int32) then (f10_live_j77 S p0 p1 (f10_live_l15 S p0 p1 n) x4 x7 (0 : Int32) x5 q6.2) else (f10_live_j77 S p0 p1 (f10_live_l15 S p0 p1 n) x4 x7 (1 : Int32) x5 q6.2))))
set_option maxHeartbeats 4000000 in
theorem jb_f10_live_l15 {tb adK adV : Nat → Nat} {S : ph_Sh} {p0 : Nat} {p1 : Nat} {X : ph_X} {ad : Nat → Nat} {o : (Int32 × ph_Mem)} (h : ph_ok (ph_ZX tb adK adV) X cX10_live RX10 (some .int) 10 4 S.2 ad) (fin : ph_fin X S.1 S.2 ad (some (.int o.1)) o.2) (hS : ph_SX S) (hp0 : ph_isS p0) (hp1 : ph_isL p1) : ∀ (n : Nat) (x4 : Int32) (x5 : Int32) (x6 : Int32) (x7 : Int32) (M : ph_Mem), ph_J X S.1 S.2 ad o 15 [(0, .ref (ad 84)), (1, .ref (ad p0)), (2, .ref (ad p1)), (4, .int x4), (5, .int x5), (6, .int x6), (7, .int x7)] [] M (f10_live_l15 S p0 p1 n x4 x5 x6 x7 M) := by
  intro n
  induction n with
  | zero => intro x4 x5 x6 x7 M; exact j_none
  | succ n hrc15 =>
    intro x4 x5 x6 x7 M
    unfold f10_live_l15
    refine j_iload h dX10_live_15 6 rfl ?_
    refine j_iload h dX10_live_17 3 rfl ?_
    refine j_icmp_ge h 116 dX10_live_19 (by decide) ?_ ?_
    · refine j_sub [0, 1, 4] rfl ?_
      exact jb_f10_live_j116 h fin hS hp0 hp1 x5 M
    · refine j_iload h dX10_live_22 5 rfl ?_
      refine j_if_eq h 116 dX10_live_24 (by decide) ?_ ?_
      · refine j_sub [0, 1, 4] rfl ?_
        exact jb_f10_live_j116 h fin hS hp0 hp1 x5 M
      · refine j_aload_n h dX10_live_27 rfl 0 rfl ?_
        refine j_aload_n h dX10_live_28 rfl 1 rfl ?_
        refine j_get (c := p0) (j := 1) (v := .int (M.1 p0 1)) h (ph_S0n hS hp0) (ph_S0 hS hp0) rfl ph_inX9 rfl (by decide) tw_67 rfl rfl dX10_live_29 ?_
        refine j_callVi (n := 1) (As := [.int (M.1 p0 1)]) (rest := []) h 84 tw_1151 tw_1153 tp_47 tw_13 tw_1154 ydf10_draw (by decide) (by decide) (ph_xlt hS (by decide)) (ph_kc84 hS) rfl (fun q hq => cf10_draw (ph_okI h) hS hq) rfl (Nat.le_of_ble_eq_true rfl) rfl dX10_live_32 (fun q2 => ?_)
        refine j_istore h [(8, .int q2.1), (0, .ref (ad 84)), (1, .ref (ad p0)), (2, .ref (ad p1)), (4, .int x4), (5, .int x5), (6, .int x6), (7, .int x7)] dX10_live_35 (by decide) rfl ?_
        refine j_aload_n h dX10_live_37 rfl 1 rfl ?_
        refine j_bipush (v := (12 : Int32)) h dX10_live_38 (by decide) ?_
        refine j_callVi (n := 1) (As := [.int (12 : Int32)]) (rest := []) h 84 tw_1151 tw_1153 tp_47 tw_13 tw_1154 ydf10_draw (by decide) (by decide) (ph_xlt hS (by decide)) (ph_kc84 hS) rfl (fun q hq => cf10_draw (ph_okI h) hS hq) rfl (Nat.le_of_ble_eq_true rfl) rfl dX10_live_40 (fun q3 => ?_)
        refine j_istore h [(9, .int q3.1), (8, .int q2.1), (0, .ref (ad 84)), (1, .ref (ad p0)), (2, .ref (ad p1)), (4, .int x4), (5, .int x5), (6, .int x6), (7, .int x7)] dX10_live_43 (by decide) rfl ?_
        refine j_aload_n h dX10_live_45 rfl 3 rfl ?_
        refine j_iload h dX10_live_46 1 rfl ?_
        refine j_iload h dX10_live_48 0 rfl ?_
        refine j_callViP (n := 2) (As := [.int q2.1, .int q3.1]) (rest := []) h p0 tw_1158 tw_552 tw_553 tw_3 tw_554 ydf9_holds (by decide) (by decide) (ph_S0n hS hp0) (ph_S0 hS hp0) rfl (fun q hq => cf9_holds (ph_okI h) hS hp0 hq) rfl (Nat.le_of_ble_eq_true rfl) rfl dX10_live_50 (fun q4 => ?_)
        refine j_if_eq h 83 dX10_live_53 (by decide) ?_ ?_
        · refine j_aload_n h dX10_live_83 rfl 3 rfl ?_
          refine j_iload h dX10_live_84 1 rfl ?_
          refine j_iload h dX10_live_86 0 rfl ?_
          refine j_aload_n h dX10_live_88 rfl 4 rfl ?_
          refine j_callVi (n := 3) (As := [.int q2.1, .int q3.1, .ref (ad p1)]) (rest := []) h p0 tw_1160 tw_884 tw_885 tw_3 tw_886 ydf9_tryRedeem (by decide) (by decide) (ph_S0n hS hp0) (ph_S0 hS hp0) rfl (fun q hq => cf9_tryRedeem (ph_okI h) hS hp0 hp1 hq) rfl (Nat.le_of_ble_eq_true rfl) rfl dX10_live_89 (fun q5 => ?_)
          refine j_pop h dX10_live_92 rfl ?_
          refine j_sub [2, 3, 4, 5, 6, 8] rfl ?_
          exact jb_f10_live_j93 h fin hS hp0 hp1 hrc15 x4 x5 x7 q5.2
        · refine j_iload h dX10_live_56 6 rfl ?_
          refine j_aload_n h dX10_live_58 rfl 3 rfl ?_
          refine j_iload h dX10_live_59 1 rfl ?_
          refine j_iload h dX10_live_61 0 rfl ?_
          refine j_aload_n h dX10_live_63 rfl 4 rfl ?_
          refine j_callVi (n := 3) (As := [.int q2.1, .int q3.1, .ref (ad p1)]) (rest := [.int x5]) h p0 tw_1159 tw_875 tw_876 tw_3 tw_877 ydf9_tryPawn (by decide) (by decide) (ph_S0n hS hp0) (ph_S0 hS hp0) rfl (fun q hq => cf9_tryPawn (ph_okI h) hS hp0 hp1 hq) rfl (Nat.le_of_ble_eq_true rfl) rfl dX10_live_64 (fun q6 => ?_)
          refine j_bipush (v := (-3 : Int32)) h dX10_live_67 (by decide) ?_
          refine j_icmp_ne h 76 dX10_live_69 (by decide) ?_ ?_
          · refine j_iconst (v := (1 : Int32)) h dX10_live_76 (by decide) ?_
            refine j_sub [2, 3, 4, 5, 8] rfl ?_
            exact jb_f10_live_j77 h fin hS hp0 hp1 hrc15 x4 x7 (1 : Int32) x5 q6.2
          · refine j_iconst (v := (0 : Int32)) h dX10_live_72 (by decide) ?_
            refine j_goto h 77 dX10_live_73 (by decide) ?_
            refine j_sub [2, 3, 4, 5, 8] rfl ?_
            exact jb_f10_live_j77 h fin hS hp0 hp1 hrc15 x4 x7 (0 : Int32) x5 q6.2
theorem ydf10_live : ph_yd yX10_live 4 := ⟨by decide, by decide, by decide +kernel⟩
def f10_live (S : ph_Sh) (M : ph_Mem) (p0 : Nat) (p1 : Nat) (p2 : Int32) (p3 : Int32) : Option (Int32 × ph_Mem) :=
  ph_let (ph_wl M 84 4 p2.toInt64) fun M1 => f10_live_l15 S p0 p1 10000 p3 (0 : Int32) (1 : Int32) (0 : Int32) M1
set_option maxHeartbeats 4000000 in
theorem cf10_live {tb adK adV : Nat → Nat} {S : ph_Sh} {p0 : Nat} {p1 : Nat} {l : Launch} {D : va_G} {cA : Nat → ClassId} {ad : Nat → Nat} (hinj : ∀ i j, i < S.2 → j < S.2 → ad i = ad j → i = j) (hS : ph_SX S) (hp0 : ph_isS p0) (hp1 : ph_isL p1) {M : ph_Mem} {p2 : Int32} {p3 : Int32} {r : Int32} {M' : ph_Mem} (hf : f10_live S M p0 p1 p2 p3 = some (r, M')) : ph_C (ph_ZX tb adK adV) l 4 yX10_live cX10_live 10 (some .int) D cA S.1 S.2 ad [.ref (ad 84), .ref (ad p0), .ref (ad p1), .int p2, .int p3] M (some (.int r)) M' := by
  refine ph_mk ph_ZX_ok hinj (by decide) (Nat.le_of_ble_eq_true rfl) fun X h fin hE => ?_
  refine (?_ : ph_J X S.1 S.2 ad ((r, M') : (Int32 × ph_Mem)) 0 [(0, .ref (ad 84)), (1, .ref (ad p0)), (2, .ref (ad p1)), (3, .int p2), (4, .int p3)] [] M (f10_live S M p0 p1 p2 p3)) hf
  unfold f10_live
  refine j_aload_n h dX10_live_0 rfl 0 rfl ?_
  refine j_iload_n h dX10_live_1 rfl 3 rfl ?_
  refine j_i2l h dX10_live_2 ?_
  refine j_putl (c := 84) (j := 4)  h (ph_xlt hS (by decide)) (ph_kc84 hS) rfl ph_inX10 tyX10 tyX10_ok nmX10 rfl (by decide) tw_349 rfl rfl (tyX10_ok 4 (by decide)) dX10_live_3 ?_
  refine j_letM (fun M1 => ?_)
  refine j_iconst (v := (0 : Int32)) h dX10_live_6 (by decide) ?_
  refine j_istore h [(5, .int (0 : Int32)), (0, .ref (ad 84)), (1, .ref (ad p0)), (2, .ref (ad p1)), (3, .int p2), (4, .int p3)] dX10_live_7 (by decide) rfl ?_
  refine j_iconst (v := (1 : Int32)) h dX10_live_9 (by decide) ?_
  refine j_istore h [(6, .int (1 : Int32)), (5, .int (0 : Int32)), (0, .ref (ad 84)), (1, .ref (ad p0)), (2, .ref (ad p1)), (3, .int p2), (4, .int p3)] dX10_live_10 (by decide) rfl ?_
  refine j_iconst (v := (0 : Int32)) h dX10_live_12 (by decide) ?_
  refine j_istore h [(7, .int (0 : Int32)), (6, .int (1 : Int32)), (5, .int (0 : Int32)), (0, .ref (ad 84)), (1, .ref (ad p0)), (2, .ref (ad p1)), (3, .int p2), (4, .int p3)] dX10_live_13 (by decide) rfl ?_
  refine j_sub [3, 4, 5, 7, 2, 1, 0] rfl ?_
  exact jb_f10_live_l15 h fin hS hp0 hp1 10000 p3 (0 : Int32) (1 : Int32) (0 : Int32) M1
theorem dX11_refused_0 : decode cX11_refused 0 = .ok (.iload_n 1, 1) := by decide +kernel
theorem dX11_refused_1 : decode cX11_refused 1 = .ok (.ineg, 1) := by decide +kernel
theorem dX11_refused_2 : decode cX11_refused 2 = .ok (.ifCond .lt 24, 3) := by decide +kernel
theorem dX11_refused_5 : decode cX11_refused 5 = .ok (.iload_n 1, 1) := by decide +kernel
theorem dX11_refused_6 : decode cX11_refused 6 = .ok (.ineg, 1) := by decide +kernel
theorem dX11_refused_7 : decode cX11_refused 7 = .ok (.aload_n 0, 1) := by decide +kernel
theorem dX11_refused_8 : decode cX11_refused 8 = .ok (.getfield 93, 3) := by decide +kernel
theorem dX11_refused_11 : decode cX11_refused 11 = .ok (.arraylength, 1) := by decide +kernel
theorem dX11_refused_12 : decode cX11_refused 12 = .ok (.if_icmp .ge 14, 3) := by decide +kernel
theorem dX11_refused_15 : decode cX11_refused 15 = .ok (.aload_n 0, 1) := by decide +kernel
theorem dX11_refused_16 : decode cX11_refused 16 = .ok (.getfield 93, 3) := by decide +kernel
theorem dX11_refused_19 : decode cX11_refused 19 = .ok (.iload_n 1, 1) := by decide +kernel
theorem dX11_refused_20 : decode cX11_refused 20 = .ok (.ineg, 1) := by decide +kernel
theorem dX11_refused_21 : decode cX11_refused 21 = .ok (.dup2, 1) := by decide +kernel
theorem dX11_refused_22 : decode cX11_refused 22 = .ok (.iaload, 1) := by decide +kernel
theorem dX11_refused_23 : decode cX11_refused 23 = .ok (.iconst 1, 1) := by decide +kernel
theorem dX11_refused_24 : decode cX11_refused 24 = .ok (.iadd, 1) := by decide +kernel
theorem dX11_refused_25 : decode cX11_refused 25 = .ok (.iastore, 1) := by decide +kernel
theorem dX11_refused_26 : decode cX11_refused 26 = .ok (.aload_n 0, 1) := by decide +kernel
theorem dX11_refused_27 : decode cX11_refused 27 = .ok (.iload_n 1, 1) := by decide +kernel
theorem dX11_refused_28 : decode cX11_refused 28 = .ok (.putfield 111, 3) := by decide +kernel
theorem dX11_refused_31 : decode cX11_refused 31 = .ok (.iload_n 1, 1) := by decide +kernel
theorem dX11_refused_32 : decode cX11_refused 32 = .ok (.ireturn, 1) := by decide +kernel
def f11_refused_j26 (S : ph_Sh) (x1 : Int32) (M : ph_Mem) : Option (Int32 × ph_Mem) :=
  ph_let (ph_wi M 0 18 x1) fun M2 => some (x1, M2)
set_option maxHeartbeats 4000000 in
theorem jb_f11_refused_j26 {tb adK adV : Nat → Nat} {S : ph_Sh} {X : ph_X} {ad : Nat → Nat} {o : (Int32 × ph_Mem)} (h : ph_ok (ph_ZX tb adK adV) X cX11_refused RX11 (some .int) 2 0 S.2 ad) (fin : ph_fin X S.1 S.2 ad (some (.int o.1)) o.2) (hS : ph_SX S) : ∀ (x1 : Int32) (M : ph_Mem), ph_J X S.1 S.2 ad o 26 [(0, .ref (ad 0)), (1, .int x1)] [] M (f11_refused_j26 S x1 M) := by
  intro x1 M
  unfold f11_refused_j26
  refine j_aload_n h dX11_refused_26 rfl 0 rfl ?_
  refine j_iload_n h dX11_refused_27 rfl 1 rfl ?_
  refine j_puti (c := 0) (j := 18) (ty := .int) h (ph_xlt hS (by decide)) (ph_kc0 hS) rfl ph_inX11 tyX11 tyX11_ok nmX11 rfl (by decide) tw_379 rfl rfl (tyX11_ok 18 (by decide)) rfl rfl dX11_refused_28 ?_
  refine j_letM (fun M2 => ?_)
  refine j_iload_n h dX11_refused_31 rfl 1 rfl ?_
  exact j_iret h rfl fin dX11_refused_32
theorem ydf11_refused : ph_yd yX11_refused 1 := ⟨by decide, by decide, by decide +kernel⟩
def f11_refused (S : ph_Sh) (M : ph_Mem) (p0 : Int32) : Option (Int32 × ph_Mem) :=
  if (-p0) < 0 then (f11_refused_j26 S p0 M) else (if (7 : Int32) ≤ (-p0) then (f11_refused_j26 S p0 M) else (cond (ph_ib (-p0) 7) (cond (ph_ib (-p0) 7) (ph_let (ph_wi M 3 (-p0).toNatClampNeg ((M.1 3 (-p0).toNatClampNeg) + (1 : Int32))) fun M1 => f11_refused_j26 S p0 M1) none) none))
set_option maxHeartbeats 4000000 in
theorem cf11_refused {tb adK adV : Nat → Nat} {S : ph_Sh} {l : Launch} {D : va_G} {cA : Nat → ClassId} {ad : Nat → Nat} (hinj : ∀ i j, i < S.2 → j < S.2 → ad i = ad j → i = j) (hS : ph_SX S) {M : ph_Mem} {p0 : Int32} {r : Int32} {M' : ph_Mem} (hf : f11_refused S M p0 = some (r, M')) : ph_C (ph_ZX tb adK adV) l 0 yX11_refused cX11_refused 2 (some .int) D cA S.1 S.2 ad [.ref (ad 0), .int p0] M (some (.int r)) M' := by
  refine ph_mk ph_ZX_ok hinj (by decide) (Nat.le_of_ble_eq_true rfl) fun X h fin hE => ?_
  refine (?_ : ph_J X S.1 S.2 ad ((r, M') : (Int32 × ph_Mem)) 0 [(0, .ref (ad 0)), (1, .int p0)] [] M (f11_refused S M p0)) hf
  unfold f11_refused
  refine j_iload_n h dX11_refused_0 rfl 1 rfl ?_
  refine j_ineg h dX11_refused_1 ?_
  refine j_if_lt h 26 dX11_refused_2 (by decide) ?_ ?_
  · refine j_sub [0, 1] rfl ?_
    exact jb_f11_refused_j26 h fin hS p0 M
  · refine j_iload_n h dX11_refused_5 rfl 1 rfl ?_
    refine j_ineg h dX11_refused_6 ?_
    refine j_aload_n h dX11_refused_7 rfl 0 rfl ?_
    refine j_get (c := 0) (j := 13) (v := .ref (ad 3)) h (ph_xlt hS (by decide)) (ph_kc0 hS) rfl ph_inX11 rfl (by decide) tw_374 rfl rfl dX11_refused_8 ?_
    refine j_alen (c := 3) (tn := 0) (v := (7 : Int32)) h (ph_xlt hS (by decide)) (ph_kc3 hS) rfl (by decide) dX11_refused_11 ?_
    refine j_icmp_ge h 26 dX11_refused_12 (by decide) ?_ ?_
    · refine j_sub [0, 1] rfl ?_
      exact jb_f11_refused_j26 h fin hS p0 M
    · refine j_aload_n h dX11_refused_15 rfl 0 rfl ?_
      refine j_get (c := 0) (j := 13) (v := .ref (ad 3)) h (ph_xlt hS (by decide)) (ph_kc0 hS) rfl ph_inX11 rfl (by decide) tw_374 rfl rfl dX11_refused_16 ?_
      refine j_iload_n h dX11_refused_19 rfl 1 rfl ?_
      refine j_ineg h dX11_refused_20 ?_
      refine j_dup2 h dX11_refused_21 rfl rfl ?_
      refine j_iald (c := 3) (n := 7) h (ph_xlt hS (by decide)) (ph_kc3 hS) dX11_refused_22 ?_
      refine j_iconst (v := (1 : Int32)) h dX11_refused_23 (by decide) ?_
      refine j_iadd h dX11_refused_24 ?_
      refine j_iast (c := 3) (n := 7) h (ph_xlt hS (by decide)) (ph_kc3 hS) dX11_refused_25 ?_
      refine j_letM (fun M1 => ?_)
      refine j_sub [0, 1] rfl ?_
      exact jb_f11_refused_j26 h fin hS p0 M1
theorem dX11_accepted_0 : decode cX11_accepted 0 = .ok (.aload_n 0, 1) := by decide +kernel
theorem dX11_accepted_1 : decode cX11_accepted 1 = .ok (.iconst 0, 1) := by decide +kernel
theorem dX11_accepted_2 : decode cX11_accepted 2 = .ok (.putfield 111, 3) := by decide +kernel
theorem dX11_accepted_5 : decode cX11_accepted 5 = .ok (.iload_n 1, 1) := by decide +kernel
theorem dX11_accepted_6 : decode cX11_accepted 6 = .ok (.ireturn, 1) := by decide +kernel
theorem ydf11_accepted : ph_yd yX11_accepted 1 := ⟨by decide, by decide, by decide +kernel⟩
def f11_accepted (S : ph_Sh) (M : ph_Mem) (p0 : Int32) : Option (Int32 × ph_Mem) :=
  ph_let (ph_wi M 0 18 (0 : Int32)) fun M1 => some (p0, M1)
set_option maxHeartbeats 4000000 in
theorem cf11_accepted {tb adK adV : Nat → Nat} {S : ph_Sh} {l : Launch} {D : va_G} {cA : Nat → ClassId} {ad : Nat → Nat} (hinj : ∀ i j, i < S.2 → j < S.2 → ad i = ad j → i = j) (hS : ph_SX S) {M : ph_Mem} {p0 : Int32} {r : Int32} {M' : ph_Mem} (hf : f11_accepted S M p0 = some (r, M')) : ph_C (ph_ZX tb adK adV) l 0 yX11_accepted cX11_accepted 2 (some .int) D cA S.1 S.2 ad [.ref (ad 0), .int p0] M (some (.int r)) M' := by
  refine ph_mk ph_ZX_ok hinj (by decide) (Nat.le_of_ble_eq_true rfl) fun X h fin hE => ?_
  refine (?_ : ph_J X S.1 S.2 ad ((r, M') : (Int32 × ph_Mem)) 0 [(0, .ref (ad 0)), (1, .int p0)] [] M (f11_accepted S M p0)) hf
  unfold f11_accepted
  refine j_aload_n h dX11_accepted_0 rfl 0 rfl ?_
  refine j_iconst (v := (0 : Int32)) h dX11_accepted_1 (by decide) ?_
  refine j_puti (c := 0) (j := 18) (ty := .int) h (ph_xlt hS (by decide)) (ph_kc0 hS) rfl ph_inX11 tyX11 tyX11_ok nmX11 rfl (by decide) tw_379 rfl rfl (tyX11_ok 18 (by decide)) rfl rfl dX11_accepted_2 ?_
  refine j_letM (fun M1 => ?_)
  refine j_iload_n h dX11_accepted_5 rfl 1 rfl ?_
  exact j_iret h rfl fin dX11_accepted_6
theorem dX11_person_0 : decode cX11_person 0 = .ok (.aload_n 0, 1) := by decide +kernel
theorem dX11_person_1 : decode cX11_person 1 = .ok (.getfield 15, 3) := by decide +kernel
theorem dX11_person_4 : decode cX11_person 4 = .ok (.getfield 114, 3) := by decide +kernel
theorem dX11_person_7 : decode cX11_person 7 = .ok (.bipush 6, 2) := by decide +kernel
theorem dX11_person_9 : decode cX11_person 9 = .ok (.if_icmp .lt 10, 3) := by decide +kernel
theorem dX11_person_12 : decode cX11_person 12 = .ok (.aload_n 0, 1) := by decide +kernel
theorem dX11_person_13 : decode cX11_person 13 = .ok (.bipush (-5), 2) := by decide +kernel
theorem dX11_person_15 : decode cX11_person 15 = .ok (.invokevirtual 117, 3) := by decide +kernel
theorem dX11_person_18 : decode cX11_person 18 = .ok (.ireturn, 1) := by decide +kernel
theorem dX11_person_19 : decode cX11_person 19 = .ok (.aload_n 0, 1) := by decide +kernel
theorem dX11_person_20 : decode cX11_person 20 = .ok (.getfield 35, 3) := by decide +kernel
theorem dX11_person_23 : decode cX11_person 23 = .ok (.invokevirtual 121, 3) := by decide +kernel
theorem dX11_person_26 : decode cX11_person 26 = .ok (.aload_n 0, 1) := by decide +kernel
theorem dX11_person_27 : decode cX11_person 27 = .ok (.getfield 15, 3) := by decide +kernel
theorem dX11_person_30 : decode cX11_person 30 = .ok (.dup, 1) := by decide +kernel
theorem dX11_person_31 : decode cX11_person 31 = .ok (.getfield 114, 3) := by decide +kernel
theorem dX11_person_34 : decode cX11_person 34 = .ok (.iconst 1, 1) := by decide +kernel
theorem dX11_person_35 : decode cX11_person 35 = .ok (.iadd, 1) := by decide +kernel
theorem dX11_person_36 : decode cX11_person 36 = .ok (.putfield 114, 3) := by decide +kernel
theorem dX11_person_39 : decode cX11_person 39 = .ok (.aload_n 0, 1) := by decide +kernel
theorem dX11_person_40 : decode cX11_person 40 = .ok (.aload_n 0, 1) := by decide +kernel
theorem dX11_person_41 : decode cX11_person 41 = .ok (.getfield 15, 3) := by decide +kernel
theorem dX11_person_44 : decode cX11_person 44 = .ok (.getfield 114, 3) := by decide +kernel
theorem dX11_person_47 : decode cX11_person 47 = .ok (.iconst 1, 1) := by decide +kernel
theorem dX11_person_48 : decode cX11_person 48 = .ok (.isub, 1) := by decide +kernel
theorem dX11_person_49 : decode cX11_person 49 = .ok (.invokevirtual 124, 3) := by decide +kernel
theorem dX11_person_52 : decode cX11_person 52 = .ok (.ireturn, 1) := by decide +kernel
theorem ydf11_person : ph_yd yX11_person 0 := ⟨by decide, by decide, by decide +kernel⟩
def f11_person (S : ph_Sh) (M : ph_Mem) : Option (Int32 × ph_Mem) :=
  if (M.1 11 1) < (6 : Int32) then ((f1_forget S M 59).bind fun q1 => ph_let (ph_wi q1 11 1 ((q1.1 11 1) + (1 : Int32))) fun M2 => (f11_accepted S M2 ((M2.1 11 1) - (1 : Int32))).bind fun q3 => some (q3.1, q3.2)) else ((f11_refused S M (-5 : Int32)).bind fun q4 => some (q4.1, q4.2))
set_option maxHeartbeats 4000000 in
theorem cf11_person {tb adK adV : Nat → Nat} {S : ph_Sh} {l : Launch} {D : va_G} {cA : Nat → ClassId} {ad : Nat → Nat} (hinj : ∀ i j, i < S.2 → j < S.2 → ad i = ad j → i = j) (hS : ph_SX S) {M : ph_Mem} {r : Int32} {M' : ph_Mem} (hf : f11_person S M  = some (r, M')) : ph_C (ph_ZX tb adK adV) l 1 yX11_person cX11_person 1 (some .int) D cA S.1 S.2 ad [.ref (ad 0)] M (some (.int r)) M' := by
  refine ph_mk ph_ZX_ok hinj (by decide) (Nat.le_of_ble_eq_true rfl) fun X h fin hE => ?_
  refine (?_ : ph_J X S.1 S.2 ad ((r, M') : (Int32 × ph_Mem)) 0 [(0, .ref (ad 0))] [] M (f11_person S M )) hf
  unfold f11_person
  refine j_aload_n h dX11_person_0 rfl 0 rfl ?_
  refine j_get (c := 0) (j := 0) (v := .ref (ad 11)) h (ph_xlt hS (by decide)) (ph_kc0 hS) rfl ph_inX11 rfl (by decide) tw_361 rfl rfl dX11_person_1 ?_
  refine j_get (c := 11) (j := 1) (v := .int (M.1 11 1)) h (ph_xlt hS (by decide)) (ph_kc11 hS) rfl ph_inX9 rfl (by decide) tw_65 rfl rfl dX11_person_4 ?_
  refine j_bipush (v := (6 : Int32)) h dX11_person_7 (by decide) ?_
  refine j_icmp_lt h 19 dX11_person_9 (by decide) ?_ ?_
  · refine j_aload_n h dX11_person_19 rfl 0 rfl ?_
    refine j_get (c := 0) (j := 4) (v := .ref (ad 59)) h (ph_xlt hS (by decide)) (ph_kc0 hS) rfl ph_inX11 rfl (by decide) tw_365 rfl rfl dX11_person_20 ?_
    refine j_callVv (n := 0) (As := []) (rest := []) h 59 tw_427 tw_428 tw_429 tw_6 tw_430 ydf1_forget (by decide) (by decide) (ph_xlt hS (by decide)) (ph_kc59 hS) rfl (fun q hq => cf1_forget (ph_okI h) hS (by decide) hq) rfl (Nat.le_of_ble_eq_true rfl) rfl dX11_person_23 (fun q1 => ?_)
    refine j_aload_n h dX11_person_26 rfl 0 rfl ?_
    refine j_get (c := 0) (j := 0) (v := .ref (ad 11)) h (ph_xlt hS (by decide)) (ph_kc0 hS) rfl ph_inX11 rfl (by decide) tw_361 rfl rfl dX11_person_27 ?_
    refine j_dup h dX11_person_30 rfl ?_
    refine j_get (c := 11) (j := 1) (v := .int (q1.1 11 1)) h (ph_xlt hS (by decide)) (ph_kc11 hS) rfl ph_inX9 rfl (by decide) tw_65 rfl rfl dX11_person_31 ?_
    refine j_iconst (v := (1 : Int32)) h dX11_person_34 (by decide) ?_
    refine j_iadd h dX11_person_35 ?_
    refine j_puti (c := 11) (j := 1) (ty := .int) h (ph_xlt hS (by decide)) (ph_kc11 hS) rfl ph_inX9 tyX9 tyX9_ok nmX9 rfl (by decide) tw_65 rfl rfl (tyX9_ok 1 (by decide)) rfl rfl dX11_person_36 ?_
    refine j_letM (fun M2 => ?_)
    refine j_aload_n h dX11_person_39 rfl 0 rfl ?_
    refine j_aload_n h dX11_person_40 rfl 0 rfl ?_
    refine j_get (c := 0) (j := 0) (v := .ref (ad 11)) h (ph_xlt hS (by decide)) (ph_kc0 hS) rfl ph_inX11 rfl (by decide) tw_361 rfl rfl dX11_person_41 ?_
    refine j_get (c := 11) (j := 1) (v := .int (M2.1 11 1)) h (ph_xlt hS (by decide)) (ph_kc11 hS) rfl ph_inX9 rfl (by decide) tw_65 rfl rfl dX11_person_44 ?_
    refine j_iconst (v := (1 : Int32)) h dX11_person_47 (by decide) ?_
    refine j_isub h dX11_person_48 ?_
    refine j_callVi (n := 1) (As := [.int ((M2.1 11 1) - (1 : Int32))]) (rest := []) h 0 tw_431 tw_433 tp_1 tw_1 tw_434 ydf11_accepted (by decide) (by decide) (ph_xlt hS (by decide)) (ph_kc0 hS) rfl (fun q hq => cf11_accepted (ph_okI h) hS hq) rfl (Nat.le_of_ble_eq_true rfl) rfl dX11_person_49 (fun q3 => ?_)
    exact j_iret h rfl fin dX11_person_52
  · refine j_aload_n h dX11_person_12 rfl 0 rfl ?_
    refine j_bipush (v := (-5 : Int32)) h dX11_person_13 (by decide) ?_
    refine j_callVi (n := 1) (As := [.int (-5 : Int32)]) (rest := []) h 0 tw_423 tw_425 tp_0 tw_1 tw_426 ydf11_refused (by decide) (by decide) (ph_xlt hS (by decide)) (ph_kc0 hS) rfl (fun q hq => cf11_refused (ph_okI h) hS hq) rfl (Nat.le_of_ble_eq_true rfl) rfl dX11_person_15 (fun q4 => ?_)
    exact j_iret h rfl fin dX11_person_18
theorem dX11_isHour_0 : decode cX11_isHour 0 = .ok (.iload_n 0, 1) := by decide +kernel
theorem dX11_isHour_1 : decode cX11_isHour 1 = .ok (.ifCond .lt 13, 3) := by decide +kernel
theorem dX11_isHour_4 : decode cX11_isHour 4 = .ok (.iload_n 0, 1) := by decide +kernel
theorem dX11_isHour_5 : decode cX11_isHour 5 = .ok (.bipush 12, 2) := by decide +kernel
theorem dX11_isHour_7 : decode cX11_isHour 7 = .ok (.if_icmp .ge 7, 3) := by decide +kernel
theorem dX11_isHour_10 : decode cX11_isHour 10 = .ok (.iconst 1, 1) := by decide +kernel
theorem dX11_isHour_11 : decode cX11_isHour 11 = .ok (.goto 4, 3) := by decide +kernel
theorem dX11_isHour_14 : decode cX11_isHour 14 = .ok (.iconst 0, 1) := by decide +kernel
theorem dX11_isHour_15 : decode cX11_isHour 15 = .ok (.ireturn, 1) := by decide +kernel
theorem ydf11_isHour : ph_yd yX11_isHour 1 := ⟨by decide, by decide, by decide +kernel⟩
def f11_isHour (S : ph_Sh) (M : ph_Mem) (p0 : Int32) : Option Int32 :=
  if p0 < 0 then (some (0 : Int32)) else (if (12 : Int32) ≤ p0 then (some (0 : Int32)) else (some (1 : Int32)))
set_option maxHeartbeats 4000000 in
theorem cf11_isHour {tb adK adV : Nat → Nat} {S : ph_Sh} {l : Launch} {D : va_G} {cA : Nat → ClassId} {ad : Nat → Nat} (hinj : ∀ i j, i < S.2 → j < S.2 → ad i = ad j → i = j) (hS : ph_SX S) {M : ph_Mem} {p0 : Int32} {r : Int32} (hf : f11_isHour S M p0 = some r) : ph_C (ph_ZX tb adK adV) l 0 yX11_isHour cX11_isHour 1 (some .boolean) D cA S.1 S.2 ad [.int p0] M (some (.int r)) M := by
  refine ph_mk ph_ZX_ok hinj (by decide) (Nat.le_of_ble_eq_true rfl) fun X h fin hE => ?_
  refine (?_ : ph_J X S.1 S.2 ad (r : Int32) 0 [(0, .int p0)] [] M (f11_isHour S M p0)) hf
  unfold f11_isHour
  refine j_iload_n h dX11_isHour_0 rfl 0 rfl ?_
  refine j_if_lt h 14 dX11_isHour_1 (by decide) ?_ ?_
  · refine j_iconst (v := (0 : Int32)) h dX11_isHour_14 (by decide) ?_
    exact j_zretPC h rfl (by decide) fin dX11_isHour_15
  · refine j_iload_n h dX11_isHour_4 rfl 0 rfl ?_
    refine j_bipush (v := (12 : Int32)) h dX11_isHour_5 (by decide) ?_
    refine j_icmp_ge h 14 dX11_isHour_7 (by decide) ?_ ?_
    · refine j_iconst (v := (0 : Int32)) h dX11_isHour_14 (by decide) ?_
      exact j_zretPC h rfl (by decide) fin dX11_isHour_15
    · refine j_iconst (v := (1 : Int32)) h dX11_isHour_10 (by decide) ?_
      refine j_goto h 15 dX11_isHour_11 (by decide) ?_
      exact j_zretPC h rfl (by decide) fin dX11_isHour_15
theorem dX11_put_0 : decode cX11_put 0 = .ok (.iload_n 2, 1) := by decide +kernel
theorem dX11_put_1 : decode cX11_put 1 = .ok (.invokestatic 127, 3) := by decide +kernel
theorem dX11_put_4 : decode cX11_put 4 = .ok (.ifCond .eq 17, 3) := by decide +kernel
theorem dX11_put_7 : decode cX11_put 7 = .ok (.aload_n 0, 1) := by decide +kernel
theorem dX11_put_8 : decode cX11_put 8 = .ok (.getfield 15, 3) := by decide +kernel
theorem dX11_put_11 : decode cX11_put 11 = .ok (.iload_n 1, 1) := by decide +kernel
theorem dX11_put_12 : decode cX11_put 12 = .ok (.iload_n 3, 1) := by decide +kernel
theorem dX11_put_13 : decode cX11_put 13 = .ok (.iload 4, 2) := by decide +kernel
theorem dX11_put_15 : decode cX11_put 15 = .ok (.invokevirtual 131, 3) := by decide +kernel
theorem dX11_put_18 : decode cX11_put 18 = .ok (.ifCond .ne 9, 3) := by decide +kernel
theorem dX11_put_21 : decode cX11_put 21 = .ok (.aload_n 0, 1) := by decide +kernel
theorem dX11_put_22 : decode cX11_put 22 = .ok (.iconst (-1), 1) := by decide +kernel
theorem dX11_put_23 : decode cX11_put 23 = .ok (.invokevirtual 117, 3) := by decide +kernel
theorem dX11_put_26 : decode cX11_put 26 = .ok (.ireturn, 1) := by decide +kernel
theorem dX11_put_27 : decode cX11_put 27 = .ok (.aload_n 0, 1) := by decide +kernel
theorem dX11_put_28 : decode cX11_put 28 = .ok (.getfield 15, 3) := by decide +kernel
theorem dX11_put_31 : decode cX11_put 31 = .ok (.iload_n 1, 1) := by decide +kernel
theorem dX11_put_32 : decode cX11_put 32 = .ok (.invokevirtual 135, 3) := by decide +kernel
theorem dX11_put_35 : decode cX11_put 35 = .ok (.ifCond .ne 10, 3) := by decide +kernel
theorem dX11_put_38 : decode cX11_put 38 = .ok (.aload_n 0, 1) := by decide +kernel
theorem dX11_put_39 : decode cX11_put 39 = .ok (.bipush (-2), 2) := by decide +kernel
theorem dX11_put_41 : decode cX11_put 41 = .ok (.invokevirtual 117, 3) := by decide +kernel
theorem dX11_put_44 : decode cX11_put 44 = .ok (.ireturn, 1) := by decide +kernel
theorem dX11_put_45 : decode cX11_put 45 = .ok (.aload_n 0, 1) := by decide +kernel
theorem dX11_put_46 : decode cX11_put 46 = .ok (.getfield 35, 3) := by decide +kernel
theorem dX11_put_49 : decode cX11_put 49 = .ok (.invokevirtual 121, 3) := by decide +kernel
theorem dX11_put_52 : decode cX11_put 52 = .ok (.aload_n 0, 1) := by decide +kernel
theorem dX11_put_53 : decode cX11_put 53 = .ok (.aload_n 0, 1) := by decide +kernel
theorem dX11_put_54 : decode cX11_put 54 = .ok (.getfield 15, 3) := by decide +kernel
theorem dX11_put_57 : decode cX11_put 57 = .ok (.iload_n 1, 1) := by decide +kernel
theorem dX11_put_58 : decode cX11_put 58 = .ok (.iload_n 2, 1) := by decide +kernel
theorem dX11_put_59 : decode cX11_put 59 = .ok (.invokestatic 138, 3) := by decide +kernel
theorem dX11_put_62 : decode cX11_put 62 = .ok (.iload_n 3, 1) := by decide +kernel
theorem dX11_put_63 : decode cX11_put 63 = .ok (.iload 4, 2) := by decide +kernel
theorem dX11_put_65 : decode cX11_put 65 = .ok (.invokevirtual 142, 3) := by decide +kernel
theorem dX11_put_68 : decode cX11_put 68 = .ok (.invokevirtual 124, 3) := by decide +kernel
theorem dX11_put_71 : decode cX11_put 71 = .ok (.ireturn, 1) := by decide +kernel
def f11_put_j21 (S : ph_Sh) (M : ph_Mem) : Option (Int32 × ph_Mem) :=
  (f11_refused S M (-1 : Int32)).bind fun q9 => some (q9.1, q9.2)
set_option maxHeartbeats 4000000 in
theorem jb_f11_put_j21 {tb adK adV : Nat → Nat} {S : ph_Sh} {X : ph_X} {ad : Nat → Nat} {o : (Int32 × ph_Mem)} (h : ph_ok (ph_ZX tb adK adV) X cX11_put RX11 (some .int) 5 2 S.2 ad) (fin : ph_fin X S.1 S.2 ad (some (.int o.1)) o.2) (hS : ph_SX S) : ∀ (M : ph_Mem), ph_J X S.1 S.2 ad o 21 [(0, .ref (ad 0))] [] M (f11_put_j21 S M) := by
  intro M
  unfold f11_put_j21
  refine j_aload_n h dX11_put_21 rfl 0 rfl ?_
  refine j_iconst (v := (-1 : Int32)) h dX11_put_22 (by decide) ?_
  refine j_callVi (n := 1) (As := [.int (-1 : Int32)]) (rest := []) h 0 tw_423 tw_425 tp_0 tw_1 tw_426 ydf11_refused (by decide) (by decide) (ph_xlt hS (by decide)) (ph_kc0 hS) rfl (fun q hq => cf11_refused (ph_okI h) hS hq) rfl (Nat.le_of_ble_eq_true rfl) rfl dX11_put_23 (fun q9 => ?_)
  exact j_iret h rfl fin dX11_put_26
theorem ydf11_put : ph_yd yX11_put 4 := ⟨by decide, by decide, by decide +kernel⟩
def f11_put (S : ph_Sh) (M : ph_Mem) (p0 : Int32) (p1 : Int32) (p2 : Int32) (p3 : Int32) : Option (Int32 × ph_Mem) :=
  (f11_isHour S M p1).bind fun q1 => if q1 = 0 then (f11_put_j21 S  M) else ((f9_canBeTold S M 11 p0 p2 p3).bind fun q2 => if q2 = 0 then (f11_put_j21 S  M) else ((f9_isPerson S M 11 p0).bind fun q3 => if q3 = 0 then ((f11_refused S M (-2 : Int32)).bind fun q8 => some (q8.1, q8.2)) else ((f1_forget S M 59).bind fun q4 => (f11_placeOf S q4 p0 p1).bind fun q5 => (f9_tell S q4 11 q5 p2 p3).bind fun q6 => (f11_accepted S q6.2 q6.1).bind fun q7 => some (q7.1, q7.2))))
set_option maxHeartbeats 4000000 in
theorem cf11_put {tb adK adV : Nat → Nat} {S : ph_Sh} {l : Launch} {D : va_G} {cA : Nat → ClassId} {ad : Nat → Nat} (hinj : ∀ i j, i < S.2 → j < S.2 → ad i = ad j → i = j) (hS : ph_SX S) {M : ph_Mem} {p0 : Int32} {p1 : Int32} {p2 : Int32} {p3 : Int32} {r : Int32} {M' : ph_Mem} (hf : f11_put S M p0 p1 p2 p3 = some (r, M')) : ph_C (ph_ZX tb adK adV) l 2 yX11_put cX11_put 5 (some .int) D cA S.1 S.2 ad [.ref (ad 0), .int p0, .int p1, .int p2, .int p3] M (some (.int r)) M' := by
  refine ph_mk ph_ZX_ok hinj (by decide) (Nat.le_of_ble_eq_true rfl) fun X h fin hE => ?_
  refine (?_ : ph_J X S.1 S.2 ad ((r, M') : (Int32 × ph_Mem)) 0 [(0, .ref (ad 0)), (1, .int p0), (2, .int p1), (3, .int p2), (4, .int p3)] [] M (f11_put S M p0 p1 p2 p3)) hf
  unfold f11_put
  refine j_iload_n h dX11_put_0 rfl 2 rfl ?_
  refine j_callSiP (n := 1) (As := [.int p1]) (rest := []) h tw_439 tw_440 tw_1 tw_441 ydf11_isHour (by decide) (by decide) (fun q hq => cf11_isHour (ph_okI h) hS hq) rfl (Nat.le_of_ble_eq_true rfl) rfl dX11_put_1 (fun q1 => ?_)
  refine j_if_eq h 21 dX11_put_4 (by decide) ?_ ?_
  · refine j_sub [0] rfl ?_
    exact jb_f11_put_j21 h fin hS  M
  · refine j_aload_n h dX11_put_7 rfl 0 rfl ?_
    refine j_get (c := 0) (j := 0) (v := .ref (ad 11)) h (ph_xlt hS (by decide)) (ph_kc0 hS) rfl ph_inX11 rfl (by decide) tw_361 rfl rfl dX11_put_8 ?_
    refine j_iload_n h dX11_put_11 rfl 1 rfl ?_
    refine j_iload_n h dX11_put_12 rfl 3 rfl ?_
    refine j_iload h dX11_put_13 4 rfl ?_
    refine j_callViP (n := 3) (As := [.int p0, .int p2, .int p3]) (rest := []) h 11 tw_442 tw_443 tw_444 tw_3 tw_445 ydf9_canBeTold (by decide) (by decide) (ph_xlt hS (by decide)) (ph_kc11 hS) rfl (fun q hq => cf9_canBeTold (ph_okI h) hS (by decide) hq) rfl (Nat.le_of_ble_eq_true rfl) rfl dX11_put_15 (fun q2 => ?_)
    refine j_if_ne h 27 dX11_put_18 (by decide) ?_ ?_
    · refine j_aload_n h dX11_put_27 rfl 0 rfl ?_
      refine j_get (c := 0) (j := 0) (v := .ref (ad 11)) h (ph_xlt hS (by decide)) (ph_kc0 hS) rfl ph_inX11 rfl (by decide) tw_361 rfl rfl dX11_put_28 ?_
      refine j_iload_n h dX11_put_31 rfl 1 rfl ?_
      refine j_callViP (n := 1) (As := [.int p0]) (rest := []) h 11 tw_456 tw_457 tw_458 tw_3 tw_459 ydf9_isPerson (by decide) (by decide) (ph_xlt hS (by decide)) (ph_kc11 hS) rfl (fun q hq => cf9_isPerson (ph_okI h) hS (by decide) hq) rfl (Nat.le_of_ble_eq_true rfl) rfl dX11_put_32 (fun q3 => ?_)
      refine j_if_ne h 45 dX11_put_35 (by decide) ?_ ?_
      · refine j_aload_n h dX11_put_45 rfl 0 rfl ?_
        refine j_get (c := 0) (j := 4) (v := .ref (ad 59)) h (ph_xlt hS (by decide)) (ph_kc0 hS) rfl ph_inX11 rfl (by decide) tw_365 rfl rfl dX11_put_46 ?_
        refine j_callVv (n := 0) (As := []) (rest := []) h 59 tw_427 tw_428 tw_429 tw_6 tw_430 ydf1_forget (by decide) (by decide) (ph_xlt hS (by decide)) (ph_kc59 hS) rfl (fun q hq => cf1_forget (ph_okI h) hS (by decide) hq) rfl (Nat.le_of_ble_eq_true rfl) rfl dX11_put_49 (fun q4 => ?_)
        refine j_aload_n h dX11_put_52 rfl 0 rfl ?_
        refine j_aload_n h dX11_put_53 rfl 0 rfl ?_
        refine j_get (c := 0) (j := 0) (v := .ref (ad 11)) h (ph_xlt hS (by decide)) (ph_kc0 hS) rfl ph_inX11 rfl (by decide) tw_361 rfl rfl dX11_put_54 ?_
        refine j_iload_n h dX11_put_57 rfl 1 rfl ?_
        refine j_iload_n h dX11_put_58 rfl 2 rfl ?_
        refine j_callSiP (n := 2) (As := [.int p0, .int p1]) (rest := [.ref (ad 11), .ref (ad 0)]) h tw_460 tw_461 tw_1 tw_462 ydf11_placeOf (by decide) (by decide) (fun q hq => cf11_placeOf (ph_okI h) hS hq) rfl (Nat.le_of_ble_eq_true rfl) rfl dX11_put_59 (fun q5 => ?_)
        refine j_iload_n h dX11_put_62 rfl 3 rfl ?_
        refine j_iload h dX11_put_63 4 rfl ?_
        refine j_callVi (n := 3) (As := [.int q5, .int p2, .int p3]) (rest := [.ref (ad 0)]) h 11 tw_463 tw_464 tw_465 tw_3 tw_466 ydf9_tell (by decide) (by decide) (ph_xlt hS (by decide)) (ph_kc11 hS) rfl (fun q hq => cf9_tell (ph_okI h) hS (by decide) hq) rfl (Nat.le_of_ble_eq_true rfl) rfl dX11_put_65 (fun q6 => ?_)
        refine j_callVi (n := 1) (As := [.int q6.1]) (rest := []) h 0 tw_431 tw_433 tp_1 tw_1 tw_434 ydf11_accepted (by decide) (by decide) (ph_xlt hS (by decide)) (ph_kc0 hS) rfl (fun q hq => cf11_accepted (ph_okI h) hS hq) rfl (Nat.le_of_ble_eq_true rfl) rfl dX11_put_68 (fun q7 => ?_)
        exact j_iret h rfl fin dX11_put_71
      · refine j_aload_n h dX11_put_38 rfl 0 rfl ?_
        refine j_bipush (v := (-2 : Int32)) h dX11_put_39 (by decide) ?_
        refine j_callVi (n := 1) (As := [.int (-2 : Int32)]) (rest := []) h 0 tw_423 tw_425 tp_0 tw_1 tw_426 ydf11_refused (by decide) (by decide) (ph_xlt hS (by decide)) (ph_kc0 hS) rfl (fun q hq => cf11_refused (ph_okI h) hS hq) rfl (Nat.le_of_ble_eq_true rfl) rfl dX11_put_41 (fun q8 => ?_)
        exact j_iret h rfl fin dX11_put_44
    · refine j_sub [0] rfl ?_
      exact jb_f11_put_j21 h fin hS  M
theorem dX11_hour_0 : decode cX11_hour 0 = .ok (.aload_n 0, 1) := by decide +kernel
theorem dX11_hour_1 : decode cX11_hour 1 = .ok (.getfield 15, 3) := by decide +kernel
theorem dX11_hour_4 : decode cX11_hour 4 = .ok (.iload_n 1, 1) := by decide +kernel
theorem dX11_hour_5 : decode cX11_hour 5 = .ok (.invokevirtual 135, 3) := by decide +kernel
theorem dX11_hour_8 : decode cX11_hour 8 = .ok (.ifCond .eq 10, 3) := by decide +kernel
theorem dX11_hour_11 : decode cX11_hour 11 = .ok (.iload_n 2, 1) := by decide +kernel
theorem dX11_hour_12 : decode cX11_hour 12 = .ok (.invokestatic 127, 3) := by decide +kernel
theorem dX11_hour_15 : decode cX11_hour 15 = .ok (.ifCond .ne 5, 3) := by decide +kernel
theorem dX11_hour_18 : decode cX11_hour 18 = .ok (.iconst (-1), 1) := by decide +kernel
theorem dX11_hour_19 : decode cX11_hour 19 = .ok (.ireturn, 1) := by decide +kernel
theorem dX11_hour_20 : decode cX11_hour 20 = .ok (.iload_n 1, 1) := by decide +kernel
theorem dX11_hour_21 : decode cX11_hour 21 = .ok (.iload_n 2, 1) := by decide +kernel
theorem dX11_hour_22 : decode cX11_hour 22 = .ok (.invokestatic 138, 3) := by decide +kernel
theorem dX11_hour_25 : decode cX11_hour 25 = .ok (.istore 4, 2) := by decide +kernel
theorem dX11_hour_27 : decode cX11_hour 27 = .ok (.iload_n 3, 1) := by decide +kernel
theorem dX11_hour_28 : decode cX11_hour 28 = .ok (.tableswitch 224 0 8 #[52, 63, 74, 85, 96, 107, 146, 166, 204], 52) := by decide +kernel
theorem dX11_hour_80 : decode cX11_hour 80 = .ok (.aload_n 0, 1) := by decide +kernel
theorem dX11_hour_81 : decode cX11_hour 81 = .ok (.getfield 15, 3) := by decide +kernel
theorem dX11_hour_84 : decode cX11_hour 84 = .ok (.getfield 146, 3) := by decide +kernel
theorem dX11_hour_87 : decode cX11_hour 87 = .ok (.iload 4, 2) := by decide +kernel
theorem dX11_hour_89 : decode cX11_hour 89 = .ok (.iaload, 1) := by decide +kernel
theorem dX11_hour_90 : decode cX11_hour 90 = .ok (.ireturn, 1) := by decide +kernel
theorem dX11_hour_91 : decode cX11_hour 91 = .ok (.aload_n 0, 1) := by decide +kernel
theorem dX11_hour_92 : decode cX11_hour 92 = .ok (.getfield 15, 3) := by decide +kernel
theorem dX11_hour_95 : decode cX11_hour 95 = .ok (.getfield 149, 3) := by decide +kernel
theorem dX11_hour_98 : decode cX11_hour 98 = .ok (.iload 4, 2) := by decide +kernel
theorem dX11_hour_100 : decode cX11_hour 100 = .ok (.iaload, 1) := by decide +kernel
theorem dX11_hour_101 : decode cX11_hour 101 = .ok (.ireturn, 1) := by decide +kernel
theorem dX11_hour_102 : decode cX11_hour 102 = .ok (.aload_n 0, 1) := by decide +kernel
theorem dX11_hour_103 : decode cX11_hour 103 = .ok (.getfield 15, 3) := by decide +kernel
theorem dX11_hour_106 : decode cX11_hour 106 = .ok (.getfield 152, 3) := by decide +kernel
theorem dX11_hour_109 : decode cX11_hour 109 = .ok (.iload 4, 2) := by decide +kernel
theorem dX11_hour_111 : decode cX11_hour 111 = .ok (.iaload, 1) := by decide +kernel
theorem dX11_hour_112 : decode cX11_hour 112 = .ok (.ireturn, 1) := by decide +kernel
theorem dX11_hour_113 : decode cX11_hour 113 = .ok (.aload_n 0, 1) := by decide +kernel
theorem dX11_hour_114 : decode cX11_hour 114 = .ok (.getfield 15, 3) := by decide +kernel
theorem dX11_hour_117 : decode cX11_hour 117 = .ok (.getfield 155, 3) := by decide +kernel
theorem dX11_hour_120 : decode cX11_hour 120 = .ok (.iload 4, 2) := by decide +kernel
theorem dX11_hour_122 : decode cX11_hour 122 = .ok (.iaload, 1) := by decide +kernel
theorem dX11_hour_123 : decode cX11_hour 123 = .ok (.ireturn, 1) := by decide +kernel
theorem dX11_hour_124 : decode cX11_hour 124 = .ok (.aload_n 0, 1) := by decide +kernel
theorem dX11_hour_125 : decode cX11_hour 125 = .ok (.getfield 15, 3) := by decide +kernel
theorem dX11_hour_128 : decode cX11_hour 128 = .ok (.getfield 158, 3) := by decide +kernel
theorem dX11_hour_131 : decode cX11_hour 131 = .ok (.iload 4, 2) := by decide +kernel
theorem dX11_hour_133 : decode cX11_hour 133 = .ok (.iaload, 1) := by decide +kernel
theorem dX11_hour_134 : decode cX11_hour 134 = .ok (.ireturn, 1) := by decide +kernel
theorem dX11_hour_135 : decode cX11_hour 135 = .ok (.aload_n 0, 1) := by decide +kernel
theorem dX11_hour_136 : decode cX11_hour 136 = .ok (.getfield 15, 3) := by decide +kernel
theorem dX11_hour_139 : decode cX11_hour 139 = .ok (.getfield 155, 3) := by decide +kernel
theorem dX11_hour_142 : decode cX11_hour 142 = .ok (.iload 4, 2) := by decide +kernel
theorem dX11_hour_144 : decode cX11_hour 144 = .ok (.iaload, 1) := by decide +kernel
theorem dX11_hour_145 : decode cX11_hour 145 = .ok (.iconst 1, 1) := by decide +kernel
theorem dX11_hour_146 : decode cX11_hour 146 = .ok (.if_icmp .ne 26, 3) := by decide +kernel
theorem dX11_hour_149 : decode cX11_hour 149 = .ok (.aload_n 0, 1) := by decide +kernel
theorem dX11_hour_150 : decode cX11_hour 150 = .ok (.getfield 15, 3) := by decide +kernel
theorem dX11_hour_153 : decode cX11_hour 153 = .ok (.getfield 161, 3) := by decide +kernel
theorem dX11_hour_156 : decode cX11_hour 156 = .ok (.iconst 0, 1) := by decide +kernel
theorem dX11_hour_157 : decode cX11_hour 157 = .ok (.iaload, 1) := by decide +kernel
theorem dX11_hour_158 : decode cX11_hour 158 = .ok (.aload_n 0, 1) := by decide +kernel
theorem dX11_hour_159 : decode cX11_hour 159 = .ok (.getfield 15, 3) := by decide +kernel
theorem dX11_hour_162 : decode cX11_hour 162 = .ok (.getfield 164, 3) := by decide +kernel
theorem dX11_hour_165 : decode cX11_hour 165 = .ok (.iload 4, 2) := by decide +kernel
theorem dX11_hour_167 : decode cX11_hour 167 = .ok (.iaload, 1) := by decide +kernel
theorem dX11_hour_168 : decode cX11_hour 168 = .ok (.isub, 1) := by decide +kernel
theorem dX11_hour_169 : decode cX11_hour 169 = .ok (.goto 4, 3) := by decide +kernel
theorem dX11_hour_172 : decode cX11_hour 172 = .ok (.iconst (-1), 1) := by decide +kernel
theorem dX11_hour_173 : decode cX11_hour 173 = .ok (.ireturn, 1) := by decide +kernel
theorem dX11_hour_174 : decode cX11_hour 174 = .ok (.aload_n 0, 1) := by decide +kernel
theorem dX11_hour_175 : decode cX11_hour 175 = .ok (.getfield 15, 3) := by decide +kernel
theorem dX11_hour_178 : decode cX11_hour 178 = .ok (.iconst 0, 1) := by decide +kernel
theorem dX11_hour_179 : decode cX11_hour 179 = .ok (.iload_n 1, 1) := by decide +kernel
theorem dX11_hour_180 : decode cX11_hour 180 = .ok (.iload_n 2, 1) := by decide +kernel
theorem dX11_hour_181 : decode cX11_hour 181 = .ok (.aload_n 0, 1) := by decide +kernel
theorem dX11_hour_182 : decode cX11_hour 182 = .ok (.getfield 15, 3) := by decide +kernel
theorem dX11_hour_185 : decode cX11_hour 185 = .ok (.getfield 161, 3) := by decide +kernel
theorem dX11_hour_188 : decode cX11_hour 188 = .ok (.iconst 0, 1) := by decide +kernel
theorem dX11_hour_189 : decode cX11_hour 189 = .ok (.iaload, 1) := by decide +kernel
theorem dX11_hour_190 : decode cX11_hour 190 = .ok (.invokevirtual 167, 3) := by decide +kernel
theorem dX11_hour_193 : decode cX11_hour 193 = .ok (.ireturn, 1) := by decide +kernel
theorem dX11_hour_194 : decode cX11_hour 194 = .ok (.aload_n 0, 1) := by decide +kernel
theorem dX11_hour_195 : decode cX11_hour 195 = .ok (.getfield 15, 3) := by decide +kernel
theorem dX11_hour_198 : decode cX11_hour 198 = .ok (.getfield 155, 3) := by decide +kernel
theorem dX11_hour_201 : decode cX11_hour 201 = .ok (.iload 4, 2) := by decide +kernel
theorem dX11_hour_203 : decode cX11_hour 203 = .ok (.iaload, 1) := by decide +kernel
theorem dX11_hour_204 : decode cX11_hour 204 = .ok (.iconst 1, 1) := by decide +kernel
theorem dX11_hour_205 : decode cX11_hour 205 = .ok (.if_icmp .ne 25, 3) := by decide +kernel
theorem dX11_hour_208 : decode cX11_hour 208 = .ok (.aload_n 0, 1) := by decide +kernel
theorem dX11_hour_209 : decode cX11_hour 209 = .ok (.getfield 15, 3) := by decide +kernel
theorem dX11_hour_212 : decode cX11_hour 212 = .ok (.iconst 1, 1) := by decide +kernel
theorem dX11_hour_213 : decode cX11_hour 213 = .ok (.iload_n 1, 1) := by decide +kernel
theorem dX11_hour_214 : decode cX11_hour 214 = .ok (.iload_n 2, 1) := by decide +kernel
theorem dX11_hour_215 : decode cX11_hour 215 = .ok (.aload_n 0, 1) := by decide +kernel
theorem dX11_hour_216 : decode cX11_hour 216 = .ok (.getfield 15, 3) := by decide +kernel
theorem dX11_hour_219 : decode cX11_hour 219 = .ok (.getfield 161, 3) := by decide +kernel
theorem dX11_hour_222 : decode cX11_hour 222 = .ok (.iconst 0, 1) := by decide +kernel
theorem dX11_hour_223 : decode cX11_hour 223 = .ok (.iaload, 1) := by decide +kernel
theorem dX11_hour_224 : decode cX11_hour 224 = .ok (.invokevirtual 167, 3) := by decide +kernel
theorem dX11_hour_227 : decode cX11_hour 227 = .ok (.goto 4, 3) := by decide +kernel
theorem dX11_hour_230 : decode cX11_hour 230 = .ok (.iconst (-1), 1) := by decide +kernel
theorem dX11_hour_231 : decode cX11_hour 231 = .ok (.ireturn, 1) := by decide +kernel
theorem dX11_hour_232 : decode cX11_hour 232 = .ok (.aload_n 0, 1) := by decide +kernel
theorem dX11_hour_233 : decode cX11_hour 233 = .ok (.getfield 15, 3) := by decide +kernel
theorem dX11_hour_236 : decode cX11_hour 236 = .ok (.iconst 2, 1) := by decide +kernel
theorem dX11_hour_237 : decode cX11_hour 237 = .ok (.iload_n 1, 1) := by decide +kernel
theorem dX11_hour_238 : decode cX11_hour 238 = .ok (.iload_n 2, 1) := by decide +kernel
theorem dX11_hour_239 : decode cX11_hour 239 = .ok (.aload_n 0, 1) := by decide +kernel
theorem dX11_hour_240 : decode cX11_hour 240 = .ok (.getfield 15, 3) := by decide +kernel
theorem dX11_hour_243 : decode cX11_hour 243 = .ok (.getfield 161, 3) := by decide +kernel
theorem dX11_hour_246 : decode cX11_hour 246 = .ok (.iconst 0, 1) := by decide +kernel
theorem dX11_hour_247 : decode cX11_hour 247 = .ok (.iaload, 1) := by decide +kernel
theorem dX11_hour_248 : decode cX11_hour 248 = .ok (.invokevirtual 167, 3) := by decide +kernel
theorem dX11_hour_251 : decode cX11_hour 251 = .ok (.ireturn, 1) := by decide +kernel
theorem dX11_hour_252 : decode cX11_hour 252 = .ok (.iconst (-1), 1) := by decide +kernel
theorem dX11_hour_253 : decode cX11_hour 253 = .ok (.ireturn, 1) := by decide +kernel
theorem ydf11_hour : ph_yd yX11_hour 3 := ⟨by decide, by decide, by decide +kernel⟩
def f11_hour (S : ph_Sh) (M : ph_Mem) (p0 : Int32) (p1 : Int32) (p2 : Int32) : Option (Int32 × ph_Mem) :=
  (f9_isPerson S M 11 p0).bind fun q1 => if q1 = 0 then (some ((-1 : Int32), M)) else ((f11_isHour S M p1).bind fun q2 => if q2 = 0 then (some ((-1 : Int32), M)) else ((f11_placeOf S M p0 p1).bind fun q3 => if p2 = (0 : Int32) then (cond (ph_ib q3 72) (some ((M.1 13 q3.toNatClampNeg), M)) none) else (if p2 = (1 : Int32) then (cond (ph_ib q3 72) (some ((M.1 14 q3.toNatClampNeg), M)) none) else (if p2 = (2 : Int32) then (cond (ph_ib q3 72) (some ((M.1 15 q3.toNatClampNeg), M)) none) else (if p2 = (3 : Int32) then (cond (ph_ib q3 72) (some ((M.1 16 q3.toNatClampNeg), M)) none) else (if p2 = (4 : Int32) then (cond (ph_ib q3 72) (some ((M.1 17 q3.toNatClampNeg), M)) none) else (if p2 = (5 : Int32) then (cond (ph_ib q3 72) (if (M.1 16 q3.toNatClampNeg) = (1 : Int32) then (cond (ph_ib q3 72) (some (((M.1 21 0) - (M.1 18 q3.toNatClampNeg)), M)) none) else (some ((-1 : Int32), M))) none) else (if p2 = (6 : Int32) then ((f9_ruled S M 11 (0 : Int32) p0 p1 (M.1 21 0)).bind fun q4 => some (q4.1, q4.2)) else (if p2 = (7 : Int32) then (cond (ph_ib q3 72) (if (M.1 16 q3.toNatClampNeg) = (1 : Int32) then ((f9_ruled S M 11 (1 : Int32) p0 p1 (M.1 21 0)).bind fun q5 => some (q5.1, q5.2)) else (some ((-1 : Int32), M))) none) else (if p2 = (8 : Int32) then ((f9_ruled S M 11 (2 : Int32) p0 p1 (M.1 21 0)).bind fun q6 => some (q6.1, q6.2)) else (some ((-1 : Int32), M))))))))))))
set_option maxHeartbeats 4000000 in
theorem cf11_hour {tb adK adV : Nat → Nat} {S : ph_Sh} {l : Launch} {D : va_G} {cA : Nat → ClassId} {ad : Nat → Nat} (hinj : ∀ i j, i < S.2 → j < S.2 → ad i = ad j → i = j) (hS : ph_SX S) {M : ph_Mem} {p0 : Int32} {p1 : Int32} {p2 : Int32} {r : Int32} {M' : ph_Mem} (hf : f11_hour S M p0 p1 p2 = some (r, M')) : ph_C (ph_ZX tb adK adV) l 3 yX11_hour cX11_hour 5 (some .int) D cA S.1 S.2 ad [.ref (ad 0), .int p0, .int p1, .int p2] M (some (.int r)) M' := by
  refine ph_mk ph_ZX_ok hinj (by decide) (Nat.le_of_ble_eq_true rfl) fun X h fin hE => ?_
  refine (?_ : ph_J X S.1 S.2 ad ((r, M') : (Int32 × ph_Mem)) 0 [(0, .ref (ad 0)), (1, .int p0), (2, .int p1), (3, .int p2)] [] M (f11_hour S M p0 p1 p2)) hf
  unfold f11_hour
  refine j_aload_n h dX11_hour_0 rfl 0 rfl ?_
  refine j_get (c := 0) (j := 0) (v := .ref (ad 11)) h (ph_xlt hS (by decide)) (ph_kc0 hS) rfl ph_inX11 rfl (by decide) tw_361 rfl rfl dX11_hour_1 ?_
  refine j_iload_n h dX11_hour_4 rfl 1 rfl ?_
  refine j_callViP (n := 1) (As := [.int p0]) (rest := []) h 11 tw_456 tw_457 tw_458 tw_3 tw_459 ydf9_isPerson (by decide) (by decide) (ph_xlt hS (by decide)) (ph_kc11 hS) rfl (fun q hq => cf9_isPerson (ph_okI h) hS (by decide) hq) rfl (Nat.le_of_ble_eq_true rfl) rfl dX11_hour_5 (fun q1 => ?_)
  refine j_if_eq h 18 dX11_hour_8 (by decide) ?_ ?_
  · refine j_iconst (v := (-1 : Int32)) h dX11_hour_18 (by decide) ?_
    exact j_iret h rfl fin dX11_hour_19
  · refine j_iload_n h dX11_hour_11 rfl 2 rfl ?_
    refine j_callSiP (n := 1) (As := [.int p1]) (rest := []) h tw_439 tw_440 tw_1 tw_441 ydf11_isHour (by decide) (by decide) (fun q hq => cf11_isHour (ph_okI h) hS hq) rfl (Nat.le_of_ble_eq_true rfl) rfl dX11_hour_12 (fun q2 => ?_)
    refine j_if_ne h 20 dX11_hour_15 (by decide) ?_ ?_
    · refine j_iload_n h dX11_hour_20 rfl 1 rfl ?_
      refine j_iload_n h dX11_hour_21 rfl 2 rfl ?_
      refine j_callSiP (n := 2) (As := [.int p0, .int p1]) (rest := []) h tw_460 tw_461 tw_1 tw_462 ydf11_placeOf (by decide) (by decide) (fun q hq => cf11_placeOf (ph_okI h) hS hq) rfl (Nat.le_of_ble_eq_true rfl) rfl dX11_hour_22 (fun q3 => ?_)
      refine j_istore h [(4, .int q3), (0, .ref (ad 0)), (1, .int p0), (2, .int p1), (3, .int p2)] dX11_hour_25 (by decide) rfl ?_
      refine j_iload_n h dX11_hour_27 rfl 4 rfl ?_
      refine j_ite (fun c_0 => ?_) (fun c_0 => ?_)
      · refine j_tabIn h 80 (0 : Int32) dX11_hour_28 c_0 (by decide) (by decide) rfl (by decide) ?_
        refine j_aload_n h dX11_hour_80 rfl 1 rfl ?_
        refine j_get (c := 0) (j := 0) (v := .ref (ad 11)) h (ph_xlt hS (by decide)) (ph_kc0 hS) rfl ph_inX11 rfl (by decide) tw_361 rfl rfl dX11_hour_81 ?_
        refine j_get (c := 11) (j := 3) (v := .ref (ad 13)) h (ph_xlt hS (by decide)) (ph_kc11 hS) rfl ph_inX9 rfl (by decide) tw_78 rfl rfl dX11_hour_84 ?_
        refine j_iload h dX11_hour_87 0 rfl ?_
        refine j_iald (c := 13) (n := 72) h (ph_xlt hS (by decide)) (ph_kc13 hS) dX11_hour_89 ?_
        exact j_iret h rfl fin dX11_hour_90
      · refine j_ite (fun c_1 => ?_) (fun c_1 => ?_)
        · refine j_tabIn h 91 (1 : Int32) dX11_hour_28 c_1 (by decide) (by decide) rfl (by decide) ?_
          refine j_aload_n h dX11_hour_91 rfl 1 rfl ?_
          refine j_get (c := 0) (j := 0) (v := .ref (ad 11)) h (ph_xlt hS (by decide)) (ph_kc0 hS) rfl ph_inX11 rfl (by decide) tw_361 rfl rfl dX11_hour_92 ?_
          refine j_get (c := 11) (j := 4) (v := .ref (ad 14)) h (ph_xlt hS (by decide)) (ph_kc11 hS) rfl ph_inX9 rfl (by decide) tw_80 rfl rfl dX11_hour_95 ?_
          refine j_iload h dX11_hour_98 0 rfl ?_
          refine j_iald (c := 14) (n := 72) h (ph_xlt hS (by decide)) (ph_kc14 hS) dX11_hour_100 ?_
          exact j_iret h rfl fin dX11_hour_101
        · refine j_ite (fun c_2 => ?_) (fun c_2 => ?_)
          · refine j_tabIn h 102 (2 : Int32) dX11_hour_28 c_2 (by decide) (by decide) rfl (by decide) ?_
            refine j_aload_n h dX11_hour_102 rfl 1 rfl ?_
            refine j_get (c := 0) (j := 0) (v := .ref (ad 11)) h (ph_xlt hS (by decide)) (ph_kc0 hS) rfl ph_inX11 rfl (by decide) tw_361 rfl rfl dX11_hour_103 ?_
            refine j_get (c := 11) (j := 5) (v := .ref (ad 15)) h (ph_xlt hS (by decide)) (ph_kc11 hS) rfl ph_inX9 rfl (by decide) tw_83 rfl rfl dX11_hour_106 ?_
            refine j_iload h dX11_hour_109 0 rfl ?_
            refine j_iald (c := 15) (n := 72) h (ph_xlt hS (by decide)) (ph_kc15 hS) dX11_hour_111 ?_
            exact j_iret h rfl fin dX11_hour_112
          · refine j_ite (fun c_3 => ?_) (fun c_3 => ?_)
            · refine j_tabIn h 113 (3 : Int32) dX11_hour_28 c_3 (by decide) (by decide) rfl (by decide) ?_
              refine j_aload_n h dX11_hour_113 rfl 1 rfl ?_
              refine j_get (c := 0) (j := 0) (v := .ref (ad 11)) h (ph_xlt hS (by decide)) (ph_kc0 hS) rfl ph_inX11 rfl (by decide) tw_361 rfl rfl dX11_hour_114 ?_
              refine j_get (c := 11) (j := 6) (v := .ref (ad 16)) h (ph_xlt hS (by decide)) (ph_kc11 hS) rfl ph_inX9 rfl (by decide) tw_86 rfl rfl dX11_hour_117 ?_
              refine j_iload h dX11_hour_120 0 rfl ?_
              refine j_iald (c := 16) (n := 72) h (ph_xlt hS (by decide)) (ph_kc16 hS) dX11_hour_122 ?_
              exact j_iret h rfl fin dX11_hour_123
            · refine j_ite (fun c_4 => ?_) (fun c_4 => ?_)
              · refine j_tabIn h 124 (4 : Int32) dX11_hour_28 c_4 (by decide) (by decide) rfl (by decide) ?_
                refine j_aload_n h dX11_hour_124 rfl 1 rfl ?_
                refine j_get (c := 0) (j := 0) (v := .ref (ad 11)) h (ph_xlt hS (by decide)) (ph_kc0 hS) rfl ph_inX11 rfl (by decide) tw_361 rfl rfl dX11_hour_125 ?_
                refine j_get (c := 11) (j := 7) (v := .ref (ad 17)) h (ph_xlt hS (by decide)) (ph_kc11 hS) rfl ph_inX9 rfl (by decide) tw_89 rfl rfl dX11_hour_128 ?_
                refine j_iload h dX11_hour_131 0 rfl ?_
                refine j_iald (c := 17) (n := 72) h (ph_xlt hS (by decide)) (ph_kc17 hS) dX11_hour_133 ?_
                exact j_iret h rfl fin dX11_hour_134
              · refine j_ite (fun c_5 => ?_) (fun c_5 => ?_)
                · refine j_tabIn h 135 (5 : Int32) dX11_hour_28 c_5 (by decide) (by decide) rfl (by decide) ?_
                  refine j_aload_n h dX11_hour_135 rfl 1 rfl ?_
                  refine j_get (c := 0) (j := 0) (v := .ref (ad 11)) h (ph_xlt hS (by decide)) (ph_kc0 hS) rfl ph_inX11 rfl (by decide) tw_361 rfl rfl dX11_hour_136 ?_
                  refine j_get (c := 11) (j := 6) (v := .ref (ad 16)) h (ph_xlt hS (by decide)) (ph_kc11 hS) rfl ph_inX9 rfl (by decide) tw_86 rfl rfl dX11_hour_139 ?_
                  refine j_iload h dX11_hour_142 0 rfl ?_
                  refine j_iald (c := 16) (n := 72) h (ph_xlt hS (by decide)) (ph_kc16 hS) dX11_hour_144 ?_
                  refine j_iconst (v := (1 : Int32)) h dX11_hour_145 (by decide) ?_
                  refine j_icmp_ne h 172 dX11_hour_146 (by decide) ?_ ?_
                  · refine j_iconst (v := (-1 : Int32)) h dX11_hour_172 (by decide) ?_
                    exact j_iret h rfl fin dX11_hour_173
                  · refine j_aload_n h dX11_hour_149 rfl 1 rfl ?_
                    refine j_get (c := 0) (j := 0) (v := .ref (ad 11)) h (ph_xlt hS (by decide)) (ph_kc0 hS) rfl ph_inX11 rfl (by decide) tw_361 rfl rfl dX11_hour_150 ?_
                    refine j_get (c := 11) (j := 11) (v := .ref (ad 21)) h (ph_xlt hS (by decide)) (ph_kc11 hS) rfl ph_inX9 rfl (by decide) tw_102 rfl rfl dX11_hour_153 ?_
                    refine j_iconst (v := (0 : Int32)) h dX11_hour_156 (by decide) ?_
                    refine j_ialdK (c := 21) (n := 5) (kn := 0) h (ph_xlt hS (by decide)) (ph_kc21 hS) rfl (by decide) dX11_hour_157 ?_
                    refine j_aload_n h dX11_hour_158 rfl 1 rfl ?_
                    refine j_get (c := 0) (j := 0) (v := .ref (ad 11)) h (ph_xlt hS (by decide)) (ph_kc0 hS) rfl ph_inX11 rfl (by decide) tw_361 rfl rfl dX11_hour_159 ?_
                    refine j_get (c := 11) (j := 8) (v := .ref (ad 18)) h (ph_xlt hS (by decide)) (ph_kc11 hS) rfl ph_inX9 rfl (by decide) tw_92 rfl rfl dX11_hour_162 ?_
                    refine j_iload h dX11_hour_165 0 rfl ?_
                    refine j_iald (c := 18) (n := 72) h (ph_xlt hS (by decide)) (ph_kc18 hS) dX11_hour_167 ?_
                    refine j_isub h dX11_hour_168 ?_
                    refine j_goto h 173 dX11_hour_169 (by decide) ?_
                    exact j_iret h rfl fin dX11_hour_173
                · refine j_ite (fun c_6 => ?_) (fun c_6 => ?_)
                  · refine j_tabIn h 174 (6 : Int32) dX11_hour_28 c_6 (by decide) (by decide) rfl (by decide) ?_
                    refine j_aload_n h dX11_hour_174 rfl 1 rfl ?_
                    refine j_get (c := 0) (j := 0) (v := .ref (ad 11)) h (ph_xlt hS (by decide)) (ph_kc0 hS) rfl ph_inX11 rfl (by decide) tw_361 rfl rfl dX11_hour_175 ?_
                    refine j_iconst (v := (0 : Int32)) h dX11_hour_178 (by decide) ?_
                    refine j_iload_n h dX11_hour_179 rfl 2 rfl ?_
                    refine j_iload_n h dX11_hour_180 rfl 3 rfl ?_
                    refine j_aload_n h dX11_hour_181 rfl 1 rfl ?_
                    refine j_get (c := 0) (j := 0) (v := .ref (ad 11)) h (ph_xlt hS (by decide)) (ph_kc0 hS) rfl ph_inX11 rfl (by decide) tw_361 rfl rfl dX11_hour_182 ?_
                    refine j_get (c := 11) (j := 11) (v := .ref (ad 21)) h (ph_xlt hS (by decide)) (ph_kc11 hS) rfl ph_inX9 rfl (by decide) tw_102 rfl rfl dX11_hour_185 ?_
                    refine j_iconst (v := (0 : Int32)) h dX11_hour_188 (by decide) ?_
                    refine j_ialdK (c := 21) (n := 5) (kn := 0) h (ph_xlt hS (by decide)) (ph_kc21 hS) rfl (by decide) dX11_hour_189 ?_
                    refine j_callVi (n := 4) (As := [.int (0 : Int32), .int p0, .int p1, .int (M.1 21 0)]) (rest := []) h 11 tw_471 tw_472 tw_473 tw_3 tw_474 ydf9_ruled (by decide) (by decide) (ph_xlt hS (by decide)) (ph_kc11 hS) rfl (fun q hq => cf9_ruled (ph_okI h) hS (by decide) hq) rfl (Nat.le_of_ble_eq_true rfl) rfl dX11_hour_190 (fun q4 => ?_)
                    exact j_iret h rfl fin dX11_hour_193
                  · refine j_ite (fun c_7 => ?_) (fun c_7 => ?_)
                    · refine j_tabIn h 194 (7 : Int32) dX11_hour_28 c_7 (by decide) (by decide) rfl (by decide) ?_
                      refine j_aload_n h dX11_hour_194 rfl 1 rfl ?_
                      refine j_get (c := 0) (j := 0) (v := .ref (ad 11)) h (ph_xlt hS (by decide)) (ph_kc0 hS) rfl ph_inX11 rfl (by decide) tw_361 rfl rfl dX11_hour_195 ?_
                      refine j_get (c := 11) (j := 6) (v := .ref (ad 16)) h (ph_xlt hS (by decide)) (ph_kc11 hS) rfl ph_inX9 rfl (by decide) tw_86 rfl rfl dX11_hour_198 ?_
                      refine j_iload h dX11_hour_201 0 rfl ?_
                      refine j_iald (c := 16) (n := 72) h (ph_xlt hS (by decide)) (ph_kc16 hS) dX11_hour_203 ?_
                      refine j_iconst (v := (1 : Int32)) h dX11_hour_204 (by decide) ?_
                      refine j_icmp_ne h 230 dX11_hour_205 (by decide) ?_ ?_
                      · refine j_iconst (v := (-1 : Int32)) h dX11_hour_230 (by decide) ?_
                        exact j_iret h rfl fin dX11_hour_231
                      · refine j_aload_n h dX11_hour_208 rfl 1 rfl ?_
                        refine j_get (c := 0) (j := 0) (v := .ref (ad 11)) h (ph_xlt hS (by decide)) (ph_kc0 hS) rfl ph_inX11 rfl (by decide) tw_361 rfl rfl dX11_hour_209 ?_
                        refine j_iconst (v := (1 : Int32)) h dX11_hour_212 (by decide) ?_
                        refine j_iload_n h dX11_hour_213 rfl 2 rfl ?_
                        refine j_iload_n h dX11_hour_214 rfl 3 rfl ?_
                        refine j_aload_n h dX11_hour_215 rfl 1 rfl ?_
                        refine j_get (c := 0) (j := 0) (v := .ref (ad 11)) h (ph_xlt hS (by decide)) (ph_kc0 hS) rfl ph_inX11 rfl (by decide) tw_361 rfl rfl dX11_hour_216 ?_
                        refine j_get (c := 11) (j := 11) (v := .ref (ad 21)) h (ph_xlt hS (by decide)) (ph_kc11 hS) rfl ph_inX9 rfl (by decide) tw_102 rfl rfl dX11_hour_219 ?_
                        refine j_iconst (v := (0 : Int32)) h dX11_hour_222 (by decide) ?_
                        refine j_ialdK (c := 21) (n := 5) (kn := 0) h (ph_xlt hS (by decide)) (ph_kc21 hS) rfl (by decide) dX11_hour_223 ?_
                        refine j_callVi (n := 4) (As := [.int (1 : Int32), .int p0, .int p1, .int (M.1 21 0)]) (rest := []) h 11 tw_471 tw_472 tw_473 tw_3 tw_474 ydf9_ruled (by decide) (by decide) (ph_xlt hS (by decide)) (ph_kc11 hS) rfl (fun q hq => cf9_ruled (ph_okI h) hS (by decide) hq) rfl (Nat.le_of_ble_eq_true rfl) rfl dX11_hour_224 (fun q5 => ?_)
                        refine j_goto h 231 dX11_hour_227 (by decide) ?_
                        exact j_iret h rfl fin dX11_hour_231
                    · refine j_ite (fun c_8 => ?_) (fun c_8 => ?_)
                      · refine j_tabIn h 232 (8 : Int32) dX11_hour_28 c_8 (by decide) (by decide) rfl (by decide) ?_
                        refine j_aload_n h dX11_hour_232 rfl 1 rfl ?_
                        refine j_get (c := 0) (j := 0) (v := .ref (ad 11)) h (ph_xlt hS (by decide)) (ph_kc0 hS) rfl ph_inX11 rfl (by decide) tw_361 rfl rfl dX11_hour_233 ?_
                        refine j_iconst (v := (2 : Int32)) h dX11_hour_236 (by decide) ?_
                        refine j_iload_n h dX11_hour_237 rfl 2 rfl ?_
                        refine j_iload_n h dX11_hour_238 rfl 3 rfl ?_
                        refine j_aload_n h dX11_hour_239 rfl 1 rfl ?_
                        refine j_get (c := 0) (j := 0) (v := .ref (ad 11)) h (ph_xlt hS (by decide)) (ph_kc0 hS) rfl ph_inX11 rfl (by decide) tw_361 rfl rfl dX11_hour_240 ?_
                        refine j_get (c := 11) (j := 11) (v := .ref (ad 21)) h (ph_xlt hS (by decide)) (ph_kc11 hS) rfl ph_inX9 rfl (by decide) tw_102 rfl rfl dX11_hour_243 ?_
                        refine j_iconst (v := (0 : Int32)) h dX11_hour_246 (by decide) ?_
                        refine j_ialdK (c := 21) (n := 5) (kn := 0) h (ph_xlt hS (by decide)) (ph_kc21 hS) rfl (by decide) dX11_hour_247 ?_
                        refine j_callVi (n := 4) (As := [.int (2 : Int32), .int p0, .int p1, .int (M.1 21 0)]) (rest := []) h 11 tw_471 tw_472 tw_473 tw_3 tw_474 ydf9_ruled (by decide) (by decide) (ph_xlt hS (by decide)) (ph_kc11 hS) rfl (fun q hq => cf9_ruled (ph_okI h) hS (by decide) hq) rfl (Nat.le_of_ble_eq_true rfl) rfl dX11_hour_248 (fun q6 => ?_)
                        exact j_iret h rfl fin dX11_hour_251
                      · have hq0 := lv_neT c_0 (a := 0) rfl
                        have hq1 := lv_neT c_1 (a := 1) rfl
                        have hq2 := lv_neT c_2 (a := 2) rfl
                        have hq3 := lv_neT c_3 (a := 3) rfl
                        have hq4 := lv_neT c_4 (a := 4) rfl
                        have hq5 := lv_neT c_5 (a := 5) rfl
                        have hq6 := lv_neT c_6 (a := 6) rfl
                        have hq7 := lv_neT c_7 (a := 7) rfl
                        have hq8 := lv_neT c_8 (a := 8) rfl
                        refine j_tabOut h 252 dX11_hour_28 (by omega) (by decide) ?_
                        refine j_iconst (v := (-1 : Int32)) h dX11_hour_252 (by decide) ?_
                        exact j_iret h rfl fin dX11_hour_253
    · refine j_iconst (v := (-1 : Int32)) h dX11_hour_18 (by decide) ?_
      exact j_iret h rfl fin dX11_hour_19
