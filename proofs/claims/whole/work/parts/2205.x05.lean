theorem dX6_addFour_0 : decode cX6_addFour 0 = .ok (.bipush 24, 2) := by decide +kernel
theorem dX6_addFour_2 : decode cX6_addFour 2 = .ok (.istore_n 2, 1) := by decide +kernel
theorem dX6_addFour_3 : decode cX6_addFour 3 = .ok (.iload_n 2, 1) := by decide +kernel
theorem dX6_addFour_4 : decode cX6_addFour 4 = .ok (.ifCond .lt 45, 3) := by decide +kernel
theorem dX6_addFour_7 : decode cX6_addFour 7 = .ok (.aload_n 0, 1) := by decide +kernel
theorem dX6_addFour_8 : decode cX6_addFour 8 = .ok (.getfield 32, 3) := by decide +kernel
theorem dX6_addFour_11 : decode cX6_addFour 11 = .ok (.sipush 400, 3) := by decide +kernel
theorem dX6_addFour_14 : decode cX6_addFour 14 = .ok (.if_icmp .ge 35, 3) := by decide +kernel
theorem dX6_addFour_17 : decode cX6_addFour 17 = .ok (.aload_n 0, 1) := by decide +kernel
theorem dX6_addFour_18 : decode cX6_addFour 18 = .ok (.getfield 9, 3) := by decide +kernel
theorem dX6_addFour_21 : decode cX6_addFour 21 = .ok (.aload_n 0, 1) := by decide +kernel
theorem dX6_addFour_22 : decode cX6_addFour 22 = .ok (.getfield 32, 3) := by decide +kernel
theorem dX6_addFour_25 : decode cX6_addFour 25 = .ok (.iload_n 1, 1) := by decide +kernel
theorem dX6_addFour_26 : decode cX6_addFour 26 = .ok (.iload_n 2, 1) := by decide +kernel
theorem dX6_addFour_27 : decode cX6_addFour 27 = .ok (.ishr, 1) := by decide +kernel
theorem dX6_addFour_28 : decode cX6_addFour 28 = .ok (.sipush 255, 3) := by decide +kernel
theorem dX6_addFour_31 : decode cX6_addFour 31 = .ok (.iand, 1) := by decide +kernel
theorem dX6_addFour_32 : decode cX6_addFour 32 = .ok (.iastore, 1) := by decide +kernel
theorem dX6_addFour_33 : decode cX6_addFour 33 = .ok (.aload_n 0, 1) := by decide +kernel
theorem dX6_addFour_34 : decode cX6_addFour 34 = .ok (.dup, 1) := by decide +kernel
theorem dX6_addFour_35 : decode cX6_addFour 35 = .ok (.getfield 32, 3) := by decide +kernel
theorem dX6_addFour_38 : decode cX6_addFour 38 = .ok (.iconst 1, 1) := by decide +kernel
theorem dX6_addFour_39 : decode cX6_addFour 39 = .ok (.iadd, 1) := by decide +kernel
theorem dX6_addFour_40 : decode cX6_addFour 40 = .ok (.putfield 32, 3) := by decide +kernel
theorem dX6_addFour_43 : decode cX6_addFour 43 = .ok (.iinc 2 (-8), 3) := by decide +kernel
theorem dX6_addFour_46 : decode cX6_addFour 46 = .ok (.goto (-43), 3) := by decide +kernel
theorem dX6_addFour_49 : decode cX6_addFour 49 = .ok (.return_, 1) := by decide +kernel
def f6_addFour_l3 (S : ph_Sh) : Nat → Int32 → Int32 → ph_Mem → Option ph_Mem
  | 0, _, _, _ => none
  | n + 1, x1, x2, M => if x2 < 0 then (some M) else (if (400 : Int32) ≤ (M.1 63 1) then (some M) else (cond (ph_ib (M.1 63 1) 400) (ph_let (ph_wi M 64 (M.1 63 1).toNatClampNeg ((x1 >>> (x2 &&& 31)) &&& (255 : Int32))) fun M1 => ph_let (ph_wi M1 63 1 ((M1.1 63 1) + (1 : Int32))) fun M2 => (f6_addFour_l3 S n) x1 (x2 + (-8 : Int32)) M2) none))
set_option maxHeartbeats 4000000 in
theorem jb_f6_addFour_l3 {tb adK adV : Nat → Nat} {S : ph_Sh} {X : ph_X} {ad : Nat → Nat} {o : ph_Mem} (h : ph_ok (ph_ZX tb adK adV) X cX6_addFour RX6 none 3 0 S.2 ad) (fin : ph_fin X S.1 S.2 ad none o) (hS : ph_SX S) : ∀ (n : Nat) (x1 : Int32) (x2 : Int32) (M : ph_Mem), ph_J X S.1 S.2 ad o 3 [(0, .ref (ad 63)), (1, .int x1), (2, .int x2)] [] M (f6_addFour_l3 S n x1 x2 M) := by
  intro n
  induction n with
  | zero => intro x1 x2 M; exact j_none
  | succ n hrc3 =>
    intro x1 x2 M
    unfold f6_addFour_l3
    refine j_iload_n h dX6_addFour_3 rfl 2 rfl ?_
    refine j_if_lt h 49 dX6_addFour_4 (by decide) ?_ ?_
    · exact j_vret h rfl fin dX6_addFour_49
    · refine j_aload_n h dX6_addFour_7 rfl 0 rfl ?_
      refine j_get (c := 63) (j := 1) (v := .int (M.1 63 1)) h (ph_xlt hS (by decide)) (ph_kc63 hS) rfl ph_inX6 rfl (by decide) tw_168 rfl rfl dX6_addFour_8 ?_
      refine j_sipush (v := (400 : Int32)) h dX6_addFour_11 (by decide) ?_
      refine j_icmp_ge h 49 dX6_addFour_14 (by decide) ?_ ?_
      · exact j_vret h rfl fin dX6_addFour_49
      · refine j_aload_n h dX6_addFour_17 rfl 0 rfl ?_
        refine j_get (c := 63) (j := 0) (v := .ref (ad 64)) h (ph_xlt hS (by decide)) (ph_kc63 hS) rfl ph_inX6 rfl (by decide) tw_166 rfl rfl dX6_addFour_18 ?_
        refine j_aload_n h dX6_addFour_21 rfl 0 rfl ?_
        refine j_get (c := 63) (j := 1) (v := .int (M.1 63 1)) h (ph_xlt hS (by decide)) (ph_kc63 hS) rfl ph_inX6 rfl (by decide) tw_168 rfl rfl dX6_addFour_22 ?_
        refine j_iload_n h dX6_addFour_25 rfl 1 rfl ?_
        refine j_iload_n h dX6_addFour_26 rfl 2 rfl ?_
        refine j_ishr h dX6_addFour_27 ?_
        refine j_sipush (v := (255 : Int32)) h dX6_addFour_28 (by decide) ?_
        refine j_iand h dX6_addFour_31 ?_
        refine j_iast (c := 64) (n := 400) h (ph_xlt hS (by decide)) (ph_kc64 hS) dX6_addFour_32 ?_
        refine j_letM (fun M1 => ?_)
        refine j_aload_n h dX6_addFour_33 rfl 0 rfl ?_
        refine j_dup h dX6_addFour_34 rfl ?_
        refine j_get (c := 63) (j := 1) (v := .int (M1.1 63 1)) h (ph_xlt hS (by decide)) (ph_kc63 hS) rfl ph_inX6 rfl (by decide) tw_168 rfl rfl dX6_addFour_35 ?_
        refine j_iconst (v := (1 : Int32)) h dX6_addFour_38 (by decide) ?_
        refine j_iadd h dX6_addFour_39 ?_
        refine j_puti (c := 63) (j := 1) (ty := .int) h (ph_xlt hS (by decide)) (ph_kc63 hS) rfl ph_inX6 tyX6 tyX6_ok nmX6 rfl (by decide) tw_168 rfl rfl (tyX6_ok 1 (by decide)) rfl rfl dX6_addFour_40 ?_
        refine j_letM (fun M2 => ?_)
        refine j_iinc h [(2, .int (x2 + (-8 : Int32))), (0, .ref (ad 63)), (1, .int x1)] dX6_addFour_43 2 rfl rfl (by decide) rfl ?_
        refine j_goto h 3 dX6_addFour_46 (by decide) ?_
        refine j_sub [1, 2, 0] rfl ?_
        exact hrc3 x1 (x2 + (-8 : Int32)) M2
theorem ydf6_addFour : ph_yd yX6_addFour 1 := ⟨by decide, by decide, by decide +kernel⟩
def f6_addFour (S : ph_Sh) (M : ph_Mem) (p0 : Int32) : Option ph_Mem :=
  f6_addFour_l3 S 10000 p0 (24 : Int32) M
set_option maxHeartbeats 4000000 in
theorem cf6_addFour {tb adK adV : Nat → Nat} {S : ph_Sh} {l : Launch} {D : va_G} {cA : Nat → ClassId} {ad : Nat → Nat} (hinj : ∀ i j, i < S.2 → j < S.2 → ad i = ad j → i = j) (hS : ph_SX S) {M : ph_Mem} {p0 : Int32} {M' : ph_Mem} (hf : f6_addFour S M p0 = some M') : ph_C (ph_ZX tb adK adV) l 0 yX6_addFour cX6_addFour 3 none D cA S.1 S.2 ad [.ref (ad 63), .int p0] M none M' := by
  refine ph_mk ph_ZX_ok hinj (by decide) (Nat.le_of_ble_eq_true rfl) fun X h fin hE => ?_
  refine (?_ : ph_J X S.1 S.2 ad (M' : ph_Mem) 0 [(0, .ref (ad 63)), (1, .int p0)] [] M (f6_addFour S M p0)) hf
  unfold f6_addFour
  refine j_bipush (v := (24 : Int32)) h dX6_addFour_0 (by decide) ?_
  refine j_istore_n h [(2, .int (24 : Int32)), (0, .ref (ad 63)), (1, .int p0)] dX6_addFour_2 rfl (by decide) rfl ?_
  refine j_sub [1, 2, 0] rfl ?_
  exact jb_f6_addFour_l3 h fin hS 10000 p0 (24 : Int32) M
theorem dX6_kindOfByte_0 : decode cX6_kindOfByte 0 = .ok (.iload_n 0, 1) := by decide +kernel
theorem dX6_kindOfByte_1 : decode cX6_kindOfByte 1 = .ok (.bipush 97, 2) := by decide +kernel
theorem dX6_kindOfByte_3 : decode cX6_kindOfByte 3 = .ok (.if_icmp .lt 11, 3) := by decide +kernel
theorem dX6_kindOfByte_6 : decode cX6_kindOfByte 6 = .ok (.iload_n 0, 1) := by decide +kernel
theorem dX6_kindOfByte_7 : decode cX6_kindOfByte 7 = .ok (.bipush 122, 2) := by decide +kernel
theorem dX6_kindOfByte_9 : decode cX6_kindOfByte 9 = .ok (.if_icmp .gt 5, 3) := by decide +kernel
theorem dX6_kindOfByte_12 : decode cX6_kindOfByte 12 = .ok (.iconst 0, 1) := by decide +kernel
theorem dX6_kindOfByte_13 : decode cX6_kindOfByte 13 = .ok (.ireturn, 1) := by decide +kernel
theorem dX6_kindOfByte_14 : decode cX6_kindOfByte 14 = .ok (.iload_n 0, 1) := by decide +kernel
theorem dX6_kindOfByte_15 : decode cX6_kindOfByte 15 = .ok (.bipush 48, 2) := by decide +kernel
theorem dX6_kindOfByte_17 : decode cX6_kindOfByte 17 = .ok (.if_icmp .lt 13, 3) := by decide +kernel
theorem dX6_kindOfByte_20 : decode cX6_kindOfByte 20 = .ok (.iload_n 0, 1) := by decide +kernel
theorem dX6_kindOfByte_21 : decode cX6_kindOfByte 21 = .ok (.bipush 57, 2) := by decide +kernel
theorem dX6_kindOfByte_23 : decode cX6_kindOfByte 23 = .ok (.if_icmp .gt 7, 3) := by decide +kernel
theorem dX6_kindOfByte_26 : decode cX6_kindOfByte 26 = .ok (.iconst 1, 1) := by decide +kernel
theorem dX6_kindOfByte_27 : decode cX6_kindOfByte 27 = .ok (.goto 4, 3) := by decide +kernel
theorem dX6_kindOfByte_30 : decode cX6_kindOfByte 30 = .ok (.iconst 2, 1) := by decide +kernel
theorem dX6_kindOfByte_31 : decode cX6_kindOfByte 31 = .ok (.ireturn, 1) := by decide +kernel
def f6_kindOfByte_j14 (S : ph_Sh) (M : ph_Mem) (x0 : Int32) : Option Int32 :=
  if x0 < (48 : Int32) then (some (2 : Int32)) else (if (57 : Int32) < x0 then (some (2 : Int32)) else (some (1 : Int32)))
set_option maxHeartbeats 4000000 in
theorem jb_f6_kindOfByte_j14 {tb adK adV : Nat → Nat} {S : ph_Sh} {X : ph_X} {ad : Nat → Nat} {o : Int32} {M : ph_Mem} (h : ph_ok (ph_ZX tb adK adV) X cX6_kindOfByte RX6 (some .int) 1 0 S.2 ad) (fin : ph_fin X S.1 S.2 ad (some (.int o)) M) (hS : ph_SX S) : ∀ (x0 : Int32), ph_J X S.1 S.2 ad o 14 [(0, .int x0)] [] M (f6_kindOfByte_j14 S M x0) := by
  intro x0
  unfold f6_kindOfByte_j14
  refine j_iload_n h dX6_kindOfByte_14 rfl 0 rfl ?_
  refine j_bipush (v := (48 : Int32)) h dX6_kindOfByte_15 (by decide) ?_
  refine j_icmp_lt h 30 dX6_kindOfByte_17 (by decide) ?_ ?_
  · refine j_iconst (v := (2 : Int32)) h dX6_kindOfByte_30 (by decide) ?_
    exact j_iretP h rfl fin dX6_kindOfByte_31
  · refine j_iload_n h dX6_kindOfByte_20 rfl 0 rfl ?_
    refine j_bipush (v := (57 : Int32)) h dX6_kindOfByte_21 (by decide) ?_
    refine j_icmp_gt h 30 dX6_kindOfByte_23 (by decide) ?_ ?_
    · refine j_iconst (v := (2 : Int32)) h dX6_kindOfByte_30 (by decide) ?_
      exact j_iretP h rfl fin dX6_kindOfByte_31
    · refine j_iconst (v := (1 : Int32)) h dX6_kindOfByte_26 (by decide) ?_
      refine j_goto h 31 dX6_kindOfByte_27 (by decide) ?_
      exact j_iretP h rfl fin dX6_kindOfByte_31
theorem ydf6_kindOfByte : ph_yd yX6_kindOfByte 1 := ⟨by decide, by decide, by decide +kernel⟩
def f6_kindOfByte (S : ph_Sh) (M : ph_Mem) (p0 : Int32) : Option Int32 :=
  if p0 < (97 : Int32) then (f6_kindOfByte_j14 S M p0) else (if (122 : Int32) < p0 then (f6_kindOfByte_j14 S M p0) else (some (0 : Int32)))
set_option maxHeartbeats 4000000 in
theorem cf6_kindOfByte {tb adK adV : Nat → Nat} {S : ph_Sh} {l : Launch} {D : va_G} {cA : Nat → ClassId} {ad : Nat → Nat} (hinj : ∀ i j, i < S.2 → j < S.2 → ad i = ad j → i = j) (hS : ph_SX S) {M : ph_Mem} {p0 : Int32} {r : Int32} (hf : f6_kindOfByte S M p0 = some r) : ph_C (ph_ZX tb adK adV) l 0 yX6_kindOfByte cX6_kindOfByte 1 (some .int) D cA S.1 S.2 ad [.int p0] M (some (.int r)) M := by
  refine ph_mk ph_ZX_ok hinj (by decide) (Nat.le_of_ble_eq_true rfl) fun X h fin hE => ?_
  refine (?_ : ph_J X S.1 S.2 ad (r : Int32) 0 [(0, .int p0)] [] M (f6_kindOfByte S M p0)) hf
  unfold f6_kindOfByte
  refine j_iload_n h dX6_kindOfByte_0 rfl 0 rfl ?_
  refine j_bipush (v := (97 : Int32)) h dX6_kindOfByte_1 (by decide) ?_
  refine j_icmp_lt h 14 dX6_kindOfByte_3 (by decide) ?_ ?_
  · refine j_sub [0] rfl ?_
    exact jb_f6_kindOfByte_j14 h fin hS p0
  · refine j_iload_n h dX6_kindOfByte_6 rfl 0 rfl ?_
    refine j_bipush (v := (122 : Int32)) h dX6_kindOfByte_7 (by decide) ?_
    refine j_icmp_gt h 14 dX6_kindOfByte_9 (by decide) ?_ ?_
    · refine j_sub [0] rfl ?_
      exact jb_f6_kindOfByte_j14 h fin hS p0
    · refine j_iconst (v := (0 : Int32)) h dX6_kindOfByte_12 (by decide) ?_
      exact j_iretP h rfl fin dX6_kindOfByte_13
theorem dX6_findTokens_0 : decode cX6_findTokens 0 = .ok (.aload_n 0, 1) := by decide +kernel
theorem dX6_findTokens_1 : decode cX6_findTokens 1 = .ok (.iconst 0, 1) := by decide +kernel
theorem dX6_findTokens_2 : decode cX6_findTokens 2 = .ok (.putfield 70, 3) := by decide +kernel
theorem dX6_findTokens_5 : decode cX6_findTokens 5 = .ok (.aload_n 0, 1) := by decide +kernel
theorem dX6_findTokens_6 : decode cX6_findTokens 6 = .ok (.iconst 0, 1) := by decide +kernel
theorem dX6_findTokens_7 : decode cX6_findTokens 7 = .ok (.putfield 73, 3) := by decide +kernel
theorem dX6_findTokens_10 : decode cX6_findTokens 10 = .ok (.iconst 2, 1) := by decide +kernel
theorem dX6_findTokens_11 : decode cX6_findTokens 11 = .ok (.istore_n 1, 1) := by decide +kernel
theorem dX6_findTokens_12 : decode cX6_findTokens 12 = .ok (.iconst 0, 1) := by decide +kernel
theorem dX6_findTokens_13 : decode cX6_findTokens 13 = .ok (.istore_n 2, 1) := by decide +kernel
theorem dX6_findTokens_14 : decode cX6_findTokens 14 = .ok (.iload_n 2, 1) := by decide +kernel
theorem dX6_findTokens_15 : decode cX6_findTokens 15 = .ok (.aload_n 0, 1) := by decide +kernel
theorem dX6_findTokens_16 : decode cX6_findTokens 16 = .ok (.getfield 32, 3) := by decide +kernel
theorem dX6_findTokens_19 : decode cX6_findTokens 19 = .ok (.if_icmp .ge 97, 3) := by decide +kernel
theorem dX6_findTokens_22 : decode cX6_findTokens 22 = .ok (.aload_n 0, 1) := by decide +kernel
theorem dX6_findTokens_23 : decode cX6_findTokens 23 = .ok (.getfield 9, 3) := by decide +kernel
theorem dX6_findTokens_26 : decode cX6_findTokens 26 = .ok (.iload_n 2, 1) := by decide +kernel
theorem dX6_findTokens_27 : decode cX6_findTokens 27 = .ok (.iaload, 1) := by decide +kernel
theorem dX6_findTokens_28 : decode cX6_findTokens 28 = .ok (.invokestatic 88, 3) := by decide +kernel
theorem dX6_findTokens_31 : decode cX6_findTokens 31 = .ok (.istore_n 3, 1) := by decide +kernel
theorem dX6_findTokens_32 : decode cX6_findTokens 32 = .ok (.aload_n 0, 1) := by decide +kernel
theorem dX6_findTokens_33 : decode cX6_findTokens 33 = .ok (.getfield 9, 3) := by decide +kernel
theorem dX6_findTokens_36 : decode cX6_findTokens 36 = .ok (.iload_n 2, 1) := by decide +kernel
theorem dX6_findTokens_37 : decode cX6_findTokens 37 = .ok (.iaload, 1) := by decide +kernel
theorem dX6_findTokens_38 : decode cX6_findTokens 38 = .ok (.bipush 32, 2) := by decide +kernel
theorem dX6_findTokens_40 : decode cX6_findTokens 40 = .ok (.if_icmp .eq 43, 3) := by decide +kernel
theorem dX6_findTokens_43 : decode cX6_findTokens 43 = .ok (.iload_n 3, 1) := by decide +kernel
theorem dX6_findTokens_44 : decode cX6_findTokens 44 = .ok (.iconst 2, 1) := by decide +kernel
theorem dX6_findTokens_45 : decode cX6_findTokens 45 = .ok (.if_icmp .eq 8, 3) := by decide +kernel
theorem dX6_findTokens_48 : decode cX6_findTokens 48 = .ok (.iload_n 3, 1) := by decide +kernel
theorem dX6_findTokens_49 : decode cX6_findTokens 49 = .ok (.iload_n 1, 1) := by decide +kernel
theorem dX6_findTokens_50 : decode cX6_findTokens 50 = .ok (.if_icmp .eq 33, 3) := by decide +kernel
theorem dX6_findTokens_53 : decode cX6_findTokens 53 = .ok (.aload_n 0, 1) := by decide +kernel
theorem dX6_findTokens_54 : decode cX6_findTokens 54 = .ok (.getfield 15, 3) := by decide +kernel
theorem dX6_findTokens_57 : decode cX6_findTokens 57 = .ok (.aload_n 0, 1) := by decide +kernel
theorem dX6_findTokens_58 : decode cX6_findTokens 58 = .ok (.getfield 73, 3) := by decide +kernel
theorem dX6_findTokens_61 : decode cX6_findTokens 61 = .ok (.iload_n 2, 1) := by decide +kernel
theorem dX6_findTokens_62 : decode cX6_findTokens 62 = .ok (.iastore, 1) := by decide +kernel
theorem dX6_findTokens_63 : decode cX6_findTokens 63 = .ok (.aload_n 0, 1) := by decide +kernel
theorem dX6_findTokens_64 : decode cX6_findTokens 64 = .ok (.getfield 21, 3) := by decide +kernel
theorem dX6_findTokens_67 : decode cX6_findTokens 67 = .ok (.aload_n 0, 1) := by decide +kernel
theorem dX6_findTokens_68 : decode cX6_findTokens 68 = .ok (.getfield 73, 3) := by decide +kernel
theorem dX6_findTokens_71 : decode cX6_findTokens 71 = .ok (.iload_n 3, 1) := by decide +kernel
theorem dX6_findTokens_72 : decode cX6_findTokens 72 = .ok (.iastore, 1) := by decide +kernel
theorem dX6_findTokens_73 : decode cX6_findTokens 73 = .ok (.aload_n 0, 1) := by decide +kernel
theorem dX6_findTokens_74 : decode cX6_findTokens 74 = .ok (.dup, 1) := by decide +kernel
theorem dX6_findTokens_75 : decode cX6_findTokens 75 = .ok (.getfield 73, 3) := by decide +kernel
theorem dX6_findTokens_78 : decode cX6_findTokens 78 = .ok (.iconst 1, 1) := by decide +kernel
theorem dX6_findTokens_79 : decode cX6_findTokens 79 = .ok (.iadd, 1) := by decide +kernel
theorem dX6_findTokens_80 : decode cX6_findTokens 80 = .ok (.putfield 73, 3) := by decide +kernel
theorem dX6_findTokens_83 : decode cX6_findTokens 83 = .ok (.aload_n 0, 1) := by decide +kernel
theorem dX6_findTokens_84 : decode cX6_findTokens 84 = .ok (.getfield 9, 3) := by decide +kernel
theorem dX6_findTokens_87 : decode cX6_findTokens 87 = .ok (.iload_n 2, 1) := by decide +kernel
theorem dX6_findTokens_88 : decode cX6_findTokens 88 = .ok (.iaload, 1) := by decide +kernel
theorem dX6_findTokens_89 : decode cX6_findTokens 89 = .ok (.bipush 32, 2) := by decide +kernel
theorem dX6_findTokens_91 : decode cX6_findTokens 91 = .ok (.if_icmp .eq 17, 3) := by decide +kernel
theorem dX6_findTokens_94 : decode cX6_findTokens 94 = .ok (.aload_n 0, 1) := by decide +kernel
theorem dX6_findTokens_95 : decode cX6_findTokens 95 = .ok (.getfield 18, 3) := by decide +kernel
theorem dX6_findTokens_98 : decode cX6_findTokens 98 = .ok (.aload_n 0, 1) := by decide +kernel
theorem dX6_findTokens_99 : decode cX6_findTokens 99 = .ok (.getfield 73, 3) := by decide +kernel
theorem dX6_findTokens_102 : decode cX6_findTokens 102 = .ok (.iconst 1, 1) := by decide +kernel
theorem dX6_findTokens_103 : decode cX6_findTokens 103 = .ok (.isub, 1) := by decide +kernel
theorem dX6_findTokens_104 : decode cX6_findTokens 104 = .ok (.iload_n 2, 1) := by decide +kernel
theorem dX6_findTokens_105 : decode cX6_findTokens 105 = .ok (.iconst 1, 1) := by decide +kernel
theorem dX6_findTokens_106 : decode cX6_findTokens 106 = .ok (.iadd, 1) := by decide +kernel
theorem dX6_findTokens_107 : decode cX6_findTokens 107 = .ok (.iastore, 1) := by decide +kernel
theorem dX6_findTokens_108 : decode cX6_findTokens 108 = .ok (.iload_n 3, 1) := by decide +kernel
theorem dX6_findTokens_109 : decode cX6_findTokens 109 = .ok (.istore_n 1, 1) := by decide +kernel
theorem dX6_findTokens_110 : decode cX6_findTokens 110 = .ok (.iinc 2 1, 3) := by decide +kernel
theorem dX6_findTokens_113 : decode cX6_findTokens 113 = .ok (.goto (-99), 3) := by decide +kernel
theorem dX6_findTokens_116 : decode cX6_findTokens 116 = .ok (.aload_n 0, 1) := by decide +kernel
theorem dX6_findTokens_117 : decode cX6_findTokens 117 = .ok (.getfield 15, 3) := by decide +kernel
theorem dX6_findTokens_120 : decode cX6_findTokens 120 = .ok (.aload_n 0, 1) := by decide +kernel
theorem dX6_findTokens_121 : decode cX6_findTokens 121 = .ok (.getfield 73, 3) := by decide +kernel
theorem dX6_findTokens_124 : decode cX6_findTokens 124 = .ok (.aload_n 0, 1) := by decide +kernel
theorem dX6_findTokens_125 : decode cX6_findTokens 125 = .ok (.getfield 32, 3) := by decide +kernel
theorem dX6_findTokens_128 : decode cX6_findTokens 128 = .ok (.iastore, 1) := by decide +kernel
theorem dX6_findTokens_129 : decode cX6_findTokens 129 = .ok (.aload_n 0, 1) := by decide +kernel
theorem dX6_findTokens_130 : decode cX6_findTokens 130 = .ok (.getfield 18, 3) := by decide +kernel
theorem dX6_findTokens_133 : decode cX6_findTokens 133 = .ok (.aload_n 0, 1) := by decide +kernel
theorem dX6_findTokens_134 : decode cX6_findTokens 134 = .ok (.getfield 73, 3) := by decide +kernel
theorem dX6_findTokens_137 : decode cX6_findTokens 137 = .ok (.aload_n 0, 1) := by decide +kernel
theorem dX6_findTokens_138 : decode cX6_findTokens 138 = .ok (.getfield 32, 3) := by decide +kernel
theorem dX6_findTokens_141 : decode cX6_findTokens 141 = .ok (.iastore, 1) := by decide +kernel
theorem dX6_findTokens_142 : decode cX6_findTokens 142 = .ok (.aload_n 0, 1) := by decide +kernel
theorem dX6_findTokens_143 : decode cX6_findTokens 143 = .ok (.getfield 21, 3) := by decide +kernel
theorem dX6_findTokens_146 : decode cX6_findTokens 146 = .ok (.aload_n 0, 1) := by decide +kernel
theorem dX6_findTokens_147 : decode cX6_findTokens 147 = .ok (.getfield 73, 3) := by decide +kernel
theorem dX6_findTokens_150 : decode cX6_findTokens 150 = .ok (.iconst 2, 1) := by decide +kernel
theorem dX6_findTokens_151 : decode cX6_findTokens 151 = .ok (.iastore, 1) := by decide +kernel
theorem dX6_findTokens_152 : decode cX6_findTokens 152 = .ok (.return_, 1) := by decide +kernel
def f6_findTokens_j108 (S : ph_Sh) (rc14 : Int32 → Int32 → ph_Mem → Option ph_Mem) (x2 : Int32) (x3 : Int32) (M : ph_Mem) : Option ph_Mem :=
  rc14 x3 (x2 + (1 : Int32)) M
set_option maxHeartbeats 4000000 in
theorem jb_f6_findTokens_j108 {tb adK adV : Nat → Nat} {S : ph_Sh} {X : ph_X} {ad : Nat → Nat} {o : ph_Mem} (h : ph_ok (ph_ZX tb adK adV) X cX6_findTokens RX6 none 4 1 S.2 ad) (fin : ph_fin X S.1 S.2 ad none o) (hS : ph_SX S) {rc14 : Int32 → Int32 → ph_Mem → Option ph_Mem} (hrc14 : ∀ (x1 : Int32) (x2 : Int32) (M : ph_Mem), ph_J X S.1 S.2 ad o 14 [(0, .ref (ad 63)), (1, .int x1), (2, .int x2)] [] M (rc14 x1 x2 M)) : ∀ (x2 : Int32) (x3 : Int32) (M : ph_Mem), ph_J X S.1 S.2 ad o 108 [(0, .ref (ad 63)), (2, .int x2), (3, .int x3)] [] M (f6_findTokens_j108 S rc14 x2 x3 M) := by
  intro x2 x3 M
  unfold f6_findTokens_j108
  refine j_iload_n h dX6_findTokens_108 rfl 2 rfl ?_
  refine j_istore_n h [(1, .int x3), (0, .ref (ad 63)), (2, .int x2), (3, .int x3)] dX6_findTokens_109 rfl (by decide) rfl ?_
  refine j_iinc h [(2, .int (x2 + (1 : Int32))), (1, .int x3), (0, .ref (ad 63)), (3, .int x3)] dX6_findTokens_110 2 rfl rfl (by decide) rfl ?_
  refine j_goto h 14 dX6_findTokens_113 (by decide) ?_
  refine j_sub [2, 1, 0] rfl ?_
  exact hrc14 x3 (x2 + (1 : Int32)) M
def f6_findTokens_j83 (S : ph_Sh) (rc14 : Int32 → Int32 → ph_Mem → Option ph_Mem) (x2 : Int32) (x3 : Int32) (M : ph_Mem) : Option ph_Mem :=
  cond (ph_ib x2 400) (if (M.1 64 x2.toNatClampNeg) = (32 : Int32) then (f6_findTokens_j108 S rc14 x2 x3 M) else (cond (ph_ib ((M.1 63 7) - (1 : Int32)) 401) (ph_let (ph_wi M 66 ((M.1 63 7) - (1 : Int32)).toNatClampNeg (x2 + (1 : Int32))) fun M7 => f6_findTokens_j108 S rc14 x2 x3 M7) none)) none
set_option maxHeartbeats 4000000 in
theorem jb_f6_findTokens_j83 {tb adK adV : Nat → Nat} {S : ph_Sh} {X : ph_X} {ad : Nat → Nat} {o : ph_Mem} (h : ph_ok (ph_ZX tb adK adV) X cX6_findTokens RX6 none 4 1 S.2 ad) (fin : ph_fin X S.1 S.2 ad none o) (hS : ph_SX S) {rc14 : Int32 → Int32 → ph_Mem → Option ph_Mem} (hrc14 : ∀ (x1 : Int32) (x2 : Int32) (M : ph_Mem), ph_J X S.1 S.2 ad o 14 [(0, .ref (ad 63)), (1, .int x1), (2, .int x2)] [] M (rc14 x1 x2 M)) : ∀ (x2 : Int32) (x3 : Int32) (M : ph_Mem), ph_J X S.1 S.2 ad o 83 [(0, .ref (ad 63)), (2, .int x2), (3, .int x3)] [] M (f6_findTokens_j83 S rc14 x2 x3 M) := by
  intro x2 x3 M
  unfold f6_findTokens_j83
  refine j_aload_n h dX6_findTokens_83 rfl 0 rfl ?_
  refine j_get (c := 63) (j := 0) (v := .ref (ad 64)) h (ph_xlt hS (by decide)) (ph_kc63 hS) rfl ph_inX6 rfl (by decide) tw_166 rfl rfl dX6_findTokens_84 ?_
  refine j_iload_n h dX6_findTokens_87 rfl 1 rfl ?_
  refine j_iald (c := 64) (n := 400) h (ph_xlt hS (by decide)) (ph_kc64 hS) dX6_findTokens_88 ?_
  refine j_bipush (v := (32 : Int32)) h dX6_findTokens_89 (by decide) ?_
  refine j_icmp_eq h 108 dX6_findTokens_91 (by decide) ?_ ?_
  · refine j_sub [0, 1, 2] rfl ?_
    exact jb_f6_findTokens_j108 h fin hS hrc14 x2 x3 M
  · refine j_aload_n h dX6_findTokens_94 rfl 0 rfl ?_
    refine j_get (c := 63) (j := 5) (v := .ref (ad 66)) h (ph_xlt hS (by decide)) (ph_kc63 hS) rfl ph_inX6 rfl (by decide) tw_174 rfl rfl dX6_findTokens_95 ?_
    refine j_aload_n h dX6_findTokens_98 rfl 0 rfl ?_
    refine j_get (c := 63) (j := 7) (v := .int (M.1 63 7)) h (ph_xlt hS (by decide)) (ph_kc63 hS) rfl ph_inX6 rfl (by decide) tw_176 rfl rfl dX6_findTokens_99 ?_
    refine j_iconst (v := (1 : Int32)) h dX6_findTokens_102 (by decide) ?_
    refine j_isub h dX6_findTokens_103 ?_
    refine j_iload_n h dX6_findTokens_104 rfl 1 rfl ?_
    refine j_iconst (v := (1 : Int32)) h dX6_findTokens_105 (by decide) ?_
    refine j_iadd h dX6_findTokens_106 ?_
    refine j_iast (c := 66) (n := 401) h (ph_xlt hS (by decide)) (ph_kc66 hS) dX6_findTokens_107 ?_
    refine j_letM (fun M7 => ?_)
    refine j_sub [0, 1, 2] rfl ?_
    exact jb_f6_findTokens_j108 h fin hS hrc14 x2 x3 M7
def f6_findTokens_j53 (S : ph_Sh) (rc14 : Int32 → Int32 → ph_Mem → Option ph_Mem) (x2 : Int32) (x3 : Int32) (M : ph_Mem) : Option ph_Mem :=
  cond (ph_ib (M.1 63 7) 401) (ph_let (ph_wi M 65 (M.1 63 7).toNatClampNeg x2) fun M4 => cond (ph_ib (M4.1 63 7) 401) (ph_let (ph_wi M4 67 (M4.1 63 7).toNatClampNeg x3) fun M5 => ph_let (ph_wi M5 63 7 ((M5.1 63 7) + (1 : Int32))) fun M6 => f6_findTokens_j83 S rc14 x2 x3 M6) none) none
set_option maxHeartbeats 4000000 in
theorem jb_f6_findTokens_j53 {tb adK adV : Nat → Nat} {S : ph_Sh} {X : ph_X} {ad : Nat → Nat} {o : ph_Mem} (h : ph_ok (ph_ZX tb adK adV) X cX6_findTokens RX6 none 4 1 S.2 ad) (fin : ph_fin X S.1 S.2 ad none o) (hS : ph_SX S) {rc14 : Int32 → Int32 → ph_Mem → Option ph_Mem} (hrc14 : ∀ (x1 : Int32) (x2 : Int32) (M : ph_Mem), ph_J X S.1 S.2 ad o 14 [(0, .ref (ad 63)), (1, .int x1), (2, .int x2)] [] M (rc14 x1 x2 M)) : ∀ (x2 : Int32) (x3 : Int32) (M : ph_Mem), ph_J X S.1 S.2 ad o 53 [(0, .ref (ad 63)), (2, .int x2), (3, .int x3)] [] M (f6_findTokens_j53 S rc14 x2 x3 M) := by
  intro x2 x3 M
  unfold f6_findTokens_j53
  refine j_aload_n h dX6_findTokens_53 rfl 0 rfl ?_
  refine j_get (c := 63) (j := 4) (v := .ref (ad 65)) h (ph_xlt hS (by decide)) (ph_kc63 hS) rfl ph_inX6 rfl (by decide) tw_173 rfl rfl dX6_findTokens_54 ?_
  refine j_aload_n h dX6_findTokens_57 rfl 0 rfl ?_
  refine j_get (c := 63) (j := 7) (v := .int (M.1 63 7)) h (ph_xlt hS (by decide)) (ph_kc63 hS) rfl ph_inX6 rfl (by decide) tw_176 rfl rfl dX6_findTokens_58 ?_
  refine j_iload_n h dX6_findTokens_61 rfl 1 rfl ?_
  refine j_iast (c := 65) (n := 401) h (ph_xlt hS (by decide)) (ph_kc65 hS) dX6_findTokens_62 ?_
  refine j_letM (fun M4 => ?_)
  refine j_aload_n h dX6_findTokens_63 rfl 0 rfl ?_
  refine j_get (c := 63) (j := 6) (v := .ref (ad 67)) h (ph_xlt hS (by decide)) (ph_kc63 hS) rfl ph_inX6 rfl (by decide) tw_175 rfl rfl dX6_findTokens_64 ?_
  refine j_aload_n h dX6_findTokens_67 rfl 0 rfl ?_
  refine j_get (c := 63) (j := 7) (v := .int (M4.1 63 7)) h (ph_xlt hS (by decide)) (ph_kc63 hS) rfl ph_inX6 rfl (by decide) tw_176 rfl rfl dX6_findTokens_68 ?_
  refine j_iload_n h dX6_findTokens_71 rfl 2 rfl ?_
  refine j_iast (c := 67) (n := 401) h (ph_xlt hS (by decide)) (ph_kc67 hS) dX6_findTokens_72 ?_
  refine j_letM (fun M5 => ?_)
  refine j_aload_n h dX6_findTokens_73 rfl 0 rfl ?_
  refine j_dup h dX6_findTokens_74 rfl ?_
  refine j_get (c := 63) (j := 7) (v := .int (M5.1 63 7)) h (ph_xlt hS (by decide)) (ph_kc63 hS) rfl ph_inX6 rfl (by decide) tw_176 rfl rfl dX6_findTokens_75 ?_
  refine j_iconst (v := (1 : Int32)) h dX6_findTokens_78 (by decide) ?_
  refine j_iadd h dX6_findTokens_79 ?_
  refine j_puti (c := 63) (j := 7) (ty := .int) h (ph_xlt hS (by decide)) (ph_kc63 hS) rfl ph_inX6 tyX6 tyX6_ok nmX6 rfl (by decide) tw_176 rfl rfl (tyX6_ok 7 (by decide)) rfl rfl dX6_findTokens_80 ?_
  refine j_letM (fun M6 => ?_)
  refine j_sub [0, 1, 2] rfl ?_
  exact jb_f6_findTokens_j83 h fin hS hrc14 x2 x3 M6
def f6_findTokens_j116 (S : ph_Sh) (M : ph_Mem) : Option ph_Mem :=
  cond (ph_ib (M.1 63 7) 401) (ph_let (ph_wi M 65 (M.1 63 7).toNatClampNeg (M.1 63 1)) fun M8 => cond (ph_ib (M8.1 63 7) 401) (ph_let (ph_wi M8 66 (M8.1 63 7).toNatClampNeg (M8.1 63 1)) fun M9 => cond (ph_ib (M9.1 63 7) 401) (ph_let (ph_wi M9 67 (M9.1 63 7).toNatClampNeg (2 : Int32)) fun M10 => some M10) none) none) none
set_option maxHeartbeats 4000000 in
theorem jb_f6_findTokens_j116 {tb adK adV : Nat → Nat} {S : ph_Sh} {X : ph_X} {ad : Nat → Nat} {o : ph_Mem} (h : ph_ok (ph_ZX tb adK adV) X cX6_findTokens RX6 none 4 1 S.2 ad) (fin : ph_fin X S.1 S.2 ad none o) (hS : ph_SX S) : ∀ (M : ph_Mem), ph_J X S.1 S.2 ad o 116 [(0, .ref (ad 63))] [] M (f6_findTokens_j116 S M) := by
  intro M
  unfold f6_findTokens_j116
  refine j_aload_n h dX6_findTokens_116 rfl 0 rfl ?_
  refine j_get (c := 63) (j := 4) (v := .ref (ad 65)) h (ph_xlt hS (by decide)) (ph_kc63 hS) rfl ph_inX6 rfl (by decide) tw_173 rfl rfl dX6_findTokens_117 ?_
  refine j_aload_n h dX6_findTokens_120 rfl 0 rfl ?_
  refine j_get (c := 63) (j := 7) (v := .int (M.1 63 7)) h (ph_xlt hS (by decide)) (ph_kc63 hS) rfl ph_inX6 rfl (by decide) tw_176 rfl rfl dX6_findTokens_121 ?_
  refine j_aload_n h dX6_findTokens_124 rfl 0 rfl ?_
  refine j_get (c := 63) (j := 1) (v := .int (M.1 63 1)) h (ph_xlt hS (by decide)) (ph_kc63 hS) rfl ph_inX6 rfl (by decide) tw_168 rfl rfl dX6_findTokens_125 ?_
  refine j_iast (c := 65) (n := 401) h (ph_xlt hS (by decide)) (ph_kc65 hS) dX6_findTokens_128 ?_
  refine j_letM (fun M8 => ?_)
  refine j_aload_n h dX6_findTokens_129 rfl 0 rfl ?_
  refine j_get (c := 63) (j := 5) (v := .ref (ad 66)) h (ph_xlt hS (by decide)) (ph_kc63 hS) rfl ph_inX6 rfl (by decide) tw_174 rfl rfl dX6_findTokens_130 ?_
  refine j_aload_n h dX6_findTokens_133 rfl 0 rfl ?_
  refine j_get (c := 63) (j := 7) (v := .int (M8.1 63 7)) h (ph_xlt hS (by decide)) (ph_kc63 hS) rfl ph_inX6 rfl (by decide) tw_176 rfl rfl dX6_findTokens_134 ?_
  refine j_aload_n h dX6_findTokens_137 rfl 0 rfl ?_
  refine j_get (c := 63) (j := 1) (v := .int (M8.1 63 1)) h (ph_xlt hS (by decide)) (ph_kc63 hS) rfl ph_inX6 rfl (by decide) tw_168 rfl rfl dX6_findTokens_138 ?_
  refine j_iast (c := 66) (n := 401) h (ph_xlt hS (by decide)) (ph_kc66 hS) dX6_findTokens_141 ?_
  refine j_letM (fun M9 => ?_)
  refine j_aload_n h dX6_findTokens_142 rfl 0 rfl ?_
  refine j_get (c := 63) (j := 6) (v := .ref (ad 67)) h (ph_xlt hS (by decide)) (ph_kc63 hS) rfl ph_inX6 rfl (by decide) tw_175 rfl rfl dX6_findTokens_143 ?_
  refine j_aload_n h dX6_findTokens_146 rfl 0 rfl ?_
  refine j_get (c := 63) (j := 7) (v := .int (M9.1 63 7)) h (ph_xlt hS (by decide)) (ph_kc63 hS) rfl ph_inX6 rfl (by decide) tw_176 rfl rfl dX6_findTokens_147 ?_
  refine j_iconst (v := (2 : Int32)) h dX6_findTokens_150 (by decide) ?_
  refine j_iast (c := 67) (n := 401) h (ph_xlt hS (by decide)) (ph_kc67 hS) dX6_findTokens_151 ?_
  refine j_letM (fun M10 => ?_)
  exact j_vret h rfl fin dX6_findTokens_152
def f6_findTokens_l14 (S : ph_Sh) : Nat → Int32 → Int32 → ph_Mem → Option ph_Mem
  | 0, _, _, _ => none
  | n + 1, x1, x2, M => if (M.1 63 1) ≤ x2 then (f6_findTokens_j116 S  M) else (cond (ph_ib x2 400) ((f6_kindOfByte S M (M.1 64 x2.toNatClampNeg)).bind fun q3 => cond (ph_ib x2 400) (if (M.1 64 x2.toNatClampNeg) = (32 : Int32) then (f6_findTokens_j83 S (f6_findTokens_l14 S n) x2 q3 M) else (if q3 = (2 : Int32) then (f6_findTokens_j53 S (f6_findTokens_l14 S n) x2 q3 M) else (if q3 = x1 then (f6_findTokens_j83 S (f6_findTokens_l14 S n) x2 q3 M) else (f6_findTokens_j53 S (f6_findTokens_l14 S n) x2 q3 M)))) none) none)
set_option maxHeartbeats 4000000 in
theorem jb_f6_findTokens_l14 {tb adK adV : Nat → Nat} {S : ph_Sh} {X : ph_X} {ad : Nat → Nat} {o : ph_Mem} (h : ph_ok (ph_ZX tb adK adV) X cX6_findTokens RX6 none 4 1 S.2 ad) (fin : ph_fin X S.1 S.2 ad none o) (hS : ph_SX S) : ∀ (n : Nat) (x1 : Int32) (x2 : Int32) (M : ph_Mem), ph_J X S.1 S.2 ad o 14 [(0, .ref (ad 63)), (1, .int x1), (2, .int x2)] [] M (f6_findTokens_l14 S n x1 x2 M) := by
  intro n
  induction n with
  | zero => intro x1 x2 M; exact j_none
  | succ n hrc14 =>
    intro x1 x2 M
    unfold f6_findTokens_l14
    refine j_iload_n h dX6_findTokens_14 rfl 2 rfl ?_
    refine j_aload_n h dX6_findTokens_15 rfl 0 rfl ?_
    refine j_get (c := 63) (j := 1) (v := .int (M.1 63 1)) h (ph_xlt hS (by decide)) (ph_kc63 hS) rfl ph_inX6 rfl (by decide) tw_168 rfl rfl dX6_findTokens_16 ?_
    refine j_icmp_ge h 116 dX6_findTokens_19 (by decide) ?_ ?_
    · refine j_sub [0] rfl ?_
      exact jb_f6_findTokens_j116 h fin hS  M
    · refine j_aload_n h dX6_findTokens_22 rfl 0 rfl ?_
      refine j_get (c := 63) (j := 0) (v := .ref (ad 64)) h (ph_xlt hS (by decide)) (ph_kc63 hS) rfl ph_inX6 rfl (by decide) tw_166 rfl rfl dX6_findTokens_23 ?_
      refine j_iload_n h dX6_findTokens_26 rfl 2 rfl ?_
      refine j_iald (c := 64) (n := 400) h (ph_xlt hS (by decide)) (ph_kc64 hS) dX6_findTokens_27 ?_
      refine j_callSiP (n := 1) (As := [.int (M.1 64 x2.toNatClampNeg)]) (rest := []) h tw_613 tw_614 tw_7 tw_615 ydf6_kindOfByte (by decide) (by decide) (fun q hq => cf6_kindOfByte (ph_okI h) hS hq) rfl (Nat.le_of_ble_eq_true rfl) rfl dX6_findTokens_28 (fun q3 => ?_)
      refine j_istore_n h [(3, .int q3), (0, .ref (ad 63)), (1, .int x1), (2, .int x2)] dX6_findTokens_31 rfl (by decide) rfl ?_
      refine j_aload_n h dX6_findTokens_32 rfl 1 rfl ?_
      refine j_get (c := 63) (j := 0) (v := .ref (ad 64)) h (ph_xlt hS (by decide)) (ph_kc63 hS) rfl ph_inX6 rfl (by decide) tw_166 rfl rfl dX6_findTokens_33 ?_
      refine j_iload_n h dX6_findTokens_36 rfl 3 rfl ?_
      refine j_iald (c := 64) (n := 400) h (ph_xlt hS (by decide)) (ph_kc64 hS) dX6_findTokens_37 ?_
      refine j_bipush (v := (32 : Int32)) h dX6_findTokens_38 (by decide) ?_
      refine j_icmp_eq h 83 dX6_findTokens_40 (by decide) ?_ ?_
      · refine j_sub [1, 3, 0] rfl ?_
        exact jb_f6_findTokens_j83 h fin hS hrc14 x2 q3 M
      · refine j_iload_n h dX6_findTokens_43 rfl 0 rfl ?_
        refine j_iconst (v := (2 : Int32)) h dX6_findTokens_44 (by decide) ?_
        refine j_icmp_eq h 53 dX6_findTokens_45 (by decide) ?_ ?_
        · refine j_sub [1, 3, 0] rfl ?_
          exact jb_f6_findTokens_j53 h fin hS hrc14 x2 q3 M
        · refine j_iload_n h dX6_findTokens_48 rfl 0 rfl ?_
          refine j_iload_n h dX6_findTokens_49 rfl 2 rfl ?_
          refine j_icmp_eq h 83 dX6_findTokens_50 (by decide) ?_ ?_
          · refine j_sub [1, 3, 0] rfl ?_
            exact jb_f6_findTokens_j83 h fin hS hrc14 x2 q3 M
          · refine j_sub [1, 3, 0] rfl ?_
            exact jb_f6_findTokens_j53 h fin hS hrc14 x2 q3 M
theorem ydf6_findTokens : ph_yd yX6_findTokens 0 := ⟨by decide, by decide, by decide +kernel⟩
def f6_findTokens (S : ph_Sh) (M : ph_Mem) : Option ph_Mem :=
  ph_let (ph_wi M 63 8 (0 : Int32)) fun M1 => ph_let (ph_wi M1 63 7 (0 : Int32)) fun M2 => f6_findTokens_l14 S 10000 (2 : Int32) (0 : Int32) M2
set_option maxHeartbeats 4000000 in
theorem cf6_findTokens {tb adK adV : Nat → Nat} {S : ph_Sh} {l : Launch} {D : va_G} {cA : Nat → ClassId} {ad : Nat → Nat} (hinj : ∀ i j, i < S.2 → j < S.2 → ad i = ad j → i = j) (hS : ph_SX S) {M : ph_Mem} {M' : ph_Mem} (hf : f6_findTokens S M  = some M') : ph_C (ph_ZX tb adK adV) l 1 yX6_findTokens cX6_findTokens 4 none D cA S.1 S.2 ad [.ref (ad 63)] M none M' := by
  refine ph_mk ph_ZX_ok hinj (by decide) (Nat.le_of_ble_eq_true rfl) fun X h fin hE => ?_
  refine (?_ : ph_J X S.1 S.2 ad (M' : ph_Mem) 0 [(0, .ref (ad 63))] [] M (f6_findTokens S M )) hf
  unfold f6_findTokens
  refine j_aload_n h dX6_findTokens_0 rfl 0 rfl ?_
  refine j_iconst (v := (0 : Int32)) h dX6_findTokens_1 (by decide) ?_
  refine j_puti (c := 63) (j := 8) (ty := .int) h (ph_xlt hS (by decide)) (ph_kc63 hS) rfl ph_inX6 tyX6 tyX6_ok nmX6 rfl (by decide) tw_177 rfl rfl (tyX6_ok 8 (by decide)) rfl rfl dX6_findTokens_2 ?_
  refine j_letM (fun M1 => ?_)
  refine j_aload_n h dX6_findTokens_5 rfl 0 rfl ?_
  refine j_iconst (v := (0 : Int32)) h dX6_findTokens_6 (by decide) ?_
  refine j_puti (c := 63) (j := 7) (ty := .int) h (ph_xlt hS (by decide)) (ph_kc63 hS) rfl ph_inX6 tyX6 tyX6_ok nmX6 rfl (by decide) tw_176 rfl rfl (tyX6_ok 7 (by decide)) rfl rfl dX6_findTokens_7 ?_
  refine j_letM (fun M2 => ?_)
  refine j_iconst (v := (2 : Int32)) h dX6_findTokens_10 (by decide) ?_
  refine j_istore_n h [(1, .int (2 : Int32)), (0, .ref (ad 63))] dX6_findTokens_11 rfl (by decide) rfl ?_
  refine j_iconst (v := (0 : Int32)) h dX6_findTokens_12 (by decide) ?_
  refine j_istore_n h [(2, .int (0 : Int32)), (1, .int (2 : Int32)), (0, .ref (ad 63))] dX6_findTokens_13 rfl (by decide) rfl ?_
  refine j_sub [2, 1, 0] rfl ?_
  exact jb_f6_findTokens_l14 h fin hS 10000 (2 : Int32) (0 : Int32) M2
theorem dJ0_coder_7d493_0 : decode cJ0_coder_7d493 0 = .ok (.getstatic 38, 3) := by decide +kernel
theorem dJ0_coder_7d493_3 : decode cJ0_coder_7d493 3 = .ok (.ifCond .eq 10, 3) := by decide +kernel
theorem dJ0_coder_7d493_6 : decode cJ0_coder_7d493 6 = .ok (.aload_n 0, 1) := by decide +kernel
theorem dJ0_coder_7d493_7 : decode cJ0_coder_7d493 7 = .ok (.getfield 15, 3) := by decide +kernel
theorem dJ0_coder_7d493_10 : decode cJ0_coder_7d493 10 = .ok (.goto 4, 3) := by decide +kernel
theorem dJ0_coder_7d493_13 : decode cJ0_coder_7d493 13 = .ok (.iconst 1, 1) := by decide +kernel
theorem dJ0_coder_7d493_14 : decode cJ0_coder_7d493 14 = .ok (.ireturn, 1) := by decide +kernel
theorem ydf0_coder_7d493 : ph_yd yJ0_coder_7d493 0 := ⟨by decide, by decide, by decide +kernel⟩
def f0_coder_7d493 (S : ph_Sh) (M : ph_Mem) (c : Nat) : Option Int32 :=
  if (1 : Int32) = 0 then (some (1 : Int32)) else (some (0 : Int32))
set_option maxHeartbeats 4000000 in
theorem cf0_coder_7d493 {tb adK adV : Nat → Nat} {S : ph_Sh} {c : Nat} {l : Launch} {D : va_G} {cA : Nat → ClassId} {ad : Nat → Nat} (hinj : ∀ i j, i < S.2 → j < S.2 → ad i = ad j → i = j) (hS : True) (hc : c < 40) {M : ph_Mem} {r : Int32} (hf : f0_coder_7d493 S M c = some r) : ph_C (ph_ZX tb adK adV) l 0 yJ0_coder_7d493 cJ0_coder_7d493 1 (some .byte) D cA S.1 S.2 ad [.ref (adK c)] M (some (.int r)) M := by
  refine ph_mkF ph_ZX_ok hinj (by decide +kernel) (Nat.le_of_ble_eq_true rfl) fun X h fin hE => ?_
  refine (?_ : ph_J X S.1 S.2 ad (r : Int32) 0 [(0, .ref (adK c))] [] M (f0_coder_7d493 S M c)) hf
  unfold f0_coder_7d493
  refine j_getsC h tw_638 dJ0_coder_7d493_0 ?_
  refine j_if_eq h 13 dJ0_coder_7d493_3 (by decide) ?_ ?_
  · refine j_iconst (v := (1 : Int32)) h dJ0_coder_7d493_13 (by decide) ?_
    exact j_bretPC h rfl rfl fin dJ0_coder_7d493_14
  · refine j_aload_n h dJ0_coder_7d493_6 rfl 0 rfl ?_
    refine j_getTC (i := c) h hc tw_1867 dJ0_coder_7d493_7 ?_
    refine j_goto h 14 dJ0_coder_7d493_10 (by decide) ?_
    exact j_bretPC h rfl rfl fin dJ0_coder_7d493_14
theorem dJ0_length_8abf5_0 : decode cJ0_length_8abf5 0 = .ok (.aload_n 0, 1) := by decide +kernel
theorem dJ0_length_8abf5_1 : decode cJ0_length_8abf5 1 = .ok (.getfield 9, 3) := by decide +kernel
theorem dJ0_length_8abf5_4 : decode cJ0_length_8abf5 4 = .ok (.arraylength, 1) := by decide +kernel
theorem dJ0_length_8abf5_5 : decode cJ0_length_8abf5 5 = .ok (.aload_n 0, 1) := by decide +kernel
theorem dJ0_length_8abf5_6 : decode cJ0_length_8abf5 6 = .ok (.invokevirtual 335, 3) := by decide +kernel
theorem dJ0_length_8abf5_9 : decode cJ0_length_8abf5 9 = .ok (.ishr, 1) := by decide +kernel
theorem dJ0_length_8abf5_10 : decode cJ0_length_8abf5 10 = .ok (.ireturn, 1) := by decide +kernel
theorem ydf0_length_8abf5 : ph_yd yJ0_length_8abf5 0 := ⟨by decide, by decide, by decide +kernel⟩
def f0_length_8abf5 (S : ph_Sh) (M : ph_Mem) (c : Nat) : Option Int32 :=
  (f0_coder_7d493 S M c).bind fun q1 => some ((Int32.ofNat (ph_sl.getD c 0)) >>> (q1 &&& 31))
set_option maxHeartbeats 4000000 in
theorem cf0_length_8abf5 {tb adK adV : Nat → Nat} {S : ph_Sh} {c : Nat} {l : Launch} {D : va_G} {cA : Nat → ClassId} {ad : Nat → Nat} (hinj : ∀ i j, i < S.2 → j < S.2 → ad i = ad j → i = j) (hS : True) (hc : c < 40) {M : ph_Mem} {r : Int32} (hf : f0_length_8abf5 S M c = some r) : ph_C (ph_ZX tb adK adV) l 1 yJ0_length_8abf5 cJ0_length_8abf5 1 (some .int) D cA S.1 S.2 ad [.ref (adK c)] M (some (.int r)) M := by
  refine ph_mkF ph_ZX_ok hinj (by decide +kernel) (Nat.le_of_ble_eq_true rfl) fun X h fin hE => ?_
  refine (?_ : ph_J X S.1 S.2 ad (r : Int32) 0 [(0, .ref (adK c))] [] M (f0_length_8abf5 S M c)) hf
  unfold f0_length_8abf5
  refine j_aload_n h dJ0_length_8abf5_0 rfl 0 rfl ?_
  refine j_getTV (i := c) h hc tw_1866 dJ0_length_8abf5_1 ?_
  refine j_lenT (i := c) h hc dJ0_length_8abf5_4 ?_
  refine j_aload_n h dJ0_length_8abf5_5 rfl 0 rfl ?_
  refine j_callTiP (n := 0) (As := []) (rest := [.int (Int32.ofNat (ph_sl.getD c 0))]) h c tw_634 tw_635 tw_636 tw_17 tw_637 ydf0_coder_7d493 (by decide) (by decide) hc rfl (fun q hq => cf0_coder_7d493 (ph_okI h) hS hc hq) rfl (Nat.le_of_ble_eq_true rfl) rfl dJ0_length_8abf5_6 (fun q1 => ?_)
  refine j_ishr h dJ0_length_8abf5_9 ?_
  exact j_iretP h rfl fin dJ0_length_8abf5_10
theorem dJ0_isLatin1_aae02_0 : decode cJ0_isLatin1_aae02 0 = .ok (.getstatic 38, 3) := by decide +kernel
theorem dJ0_isLatin1_aae02_3 : decode cJ0_isLatin1_aae02 3 = .ok (.ifCond .eq 14, 3) := by decide +kernel
theorem dJ0_isLatin1_aae02_6 : decode cJ0_isLatin1_aae02 6 = .ok (.aload_n 0, 1) := by decide +kernel
theorem dJ0_isLatin1_aae02_7 : decode cJ0_isLatin1_aae02 7 = .ok (.getfield 15, 3) := by decide +kernel
theorem dJ0_isLatin1_aae02_10 : decode cJ0_isLatin1_aae02 10 = .ok (.ifCond .ne 7, 3) := by decide +kernel
theorem dJ0_isLatin1_aae02_13 : decode cJ0_isLatin1_aae02 13 = .ok (.iconst 1, 1) := by decide +kernel
theorem dJ0_isLatin1_aae02_14 : decode cJ0_isLatin1_aae02 14 = .ok (.goto 4, 3) := by decide +kernel
theorem dJ0_isLatin1_aae02_17 : decode cJ0_isLatin1_aae02 17 = .ok (.iconst 0, 1) := by decide +kernel
theorem dJ0_isLatin1_aae02_18 : decode cJ0_isLatin1_aae02 18 = .ok (.ireturn, 1) := by decide +kernel
theorem ydf0_isLatin1_aae02 : ph_yd yJ0_isLatin1_aae02 0 := ⟨by decide, by decide, by decide +kernel⟩
def f0_isLatin1_aae02 (S : ph_Sh) (M : ph_Mem) (c : Nat) : Option Int32 :=
  if (1 : Int32) = 0 then (some (0 : Int32)) else (if (0 : Int32) = 0 then (some (1 : Int32)) else (some (0 : Int32)))
set_option maxHeartbeats 4000000 in
theorem cf0_isLatin1_aae02 {tb adK adV : Nat → Nat} {S : ph_Sh} {c : Nat} {l : Launch} {D : va_G} {cA : Nat → ClassId} {ad : Nat → Nat} (hinj : ∀ i j, i < S.2 → j < S.2 → ad i = ad j → i = j) (hS : True) (hc : c < 40) {M : ph_Mem} {r : Int32} (hf : f0_isLatin1_aae02 S M c = some r) : ph_C (ph_ZX tb adK adV) l 0 yJ0_isLatin1_aae02 cJ0_isLatin1_aae02 1 (some .boolean) D cA S.1 S.2 ad [.ref (adK c)] M (some (.int r)) M := by
  refine ph_mkF ph_ZX_ok hinj (by decide +kernel) (Nat.le_of_ble_eq_true rfl) fun X h fin hE => ?_
  refine (?_ : ph_J X S.1 S.2 ad (r : Int32) 0 [(0, .ref (adK c))] [] M (f0_isLatin1_aae02 S M c)) hf
  unfold f0_isLatin1_aae02
  refine j_getsC h tw_638 dJ0_isLatin1_aae02_0 ?_
  refine j_if_eq h 17 dJ0_isLatin1_aae02_3 (by decide) ?_ ?_
  · refine j_iconst (v := (0 : Int32)) h dJ0_isLatin1_aae02_17 (by decide) ?_
    exact j_zretPC h rfl (by decide) fin dJ0_isLatin1_aae02_18
  · refine j_aload_n h dJ0_isLatin1_aae02_6 rfl 0 rfl ?_
    refine j_getTC (i := c) h hc tw_1867 dJ0_isLatin1_aae02_7 ?_
    refine j_if_ne h 17 dJ0_isLatin1_aae02_10 (by decide) ?_ ?_
    · refine j_iconst (v := (0 : Int32)) h dJ0_isLatin1_aae02_17 (by decide) ?_
      exact j_zretPC h rfl (by decide) fin dJ0_isLatin1_aae02_18
    · refine j_iconst (v := (1 : Int32)) h dJ0_isLatin1_aae02_13 (by decide) ?_
      refine j_goto h 18 dJ0_isLatin1_aae02_14 (by decide) ?_
      exact j_zretPC h rfl (by decide) fin dJ0_isLatin1_aae02_18
theorem dJ3_checkIndex_8e157_0 : decode cJ3_checkIndex_8e157 0 = .ok (.iload_n 0, 1) := by decide +kernel
theorem dJ3_checkIndex_8e157_1 : decode cJ3_checkIndex_8e157 1 = .ok (.ifCond .lt 8, 3) := by decide +kernel
theorem dJ3_checkIndex_8e157_4 : decode cJ3_checkIndex_8e157 4 = .ok (.iload_n 0, 1) := by decide +kernel
theorem dJ3_checkIndex_8e157_5 : decode cJ3_checkIndex_8e157 5 = .ok (.iload_n 1, 1) := by decide +kernel
theorem dJ3_checkIndex_8e157_6 : decode cJ3_checkIndex_8e157 6 = .ok (.if_icmp .lt 10, 3) := by decide +kernel
theorem dJ3_checkIndex_8e157_9 : decode cJ3_checkIndex_8e157 9 = .ok (.aload_n 2, 1) := by decide +kernel
theorem dJ3_checkIndex_8e157_10 : decode cJ3_checkIndex_8e157 10 = .ok (.iload_n 0, 1) := by decide +kernel
theorem dJ3_checkIndex_8e157_11 : decode cJ3_checkIndex_8e157 11 = .ok (.iload_n 1, 1) := by decide +kernel
theorem dJ3_checkIndex_8e157_12 : decode cJ3_checkIndex_8e157 12 = .ok (.invokestatic 95, 3) := by decide +kernel
theorem dJ3_checkIndex_8e157_15 : decode cJ3_checkIndex_8e157 15 = .ok (.athrow, 1) := by decide +kernel
theorem dJ3_checkIndex_8e157_16 : decode cJ3_checkIndex_8e157 16 = .ok (.iload_n 0, 1) := by decide +kernel
theorem dJ3_checkIndex_8e157_17 : decode cJ3_checkIndex_8e157 17 = .ok (.ireturn, 1) := by decide +kernel
def f3_checkIndex_8e157_j9 (S : ph_Sh) (M : ph_Mem) (x0 : Int32) (x1 : Int32) : Option Int32 :=
  none
set_option maxHeartbeats 4000000 in
theorem jb_f3_checkIndex_8e157_j9 {tb adK adV : Nat → Nat} {S : ph_Sh} {p2 : Option Nat} {X : ph_X} {ad : Nat → Nat} {o : Int32} {M : ph_Mem} (h : ph_ok (ph_ZX tb adK adV) X cJ3_checkIndex_8e157 RJ3 (some .int) 3 0 S.2 ad) (fin : ph_fin X S.1 S.2 ad (some (.int o)) M) (hS : True) : ∀ (x0 : Int32) (x1 : Int32), ph_J X S.1 S.2 ad o 9 [(0, .int x0), (1, .int x1), (2, va_rf p2)] [] M (f3_checkIndex_8e157_j9 S M x0 x1) := by
  intro x0 x1
  unfold f3_checkIndex_8e157_j9
  exact j_none
theorem ydf3_checkIndex_8e157 : ph_yd yJ3_checkIndex_8e157 3 := ⟨by decide, by decide, by decide +kernel⟩
def f3_checkIndex_8e157 (S : ph_Sh) (M : ph_Mem) (p0 : Int32) (p1 : Int32) : Option Int32 :=
  if p0 < 0 then (f3_checkIndex_8e157_j9 S M p0 p1) else (if p0 < p1 then (some p0) else (f3_checkIndex_8e157_j9 S M p0 p1))
set_option maxHeartbeats 4000000 in
theorem cf3_checkIndex_8e157 {tb adK adV : Nat → Nat} {S : ph_Sh} {p2 : Option Nat} {l : Launch} {D : va_G} {cA : Nat → ClassId} {ad : Nat → Nat} (hinj : ∀ i j, i < S.2 → j < S.2 → ad i = ad j → i = j) (hS : True) {M : ph_Mem} {p0 : Int32} {p1 : Int32} {r : Int32} (hf : f3_checkIndex_8e157 S M p0 p1 = some r) : ph_C (ph_ZX tb adK adV) l 0 yJ3_checkIndex_8e157 cJ3_checkIndex_8e157 3 (some .int) D cA S.1 S.2 ad [.int p0, .int p1, va_rf p2] M (some (.int r)) M := by
  refine ph_mkF ph_ZX_ok hinj (by decide +kernel) (by cases p2 <;> exact Nat.le_of_ble_eq_true rfl) fun X h fin hE => ?_
  refine (?_ : ph_J X S.1 S.2 ad (r : Int32) 0 [(0, .int p0), (1, .int p1), (2, va_rf p2)] [] M (f3_checkIndex_8e157 S M p0 p1)) hf
  unfold f3_checkIndex_8e157
  refine j_iload_n h dJ3_checkIndex_8e157_0 rfl 0 rfl ?_
  refine j_if_lt h 9 dJ3_checkIndex_8e157_1 (by decide) ?_ ?_
  · refine j_sub [0, 1, 2] rfl ?_
    exact jb_f3_checkIndex_8e157_j9 h fin hS p0 p1
  · refine j_iload_n h dJ3_checkIndex_8e157_4 rfl 0 rfl ?_
    refine j_iload_n h dJ3_checkIndex_8e157_5 rfl 1 rfl ?_
    refine j_icmp_lt h 16 dJ3_checkIndex_8e157_6 (by decide) ?_ ?_
    · refine j_iload_n h dJ3_checkIndex_8e157_16 rfl 0 rfl ?_
      exact j_iretP h rfl fin dJ3_checkIndex_8e157_17
    · refine j_sub [0, 1, 2] rfl ?_
      exact jb_f3_checkIndex_8e157_j9 h fin hS p0 p1
theorem dJ0_checkIndex_df160_0 : decode cJ0_checkIndex_df160 0 = .ok (.iload_n 0, 1) := by decide +kernel
theorem dJ0_checkIndex_df160_1 : decode cJ0_checkIndex_df160 1 = .ok (.iload_n 1, 1) := by decide +kernel
theorem dJ0_checkIndex_df160_2 : decode cJ0_checkIndex_df160 2 = .ok (.getstatic 1053, 3) := by decide +kernel
theorem dJ0_checkIndex_df160_5 : decode cJ0_checkIndex_df160 5 = .ok (.invokestatic 1059, 3) := by decide +kernel
theorem dJ0_checkIndex_df160_8 : decode cJ0_checkIndex_df160 8 = .ok (.pop, 1) := by decide +kernel
theorem dJ0_checkIndex_df160_9 : decode cJ0_checkIndex_df160 9 = .ok (.return_, 1) := by decide +kernel
theorem ydf0_checkIndex_df160 : ph_yd yJ0_checkIndex_df160 2 := ⟨by decide, by decide, by decide +kernel⟩
def f0_checkIndex_df160 (S : ph_Sh) (M : ph_Mem) (p0 : Int32) (p1 : Int32) : Option Int32 :=
  (f3_checkIndex_8e157 S M p0 p1).bind fun q2 => some (0 : Int32)
set_option maxHeartbeats 4000000 in
theorem cf0_checkIndex_df160 {tb adK adV : Nat → Nat} {S : ph_Sh} {l : Launch} {D : va_G} {cA : Nat → ClassId} {ad : Nat → Nat} (hinj : ∀ i j, i < S.2 → j < S.2 → ad i = ad j → i = j) (hS : True) {M : ph_Mem} {p0 : Int32} {p1 : Int32} {r : Int32} (hf : f0_checkIndex_df160 S M p0 p1 = some r) : ph_C (ph_ZX tb adK adV) l 1 yJ0_checkIndex_df160 cJ0_checkIndex_df160 2 none D cA S.1 S.2 ad [.int p0, .int p1] M none M := by
  refine ph_mkF ph_ZX_ok hinj (by decide +kernel) (Nat.le_of_ble_eq_true rfl) fun X h fin hE => ?_
  refine (?_ : ph_J X S.1 S.2 ad (r : Int32) 0 [(0, .int p0), (1, .int p1)] [] M (f0_checkIndex_df160 S M p0 p1)) hf
  unfold f0_checkIndex_df160
  refine j_iload_n h dJ0_checkIndex_df160_0 rfl 0 rfl ?_
  refine j_iload_n h dJ0_checkIndex_df160_1 rfl 1 rfl ?_
  refine j_getsQ h tw_654 dJ0_checkIndex_df160_2 (fun w1 => ?_)
  refine j_callSiP (n := 3) (As := [.int p0, .int p1, va_rf w1]) (rest := []) h tw_656 tw_657 tw_19 tw_658 ydf3_checkIndex_8e157 (by decide) (by decide) (fun q hq => cf3_checkIndex_8e157 (ph_okI h) hS hq) rfl (Nat.le_of_ble_eq_true rfl) rfl dJ0_checkIndex_df160_5 (fun q2 => ?_)
  refine j_pop h dJ0_checkIndex_df160_8 rfl ?_
  exact j_vretP h rfl fin dJ0_checkIndex_df160_9
theorem dJ1_charAt_3b067_0 : decode cJ1_charAt_3b067 0 = .ok (.iload_n 1, 1) := by decide +kernel
theorem dJ1_charAt_3b067_1 : decode cJ1_charAt_3b067 1 = .ok (.aload_n 0, 1) := by decide +kernel
theorem dJ1_charAt_3b067_2 : decode cJ1_charAt_3b067 2 = .ok (.arraylength, 1) := by decide +kernel
theorem dJ1_charAt_3b067_3 : decode cJ1_charAt_3b067 3 = .ok (.invokestatic 9, 3) := by decide +kernel
theorem dJ1_charAt_3b067_6 : decode cJ1_charAt_3b067 6 = .ok (.aload_n 0, 1) := by decide +kernel
theorem dJ1_charAt_3b067_7 : decode cJ1_charAt_3b067 7 = .ok (.iload_n 1, 1) := by decide +kernel
theorem dJ1_charAt_3b067_8 : decode cJ1_charAt_3b067 8 = .ok (.baload, 1) := by decide +kernel
theorem dJ1_charAt_3b067_9 : decode cJ1_charAt_3b067 9 = .ok (.sipush 255, 3) := by decide +kernel
theorem dJ1_charAt_3b067_12 : decode cJ1_charAt_3b067 12 = .ok (.iand, 1) := by decide +kernel
theorem dJ1_charAt_3b067_13 : decode cJ1_charAt_3b067 13 = .ok (.i2c, 1) := by decide +kernel
theorem dJ1_charAt_3b067_14 : decode cJ1_charAt_3b067 14 = .ok (.ireturn, 1) := by decide +kernel
theorem ydf1_charAt_3b067 : ph_yd yJ1_charAt_3b067 2 := ⟨by decide, by decide, by decide +kernel⟩
def f1_charAt_3b067 (S : ph_Sh) (M : ph_Mem) (p0 : Nat) (p1 : Int32) : Option Int32 :=
  (f0_checkIndex_df160 S M p1 (Int32.ofNat (ph_sl.getD p0 0))).bind fun q1 => cond (ph_ib p1 (ph_sl.getD p0 0)) (cond (ph_isc ((((ph_sb.getD p0 []).getD p1.toNatClampNeg 0) &&& (255 : Int32)).toUInt32 % 65536).toInt32) (some ((((ph_sb.getD p0 []).getD p1.toNatClampNeg 0) &&& (255 : Int32)).toUInt32 % 65536).toInt32) none) none
set_option maxHeartbeats 4000000 in
theorem cf1_charAt_3b067 {tb adK adV : Nat → Nat} {S : ph_Sh} {p0 : Nat} {l : Launch} {D : va_G} {cA : Nat → ClassId} {ad : Nat → Nat} (hinj : ∀ i j, i < S.2 → j < S.2 → ad i = ad j → i = j) (hS : True) (hp0 : p0 < 40) {M : ph_Mem} {p1 : Int32} {r : Int32} (hf : f1_charAt_3b067 S M p0 p1 = some r) : ph_C (ph_ZX tb adK adV) l 2 yJ1_charAt_3b067 cJ1_charAt_3b067 2 (some .char) D cA S.1 S.2 ad [.ref (adV p0), .int p1] M (some (.int r)) M := by
  refine ph_mkF ph_ZX_ok hinj (by decide +kernel) (Nat.le_of_ble_eq_true rfl) fun X h fin hE => ?_
  refine (?_ : ph_J X S.1 S.2 ad (r : Int32) 0 [(0, .ref (adV p0)), (1, .int p1)] [] M (f1_charAt_3b067 S M p0 p1)) hf
  unfold f1_charAt_3b067
  refine j_iload_n h dJ1_charAt_3b067_0 rfl 1 rfl ?_
  refine j_aload_n h dJ1_charAt_3b067_1 rfl 0 rfl ?_
  refine j_lenT (i := p0) h hp0 dJ1_charAt_3b067_2 ?_
  refine j_callSvP (n := 2) (As := [.int p1, .int (Int32.ofNat (ph_sl.getD p0 0))]) (rest := []) h tw_651 tw_652 tw_17 tw_653 ydf0_checkIndex_df160 (by decide) (by decide) (fun q hq => cf0_checkIndex_df160 (ph_okI h) hS hq) rfl (Nat.le_of_ble_eq_true rfl) rfl dJ1_charAt_3b067_3 (fun q1 => ?_)
  refine j_aload_n h dJ1_charAt_3b067_6 rfl 0 rfl ?_
  refine j_iload_n h dJ1_charAt_3b067_7 rfl 1 rfl ?_
  refine j_baldT (i := p0) h hp0 dJ1_charAt_3b067_8 ?_
  refine j_sipush (v := (255 : Int32)) h dJ1_charAt_3b067_9 (by decide) ?_
  refine j_iand h dJ1_charAt_3b067_12 ?_
  refine j_i2c h dJ1_charAt_3b067_13 ?_
  exact j_cretP h rfl fin dJ1_charAt_3b067_14
theorem dJ0_charAt_5068e_0 : decode cJ0_charAt_5068e 0 = .ok (.aload_n 0, 1) := by decide +kernel
theorem dJ0_charAt_5068e_1 : decode cJ0_charAt_5068e 1 = .ok (.invokevirtual 492, 3) := by decide +kernel
theorem dJ0_charAt_5068e_4 : decode cJ0_charAt_5068e 4 = .ok (.ifCond .eq 12, 3) := by decide +kernel
theorem dJ0_charAt_5068e_7 : decode cJ0_charAt_5068e 7 = .ok (.aload_n 0, 1) := by decide +kernel
theorem dJ0_charAt_5068e_8 : decode cJ0_charAt_5068e 8 = .ok (.getfield 9, 3) := by decide +kernel
theorem dJ0_charAt_5068e_11 : decode cJ0_charAt_5068e 11 = .ok (.iload_n 1, 1) := by decide +kernel
theorem dJ0_charAt_5068e_12 : decode cJ0_charAt_5068e 12 = .ok (.invokestatic 495, 3) := by decide +kernel
theorem dJ0_charAt_5068e_15 : decode cJ0_charAt_5068e 15 = .ok (.ireturn, 1) := by decide +kernel
theorem dJ0_charAt_5068e_16 : decode cJ0_charAt_5068e 16 = .ok (.aload_n 0, 1) := by decide +kernel
theorem dJ0_charAt_5068e_17 : decode cJ0_charAt_5068e 17 = .ok (.getfield 9, 3) := by decide +kernel
theorem dJ0_charAt_5068e_20 : decode cJ0_charAt_5068e 20 = .ok (.iload_n 1, 1) := by decide +kernel
theorem dJ0_charAt_5068e_21 : decode cJ0_charAt_5068e 21 = .ok (.invokestatic 498, 3) := by decide +kernel
theorem dJ0_charAt_5068e_24 : decode cJ0_charAt_5068e 24 = .ok (.ireturn, 1) := by decide +kernel
theorem ydf0_charAt_5068e : ph_yd yJ0_charAt_5068e 1 := ⟨by decide, by decide, by decide +kernel⟩
def f0_charAt_5068e (S : ph_Sh) (M : ph_Mem) (c : Nat) (p0 : Int32) : Option Int32 :=
  (f0_isLatin1_aae02 S M c).bind fun q1 => if q1 = 0 then (none) else ((f1_charAt_3b067 S M c p0).bind fun q2 => cond (ph_isc q2) (some q2) none)
set_option maxHeartbeats 4000000 in
theorem cf0_charAt_5068e {tb adK adV : Nat → Nat} {S : ph_Sh} {c : Nat} {l : Launch} {D : va_G} {cA : Nat → ClassId} {ad : Nat → Nat} (hinj : ∀ i j, i < S.2 → j < S.2 → ad i = ad j → i = j) (hS : True) (hc : c < 40) {M : ph_Mem} {p0 : Int32} {r : Int32} (hf : f0_charAt_5068e S M c p0 = some r) : ph_C (ph_ZX tb adK adV) l 3 yJ0_charAt_5068e cJ0_charAt_5068e 2 (some .char) D cA S.1 S.2 ad [.ref (adK c), .int p0] M (some (.int r)) M := by
  refine ph_mkF ph_ZX_ok hinj (by decide +kernel) (Nat.le_of_ble_eq_true rfl) fun X h fin hE => ?_
  refine (?_ : ph_J X S.1 S.2 ad (r : Int32) 0 [(0, .ref (adK c)), (1, .int p0)] [] M (f0_charAt_5068e S M c p0)) hf
  unfold f0_charAt_5068e
  refine j_aload_n h dJ0_charAt_5068e_0 rfl 0 rfl ?_
  refine j_callTiP (n := 0) (As := []) (rest := []) h c tw_644 tw_645 tw_646 tw_17 tw_647 ydf0_isLatin1_aae02 (by decide) (by decide) hc rfl (fun q hq => cf0_isLatin1_aae02 (ph_okI h) hS hc hq) rfl (Nat.le_of_ble_eq_true rfl) rfl dJ0_charAt_5068e_1 (fun q1 => ?_)
  refine j_if_eq h 16 dJ0_charAt_5068e_4 (by decide) ?_ ?_
  · refine j_aload_n h dJ0_charAt_5068e_16 rfl 0 rfl ?_
    refine j_getTV (i := c) h hc tw_1866 dJ0_charAt_5068e_17 ?_
    refine j_iload_n h dJ0_charAt_5068e_20 rfl 1 rfl ?_
    exact j_none
  · refine j_aload_n h dJ0_charAt_5068e_7 rfl 0 rfl ?_
    refine j_getTV (i := c) h hc tw_1866 dJ0_charAt_5068e_8 ?_
    refine j_iload_n h dJ0_charAt_5068e_11 rfl 1 rfl ?_
    refine j_callSiP (n := 2) (As := [.ref (adV c), .int p0]) (rest := []) h tw_648 tw_649 tw_18 tw_650 ydf1_charAt_3b067 (by decide) (by decide) (fun q hq => cf1_charAt_3b067 (ph_okI h) hS hc hq) rfl (Nat.le_of_ble_eq_true rfl) rfl dJ0_charAt_5068e_12 (fun q2 => ?_)
    exact j_cretP h rfl fin dJ0_charAt_5068e_15
theorem dX6_says_0 : decode cX6_says 0 = .ok (.aload_n 0, 1) := by decide +kernel
theorem dX6_says_1 : decode cX6_says 1 = .ok (.getfield 15, 3) := by decide +kernel
theorem dX6_says_4 : decode cX6_says 4 = .ok (.aload_n 0, 1) := by decide +kernel
theorem dX6_says_5 : decode cX6_says 5 = .ok (.getfield 70, 3) := by decide +kernel
theorem dX6_says_8 : decode cX6_says 8 = .ok (.iaload, 1) := by decide +kernel
theorem dX6_says_9 : decode cX6_says 9 = .ok (.istore_n 2, 1) := by decide +kernel
theorem dX6_says_10 : decode cX6_says 10 = .ok (.aload_n 0, 1) := by decide +kernel
theorem dX6_says_11 : decode cX6_says 11 = .ok (.getfield 40, 3) := by decide +kernel
theorem dX6_says_14 : decode cX6_says 14 = .ok (.iconst (-1), 1) := by decide +kernel
theorem dX6_says_15 : decode cX6_says 15 = .ok (.if_icmp .ne 21, 3) := by decide +kernel
theorem dX6_says_18 : decode cX6_says 18 = .ok (.aload_n 0, 1) := by decide +kernel
theorem dX6_says_19 : decode cX6_says 19 = .ok (.getfield 18, 3) := by decide +kernel
theorem dX6_says_22 : decode cX6_says 22 = .ok (.aload_n 0, 1) := by decide +kernel
theorem dX6_says_23 : decode cX6_says 23 = .ok (.getfield 70, 3) := by decide +kernel
theorem dX6_says_26 : decode cX6_says 26 = .ok (.iaload, 1) := by decide +kernel
theorem dX6_says_27 : decode cX6_says 27 = .ok (.iload_n 2, 1) := by decide +kernel
theorem dX6_says_28 : decode cX6_says 28 = .ok (.isub, 1) := by decide +kernel
theorem dX6_says_29 : decode cX6_says 29 = .ok (.aload_n 1, 1) := by decide +kernel
theorem dX6_says_30 : decode cX6_says 30 = .ok (.invokevirtual 98, 3) := by decide +kernel
theorem dX6_says_33 : decode cX6_says 33 = .ok (.if_icmp .eq 5, 3) := by decide +kernel
theorem dX6_says_36 : decode cX6_says 36 = .ok (.iconst 0, 1) := by decide +kernel
theorem dX6_says_37 : decode cX6_says 37 = .ok (.ireturn, 1) := by decide +kernel
theorem dX6_says_38 : decode cX6_says 38 = .ok (.iconst 0, 1) := by decide +kernel
theorem dX6_says_39 : decode cX6_says 39 = .ok (.istore_n 3, 1) := by decide +kernel
theorem dX6_says_40 : decode cX6_says 40 = .ok (.iload_n 3, 1) := by decide +kernel
theorem dX6_says_41 : decode cX6_says 41 = .ok (.aload_n 1, 1) := by decide +kernel
theorem dX6_says_42 : decode cX6_says 42 = .ok (.invokevirtual 98, 3) := by decide +kernel
theorem dX6_says_45 : decode cX6_says 45 = .ok (.if_icmp .ge 27, 3) := by decide +kernel
theorem dX6_says_48 : decode cX6_says 48 = .ok (.aload_n 0, 1) := by decide +kernel
theorem dX6_says_49 : decode cX6_says 49 = .ok (.getfield 9, 3) := by decide +kernel
theorem dX6_says_52 : decode cX6_says 52 = .ok (.iload_n 2, 1) := by decide +kernel
theorem dX6_says_53 : decode cX6_says 53 = .ok (.iload_n 3, 1) := by decide +kernel
theorem dX6_says_54 : decode cX6_says 54 = .ok (.iadd, 1) := by decide +kernel
theorem dX6_says_55 : decode cX6_says 55 = .ok (.iaload, 1) := by decide +kernel
theorem dX6_says_56 : decode cX6_says 56 = .ok (.aload_n 1, 1) := by decide +kernel
theorem dX6_says_57 : decode cX6_says 57 = .ok (.iload_n 3, 1) := by decide +kernel
theorem dX6_says_58 : decode cX6_says 58 = .ok (.invokevirtual 103, 3) := by decide +kernel
theorem dX6_says_61 : decode cX6_says 61 = .ok (.if_icmp .eq 5, 3) := by decide +kernel
theorem dX6_says_64 : decode cX6_says 64 = .ok (.iconst 0, 1) := by decide +kernel
theorem dX6_says_65 : decode cX6_says 65 = .ok (.ireturn, 1) := by decide +kernel
theorem dX6_says_66 : decode cX6_says 66 = .ok (.iinc 3 1, 3) := by decide +kernel
theorem dX6_says_69 : decode cX6_says 69 = .ok (.goto (-29), 3) := by decide +kernel
theorem dX6_says_72 : decode cX6_says 72 = .ok (.iconst 1, 1) := by decide +kernel
theorem dX6_says_73 : decode cX6_says 73 = .ok (.ireturn, 1) := by decide +kernel
def f6_says_l40 (S : ph_Sh) (p0 : Nat) (M : ph_Mem) : Nat → Int32 → Int32 → Option Int32
  | 0, _, _ => none
  | n + 1, x2, x3 => (f0_length_8abf5 S M p0).bind fun q3 => if q3 ≤ x3 then (some (1 : Int32)) else (cond (ph_ib (x2 + x3) 400) ((f0_charAt_5068e S M p0 x3).bind fun q4 => if (M.1 64 (x2 + x3).toNatClampNeg) = q4 then ((f6_says_l40 S p0 M n) x2 (x3 + (1 : Int32))) else (some (0 : Int32))) none)
set_option maxHeartbeats 4000000 in
theorem jb_f6_says_l40 {tb adK adV : Nat → Nat} {S : ph_Sh} {p0 : Nat} {X : ph_X} {ad : Nat → Nat} {o : Int32} {M : ph_Mem} (h : ph_ok (ph_ZX tb adK adV) X cX6_says RX6 (some .boolean) 4 4 S.2 ad) (fin : ph_fin X S.1 S.2 ad (some (.int o)) M) (hS : ph_SX S) (hp0 : p0 < 40) : ∀ (n : Nat) (x2 : Int32) (x3 : Int32), ph_J X S.1 S.2 ad o 40 [(0, .ref (ad 63)), (1, .ref (adK p0)), (2, .int x2), (3, .int x3)] [] M (f6_says_l40 S p0 M n x2 x3) := by
  intro n
  induction n with
  | zero => intro x2 x3; exact j_none
  | succ n hrc40 =>
    intro x2 x3
    unfold f6_says_l40
    refine j_iload_n h dX6_says_40 rfl 3 rfl ?_
    refine j_aload_n h dX6_says_41 rfl 1 rfl ?_
    refine j_callTiP (n := 0) (As := []) (rest := [.int x3]) h p0 tw_630 tw_631 tw_632 tw_17 tw_633 ydf0_length_8abf5 (by decide) (by decide) hp0 rfl (fun q hq => cf0_length_8abf5 (ph_okI h) trivial hp0 hq) rfl (Nat.le_of_ble_eq_true rfl) rfl dX6_says_42 (fun q3 => ?_)
    refine j_icmp_ge h 72 dX6_says_45 (by decide) ?_ ?_
    · refine j_iconst (v := (1 : Int32)) h dX6_says_72 (by decide) ?_
      exact j_zretPC h rfl (by decide) fin dX6_says_73
    · refine j_aload_n h dX6_says_48 rfl 0 rfl ?_
      refine j_get (c := 63) (j := 0) (v := .ref (ad 64)) h (ph_xlt hS (by decide)) (ph_kc63 hS) rfl ph_inX6 rfl (by decide) tw_166 rfl rfl dX6_says_49 ?_
      refine j_iload_n h dX6_says_52 rfl 2 rfl ?_
      refine j_iload_n h dX6_says_53 rfl 3 rfl ?_
      refine j_iadd h dX6_says_54 ?_
      refine j_iald (c := 64) (n := 400) h (ph_xlt hS (by decide)) (ph_kc64 hS) dX6_says_55 ?_
      refine j_aload_n h dX6_says_56 rfl 1 rfl ?_
      refine j_iload_n h dX6_says_57 rfl 3 rfl ?_
      refine j_callTiP (n := 1) (As := [.int x3]) (rest := [.int (M.1 64 (x2 + x3).toNatClampNeg)]) h p0 tw_640 tw_641 tw_642 tw_17 tw_643 ydf0_charAt_5068e (by decide) (by decide) hp0 rfl (fun q hq => cf0_charAt_5068e (ph_okI h) trivial hp0 hq) rfl (Nat.le_of_ble_eq_true rfl) rfl dX6_says_58 (fun q4 => ?_)
      refine j_icmp_eq h 66 dX6_says_61 (by decide) ?_ ?_
      · refine j_iinc h [(3, .int (x3 + (1 : Int32))), (0, .ref (ad 63)), (1, .ref (adK p0)), (2, .int x2)] dX6_says_66 3 rfl rfl (by decide) rfl ?_
        refine j_goto h 40 dX6_says_69 (by decide) ?_
        refine j_sub [1, 2, 3, 0] rfl ?_
        exact hrc40 x2 (x3 + (1 : Int32))
      · refine j_iconst (v := (0 : Int32)) h dX6_says_64 (by decide) ?_
        exact j_zretPC h rfl (by decide) fin dX6_says_65
theorem ydf6_says : ph_yd yX6_says 1 := ⟨by decide, by decide, by decide +kernel⟩
def f6_says (S : ph_Sh) (M : ph_Mem) (p0 : Nat) : Option Int32 :=
  cond (ph_ib (M.1 63 8) 401) (ph_let (M.1 65 (M.1 63 8).toNatClampNeg) fun z1 => if (M.1 63 2) = (-1 : Int32) then (cond (ph_ib (M.1 63 8) 401) ((f0_length_8abf5 S M p0).bind fun q2 => if ((M.1 66 (M.1 63 8).toNatClampNeg) - z1) = q2 then (f6_says_l40 S p0 M 10000 z1 (0 : Int32)) else (some (0 : Int32))) none) else (some (0 : Int32))) none
set_option maxHeartbeats 4000000 in
theorem cf6_says {tb adK adV : Nat → Nat} {S : ph_Sh} {p0 : Nat} {l : Launch} {D : va_G} {cA : Nat → ClassId} {ad : Nat → Nat} (hinj : ∀ i j, i < S.2 → j < S.2 → ad i = ad j → i = j) (hS : ph_SX S) (hp0 : p0 < 40) {M : ph_Mem} {r : Int32} (hf : f6_says S M p0 = some r) : ph_C (ph_ZX tb adK adV) l 4 yX6_says cX6_says 4 (some .boolean) D cA S.1 S.2 ad [.ref (ad 63), .ref (adK p0)] M (some (.int r)) M := by
  refine ph_mk ph_ZX_ok hinj (by decide) (Nat.le_of_ble_eq_true rfl) fun X h fin hE => ?_
  refine (?_ : ph_J X S.1 S.2 ad (r : Int32) 0 [(0, .ref (ad 63)), (1, .ref (adK p0))] [] M (f6_says S M p0)) hf
  unfold f6_says
  refine j_aload_n h dX6_says_0 rfl 0 rfl ?_
  refine j_get (c := 63) (j := 4) (v := .ref (ad 65)) h (ph_xlt hS (by decide)) (ph_kc63 hS) rfl ph_inX6 rfl (by decide) tw_173 rfl rfl dX6_says_1 ?_
  refine j_aload_n h dX6_says_4 rfl 0 rfl ?_
  refine j_get (c := 63) (j := 8) (v := .int (M.1 63 8)) h (ph_xlt hS (by decide)) (ph_kc63 hS) rfl ph_inX6 rfl (by decide) tw_177 rfl rfl dX6_says_5 ?_
  refine j_iald (c := 65) (n := 401) h (ph_xlt hS (by decide)) (ph_kc65 hS) dX6_says_8 ?_
  refine j_istore_n h [(2, .int (M.1 65 (M.1 63 8).toNatClampNeg)), (0, .ref (ad 63)), (1, .ref (adK p0))] dX6_says_9 rfl (by decide) rfl ?_
  refine j_letI (lvf := fun z1 => [(2, .int z1), (0, .ref (ad 63)), (1, .ref (adK p0))]) (fun z1 => ?_)
  refine j_aload_n h dX6_says_10 rfl 1 rfl ?_
  refine j_get (c := 63) (j := 2) (v := .int (M.1 63 2)) h (ph_xlt hS (by decide)) (ph_kc63 hS) rfl ph_inX6 rfl (by decide) tw_170 rfl rfl dX6_says_11 ?_
  refine j_iconst (v := (-1 : Int32)) h dX6_says_14 (by decide) ?_
  refine j_icmp_ne h 36 dX6_says_15 (by decide) ?_ ?_
  · refine j_iconst (v := (0 : Int32)) h dX6_says_36 (by decide) ?_
    exact j_zretPC h rfl (by decide) fin dX6_says_37
  · refine j_aload_n h dX6_says_18 rfl 1 rfl ?_
    refine j_get (c := 63) (j := 5) (v := .ref (ad 66)) h (ph_xlt hS (by decide)) (ph_kc63 hS) rfl ph_inX6 rfl (by decide) tw_174 rfl rfl dX6_says_19 ?_
    refine j_aload_n h dX6_says_22 rfl 1 rfl ?_
    refine j_get (c := 63) (j := 8) (v := .int (M.1 63 8)) h (ph_xlt hS (by decide)) (ph_kc63 hS) rfl ph_inX6 rfl (by decide) tw_177 rfl rfl dX6_says_23 ?_
    refine j_iald (c := 66) (n := 401) h (ph_xlt hS (by decide)) (ph_kc66 hS) dX6_says_26 ?_
    refine j_iload_n h dX6_says_27 rfl 0 rfl ?_
    refine j_isub h dX6_says_28 ?_
    refine j_aload_n h dX6_says_29 rfl 2 rfl ?_
    refine j_callTiP (n := 0) (As := []) (rest := [.int ((M.1 66 (M.1 63 8).toNatClampNeg) - z1)]) h p0 tw_630 tw_631 tw_632 tw_17 tw_633 ydf0_length_8abf5 (by decide) (by decide) hp0 rfl (fun q hq => cf0_length_8abf5 (ph_okI h) trivial hp0 hq) rfl (Nat.le_of_ble_eq_true rfl) rfl dX6_says_30 (fun q2 => ?_)
    refine j_icmp_eq h 38 dX6_says_33 (by decide) ?_ ?_
    · refine j_iconst (v := (0 : Int32)) h dX6_says_38 (by decide) ?_
      refine j_istore_n h [(3, .int (0 : Int32)), (2, .int z1), (0, .ref (ad 63)), (1, .ref (adK p0))] dX6_says_39 rfl (by decide) rfl ?_
      refine j_sub [2, 3, 1, 0] rfl ?_
      exact jb_f6_says_l40 h fin hS hp0 10000 z1 (0 : Int32)
    · refine j_iconst (v := (0 : Int32)) h dX6_says_36 (by decide) ?_
      exact j_zretPC h rfl (by decide) fin dX6_says_37
theorem dX6_kindHere_0 : decode cX6_kindHere 0 = .ok (.aload_n 0, 1) := by decide +kernel
theorem dX6_kindHere_1 : decode cX6_kindHere 1 = .ok (.aload_n 0, 1) := by decide +kernel
theorem dX6_kindHere_2 : decode cX6_kindHere 2 = .ok (.getfield 36, 3) := by decide +kernel
theorem dX6_kindHere_5 : decode cX6_kindHere 5 = .ok (.ifCond .eq 8, 3) := by decide +kernel
theorem dX6_kindHere_8 : decode cX6_kindHere 8 = .ok (.ldc 137, 2) := by decide +kernel
theorem dX6_kindHere_10 : decode cX6_kindHere 10 = .ok (.goto 5, 3) := by decide +kernel
theorem dX6_kindHere_13 : decode cX6_kindHere 13 = .ok (.ldc 139, 2) := by decide +kernel
theorem dX6_kindHere_15 : decode cX6_kindHere 15 = .ok (.invokevirtual 63, 3) := by decide +kernel
theorem dX6_kindHere_18 : decode cX6_kindHere 18 = .ok (.ifCond .eq 16, 3) := by decide +kernel
theorem dX6_kindHere_21 : decode cX6_kindHere 21 = .ok (.aload_n 0, 1) := by decide +kernel
theorem dX6_kindHere_22 : decode cX6_kindHere 22 = .ok (.getfield 36, 3) := by decide +kernel
theorem dX6_kindHere_25 : decode cX6_kindHere 25 = .ok (.ifCond .eq 7, 3) := by decide +kernel
theorem dX6_kindHere_28 : decode cX6_kindHere 28 = .ok (.iconst 0, 1) := by decide +kernel
theorem dX6_kindHere_29 : decode cX6_kindHere 29 = .ok (.goto 4, 3) := by decide +kernel
theorem dX6_kindHere_32 : decode cX6_kindHere 32 = .ok (.iconst 0, 1) := by decide +kernel
theorem dX6_kindHere_33 : decode cX6_kindHere 33 = .ok (.ireturn, 1) := by decide +kernel
theorem dX6_kindHere_34 : decode cX6_kindHere 34 = .ok (.aload_n 0, 1) := by decide +kernel
theorem dX6_kindHere_35 : decode cX6_kindHere 35 = .ok (.aload_n 0, 1) := by decide +kernel
theorem dX6_kindHere_36 : decode cX6_kindHere 36 = .ok (.getfield 36, 3) := by decide +kernel
theorem dX6_kindHere_39 : decode cX6_kindHere 39 = .ok (.ifCond .eq 8, 3) := by decide +kernel
theorem dX6_kindHere_42 : decode cX6_kindHere 42 = .ok (.ldc 141, 2) := by decide +kernel
theorem dX6_kindHere_44 : decode cX6_kindHere 44 = .ok (.goto 5, 3) := by decide +kernel
theorem dX6_kindHere_47 : decode cX6_kindHere 47 = .ok (.ldc 143, 2) := by decide +kernel
theorem dX6_kindHere_49 : decode cX6_kindHere 49 = .ok (.invokevirtual 63, 3) := by decide +kernel
theorem dX6_kindHere_52 : decode cX6_kindHere 52 = .ok (.ifCond .eq 16, 3) := by decide +kernel
theorem dX6_kindHere_55 : decode cX6_kindHere 55 = .ok (.aload_n 0, 1) := by decide +kernel
theorem dX6_kindHere_56 : decode cX6_kindHere 56 = .ok (.getfield 36, 3) := by decide +kernel
theorem dX6_kindHere_59 : decode cX6_kindHere 59 = .ok (.ifCond .eq 7, 3) := by decide +kernel
theorem dX6_kindHere_62 : decode cX6_kindHere 62 = .ok (.iconst 1, 1) := by decide +kernel
theorem dX6_kindHere_63 : decode cX6_kindHere 63 = .ok (.goto 4, 3) := by decide +kernel
theorem dX6_kindHere_66 : decode cX6_kindHere 66 = .ok (.iconst 1, 1) := by decide +kernel
theorem dX6_kindHere_67 : decode cX6_kindHere 67 = .ok (.ireturn, 1) := by decide +kernel
theorem dX6_kindHere_68 : decode cX6_kindHere 68 = .ok (.aload_n 0, 1) := by decide +kernel
theorem dX6_kindHere_69 : decode cX6_kindHere 69 = .ok (.aload_n 0, 1) := by decide +kernel
theorem dX6_kindHere_70 : decode cX6_kindHere 70 = .ok (.getfield 36, 3) := by decide +kernel
theorem dX6_kindHere_73 : decode cX6_kindHere 73 = .ok (.ifCond .eq 8, 3) := by decide +kernel
theorem dX6_kindHere_76 : decode cX6_kindHere 76 = .ok (.ldc 145, 2) := by decide +kernel
theorem dX6_kindHere_78 : decode cX6_kindHere 78 = .ok (.goto 5, 3) := by decide +kernel
theorem dX6_kindHere_81 : decode cX6_kindHere 81 = .ok (.ldc 147, 2) := by decide +kernel
theorem dX6_kindHere_83 : decode cX6_kindHere 83 = .ok (.invokevirtual 63, 3) := by decide +kernel
theorem dX6_kindHere_86 : decode cX6_kindHere 86 = .ok (.ifCond .eq 16, 3) := by decide +kernel
theorem dX6_kindHere_89 : decode cX6_kindHere 89 = .ok (.aload_n 0, 1) := by decide +kernel
theorem dX6_kindHere_90 : decode cX6_kindHere 90 = .ok (.getfield 36, 3) := by decide +kernel
theorem dX6_kindHere_93 : decode cX6_kindHere 93 = .ok (.ifCond .eq 7, 3) := by decide +kernel
theorem dX6_kindHere_96 : decode cX6_kindHere 96 = .ok (.iconst 2, 1) := by decide +kernel
theorem dX6_kindHere_97 : decode cX6_kindHere 97 = .ok (.goto 4, 3) := by decide +kernel
theorem dX6_kindHere_100 : decode cX6_kindHere 100 = .ok (.iconst 2, 1) := by decide +kernel
theorem dX6_kindHere_101 : decode cX6_kindHere 101 = .ok (.ireturn, 1) := by decide +kernel
theorem dX6_kindHere_102 : decode cX6_kindHere 102 = .ok (.iconst (-1), 1) := by decide +kernel
theorem dX6_kindHere_103 : decode cX6_kindHere 103 = .ok (.ireturn, 1) := by decide +kernel
def f6_kindHere_j83 (S : ph_Sh) (M : ph_Mem) (s0 : Nat) : Option Int32 :=
  cond (decide (s0 < 40)) ((f6_says S M s0).bind fun q6 => if q6 = 0 then (some (-1 : Int32)) else (if (M.1 63 3) = 0 then (some (2 : Int32)) else (some (2 : Int32)))) none
set_option maxHeartbeats 4000000 in
theorem jb_f6_kindHere_j83 {tb adK adV : Nat → Nat} {S : ph_Sh} {X : ph_X} {ad : Nat → Nat} {o : Int32} {M : ph_Mem} (h : ph_ok (ph_ZX tb adK adV) X cX6_kindHere RX6 (some .int) 1 5 S.2 ad) (fin : ph_fin X S.1 S.2 ad (some (.int o)) M) (hS : ph_SX S) : ∀ (s0 : Nat), ph_J X S.1 S.2 ad o 83 [(0, .ref (ad 63))] [.ref (adK s0), .ref (ad 63)] M (f6_kindHere_j83 S M s0) := by
  intro s0
  unfold f6_kindHere_j83
  refine j_chk (fun ht5 => ?_)
  refine j_callViP (n := 1) (As := [.ref (adK s0)]) (rest := []) h 63 tw_626 tw_628 tp_9 tw_7 tw_629 ydf6_says (by decide) (by decide) (ph_xlt hS (by decide)) (ph_kc63 hS) rfl (fun q hq => cf6_says (ph_okI h) hS (of_decide_eq_true ht5) hq) rfl (Nat.le_of_ble_eq_true rfl) rfl dX6_kindHere_83 (fun q6 => ?_)
  refine j_if_eq h 102 dX6_kindHere_86 (by decide) ?_ ?_
  · refine j_iconst (v := (-1 : Int32)) h dX6_kindHere_102 (by decide) ?_
    exact j_iretP h rfl fin dX6_kindHere_103
  · refine j_aload_n h dX6_kindHere_89 rfl 0 rfl ?_
    refine j_get (c := 63) (j := 3) (v := .int (M.1 63 3)) h (ph_xlt hS (by decide)) (ph_kc63 hS) rfl ph_inX6 rfl (by decide) tw_172 rfl rfl dX6_kindHere_90 ?_
    refine j_if_eq h 100 dX6_kindHere_93 (by decide) ?_ ?_
    · refine j_iconst (v := (2 : Int32)) h dX6_kindHere_100 (by decide) ?_
      exact j_iretP h rfl fin dX6_kindHere_101
    · refine j_iconst (v := (2 : Int32)) h dX6_kindHere_96 (by decide) ?_
      refine j_goto h 101 dX6_kindHere_97 (by decide) ?_
      exact j_iretP h rfl fin dX6_kindHere_101
def f6_kindHere_j49 (S : ph_Sh) (M : ph_Mem) (s0 : Nat) : Option Int32 :=
  cond (decide (s0 < 40)) ((f6_says S M s0).bind fun q4 => if q4 = 0 then (if (M.1 63 3) = 0 then (f6_kindHere_j83 S M 5) else (f6_kindHere_j83 S M 4)) else (if (M.1 63 3) = 0 then (some (1 : Int32)) else (some (1 : Int32)))) none
set_option maxHeartbeats 4000000 in
theorem jb_f6_kindHere_j49 {tb adK adV : Nat → Nat} {S : ph_Sh} {X : ph_X} {ad : Nat → Nat} {o : Int32} {M : ph_Mem} (h : ph_ok (ph_ZX tb adK adV) X cX6_kindHere RX6 (some .int) 1 5 S.2 ad) (fin : ph_fin X S.1 S.2 ad (some (.int o)) M) (hS : ph_SX S) : ∀ (s0 : Nat), ph_J X S.1 S.2 ad o 49 [(0, .ref (ad 63))] [.ref (adK s0), .ref (ad 63)] M (f6_kindHere_j49 S M s0) := by
  intro s0
  unfold f6_kindHere_j49
  refine j_chk (fun ht3 => ?_)
  refine j_callViP (n := 1) (As := [.ref (adK s0)]) (rest := []) h 63 tw_626 tw_628 tp_9 tw_7 tw_629 ydf6_says (by decide) (by decide) (ph_xlt hS (by decide)) (ph_kc63 hS) rfl (fun q hq => cf6_says (ph_okI h) hS (of_decide_eq_true ht3) hq) rfl (Nat.le_of_ble_eq_true rfl) rfl dX6_kindHere_49 (fun q4 => ?_)
  refine j_if_eq h 68 dX6_kindHere_52 (by decide) ?_ ?_
  · refine j_aload_n h dX6_kindHere_68 rfl 0 rfl ?_
    refine j_aload_n h dX6_kindHere_69 rfl 0 rfl ?_
    refine j_get (c := 63) (j := 3) (v := .int (M.1 63 3)) h (ph_xlt hS (by decide)) (ph_kc63 hS) rfl ph_inX6 rfl (by decide) tw_172 rfl rfl dX6_kindHere_70 ?_
    refine j_if_eq h 81 dX6_kindHere_73 (by decide) ?_ ?_
    · refine j_ldcs h 5 (by decide) rfl rfl dX6_kindHere_81 ?_
      refine j_sub [0] rfl ?_
      exact jb_f6_kindHere_j83 h fin hS 5
    · refine j_ldcs h 4 (by decide) rfl rfl dX6_kindHere_76 ?_
      refine j_goto h 83 dX6_kindHere_78 (by decide) ?_
      refine j_sub [0] rfl ?_
      exact jb_f6_kindHere_j83 h fin hS 4
  · refine j_aload_n h dX6_kindHere_55 rfl 0 rfl ?_
    refine j_get (c := 63) (j := 3) (v := .int (M.1 63 3)) h (ph_xlt hS (by decide)) (ph_kc63 hS) rfl ph_inX6 rfl (by decide) tw_172 rfl rfl dX6_kindHere_56 ?_
    refine j_if_eq h 66 dX6_kindHere_59 (by decide) ?_ ?_
    · refine j_iconst (v := (1 : Int32)) h dX6_kindHere_66 (by decide) ?_
      exact j_iretP h rfl fin dX6_kindHere_67
    · refine j_iconst (v := (1 : Int32)) h dX6_kindHere_62 (by decide) ?_
      refine j_goto h 67 dX6_kindHere_63 (by decide) ?_
      exact j_iretP h rfl fin dX6_kindHere_67
def f6_kindHere_j15 (S : ph_Sh) (M : ph_Mem) (s0 : Nat) : Option Int32 :=
  cond (decide (s0 < 40)) ((f6_says S M s0).bind fun q2 => if q2 = 0 then (if (M.1 63 3) = 0 then (f6_kindHere_j49 S M 3) else (f6_kindHere_j49 S M 2)) else (if (M.1 63 3) = 0 then (some (0 : Int32)) else (some (0 : Int32)))) none
set_option maxHeartbeats 4000000 in
theorem jb_f6_kindHere_j15 {tb adK adV : Nat → Nat} {S : ph_Sh} {X : ph_X} {ad : Nat → Nat} {o : Int32} {M : ph_Mem} (h : ph_ok (ph_ZX tb adK adV) X cX6_kindHere RX6 (some .int) 1 5 S.2 ad) (fin : ph_fin X S.1 S.2 ad (some (.int o)) M) (hS : ph_SX S) : ∀ (s0 : Nat), ph_J X S.1 S.2 ad o 15 [(0, .ref (ad 63))] [.ref (adK s0), .ref (ad 63)] M (f6_kindHere_j15 S M s0) := by
  intro s0
  unfold f6_kindHere_j15
  refine j_chk (fun ht1 => ?_)
  refine j_callViP (n := 1) (As := [.ref (adK s0)]) (rest := []) h 63 tw_626 tw_628 tp_9 tw_7 tw_629 ydf6_says (by decide) (by decide) (ph_xlt hS (by decide)) (ph_kc63 hS) rfl (fun q hq => cf6_says (ph_okI h) hS (of_decide_eq_true ht1) hq) rfl (Nat.le_of_ble_eq_true rfl) rfl dX6_kindHere_15 (fun q2 => ?_)
  refine j_if_eq h 34 dX6_kindHere_18 (by decide) ?_ ?_
  · refine j_aload_n h dX6_kindHere_34 rfl 0 rfl ?_
    refine j_aload_n h dX6_kindHere_35 rfl 0 rfl ?_
    refine j_get (c := 63) (j := 3) (v := .int (M.1 63 3)) h (ph_xlt hS (by decide)) (ph_kc63 hS) rfl ph_inX6 rfl (by decide) tw_172 rfl rfl dX6_kindHere_36 ?_
    refine j_if_eq h 47 dX6_kindHere_39 (by decide) ?_ ?_
    · refine j_ldcs h 3 (by decide) rfl rfl dX6_kindHere_47 ?_
      refine j_sub [0] rfl ?_
      exact jb_f6_kindHere_j49 h fin hS 3
    · refine j_ldcs h 2 (by decide) rfl rfl dX6_kindHere_42 ?_
      refine j_goto h 49 dX6_kindHere_44 (by decide) ?_
      refine j_sub [0] rfl ?_
      exact jb_f6_kindHere_j49 h fin hS 2
  · refine j_aload_n h dX6_kindHere_21 rfl 0 rfl ?_
    refine j_get (c := 63) (j := 3) (v := .int (M.1 63 3)) h (ph_xlt hS (by decide)) (ph_kc63 hS) rfl ph_inX6 rfl (by decide) tw_172 rfl rfl dX6_kindHere_22 ?_
    refine j_if_eq h 32 dX6_kindHere_25 (by decide) ?_ ?_
    · refine j_iconst (v := (0 : Int32)) h dX6_kindHere_32 (by decide) ?_
      exact j_iretP h rfl fin dX6_kindHere_33
    · refine j_iconst (v := (0 : Int32)) h dX6_kindHere_28 (by decide) ?_
      refine j_goto h 33 dX6_kindHere_29 (by decide) ?_
      exact j_iretP h rfl fin dX6_kindHere_33
theorem ydf6_kindHere : ph_yd yX6_kindHere 0 := ⟨by decide, by decide, by decide +kernel⟩
def f6_kindHere (S : ph_Sh) (M : ph_Mem) : Option Int32 :=
  if (M.1 63 3) = 0 then (f6_kindHere_j15 S M 1) else (f6_kindHere_j15 S M 0)
set_option maxHeartbeats 4000000 in
theorem cf6_kindHere {tb adK adV : Nat → Nat} {S : ph_Sh} {l : Launch} {D : va_G} {cA : Nat → ClassId} {ad : Nat → Nat} (hinj : ∀ i j, i < S.2 → j < S.2 → ad i = ad j → i = j) (hS : ph_SX S) {M : ph_Mem} {r : Int32} (hf : f6_kindHere S M  = some r) : ph_C (ph_ZX tb adK adV) l 5 yX6_kindHere cX6_kindHere 1 (some .int) D cA S.1 S.2 ad [.ref (ad 63)] M (some (.int r)) M := by
  refine ph_mk ph_ZX_ok hinj (by decide) (Nat.le_of_ble_eq_true rfl) fun X h fin hE => ?_
  refine (?_ : ph_J X S.1 S.2 ad (r : Int32) 0 [(0, .ref (ad 63))] [] M (f6_kindHere S M )) hf
  unfold f6_kindHere
  refine j_aload_n h dX6_kindHere_0 rfl 0 rfl ?_
  refine j_aload_n h dX6_kindHere_1 rfl 0 rfl ?_
  refine j_get (c := 63) (j := 3) (v := .int (M.1 63 3)) h (ph_xlt hS (by decide)) (ph_kc63 hS) rfl ph_inX6 rfl (by decide) tw_172 rfl rfl dX6_kindHere_2 ?_
  refine j_if_eq h 13 dX6_kindHere_5 (by decide) ?_ ?_
  · refine j_ldcs h 1 (by decide) rfl rfl dX6_kindHere_13 ?_
    refine j_sub [0] rfl ?_
    exact jb_f6_kindHere_j15 h fin hS 1
  · refine j_ldcs h 0 (by decide) rfl rfl dX6_kindHere_8 ?_
    refine j_goto h 15 dX6_kindHere_10 (by decide) ?_
    refine j_sub [0] rfl ?_
    exact jb_f6_kindHere_j15 h fin hS 0
theorem dX6_fail_0 : decode cX6_fail 0 = .ok (.aload_n 0, 1) := by decide +kernel
theorem dX6_fail_1 : decode cX6_fail 1 = .ok (.getfield 40, 3) := by decide +kernel
theorem dX6_fail_4 : decode cX6_fail 4 = .ok (.iconst (-1), 1) := by decide +kernel
theorem dX6_fail_5 : decode cX6_fail 5 = .ok (.if_icmp .ne 16, 3) := by decide +kernel
theorem dX6_fail_8 : decode cX6_fail 8 = .ok (.aload_n 0, 1) := by decide +kernel
theorem dX6_fail_9 : decode cX6_fail 9 = .ok (.aload_n 0, 1) := by decide +kernel
theorem dX6_fail_10 : decode cX6_fail 10 = .ok (.getfield 15, 3) := by decide +kernel
theorem dX6_fail_13 : decode cX6_fail 13 = .ok (.aload_n 0, 1) := by decide +kernel
theorem dX6_fail_14 : decode cX6_fail 14 = .ok (.getfield 70, 3) := by decide +kernel
theorem dX6_fail_17 : decode cX6_fail 17 = .ok (.iaload, 1) := by decide +kernel
theorem dX6_fail_18 : decode cX6_fail 18 = .ok (.putfield 40, 3) := by decide +kernel
theorem dX6_fail_21 : decode cX6_fail 21 = .ok (.return_, 1) := by decide +kernel
theorem ydf6_fail : ph_yd yX6_fail 0 := ⟨by decide, by decide, by decide +kernel⟩
def f6_fail (S : ph_Sh) (M : ph_Mem) : Option ph_Mem :=
  if (M.1 63 2) = (-1 : Int32) then (cond (ph_ib (M.1 63 8) 401) (ph_let (ph_wi M 63 2 (M.1 65 (M.1 63 8).toNatClampNeg)) fun M1 => some M1) none) else (some M)
set_option maxHeartbeats 4000000 in
theorem cf6_fail {tb adK adV : Nat → Nat} {S : ph_Sh} {l : Launch} {D : va_G} {cA : Nat → ClassId} {ad : Nat → Nat} (hinj : ∀ i j, i < S.2 → j < S.2 → ad i = ad j → i = j) (hS : ph_SX S) {M : ph_Mem} {M' : ph_Mem} (hf : f6_fail S M  = some M') : ph_C (ph_ZX tb adK adV) l 0 yX6_fail cX6_fail 1 none D cA S.1 S.2 ad [.ref (ad 63)] M none M' := by
  refine ph_mk ph_ZX_ok hinj (by decide) (Nat.le_of_ble_eq_true rfl) fun X h fin hE => ?_
  refine (?_ : ph_J X S.1 S.2 ad (M' : ph_Mem) 0 [(0, .ref (ad 63))] [] M (f6_fail S M )) hf
  unfold f6_fail
  refine j_aload_n h dX6_fail_0 rfl 0 rfl ?_
  refine j_get (c := 63) (j := 2) (v := .int (M.1 63 2)) h (ph_xlt hS (by decide)) (ph_kc63 hS) rfl ph_inX6 rfl (by decide) tw_170 rfl rfl dX6_fail_1 ?_
  refine j_iconst (v := (-1 : Int32)) h dX6_fail_4 (by decide) ?_
  refine j_icmp_ne h 21 dX6_fail_5 (by decide) ?_ ?_
  · exact j_vret h rfl fin dX6_fail_21
  · refine j_aload_n h dX6_fail_8 rfl 0 rfl ?_
    refine j_aload_n h dX6_fail_9 rfl 0 rfl ?_
    refine j_get (c := 63) (j := 4) (v := .ref (ad 65)) h (ph_xlt hS (by decide)) (ph_kc63 hS) rfl ph_inX6 rfl (by decide) tw_173 rfl rfl dX6_fail_10 ?_
    refine j_aload_n h dX6_fail_13 rfl 0 rfl ?_
    refine j_get (c := 63) (j := 8) (v := .int (M.1 63 8)) h (ph_xlt hS (by decide)) (ph_kc63 hS) rfl ph_inX6 rfl (by decide) tw_177 rfl rfl dX6_fail_14 ?_
    refine j_iald (c := 65) (n := 401) h (ph_xlt hS (by decide)) (ph_kc65 hS) dX6_fail_17 ?_
    refine j_puti (c := 63) (j := 2) (ty := .int) h (ph_xlt hS (by decide)) (ph_kc63 hS) rfl ph_inX6 tyX6 tyX6_ok nmX6 rfl (by decide) tw_170 rfl rfl (tyX6_ok 2 (by decide)) rfl rfl dX6_fail_18 ?_
    refine j_letM (fun M1 => ?_)
    exact j_vret h rfl fin dX6_fail_21
theorem dX6_advance_0 : decode cX6_advance 0 = .ok (.aload_n 0, 1) := by decide +kernel
theorem dX6_advance_1 : decode cX6_advance 1 = .ok (.aload_n 0, 1) := by decide +kernel
theorem dX6_advance_2 : decode cX6_advance 2 = .ok (.getfield 70, 3) := by decide +kernel
theorem dX6_advance_5 : decode cX6_advance 5 = .ok (.iconst 1, 1) := by decide +kernel
theorem dX6_advance_6 : decode cX6_advance 6 = .ok (.iadd, 1) := by decide +kernel
theorem dX6_advance_7 : decode cX6_advance 7 = .ok (.aload_n 0, 1) := by decide +kernel
theorem dX6_advance_8 : decode cX6_advance 8 = .ok (.getfield 73, 3) := by decide +kernel
theorem dX6_advance_11 : decode cX6_advance 11 = .ok (.invokestatic 92, 3) := by decide +kernel
theorem dX6_advance_14 : decode cX6_advance 14 = .ok (.putfield 70, 3) := by decide +kernel
theorem dX6_advance_17 : decode cX6_advance 17 = .ok (.return_, 1) := by decide +kernel
theorem ydf6_advance : ph_yd yX6_advance 0 := ⟨by decide, by decide, by decide +kernel⟩
def f6_advance (S : ph_Sh) (M : ph_Mem) : Option ph_Mem :=
  (f9_min_7cf53 S M ((M.1 63 8) + (1 : Int32)) (M.1 63 7)).bind fun q1 => ph_let (ph_wi M 63 8 q1) fun M2 => some M2
set_option maxHeartbeats 4000000 in
theorem cf6_advance {tb adK adV : Nat → Nat} {S : ph_Sh} {l : Launch} {D : va_G} {cA : Nat → ClassId} {ad : Nat → Nat} (hinj : ∀ i j, i < S.2 → j < S.2 → ad i = ad j → i = j) (hS : ph_SX S) {M : ph_Mem} {M' : ph_Mem} (hf : f6_advance S M  = some M') : ph_C (ph_ZX tb adK adV) l 1 yX6_advance cX6_advance 1 none D cA S.1 S.2 ad [.ref (ad 63)] M none M' := by
  refine ph_mk ph_ZX_ok hinj (by decide) (Nat.le_of_ble_eq_true rfl) fun X h fin hE => ?_
  refine (?_ : ph_J X S.1 S.2 ad (M' : ph_Mem) 0 [(0, .ref (ad 63))] [] M (f6_advance S M )) hf
  unfold f6_advance
  refine j_aload_n h dX6_advance_0 rfl 0 rfl ?_
  refine j_aload_n h dX6_advance_1 rfl 0 rfl ?_
  refine j_get (c := 63) (j := 8) (v := .int (M.1 63 8)) h (ph_xlt hS (by decide)) (ph_kc63 hS) rfl ph_inX6 rfl (by decide) tw_177 rfl rfl dX6_advance_2 ?_
  refine j_iconst (v := (1 : Int32)) h dX6_advance_5 (by decide) ?_
  refine j_iadd h dX6_advance_6 ?_
  refine j_aload_n h dX6_advance_7 rfl 0 rfl ?_
  refine j_get (c := 63) (j := 7) (v := .int (M.1 63 7)) h (ph_xlt hS (by decide)) (ph_kc63 hS) rfl ph_inX6 rfl (by decide) tw_176 rfl rfl dX6_advance_8 ?_
  refine j_callSiP (n := 2) (As := [.int ((M.1 63 8) + (1 : Int32)), .int (M.1 63 7)]) (rest := [.ref (ad 63)]) h tw_690 tw_508 tw_16 tw_509 ydf9_min_7cf53 (by decide) (by decide) (fun q hq => cf9_min_7cf53 (ph_okI h) trivial hq) rfl (Nat.le_of_ble_eq_true rfl) rfl dX6_advance_11 (fun q1 => ?_)
  refine j_puti (c := 63) (j := 8) (ty := .int) h (ph_xlt hS (by decide)) (ph_kc63 hS) rfl ph_inX6 tyX6 tyX6_ok nmX6 rfl (by decide) tw_177 rfl rfl (tyX6_ok 8 (by decide)) rfl rfl dX6_advance_14 ?_
  refine j_letM (fun M2 => ?_)
  exact j_vret h rfl fin dX6_advance_17
theorem dX6_startPiece_0 : decode cX6_startPiece 0 = .ok (.aload_n 0, 1) := by decide +kernel
theorem dX6_startPiece_1 : decode cX6_startPiece 1 = .ok (.getfield 26, 3) := by decide +kernel
theorem dX6_startPiece_4 : decode cX6_startPiece 4 = .ok (.iload_n 1, 1) := by decide +kernel
theorem dX6_startPiece_5 : decode cX6_startPiece 5 = .ok (.iconst 2, 1) := by decide +kernel
theorem dX6_startPiece_6 : decode cX6_startPiece 6 = .ok (.iadd, 1) := by decide +kernel
theorem dX6_startPiece_7 : decode cX6_startPiece 7 = .ok (.iload_n 2, 1) := by decide +kernel
theorem dX6_startPiece_8 : decode cX6_startPiece 8 = .ok (.iadd, 1) := by decide +kernel
theorem dX6_startPiece_9 : decode cX6_startPiece 9 = .ok (.aload_n 0, 1) := by decide +kernel
theorem dX6_startPiece_10 : decode cX6_startPiece 10 = .ok (.getfield 49, 3) := by decide +kernel
theorem dX6_startPiece_13 : decode cX6_startPiece 13 = .ok (.iastore, 1) := by decide +kernel
theorem dX6_startPiece_14 : decode cX6_startPiece 14 = .ok (.return_, 1) := by decide +kernel
theorem ydf6_startPiece : ph_yd yX6_startPiece 2 := ⟨by decide, by decide, by decide +kernel⟩
def f6_startPiece (S : ph_Sh) (M : ph_Mem) (p0 : Int32) (p1 : Int32) : Option ph_Mem :=
  cond (ph_ib ((p0 + (2 : Int32)) + p1) 72) (ph_let (ph_wi M 68 ((p0 + (2 : Int32)) + p1).toNatClampNeg (M.1 63 14)) fun M1 => some M1) none
set_option maxHeartbeats 4000000 in
theorem cf6_startPiece {tb adK adV : Nat → Nat} {S : ph_Sh} {l : Launch} {D : va_G} {cA : Nat → ClassId} {ad : Nat → Nat} (hinj : ∀ i j, i < S.2 → j < S.2 → ad i = ad j → i = j) (hS : ph_SX S) {M : ph_Mem} {p0 : Int32} {p1 : Int32} {M' : ph_Mem} (hf : f6_startPiece S M p0 p1 = some M') : ph_C (ph_ZX tb adK adV) l 0 yX6_startPiece cX6_startPiece 3 none D cA S.1 S.2 ad [.ref (ad 63), .int p0, .int p1] M none M' := by
  refine ph_mk ph_ZX_ok hinj (by decide) (Nat.le_of_ble_eq_true rfl) fun X h fin hE => ?_
  refine (?_ : ph_J X S.1 S.2 ad (M' : ph_Mem) 0 [(0, .ref (ad 63)), (1, .int p0), (2, .int p1)] [] M (f6_startPiece S M p0 p1)) hf
  unfold f6_startPiece
  refine j_aload_n h dX6_startPiece_0 rfl 0 rfl ?_
  refine j_get (c := 63) (j := 12) (v := .ref (ad 68)) h (ph_xlt hS (by decide)) (ph_kc63 hS) rfl ph_inX6 rfl (by decide) tw_181 rfl rfl dX6_startPiece_1 ?_
  refine j_iload_n h dX6_startPiece_4 rfl 1 rfl ?_
  refine j_iconst (v := (2 : Int32)) h dX6_startPiece_5 (by decide) ?_
  refine j_iadd h dX6_startPiece_6 ?_
  refine j_iload_n h dX6_startPiece_7 rfl 2 rfl ?_
  refine j_iadd h dX6_startPiece_8 ?_
  refine j_aload_n h dX6_startPiece_9 rfl 0 rfl ?_
  refine j_get (c := 63) (j := 14) (v := .int (M.1 63 14)) h (ph_xlt hS (by decide)) (ph_kc63 hS) rfl ph_inX6 rfl (by decide) tw_183 rfl rfl dX6_startPiece_10 ?_
  refine j_iast (c := 68) (n := 72) h (ph_xlt hS (by decide)) (ph_kc68 hS) dX6_startPiece_13 ?_
  refine j_letM (fun M1 => ?_)
  exact j_vret h rfl fin dX6_startPiece_14
theorem dX6_open_0 : decode cX6_open 0 = .ok (.aload_n 0, 1) := by decide +kernel
theorem dX6_open_1 : decode cX6_open 1 = .ok (.dup, 1) := by decide +kernel
theorem dX6_open_2 : decode cX6_open 2 = .ok (.getfield 46, 3) := by decide +kernel
theorem dX6_open_5 : decode cX6_open 5 = .ok (.iconst 1, 1) := by decide +kernel
theorem dX6_open_6 : decode cX6_open 6 = .ok (.iadd, 1) := by decide +kernel
theorem dX6_open_7 : decode cX6_open 7 = .ok (.putfield 46, 3) := by decide +kernel
theorem dX6_open_10 : decode cX6_open 10 = .ok (.aload_n 0, 1) := by decide +kernel
theorem dX6_open_11 : decode cX6_open 11 = .ok (.getfield 46, 3) := by decide +kernel
theorem dX6_open_14 : decode cX6_open 14 = .ok (.bipush 8, 2) := by decide +kernel
theorem dX6_open_16 : decode cX6_open 16 = .ok (.if_icmp .le 10, 3) := by decide +kernel
theorem dX6_open_19 : decode cX6_open 19 = .ok (.aload_n 0, 1) := by decide +kernel
theorem dX6_open_20 : decode cX6_open 20 = .ok (.invokevirtual 76, 3) := by decide +kernel
theorem dX6_open_23 : decode cX6_open 23 = .ok (.goto 7, 3) := by decide +kernel
theorem dX6_open_26 : decode cX6_open 26 = .ok (.aload_n 0, 1) := by decide +kernel
theorem dX6_open_27 : decode cX6_open 27 = .ok (.invokevirtual 67, 3) := by decide +kernel
theorem dX6_open_30 : decode cX6_open 30 = .ok (.return_, 1) := by decide +kernel
theorem ydf6_open : ph_yd yX6_open 0 := ⟨by decide, by decide, by decide +kernel⟩
def f6_open (S : ph_Sh) (M : ph_Mem) : Option ph_Mem :=
  ph_let (ph_wi M 63 10 ((M.1 63 10) + (1 : Int32))) fun M1 => if (M1.1 63 10) ≤ (8 : Int32) then ((f6_advance S M1 ).bind fun q2 => some q2) else ((f6_fail S M1 ).bind fun q3 => some q3)
set_option maxHeartbeats 4000000 in
theorem cf6_open {tb adK adV : Nat → Nat} {S : ph_Sh} {l : Launch} {D : va_G} {cA : Nat → ClassId} {ad : Nat → Nat} (hinj : ∀ i j, i < S.2 → j < S.2 → ad i = ad j → i = j) (hS : ph_SX S) {M : ph_Mem} {M' : ph_Mem} (hf : f6_open S M  = some M') : ph_C (ph_ZX tb adK adV) l 2 yX6_open cX6_open 1 none D cA S.1 S.2 ad [.ref (ad 63)] M none M' := by
  refine ph_mk ph_ZX_ok hinj (by decide) (Nat.le_of_ble_eq_true rfl) fun X h fin hE => ?_
  refine (?_ : ph_J X S.1 S.2 ad (M' : ph_Mem) 0 [(0, .ref (ad 63))] [] M (f6_open S M )) hf
  unfold f6_open
  refine j_aload_n h dX6_open_0 rfl 0 rfl ?_
  refine j_dup h dX6_open_1 rfl ?_
  refine j_get (c := 63) (j := 10) (v := .int (M.1 63 10)) h (ph_xlt hS (by decide)) (ph_kc63 hS) rfl ph_inX6 rfl (by decide) tw_179 rfl rfl dX6_open_2 ?_
  refine j_iconst (v := (1 : Int32)) h dX6_open_5 (by decide) ?_
  refine j_iadd h dX6_open_6 ?_
  refine j_puti (c := 63) (j := 10) (ty := .int) h (ph_xlt hS (by decide)) (ph_kc63 hS) rfl ph_inX6 tyX6 tyX6_ok nmX6 rfl (by decide) tw_179 rfl rfl (tyX6_ok 10 (by decide)) rfl rfl dX6_open_7 ?_
  refine j_letM (fun M1 => ?_)
  refine j_aload_n h dX6_open_10 rfl 0 rfl ?_
  refine j_get (c := 63) (j := 10) (v := .int (M1.1 63 10)) h (ph_xlt hS (by decide)) (ph_kc63 hS) rfl ph_inX6 rfl (by decide) tw_179 rfl rfl dX6_open_11 ?_
  refine j_bipush (v := (8 : Int32)) h dX6_open_14 (by decide) ?_
  refine j_icmp_le h 26 dX6_open_16 (by decide) ?_ ?_
  · refine j_aload_n h dX6_open_26 rfl 0 rfl ?_
    refine j_callVv (n := 0) (As := []) (rest := []) h 63 tw_686 tw_688 tp_11 tw_7 tw_689 ydf6_advance (by decide) (by decide) (ph_xlt hS (by decide)) (ph_kc63 hS) rfl (fun q hq => cf6_advance (ph_okI h) hS hq) rfl (Nat.le_of_ble_eq_true rfl) rfl dX6_open_27 (fun q2 => ?_)
    exact j_vret h rfl fin dX6_open_30
  · refine j_aload_n h dX6_open_19 rfl 0 rfl ?_
    refine j_callVv (n := 0) (As := []) (rest := []) h 63 tw_682 tw_684 tp_10 tw_7 tw_685 ydf6_fail (by decide) (by decide) (ph_xlt hS (by decide)) (ph_kc63 hS) rfl (fun q hq => cf6_fail (ph_okI h) hS hq) rfl (Nat.le_of_ble_eq_true rfl) rfl dX6_open_20 (fun q3 => ?_)
    refine j_goto h 30 dX6_open_23 (by decide) ?_
    exact j_vret h rfl fin dX6_open_30
theorem dX6_expect_0 : decode cX6_expect 0 = .ok (.aload_n 0, 1) := by decide +kernel
theorem dX6_expect_1 : decode cX6_expect 1 = .ok (.aload_n 1, 1) := by decide +kernel
theorem dX6_expect_2 : decode cX6_expect 2 = .ok (.invokevirtual 63, 3) := by decide +kernel
theorem dX6_expect_5 : decode cX6_expect 5 = .ok (.ifCond .eq 10, 3) := by decide +kernel
theorem dX6_expect_8 : decode cX6_expect 8 = .ok (.aload_n 0, 1) := by decide +kernel
theorem dX6_expect_9 : decode cX6_expect 9 = .ok (.invokevirtual 67, 3) := by decide +kernel
theorem dX6_expect_12 : decode cX6_expect 12 = .ok (.goto 7, 3) := by decide +kernel
theorem dX6_expect_15 : decode cX6_expect 15 = .ok (.aload_n 0, 1) := by decide +kernel
theorem dX6_expect_16 : decode cX6_expect 16 = .ok (.invokevirtual 76, 3) := by decide +kernel
theorem dX6_expect_19 : decode cX6_expect 19 = .ok (.return_, 1) := by decide +kernel
theorem ydf6_expect : ph_yd yX6_expect 1 := ⟨by decide, by decide, by decide +kernel⟩
def f6_expect (S : ph_Sh) (M : ph_Mem) (p0 : Nat) : Option ph_Mem :=
  (f6_says S M p0).bind fun q1 => if q1 = 0 then ((f6_fail S M ).bind fun q2 => some q2) else ((f6_advance S M ).bind fun q3 => some q3)
set_option maxHeartbeats 4000000 in
theorem cf6_expect {tb adK adV : Nat → Nat} {S : ph_Sh} {p0 : Nat} {l : Launch} {D : va_G} {cA : Nat → ClassId} {ad : Nat → Nat} (hinj : ∀ i j, i < S.2 → j < S.2 → ad i = ad j → i = j) (hS : ph_SX S) (hp0 : p0 < 40) {M : ph_Mem} {M' : ph_Mem} (hf : f6_expect S M p0 = some M') : ph_C (ph_ZX tb adK adV) l 5 yX6_expect cX6_expect 2 none D cA S.1 S.2 ad [.ref (ad 63), .ref (adK p0)] M none M' := by
  refine ph_mk ph_ZX_ok hinj (by decide) (Nat.le_of_ble_eq_true rfl) fun X h fin hE => ?_
  refine (?_ : ph_J X S.1 S.2 ad (M' : ph_Mem) 0 [(0, .ref (ad 63)), (1, .ref (adK p0))] [] M (f6_expect S M p0)) hf
  unfold f6_expect
  refine j_aload_n h dX6_expect_0 rfl 0 rfl ?_
  refine j_aload_n h dX6_expect_1 rfl 1 rfl ?_
  refine j_callViP (n := 1) (As := [.ref (adK p0)]) (rest := []) h 63 tw_626 tw_628 tp_9 tw_7 tw_629 ydf6_says (by decide) (by decide) (ph_xlt hS (by decide)) (ph_kc63 hS) rfl (fun q hq => cf6_says (ph_okI h) hS hp0 hq) rfl (Nat.le_of_ble_eq_true rfl) rfl dX6_expect_2 (fun q1 => ?_)
  refine j_if_eq h 15 dX6_expect_5 (by decide) ?_ ?_
  · refine j_aload_n h dX6_expect_15 rfl 0 rfl ?_
    refine j_callVv (n := 0) (As := []) (rest := []) h 63 tw_682 tw_684 tp_10 tw_7 tw_685 ydf6_fail (by decide) (by decide) (ph_xlt hS (by decide)) (ph_kc63 hS) rfl (fun q hq => cf6_fail (ph_okI h) hS hq) rfl (Nat.le_of_ble_eq_true rfl) rfl dX6_expect_16 (fun q2 => ?_)
    exact j_vret h rfl fin dX6_expect_19
  · refine j_aload_n h dX6_expect_8 rfl 0 rfl ?_
    refine j_callVv (n := 0) (As := []) (rest := []) h 63 tw_686 tw_688 tp_11 tw_7 tw_689 ydf6_advance (by decide) (by decide) (ph_xlt hS (by decide)) (ph_kc63 hS) rfl (fun q hq => cf6_advance (ph_okI h) hS hq) rfl (Nat.le_of_ble_eq_true rfl) rfl dX6_expect_9 (fun q3 => ?_)
    refine j_goto h 19 dX6_expect_12 (by decide) ?_
    exact j_vret h rfl fin dX6_expect_19
