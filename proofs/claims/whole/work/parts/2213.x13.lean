theorem dX11_sale_0 : decode cX11_sale 0 = .ok (.iload_n 1, 1) := by decide +kernel
theorem dX11_sale_1 : decode cX11_sale 1 = .ok (.ifCond .lt 9, 3) := by decide +kernel
theorem dX11_sale_4 : decode cX11_sale 4 = .ok (.iload_n 1, 1) := by decide +kernel
theorem dX11_sale_5 : decode cX11_sale 5 = .ok (.bipush 8, 2) := by decide +kernel
theorem dX11_sale_7 : decode cX11_sale 7 = .ok (.if_icmp .le 5, 3) := by decide +kernel
theorem dX11_sale_10 : decode cX11_sale 10 = .ok (.iconst (-1), 1) := by decide +kernel
theorem dX11_sale_11 : decode cX11_sale 11 = .ok (.ireturn, 1) := by decide +kernel
theorem dX11_sale_12 : decode cX11_sale 12 = .ok (.aload_n 0, 1) := by decide +kernel
theorem dX11_sale_13 : decode cX11_sale 13 = .ok (.getfield 82, 3) := by decide +kernel
theorem dX11_sale_16 : decode cX11_sale 16 = .ok (.invokevirtual 317, 3) := by decide +kernel
theorem dX11_sale_19 : decode cX11_sale 19 = .ok (.iload_n 1, 1) := by decide +kernel
theorem dX11_sale_20 : decode cX11_sale 20 = .ok (.ifCond .ne 11, 3) := by decide +kernel
theorem dX11_sale_23 : decode cX11_sale 23 = .ok (.aload_n 0, 1) := by decide +kernel
theorem dX11_sale_24 : decode cX11_sale 24 = .ok (.getfield 82, 3) := by decide +kernel
theorem dX11_sale_27 : decode cX11_sale 27 = .ok (.invokevirtual 320, 3) := by decide +kernel
theorem dX11_sale_30 : decode cX11_sale 30 = .ok (.ireturn, 1) := by decide +kernel
theorem dX11_sale_31 : decode cX11_sale 31 = .ok (.iload_n 1, 1) := by decide +kernel
theorem dX11_sale_32 : decode cX11_sale 32 = .ok (.iconst 4, 1) := by decide +kernel
theorem dX11_sale_33 : decode cX11_sale 33 = .ok (.if_icmp .gt 16, 3) := by decide +kernel
theorem dX11_sale_36 : decode cX11_sale 36 = .ok (.aload_n 0, 1) := by decide +kernel
theorem dX11_sale_37 : decode cX11_sale 37 = .ok (.getfield 82, 3) := by decide +kernel
theorem dX11_sale_40 : decode cX11_sale 40 = .ok (.iload_n 1, 1) := by decide +kernel
theorem dX11_sale_41 : decode cX11_sale 41 = .ok (.iconst 1, 1) := by decide +kernel
theorem dX11_sale_42 : decode cX11_sale 42 = .ok (.isub, 1) := by decide +kernel
theorem dX11_sale_43 : decode cX11_sale 43 = .ok (.invokevirtual 323, 3) := by decide +kernel
theorem dX11_sale_46 : decode cX11_sale 46 = .ok (.goto 15, 3) := by decide +kernel
theorem dX11_sale_49 : decode cX11_sale 49 = .ok (.aload_n 0, 1) := by decide +kernel
theorem dX11_sale_50 : decode cX11_sale 50 = .ok (.getfield 82, 3) := by decide +kernel
theorem dX11_sale_53 : decode cX11_sale 53 = .ok (.iload_n 1, 1) := by decide +kernel
theorem dX11_sale_54 : decode cX11_sale 54 = .ok (.iconst 1, 1) := by decide +kernel
theorem dX11_sale_55 : decode cX11_sale 55 = .ok (.isub, 1) := by decide +kernel
theorem dX11_sale_56 : decode cX11_sale 56 = .ok (.iconst 4, 1) := by decide +kernel
theorem dX11_sale_57 : decode cX11_sale 57 = .ok (.isub, 1) := by decide +kernel
theorem dX11_sale_58 : decode cX11_sale 58 = .ok (.invokevirtual 326, 3) := by decide +kernel
theorem dX11_sale_61 : decode cX11_sale 61 = .ok (.ireturn, 1) := by decide +kernel
theorem ydf11_sale : ph_yd yX11_sale 1 := ⟨by decide, by decide, by decide +kernel⟩
def f11_sale (S : ph_Sh) (M : ph_Mem) (p0 : Int32) : Option (Int32 × ph_Mem) :=
  if p0 < 0 then (some ((-1 : Int32), M)) else (if p0 ≤ (8 : Int32) then ((f3_settle S M ).bind fun q1 => if p0 = 0 then ((f3_total S q1 ).bind fun q4 => some (q4, q1)) else (if (4 : Int32) < p0 then ((f3_paymentFor S q1 ((p0 - (1 : Int32)) - (4 : Int32))).bind fun q2 => some (q2, q1)) else ((f3_buyerOf S q1 (p0 - (1 : Int32))).bind fun q3 => some (q3, q1)))) else (some ((-1 : Int32), M)))
set_option maxHeartbeats 4000000 in
theorem cf11_sale {tb adK adV : Nat → Nat} {S : ph_Sh} {l : Launch} {D : va_G} {cA : Nat → ClassId} {ad : Nat → Nat} (hinj : ∀ i j, i < S.2 → j < S.2 → ad i = ad j → i = j) (hS : ph_SX S) {M : ph_Mem} {p0 : Int32} {r : Int32} {M' : ph_Mem} (hf : f11_sale S M p0 = some (r, M')) : ph_C (ph_ZX tb adK adV) l 4 yX11_sale cX11_sale 2 (some .int) D cA S.1 S.2 ad [.ref (ad 0), .int p0] M (some (.int r)) M' := by
  refine ph_mk ph_ZX_ok hinj (by decide) (Nat.le_of_ble_eq_true rfl) fun X h fin hE => ?_
  refine (?_ : ph_J X S.1 S.2 ad ((r, M') : (Int32 × ph_Mem)) 0 [(0, .ref (ad 0)), (1, .int p0)] [] M (f11_sale S M p0)) hf
  unfold f11_sale
  refine j_iload_n h dX11_sale_0 rfl 1 rfl ?_
  refine j_if_lt h 10 dX11_sale_1 (by decide) ?_ ?_
  · refine j_iconst (v := (-1 : Int32)) h dX11_sale_10 (by decide) ?_
    exact j_iret h rfl fin dX11_sale_11
  · refine j_iload_n h dX11_sale_4 rfl 1 rfl ?_
    refine j_bipush (v := (8 : Int32)) h dX11_sale_5 (by decide) ?_
    refine j_icmp_le h 12 dX11_sale_7 (by decide) ?_ ?_
    · refine j_aload_n h dX11_sale_12 rfl 0 rfl ?_
      refine j_get (c := 0) (j := 11) (v := .ref (ad 81)) h (ph_xlt hS (by decide)) (ph_kc0 hS) rfl ph_inX11 rfl (by decide) tw_372 rfl rfl dX11_sale_13 ?_
      refine j_callVv (n := 0) (As := []) (rest := []) h 81 tw_1098 tw_1099 tw_1100 tw_12 tw_1101 ydf3_settle (by decide) (by decide) (ph_xlt hS (by decide)) (ph_kc81 hS) rfl (fun q hq => cf3_settle (ph_okI h) hS hq) rfl (Nat.le_of_ble_eq_true rfl) rfl dX11_sale_16 (fun q1 => ?_)
      refine j_iload_n h dX11_sale_19 rfl 1 rfl ?_
      refine j_if_ne h 31 dX11_sale_20 (by decide) ?_ ?_
      · refine j_iload_n h dX11_sale_31 rfl 1 rfl ?_
        refine j_iconst (v := (4 : Int32)) h dX11_sale_32 (by decide) ?_
        refine j_icmp_gt h 49 dX11_sale_33 (by decide) ?_ ?_
        · refine j_aload_n h dX11_sale_49 rfl 0 rfl ?_
          refine j_get (c := 0) (j := 11) (v := .ref (ad 81)) h (ph_xlt hS (by decide)) (ph_kc0 hS) rfl ph_inX11 rfl (by decide) tw_372 rfl rfl dX11_sale_50 ?_
          refine j_iload_n h dX11_sale_53 rfl 1 rfl ?_
          refine j_iconst (v := (1 : Int32)) h dX11_sale_54 (by decide) ?_
          refine j_isub h dX11_sale_55 ?_
          refine j_iconst (v := (4 : Int32)) h dX11_sale_56 (by decide) ?_
          refine j_isub h dX11_sale_57 ?_
          refine j_callViP (n := 1) (As := [.int ((p0 - (1 : Int32)) - (4 : Int32))]) (rest := []) h 81 tw_1124 tw_1125 tw_1126 tw_12 tw_1127 ydf3_paymentFor (by decide) (by decide) (ph_xlt hS (by decide)) (ph_kc81 hS) rfl (fun q hq => cf3_paymentFor (ph_okI h) hS hq) rfl (Nat.le_of_ble_eq_true rfl) rfl dX11_sale_58 (fun q2 => ?_)
          exact j_iret h rfl fin dX11_sale_61
        · refine j_aload_n h dX11_sale_36 rfl 0 rfl ?_
          refine j_get (c := 0) (j := 11) (v := .ref (ad 81)) h (ph_xlt hS (by decide)) (ph_kc0 hS) rfl ph_inX11 rfl (by decide) tw_372 rfl rfl dX11_sale_37 ?_
          refine j_iload_n h dX11_sale_40 rfl 1 rfl ?_
          refine j_iconst (v := (1 : Int32)) h dX11_sale_41 (by decide) ?_
          refine j_isub h dX11_sale_42 ?_
          refine j_callViP (n := 1) (As := [.int (p0 - (1 : Int32))]) (rest := []) h 81 tw_1120 tw_1121 tw_1122 tw_12 tw_1123 ydf3_buyerOf (by decide) (by decide) (ph_xlt hS (by decide)) (ph_kc81 hS) rfl (fun q hq => cf3_buyerOf (ph_okI h) hS hq) rfl (Nat.le_of_ble_eq_true rfl) rfl dX11_sale_43 (fun q3 => ?_)
          refine j_goto h 61 dX11_sale_46 (by decide) ?_
          exact j_iret h rfl fin dX11_sale_61
      · refine j_aload_n h dX11_sale_23 rfl 0 rfl ?_
        refine j_get (c := 0) (j := 11) (v := .ref (ad 81)) h (ph_xlt hS (by decide)) (ph_kc0 hS) rfl ph_inX11 rfl (by decide) tw_372 rfl rfl dX11_sale_24 ?_
        refine j_callViP (n := 0) (As := []) (rest := []) h 81 tw_1116 tw_1117 tw_1118 tw_12 tw_1119 ydf3_total (by decide) (by decide) (ph_xlt hS (by decide)) (ph_kc81 hS) rfl (fun q hq => cf3_total (ph_okI h) hS hq) rfl (Nat.le_of_ble_eq_true rfl) rfl dX11_sale_27 (fun q4 => ?_)
        exact j_iret h rfl fin dX11_sale_30
    · refine j_iconst (v := (-1 : Int32)) h dX11_sale_10 (by decide) ?_
      exact j_iret h rfl fin dX11_sale_11
theorem dJ7_fill_d0a16_0 : decode cJ7_fill_d0a16 0 = .ok (.iconst 0, 1) := by decide +kernel
theorem dJ7_fill_d0a16_1 : decode cJ7_fill_d0a16 1 = .ok (.istore_n 3, 1) := by decide +kernel
theorem dJ7_fill_d0a16_2 : decode cJ7_fill_d0a16 2 = .ok (.aload_n 0, 1) := by decide +kernel
theorem dJ7_fill_d0a16_3 : decode cJ7_fill_d0a16 3 = .ok (.arraylength, 1) := by decide +kernel
theorem dJ7_fill_d0a16_4 : decode cJ7_fill_d0a16 4 = .ok (.istore 4, 2) := by decide +kernel
theorem dJ7_fill_d0a16_6 : decode cJ7_fill_d0a16 6 = .ok (.iload_n 3, 1) := by decide +kernel
theorem dJ7_fill_d0a16_7 : decode cJ7_fill_d0a16 7 = .ok (.iload 4, 2) := by decide +kernel
theorem dJ7_fill_d0a16_9 : decode cJ7_fill_d0a16 9 = .ok (.if_icmp .ge 13, 3) := by decide +kernel
theorem dJ7_fill_d0a16_12 : decode cJ7_fill_d0a16 12 = .ok (.aload_n 0, 1) := by decide +kernel
theorem dJ7_fill_d0a16_13 : decode cJ7_fill_d0a16 13 = .ok (.iload_n 3, 1) := by decide +kernel
theorem dJ7_fill_d0a16_14 : decode cJ7_fill_d0a16 14 = .ok (.lload_n 1, 1) := by decide +kernel
theorem dJ7_fill_d0a16_15 : decode cJ7_fill_d0a16 15 = .ok (.lastore, 1) := by decide +kernel
theorem dJ7_fill_d0a16_16 : decode cJ7_fill_d0a16 16 = .ok (.iinc 3 1, 3) := by decide +kernel
theorem dJ7_fill_d0a16_19 : decode cJ7_fill_d0a16 19 = .ok (.goto (-13), 3) := by decide +kernel
theorem dJ7_fill_d0a16_22 : decode cJ7_fill_d0a16 22 = .ok (.return_, 1) := by decide +kernel
def f7_fill_d0a16_l6 (S : ph_Sh) (p0 : Nat) : Nat → Int64 → Int32 → Int32 → ph_Mem → Option ph_Mem
  | 0, _, _, _, _ => none
  | n + 1, x1, x3, x4, M => if x4 ≤ x3 then (some M) else (cond (ph_ib x3 (ph_len S p0)) (ph_let (ph_wl M p0 x3.toNatClampNeg x1) fun M2 => (f7_fill_d0a16_l6 S p0 n) x1 (x3 + (1 : Int32)) x4 M2) none)
set_option maxHeartbeats 4000000 in
theorem jb_f7_fill_d0a16_l6 {tb adK adV : Nat → Nat} {S : ph_Sh} {p0 : Nat} {X : ph_X} {ad : Nat → Nat} {o : ph_Mem} (h : ph_ok (ph_ZX tb adK adV) X cJ7_fill_d0a16 RJ7 none 5 0 S.2 ad) (fin : ph_fin X S.1 S.2 ad none o) (hS : True) (hp0 : p0 < S.2 ∧ S.1 p0 = .inl (3, ph_len S p0)) : ∀ (n : Nat) (x1 : Int64) (x3 : Int32) (x4 : Int32) (M : ph_Mem), ph_J X S.1 S.2 ad o 6 [(0, .ref (ad p0)), (1, .long x1), (3, .int x3), (4, .int x4)] [] M (f7_fill_d0a16_l6 S p0 n x1 x3 x4 M) := by
  intro n
  induction n with
  | zero => intro x1 x3 x4 M; exact j_none
  | succ n hrc6 =>
    intro x1 x3 x4 M
    unfold f7_fill_d0a16_l6
    refine j_iload_n h dJ7_fill_d0a16_6 rfl 2 rfl ?_
    refine j_iload h dJ7_fill_d0a16_7 3 rfl ?_
    refine j_icmp_ge h 22 dJ7_fill_d0a16_9 (by decide) ?_ ?_
    · exact j_vret h rfl fin dJ7_fill_d0a16_22
    · refine j_aload_n h dJ7_fill_d0a16_12 rfl 0 rfl ?_
      refine j_iload_n h dJ7_fill_d0a16_13 rfl 2 rfl ?_
      refine j_lload_n h dJ7_fill_d0a16_14 rfl 1 rfl ?_
      refine j_last (c := p0) (n := (ph_len S p0)) h hp0.1 hp0.2 dJ7_fill_d0a16_15 ?_
      refine j_letM (fun M2 => ?_)
      refine j_iinc h [(3, .int (x3 + (1 : Int32))), (0, .ref (ad p0)), (1, .long x1), (4, .int x4)] dJ7_fill_d0a16_16 2 rfl rfl (by decide) rfl ?_
      refine j_goto h 6 dJ7_fill_d0a16_19 (by decide) ?_
      refine j_sub [1, 2, 0, 3] rfl ?_
      exact hrc6 x1 (x3 + (1 : Int32)) x4 M2
theorem ydf7_fill_d0a16 : ph_yd yJ7_fill_d0a16 2 := ⟨by decide, by decide, by decide +kernel⟩
def f7_fill_d0a16 (S : ph_Sh) (M : ph_Mem) (p0 : Nat) (p1 : Int64) : Option ph_Mem :=
  ph_let (Int32.ofNat (ph_len S p0)) fun z1 => f7_fill_d0a16_l6 S p0 10000 p1 (0 : Int32) z1 M
set_option maxHeartbeats 4000000 in
theorem cf7_fill_d0a16 {tb adK adV : Nat → Nat} {S : ph_Sh} {p0 : Nat} {l : Launch} {D : va_G} {cA : Nat → ClassId} {ad : Nat → Nat} (hinj : ∀ i j, i < S.2 → j < S.2 → ad i = ad j → i = j) (hS : True) (hp0 : p0 < S.2 ∧ S.1 p0 = .inl (3, ph_len S p0)) {M : ph_Mem} {p1 : Int64} {M' : ph_Mem} (hf : f7_fill_d0a16 S M p0 p1 = some M') : ph_C (ph_ZX tb adK adV) l 0 yJ7_fill_d0a16 cJ7_fill_d0a16 5 none D cA S.1 S.2 ad [.ref (ad p0), .long p1] M none M' := by
  refine ph_mkF ph_ZX_ok hinj (by decide +kernel) (Nat.le_of_ble_eq_true rfl) fun X h fin hE => ?_
  refine (?_ : ph_J X S.1 S.2 ad (M' : ph_Mem) 0 [(0, .ref (ad p0)), (1, .long p1)] [] M (f7_fill_d0a16 S M p0 p1)) hf
  unfold f7_fill_d0a16
  refine j_iconst (v := (0 : Int32)) h dJ7_fill_d0a16_0 (by decide) ?_
  refine j_istore_n h [(3, .int (0 : Int32)), (0, .ref (ad p0)), (1, .long p1)] dJ7_fill_d0a16_1 rfl (by decide) rfl ?_
  refine j_aload_n h dJ7_fill_d0a16_2 rfl 1 rfl ?_
  refine j_alen (c := p0) (tn := 3) (v := (Int32.ofNat (ph_len S p0))) h hp0.1 hp0.2 rfl rfl dJ7_fill_d0a16_3 ?_
  refine j_istore h [(4, .int (Int32.ofNat (ph_len S p0))), (3, .int (0 : Int32)), (0, .ref (ad p0)), (1, .long p1)] dJ7_fill_d0a16_4 (by decide) rfl ?_
  refine j_letI (lvf := fun z1 => [(4, .int z1), (3, .int (0 : Int32)), (0, .ref (ad p0)), (1, .long p1)]) (fun z1 => ?_)
  refine j_sub [2, 3, 1, 0] rfl ?_
  exact jb_f7_fill_d0a16_l6 h fin hS hp0 10000 p1 (0 : Int32) z1 M
theorem dX11_chanceOfLasting_0 : decode cX11_chanceOfLasting 0 = .ok (.aload_n 0, 1) := by decide +kernel
theorem dX11_chanceOfLasting_1 : decode cX11_chanceOfLasting 1 = .ok (.getfield 97, 3) := by decide +kernel
theorem dX11_chanceOfLasting_4 : decode cX11_chanceOfLasting 4 = .ok (.astore 4, 2) := by decide +kernel
theorem dX11_chanceOfLasting_6 : decode cX11_chanceOfLasting 6 = .ok (.aload 4, 2) := by decide +kernel
theorem dX11_chanceOfLasting_8 : decode cX11_chanceOfLasting 8 = .ok (.lconst 0, 1) := by decide +kernel
theorem dX11_chanceOfLasting_9 : decode cX11_chanceOfLasting 9 = .ok (.invokestatic 357, 3) := by decide +kernel
theorem dX11_chanceOfLasting_12 : decode cX11_chanceOfLasting 12 = .ok (.aload 4, 2) := by decide +kernel
theorem dX11_chanceOfLasting_14 : decode cX11_chanceOfLasting 14 = .ok (.iconst 0, 1) := by decide +kernel
theorem dX11_chanceOfLasting_15 : decode cX11_chanceOfLasting 15 = .ok (.ldc2_w 363, 3) := by decide +kernel
theorem dX11_chanceOfLasting_18 : decode cX11_chanceOfLasting 18 = .ok (.lastore, 1) := by decide +kernel
theorem dX11_chanceOfLasting_19 : decode cX11_chanceOfLasting 19 = .ok (.aload_n 0, 1) := by decide +kernel
theorem dX11_chanceOfLasting_20 : decode cX11_chanceOfLasting 20 = .ok (.getfield 15, 3) := by decide +kernel
theorem dX11_chanceOfLasting_23 : decode cX11_chanceOfLasting 23 = .ok (.getfield 161, 3) := by decide +kernel
theorem dX11_chanceOfLasting_26 : decode cX11_chanceOfLasting 26 = .ok (.iconst 3, 1) := by decide +kernel
theorem dX11_chanceOfLasting_27 : decode cX11_chanceOfLasting 27 = .ok (.iaload, 1) := by decide +kernel
theorem dX11_chanceOfLasting_28 : decode cX11_chanceOfLasting 28 = .ok (.istore 5, 2) := by decide +kernel
theorem dX11_chanceOfLasting_30 : decode cX11_chanceOfLasting 30 = .ok (.iconst 1, 1) := by decide +kernel
theorem dX11_chanceOfLasting_31 : decode cX11_chanceOfLasting 31 = .ok (.istore 6, 2) := by decide +kernel
theorem dX11_chanceOfLasting_33 : decode cX11_chanceOfLasting 33 = .ok (.iload 6, 2) := by decide +kernel
theorem dX11_chanceOfLasting_35 : decode cX11_chanceOfLasting 35 = .ok (.iload_n 3, 1) := by decide +kernel
theorem dX11_chanceOfLasting_36 : decode cX11_chanceOfLasting 36 = .ok (.if_icmp .gt 107, 3) := by decide +kernel
theorem dX11_chanceOfLasting_39 : decode cX11_chanceOfLasting 39 = .ok (.iload_n 1, 1) := by decide +kernel
theorem dX11_chanceOfLasting_40 : decode cX11_chanceOfLasting 40 = .ok (.i2l, 1) := by decide +kernel
theorem dX11_chanceOfLasting_41 : decode cX11_chanceOfLasting 41 = .ok (.iload 6, 2) := by decide +kernel
theorem dX11_chanceOfLasting_43 : decode cX11_chanceOfLasting 43 = .ok (.i2l, 1) := by decide +kernel
theorem dX11_chanceOfLasting_44 : decode cX11_chanceOfLasting 44 = .ok (.aload_n 0, 1) := by decide +kernel
theorem dX11_chanceOfLasting_45 : decode cX11_chanceOfLasting 45 = .ok (.getfield 15, 3) := by decide +kernel
theorem dX11_chanceOfLasting_48 : decode cX11_chanceOfLasting 48 = .ok (.getfield 161, 3) := by decide +kernel
theorem dX11_chanceOfLasting_51 : decode cX11_chanceOfLasting 51 = .ok (.iconst 1, 1) := by decide +kernel
theorem dX11_chanceOfLasting_52 : decode cX11_chanceOfLasting 52 = .ok (.iaload, 1) := by decide +kernel
theorem dX11_chanceOfLasting_53 : decode cX11_chanceOfLasting 53 = .ok (.i2l, 1) := by decide +kernel
theorem dX11_chanceOfLasting_54 : decode cX11_chanceOfLasting 54 = .ok (.lmul, 1) := by decide +kernel
theorem dX11_chanceOfLasting_55 : decode cX11_chanceOfLasting 55 = .ok (.ladd, 1) := by decide +kernel
theorem dX11_chanceOfLasting_56 : decode cX11_chanceOfLasting 56 = .ok (.lstore 7, 2) := by decide +kernel
theorem dX11_chanceOfLasting_58 : decode cX11_chanceOfLasting 58 = .ok (.iload 6, 2) := by decide +kernel
theorem dX11_chanceOfLasting_60 : decode cX11_chanceOfLasting 60 = .ok (.iconst 1, 1) := by decide +kernel
theorem dX11_chanceOfLasting_61 : decode cX11_chanceOfLasting 61 = .ok (.isub, 1) := by decide +kernel
theorem dX11_chanceOfLasting_62 : decode cX11_chanceOfLasting 62 = .ok (.istore 9, 2) := by decide +kernel
theorem dX11_chanceOfLasting_64 : decode cX11_chanceOfLasting 64 = .ok (.iload 9, 2) := by decide +kernel
theorem dX11_chanceOfLasting_66 : decode cX11_chanceOfLasting 66 = .ok (.ifCond .lt 71, 3) := by decide +kernel
theorem dX11_chanceOfLasting_69 : decode cX11_chanceOfLasting 69 = .ok (.aload 4, 2) := by decide +kernel
theorem dX11_chanceOfLasting_71 : decode cX11_chanceOfLasting 71 = .ok (.iload 9, 2) := by decide +kernel
theorem dX11_chanceOfLasting_73 : decode cX11_chanceOfLasting 73 = .ok (.laload, 1) := by decide +kernel
theorem dX11_chanceOfLasting_74 : decode cX11_chanceOfLasting 74 = .ok (.iload 5, 2) := by decide +kernel
theorem dX11_chanceOfLasting_76 : decode cX11_chanceOfLasting 76 = .ok (.i2l, 1) := by decide +kernel
theorem dX11_chanceOfLasting_77 : decode cX11_chanceOfLasting 77 = .ok (.lmul, 1) := by decide +kernel
theorem dX11_chanceOfLasting_78 : decode cX11_chanceOfLasting 78 = .ok (.ldc2_w 365, 3) := by decide +kernel
theorem dX11_chanceOfLasting_81 : decode cX11_chanceOfLasting 81 = .ok (.ldiv, 1) := by decide +kernel
theorem dX11_chanceOfLasting_82 : decode cX11_chanceOfLasting 82 = .ok (.lstore 10, 2) := by decide +kernel
theorem dX11_chanceOfLasting_84 : decode cX11_chanceOfLasting 84 = .ok (.aload 4, 2) := by decide +kernel
theorem dX11_chanceOfLasting_86 : decode cX11_chanceOfLasting 86 = .ok (.iload 9, 2) := by decide +kernel
theorem dX11_chanceOfLasting_88 : decode cX11_chanceOfLasting 88 = .ok (.aload 4, 2) := by decide +kernel
theorem dX11_chanceOfLasting_90 : decode cX11_chanceOfLasting 90 = .ok (.iload 9, 2) := by decide +kernel
theorem dX11_chanceOfLasting_92 : decode cX11_chanceOfLasting 92 = .ok (.laload, 1) := by decide +kernel
theorem dX11_chanceOfLasting_93 : decode cX11_chanceOfLasting 93 = .ok (.bipush 10, 2) := by decide +kernel
theorem dX11_chanceOfLasting_95 : decode cX11_chanceOfLasting 95 = .ok (.iload 5, 2) := by decide +kernel
theorem dX11_chanceOfLasting_97 : decode cX11_chanceOfLasting 97 = .ok (.isub, 1) := by decide +kernel
theorem dX11_chanceOfLasting_98 : decode cX11_chanceOfLasting 98 = .ok (.i2l, 1) := by decide +kernel
theorem dX11_chanceOfLasting_99 : decode cX11_chanceOfLasting 99 = .ok (.lmul, 1) := by decide +kernel
theorem dX11_chanceOfLasting_100 : decode cX11_chanceOfLasting 100 = .ok (.ldc2_w 365, 3) := by decide +kernel
theorem dX11_chanceOfLasting_103 : decode cX11_chanceOfLasting 103 = .ok (.ldiv, 1) := by decide +kernel
theorem dX11_chanceOfLasting_104 : decode cX11_chanceOfLasting 104 = .ok (.lastore, 1) := by decide +kernel
theorem dX11_chanceOfLasting_105 : decode cX11_chanceOfLasting 105 = .ok (.lload 7, 2) := by decide +kernel
theorem dX11_chanceOfLasting_107 : decode cX11_chanceOfLasting 107 = .ok (.iload_n 2, 1) := by decide +kernel
theorem dX11_chanceOfLasting_108 : decode cX11_chanceOfLasting 108 = .ok (.i2l, 1) := by decide +kernel
theorem dX11_chanceOfLasting_109 : decode cX11_chanceOfLasting 109 = .ok (.iload 9, 2) := by decide +kernel
theorem dX11_chanceOfLasting_111 : decode cX11_chanceOfLasting 111 = .ok (.iconst 1, 1) := by decide +kernel
theorem dX11_chanceOfLasting_112 : decode cX11_chanceOfLasting 112 = .ok (.iadd, 1) := by decide +kernel
theorem dX11_chanceOfLasting_113 : decode cX11_chanceOfLasting 113 = .ok (.i2l, 1) := by decide +kernel
theorem dX11_chanceOfLasting_114 : decode cX11_chanceOfLasting 114 = .ok (.lmul, 1) := by decide +kernel
theorem dX11_chanceOfLasting_115 : decode cX11_chanceOfLasting 115 = .ok (.lcmp, 1) := by decide +kernel
theorem dX11_chanceOfLasting_116 : decode cX11_chanceOfLasting 116 = .ok (.ifCond .lt 15, 3) := by decide +kernel
theorem dX11_chanceOfLasting_119 : decode cX11_chanceOfLasting 119 = .ok (.aload 4, 2) := by decide +kernel
theorem dX11_chanceOfLasting_121 : decode cX11_chanceOfLasting 121 = .ok (.iload 9, 2) := by decide +kernel
theorem dX11_chanceOfLasting_123 : decode cX11_chanceOfLasting 123 = .ok (.iconst 1, 1) := by decide +kernel
theorem dX11_chanceOfLasting_124 : decode cX11_chanceOfLasting 124 = .ok (.iadd, 1) := by decide +kernel
theorem dX11_chanceOfLasting_125 : decode cX11_chanceOfLasting 125 = .ok (.dup2, 1) := by decide +kernel
theorem dX11_chanceOfLasting_126 : decode cX11_chanceOfLasting 126 = .ok (.laload, 1) := by decide +kernel
theorem dX11_chanceOfLasting_127 : decode cX11_chanceOfLasting 127 = .ok (.lload 10, 2) := by decide +kernel
theorem dX11_chanceOfLasting_129 : decode cX11_chanceOfLasting 129 = .ok (.ladd, 1) := by decide +kernel
theorem dX11_chanceOfLasting_130 : decode cX11_chanceOfLasting 130 = .ok (.lastore, 1) := by decide +kernel
theorem dX11_chanceOfLasting_131 : decode cX11_chanceOfLasting 131 = .ok (.iinc 9 (-1), 3) := by decide +kernel
theorem dX11_chanceOfLasting_134 : decode cX11_chanceOfLasting 134 = .ok (.goto (-70), 3) := by decide +kernel
theorem dX11_chanceOfLasting_137 : decode cX11_chanceOfLasting 137 = .ok (.iinc 6 1, 3) := by decide +kernel
theorem dX11_chanceOfLasting_140 : decode cX11_chanceOfLasting 140 = .ok (.goto (-107), 3) := by decide +kernel
theorem dX11_chanceOfLasting_143 : decode cX11_chanceOfLasting 143 = .ok (.lconst 0, 1) := by decide +kernel
theorem dX11_chanceOfLasting_144 : decode cX11_chanceOfLasting 144 = .ok (.lstore 6, 2) := by decide +kernel
theorem dX11_chanceOfLasting_146 : decode cX11_chanceOfLasting 146 = .ok (.iconst 0, 1) := by decide +kernel
theorem dX11_chanceOfLasting_147 : decode cX11_chanceOfLasting 147 = .ok (.istore 8, 2) := by decide +kernel
theorem dX11_chanceOfLasting_149 : decode cX11_chanceOfLasting 149 = .ok (.iload 8, 2) := by decide +kernel
theorem dX11_chanceOfLasting_151 : decode cX11_chanceOfLasting 151 = .ok (.iload_n 3, 1) := by decide +kernel
theorem dX11_chanceOfLasting_152 : decode cX11_chanceOfLasting 152 = .ok (.if_icmp .gt 19, 3) := by decide +kernel
theorem dX11_chanceOfLasting_155 : decode cX11_chanceOfLasting 155 = .ok (.lload 6, 2) := by decide +kernel
theorem dX11_chanceOfLasting_157 : decode cX11_chanceOfLasting 157 = .ok (.aload 4, 2) := by decide +kernel
theorem dX11_chanceOfLasting_159 : decode cX11_chanceOfLasting 159 = .ok (.iload 8, 2) := by decide +kernel
theorem dX11_chanceOfLasting_161 : decode cX11_chanceOfLasting 161 = .ok (.laload, 1) := by decide +kernel
theorem dX11_chanceOfLasting_162 : decode cX11_chanceOfLasting 162 = .ok (.ladd, 1) := by decide +kernel
theorem dX11_chanceOfLasting_163 : decode cX11_chanceOfLasting 163 = .ok (.lstore 6, 2) := by decide +kernel
theorem dX11_chanceOfLasting_165 : decode cX11_chanceOfLasting 165 = .ok (.iinc 8 1, 3) := by decide +kernel
theorem dX11_chanceOfLasting_168 : decode cX11_chanceOfLasting 168 = .ok (.goto (-19), 3) := by decide +kernel
theorem dX11_chanceOfLasting_171 : decode cX11_chanceOfLasting 171 = .ok (.lload 6, 2) := by decide +kernel
theorem dX11_chanceOfLasting_173 : decode cX11_chanceOfLasting 173 = .ok (.lreturn, 1) := by decide +kernel
def f11_chanceOfLasting_j131 (S : ph_Sh) (rc33 : Int32 → Int32 → Int32 → Int32 → Int32 → ph_Mem → Option (Int64 × ph_Mem)) (rc64 : Int32 → Int32 → Int32 → Int32 → Int32 → Int64 → Int32 → ph_Mem → Option (Int64 × ph_Mem)) (x1 : Int32) (x2 : Int32) (x3 : Int32) (x5 : Int32) (x6 : Int32) (x7 : Int64) (x9 : Int32) (M : ph_Mem) : Option (Int64 × ph_Mem) :=
  rc64 x1 x2 x3 x5 x6 x7 (x9 + (-1 : Int32)) M
set_option maxHeartbeats 4000000 in
theorem jb_f11_chanceOfLasting_j131 {tb adK adV : Nat → Nat} {S : ph_Sh} {X : ph_X} {ad : Nat → Nat} {o : (Int64 × ph_Mem)} (h : ph_ok (ph_ZX tb adK adV) X cX11_chanceOfLasting RX11 (some .long) 12 1 S.2 ad) (fin : ph_fin X S.1 S.2 ad (some (.long o.1)) o.2) (hS : ph_SX S) {rc33 : Int32 → Int32 → Int32 → Int32 → Int32 → ph_Mem → Option (Int64 × ph_Mem)} (hrc33 : ∀ (x1 : Int32) (x2 : Int32) (x3 : Int32) (x5 : Int32) (x6 : Int32) (M : ph_Mem), ph_J X S.1 S.2 ad o 33 [(0, .ref (ad 0)), (1, .int x1), (2, .int x2), (3, .int x3), (4, .ref (ad 4)), (5, .int x5), (6, .int x6)] [] M (rc33 x1 x2 x3 x5 x6 M)) {rc64 : Int32 → Int32 → Int32 → Int32 → Int32 → Int64 → Int32 → ph_Mem → Option (Int64 × ph_Mem)} (hrc64 : ∀ (x1 : Int32) (x2 : Int32) (x3 : Int32) (x5 : Int32) (x6 : Int32) (x7 : Int64) (x9 : Int32) (M : ph_Mem), ph_J X S.1 S.2 ad o 64 [(0, .ref (ad 0)), (1, .int x1), (2, .int x2), (3, .int x3), (4, .ref (ad 4)), (5, .int x5), (6, .int x6), (7, .long x7), (9, .int x9)] [] M (rc64 x1 x2 x3 x5 x6 x7 x9 M)) : ∀ (x1 : Int32) (x2 : Int32) (x3 : Int32) (x5 : Int32) (x6 : Int32) (x7 : Int64) (x9 : Int32) (M : ph_Mem), ph_J X S.1 S.2 ad o 131 [(0, .ref (ad 0)), (1, .int x1), (2, .int x2), (3, .int x3), (4, .ref (ad 4)), (5, .int x5), (6, .int x6), (7, .long x7), (9, .int x9)] [] M (f11_chanceOfLasting_j131 S rc33 rc64 x1 x2 x3 x5 x6 x7 x9 M) := by
  intro x1 x2 x3 x5 x6 x7 x9 M
  unfold f11_chanceOfLasting_j131
  refine j_iinc h [(9, .int (x9 + (-1 : Int32))), (0, .ref (ad 0)), (1, .int x1), (2, .int x2), (3, .int x3), (4, .ref (ad 4)), (5, .int x5), (6, .int x6), (7, .long x7)] dX11_chanceOfLasting_131 8 rfl rfl (by decide) rfl ?_
  refine j_goto h 64 dX11_chanceOfLasting_134 (by decide) ?_
  refine j_sub [1, 2, 3, 4, 5, 6, 7, 8, 0] rfl ?_
  exact hrc64 x1 x2 x3 x5 x6 x7 (x9 + (-1 : Int32)) M
def f11_chanceOfLasting_j137 (S : ph_Sh) (rc33 : Int32 → Int32 → Int32 → Int32 → Int32 → ph_Mem → Option (Int64 × ph_Mem)) (x1 : Int32) (x2 : Int32) (x3 : Int32) (x5 : Int32) (x6 : Int32) (M : ph_Mem) : Option (Int64 × ph_Mem) :=
  rc33 x1 x2 x3 x5 (x6 + (1 : Int32)) M
set_option maxHeartbeats 4000000 in
theorem jb_f11_chanceOfLasting_j137 {tb adK adV : Nat → Nat} {S : ph_Sh} {X : ph_X} {ad : Nat → Nat} {o : (Int64 × ph_Mem)} (h : ph_ok (ph_ZX tb adK adV) X cX11_chanceOfLasting RX11 (some .long) 12 1 S.2 ad) (fin : ph_fin X S.1 S.2 ad (some (.long o.1)) o.2) (hS : ph_SX S) {rc33 : Int32 → Int32 → Int32 → Int32 → Int32 → ph_Mem → Option (Int64 × ph_Mem)} (hrc33 : ∀ (x1 : Int32) (x2 : Int32) (x3 : Int32) (x5 : Int32) (x6 : Int32) (M : ph_Mem), ph_J X S.1 S.2 ad o 33 [(0, .ref (ad 0)), (1, .int x1), (2, .int x2), (3, .int x3), (4, .ref (ad 4)), (5, .int x5), (6, .int x6)] [] M (rc33 x1 x2 x3 x5 x6 M)) : ∀ (x1 : Int32) (x2 : Int32) (x3 : Int32) (x5 : Int32) (x6 : Int32) (M : ph_Mem), ph_J X S.1 S.2 ad o 137 [(0, .ref (ad 0)), (1, .int x1), (2, .int x2), (3, .int x3), (4, .ref (ad 4)), (5, .int x5), (6, .int x6)] [] M (f11_chanceOfLasting_j137 S rc33 x1 x2 x3 x5 x6 M) := by
  intro x1 x2 x3 x5 x6 M
  unfold f11_chanceOfLasting_j137
  refine j_iinc h [(6, .int (x6 + (1 : Int32))), (0, .ref (ad 0)), (1, .int x1), (2, .int x2), (3, .int x3), (4, .ref (ad 4)), (5, .int x5)] dX11_chanceOfLasting_137 6 rfl rfl (by decide) rfl ?_
  refine j_goto h 33 dX11_chanceOfLasting_140 (by decide) ?_
  refine j_sub [1, 2, 3, 4, 5, 6, 0] rfl ?_
  exact hrc33 x1 x2 x3 x5 (x6 + (1 : Int32)) M
def f11_chanceOfLasting_l64 (S : ph_Sh) (rc33 : Int32 → Int32 → Int32 → Int32 → Int32 → ph_Mem → Option (Int64 × ph_Mem)) : Nat → Int32 → Int32 → Int32 → Int32 → Int32 → Int64 → Int32 → ph_Mem → Option (Int64 × ph_Mem)
  | 0, _, _, _, _, _, _, _, _ => none
  | n + 1, x1, x2, x3, x5, x6, x7, x9, M => if x9 < 0 then (f11_chanceOfLasting_j137 S rc33 x1 x2 x3 x5 x6 M) else (cond (ph_ib x9 41) (ph_let (((M.2.1 4 x9.toNatClampNeg) * x5.toInt64) / (10 : Int64)) fun z4 => cond (ph_ib x9 41) (cond (ph_ib x9 41) (ph_let (ph_wl M 4 x9.toNatClampNeg (((M.2.1 4 x9.toNatClampNeg) * ((10 : Int32) - x5).toInt64) / (10 : Int64))) fun M5 => if (lg_cmp x7 (x2.toInt64 * (x9 + (1 : Int32)).toInt64)) < 0 then (f11_chanceOfLasting_j131 S rc33 (f11_chanceOfLasting_l64 S rc33 n) x1 x2 x3 x5 x6 x7 x9 M5) else (cond (ph_ib (x9 + (1 : Int32)) 41) (cond (ph_ib (x9 + (1 : Int32)) 41) (ph_let (ph_wl M5 4 (x9 + (1 : Int32)).toNatClampNeg ((M5.2.1 4 (x9 + (1 : Int32)).toNatClampNeg) + z4)) fun M6 => f11_chanceOfLasting_j131 S rc33 (f11_chanceOfLasting_l64 S rc33 n) x1 x2 x3 x5 x6 x7 x9 M6) none) none)) none) none) none)
set_option maxHeartbeats 4000000 in
theorem jb_f11_chanceOfLasting_l64 {tb adK adV : Nat → Nat} {S : ph_Sh} {X : ph_X} {ad : Nat → Nat} {o : (Int64 × ph_Mem)} (h : ph_ok (ph_ZX tb adK adV) X cX11_chanceOfLasting RX11 (some .long) 12 1 S.2 ad) (fin : ph_fin X S.1 S.2 ad (some (.long o.1)) o.2) (hS : ph_SX S) {rc33 : Int32 → Int32 → Int32 → Int32 → Int32 → ph_Mem → Option (Int64 × ph_Mem)} (hrc33 : ∀ (x1 : Int32) (x2 : Int32) (x3 : Int32) (x5 : Int32) (x6 : Int32) (M : ph_Mem), ph_J X S.1 S.2 ad o 33 [(0, .ref (ad 0)), (1, .int x1), (2, .int x2), (3, .int x3), (4, .ref (ad 4)), (5, .int x5), (6, .int x6)] [] M (rc33 x1 x2 x3 x5 x6 M)) : ∀ (n : Nat) (x1 : Int32) (x2 : Int32) (x3 : Int32) (x5 : Int32) (x6 : Int32) (x7 : Int64) (x9 : Int32) (M : ph_Mem), ph_J X S.1 S.2 ad o 64 [(0, .ref (ad 0)), (1, .int x1), (2, .int x2), (3, .int x3), (4, .ref (ad 4)), (5, .int x5), (6, .int x6), (7, .long x7), (9, .int x9)] [] M (f11_chanceOfLasting_l64 S rc33 n x1 x2 x3 x5 x6 x7 x9 M) := by
  intro n
  induction n with
  | zero => intro x1 x2 x3 x5 x6 x7 x9 M; exact j_none
  | succ n hrc64 =>
    intro x1 x2 x3 x5 x6 x7 x9 M
    unfold f11_chanceOfLasting_l64
    refine j_iload h dX11_chanceOfLasting_64 8 rfl ?_
    refine j_if_lt h 137 dX11_chanceOfLasting_66 (by decide) ?_ ?_
    · refine j_sub [0, 1, 2, 3, 4, 5, 6] rfl ?_
      exact jb_f11_chanceOfLasting_j137 h fin hS hrc33 x1 x2 x3 x5 x6 M
    · refine j_aload h dX11_chanceOfLasting_69 4 rfl ?_
      refine j_iload h dX11_chanceOfLasting_71 8 rfl ?_
      refine j_lald (c := 4) (n := 41) h (ph_xlt hS (by decide)) (ph_kc4 hS) dX11_chanceOfLasting_73 ?_
      refine j_iload h dX11_chanceOfLasting_74 5 rfl ?_
      refine j_i2l h dX11_chanceOfLasting_76 ?_
      refine j_lmul h dX11_chanceOfLasting_77 ?_
      refine j_ldc2 (v := (10 : Int64)) h dX11_chanceOfLasting_78 tw_1141 ?_
      refine j_ldivK h dX11_chanceOfLasting_81 (by decide) ?_
      refine j_lstore h [(10, .long (((M.2.1 4 x9.toNatClampNeg) * x5.toInt64) / (10 : Int64))), (0, .ref (ad 0)), (1, .int x1), (2, .int x2), (3, .int x3), (4, .ref (ad 4)), (5, .int x5), (6, .int x6), (7, .long x7), (9, .int x9)] dX11_chanceOfLasting_82 (by decide) rfl ?_
      refine j_letJ (lvf := fun z4 => [(10, .long z4), (0, .ref (ad 0)), (1, .int x1), (2, .int x2), (3, .int x3), (4, .ref (ad 4)), (5, .int x5), (6, .int x6), (7, .long x7), (9, .int x9)]) (fun z4 => ?_)
      refine j_aload h dX11_chanceOfLasting_84 5 rfl ?_
      refine j_iload h dX11_chanceOfLasting_86 9 rfl ?_
      refine j_aload h dX11_chanceOfLasting_88 5 rfl ?_
      refine j_iload h dX11_chanceOfLasting_90 9 rfl ?_
      refine j_lald (c := 4) (n := 41) h (ph_xlt hS (by decide)) (ph_kc4 hS) dX11_chanceOfLasting_92 ?_
      refine j_bipush (v := (10 : Int32)) h dX11_chanceOfLasting_93 (by decide) ?_
      refine j_iload h dX11_chanceOfLasting_95 6 rfl ?_
      refine j_isub h dX11_chanceOfLasting_97 ?_
      refine j_i2l h dX11_chanceOfLasting_98 ?_
      refine j_lmul h dX11_chanceOfLasting_99 ?_
      refine j_ldc2 (v := (10 : Int64)) h dX11_chanceOfLasting_100 tw_1141 ?_
      refine j_ldivK h dX11_chanceOfLasting_103 (by decide) ?_
      refine j_last (c := 4) (n := 41) h (ph_xlt hS (by decide)) (ph_kc4 hS) dX11_chanceOfLasting_104 ?_
      refine j_letM (fun M5 => ?_)
      refine j_lload h dX11_chanceOfLasting_105 8 rfl ?_
      refine j_iload_n h dX11_chanceOfLasting_107 rfl 3 rfl ?_
      refine j_i2l h dX11_chanceOfLasting_108 ?_
      refine j_iload h dX11_chanceOfLasting_109 9 rfl ?_
      refine j_iconst (v := (1 : Int32)) h dX11_chanceOfLasting_111 (by decide) ?_
      refine j_iadd h dX11_chanceOfLasting_112 ?_
      refine j_i2l h dX11_chanceOfLasting_113 ?_
      refine j_lmul h dX11_chanceOfLasting_114 ?_
      refine j_lcmp h dX11_chanceOfLasting_115 ?_
      refine j_if_lt h 131 dX11_chanceOfLasting_116 (by decide) ?_ ?_
      · refine j_sub [1, 2, 3, 4, 5, 6, 7, 8, 9] rfl ?_
        exact jb_f11_chanceOfLasting_j131 h fin hS hrc33 hrc64 x1 x2 x3 x5 x6 x7 x9 M5
      · refine j_aload h dX11_chanceOfLasting_119 5 rfl ?_
        refine j_iload h dX11_chanceOfLasting_121 9 rfl ?_
        refine j_iconst (v := (1 : Int32)) h dX11_chanceOfLasting_123 (by decide) ?_
        refine j_iadd h dX11_chanceOfLasting_124 ?_
        refine j_dup2 h dX11_chanceOfLasting_125 rfl rfl ?_
        refine j_lald (c := 4) (n := 41) h (ph_xlt hS (by decide)) (ph_kc4 hS) dX11_chanceOfLasting_126 ?_
        refine j_lload h dX11_chanceOfLasting_127 0 rfl ?_
        refine j_ladd h dX11_chanceOfLasting_129 ?_
        refine j_last (c := 4) (n := 41) h (ph_xlt hS (by decide)) (ph_kc4 hS) dX11_chanceOfLasting_130 ?_
        refine j_letM (fun M6 => ?_)
        refine j_sub [1, 2, 3, 4, 5, 6, 7, 8, 9] rfl ?_
        exact jb_f11_chanceOfLasting_j131 h fin hS hrc33 hrc64 x1 x2 x3 x5 x6 x7 x9 M6
def f11_chanceOfLasting_l149 (S : ph_Sh) : Nat → Int32 → Int64 → Int32 → ph_Mem → Option (Int64 × ph_Mem)
  | 0, _, _, _, _ => none
  | n + 1, x3, x6, x8, M => if x3 < x8 then (some (x6, M)) else (cond (ph_ib x8 41) (ph_let (x6 + (M.2.1 4 x8.toNatClampNeg)) fun z7 => (f11_chanceOfLasting_l149 S n) x3 z7 (x8 + (1 : Int32)) M) none)
set_option maxHeartbeats 4000000 in
theorem jb_f11_chanceOfLasting_l149 {tb adK adV : Nat → Nat} {S : ph_Sh} {X : ph_X} {ad : Nat → Nat} {o : (Int64 × ph_Mem)} (h : ph_ok (ph_ZX tb adK adV) X cX11_chanceOfLasting RX11 (some .long) 12 1 S.2 ad) (fin : ph_fin X S.1 S.2 ad (some (.long o.1)) o.2) (hS : ph_SX S) : ∀ (n : Nat) (x3 : Int32) (x6 : Int64) (x8 : Int32) (M : ph_Mem), ph_J X S.1 S.2 ad o 149 [(3, .int x3), (4, .ref (ad 4)), (6, .long x6), (8, .int x8)] [] M (f11_chanceOfLasting_l149 S n x3 x6 x8 M) := by
  intro n
  induction n with
  | zero => intro x3 x6 x8 M; exact j_none
  | succ n hrc149 =>
    intro x3 x6 x8 M
    unfold f11_chanceOfLasting_l149
    refine j_iload h dX11_chanceOfLasting_149 3 rfl ?_
    refine j_iload_n h dX11_chanceOfLasting_151 rfl 0 rfl ?_
    refine j_icmp_gt h 171 dX11_chanceOfLasting_152 (by decide) ?_ ?_
    · refine j_lload h dX11_chanceOfLasting_171 2 rfl ?_
      exact j_lret h rfl fin dX11_chanceOfLasting_173
    · refine j_lload h dX11_chanceOfLasting_155 2 rfl ?_
      refine j_aload h dX11_chanceOfLasting_157 1 rfl ?_
      refine j_iload h dX11_chanceOfLasting_159 3 rfl ?_
      refine j_lald (c := 4) (n := 41) h (ph_xlt hS (by decide)) (ph_kc4 hS) dX11_chanceOfLasting_161 ?_
      refine j_ladd h dX11_chanceOfLasting_162 ?_
      refine j_lstore h [(6, .long (x6 + (M.2.1 4 x8.toNatClampNeg))), (3, .int x3), (4, .ref (ad 4)), (8, .int x8)] dX11_chanceOfLasting_163 (by decide) rfl ?_
      refine j_letJ (lvf := fun z7 => [(6, .long z7), (3, .int x3), (4, .ref (ad 4)), (8, .int x8)]) (fun z7 => ?_)
      refine j_iinc h [(8, .int (x8 + (1 : Int32))), (6, .long z7), (3, .int x3), (4, .ref (ad 4))] dX11_chanceOfLasting_165 3 rfl rfl (by decide) rfl ?_
      refine j_goto h 149 dX11_chanceOfLasting_168 (by decide) ?_
      refine j_sub [2, 3, 1, 0] rfl ?_
      exact hrc149 x3 z7 (x8 + (1 : Int32)) M
def f11_chanceOfLasting_j143 (S : ph_Sh) (x3 : Int32) (M : ph_Mem) : Option (Int64 × ph_Mem) :=
  f11_chanceOfLasting_l149 S 10000 x3 (0 : Int64) (0 : Int32) M
set_option maxHeartbeats 4000000 in
theorem jb_f11_chanceOfLasting_j143 {tb adK adV : Nat → Nat} {S : ph_Sh} {X : ph_X} {ad : Nat → Nat} {o : (Int64 × ph_Mem)} (h : ph_ok (ph_ZX tb adK adV) X cX11_chanceOfLasting RX11 (some .long) 12 1 S.2 ad) (fin : ph_fin X S.1 S.2 ad (some (.long o.1)) o.2) (hS : ph_SX S) : ∀ (x3 : Int32) (M : ph_Mem), ph_J X S.1 S.2 ad o 143 [(3, .int x3), (4, .ref (ad 4))] [] M (f11_chanceOfLasting_j143 S x3 M) := by
  intro x3 M
  unfold f11_chanceOfLasting_j143
  refine j_lconst (v := (0 : Int64)) h dX11_chanceOfLasting_143 (by decide) ?_
  refine j_lstore h [(6, .long (0 : Int64)), (3, .int x3), (4, .ref (ad 4))] dX11_chanceOfLasting_144 (by decide) rfl ?_
  refine j_iconst (v := (0 : Int32)) h dX11_chanceOfLasting_146 (by decide) ?_
  refine j_istore h [(8, .int (0 : Int32)), (6, .long (0 : Int64)), (3, .int x3), (4, .ref (ad 4))] dX11_chanceOfLasting_147 (by decide) rfl ?_
  refine j_sub [2, 3, 1, 0] rfl ?_
  exact jb_f11_chanceOfLasting_l149 h fin hS 10000 x3 (0 : Int64) (0 : Int32) M
def f11_chanceOfLasting_l33 (S : ph_Sh) : Nat → Int32 → Int32 → Int32 → Int32 → Int32 → ph_Mem → Option (Int64 × ph_Mem)
  | 0, _, _, _, _, _, _ => none
  | n + 1, x1, x2, x3, x5, x6, M => if x3 < x6 then (f11_chanceOfLasting_j143 S x3 M) else (ph_let (x1.toInt64 + (x6.toInt64 * (M.1 21 1).toInt64)) fun z3 => f11_chanceOfLasting_l64 S (f11_chanceOfLasting_l33 S n) 10000 x1 x2 x3 x5 x6 z3 (x6 - (1 : Int32)) M)
set_option maxHeartbeats 4000000 in
theorem jb_f11_chanceOfLasting_l33 {tb adK adV : Nat → Nat} {S : ph_Sh} {X : ph_X} {ad : Nat → Nat} {o : (Int64 × ph_Mem)} (h : ph_ok (ph_ZX tb adK adV) X cX11_chanceOfLasting RX11 (some .long) 12 1 S.2 ad) (fin : ph_fin X S.1 S.2 ad (some (.long o.1)) o.2) (hS : ph_SX S) : ∀ (n : Nat) (x1 : Int32) (x2 : Int32) (x3 : Int32) (x5 : Int32) (x6 : Int32) (M : ph_Mem), ph_J X S.1 S.2 ad o 33 [(0, .ref (ad 0)), (1, .int x1), (2, .int x2), (3, .int x3), (4, .ref (ad 4)), (5, .int x5), (6, .int x6)] [] M (f11_chanceOfLasting_l33 S n x1 x2 x3 x5 x6 M) := by
  intro n
  induction n with
  | zero => intro x1 x2 x3 x5 x6 M; exact j_none
  | succ n hrc33 =>
    intro x1 x2 x3 x5 x6 M
    unfold f11_chanceOfLasting_l33
    refine j_iload h dX11_chanceOfLasting_33 6 rfl ?_
    refine j_iload_n h dX11_chanceOfLasting_35 rfl 3 rfl ?_
    refine j_icmp_gt h 143 dX11_chanceOfLasting_36 (by decide) ?_ ?_
    · refine j_sub [3, 4] rfl ?_
      exact jb_f11_chanceOfLasting_j143 h fin hS x3 M
    · refine j_iload_n h dX11_chanceOfLasting_39 rfl 1 rfl ?_
      refine j_i2l h dX11_chanceOfLasting_40 ?_
      refine j_iload h dX11_chanceOfLasting_41 6 rfl ?_
      refine j_i2l h dX11_chanceOfLasting_43 ?_
      refine j_aload_n h dX11_chanceOfLasting_44 rfl 0 rfl ?_
      refine j_get (c := 0) (j := 0) (v := .ref (ad 11)) h (ph_xlt hS (by decide)) (ph_kc0 hS) rfl ph_inX11 rfl (by decide) tw_361 rfl rfl dX11_chanceOfLasting_45 ?_
      refine j_get (c := 11) (j := 11) (v := .ref (ad 21)) h (ph_xlt hS (by decide)) (ph_kc11 hS) rfl ph_inX9 rfl (by decide) tw_102 rfl rfl dX11_chanceOfLasting_48 ?_
      refine j_iconst (v := (1 : Int32)) h dX11_chanceOfLasting_51 (by decide) ?_
      refine j_ialdK (c := 21) (n := 5) (kn := 1) h (ph_xlt hS (by decide)) (ph_kc21 hS) rfl (by decide) dX11_chanceOfLasting_52 ?_
      refine j_i2l h dX11_chanceOfLasting_53 ?_
      refine j_lmul h dX11_chanceOfLasting_54 ?_
      refine j_ladd h dX11_chanceOfLasting_55 ?_
      refine j_lstore h [(7, .long (x1.toInt64 + (x6.toInt64 * (M.1 21 1).toInt64))), (0, .ref (ad 0)), (1, .int x1), (2, .int x2), (3, .int x3), (4, .ref (ad 4)), (5, .int x5), (6, .int x6)] dX11_chanceOfLasting_56 (by decide) rfl ?_
      refine j_letJ (lvf := fun z3 => [(7, .long z3), (0, .ref (ad 0)), (1, .int x1), (2, .int x2), (3, .int x3), (4, .ref (ad 4)), (5, .int x5), (6, .int x6)]) (fun z3 => ?_)
      refine j_iload h dX11_chanceOfLasting_58 7 rfl ?_
      refine j_iconst (v := (1 : Int32)) h dX11_chanceOfLasting_60 (by decide) ?_
      refine j_isub h dX11_chanceOfLasting_61 ?_
      refine j_istore h [(9, .int (x6 - (1 : Int32))), (7, .long z3), (0, .ref (ad 0)), (1, .int x1), (2, .int x2), (3, .int x3), (4, .ref (ad 4)), (5, .int x5), (6, .int x6)] dX11_chanceOfLasting_62 (by decide) rfl ?_
      refine j_sub [2, 3, 4, 5, 6, 7, 8, 1, 0] rfl ?_
      exact jb_f11_chanceOfLasting_l64 h fin hS hrc33 10000 x1 x2 x3 x5 x6 z3 (x6 - (1 : Int32)) M
theorem ydf11_chanceOfLasting : ph_yd yX11_chanceOfLasting 3 := ⟨by decide, by decide, by decide +kernel⟩
def f11_chanceOfLasting (S : ph_Sh) (M : ph_Mem) (p0 : Int32) (p1 : Int32) (p2 : Int32) : Option (Int64 × ph_Mem) :=
  (f7_fill_d0a16 S M 4 (0 : Int64)).bind fun q1 => ph_let (ph_wl q1 4 0 (1000000000000 : Int64)) fun M2 => f11_chanceOfLasting_l33 S 10000 p0 p1 p2 (M2.1 21 3) (1 : Int32) M2
set_option maxHeartbeats 4000000 in
theorem cf11_chanceOfLasting {tb adK adV : Nat → Nat} {S : ph_Sh} {l : Launch} {D : va_G} {cA : Nat → ClassId} {ad : Nat → Nat} (hinj : ∀ i j, i < S.2 → j < S.2 → ad i = ad j → i = j) (hS : ph_SX S) {M : ph_Mem} {p0 : Int32} {p1 : Int32} {p2 : Int32} {r : Int64} {M' : ph_Mem} (hf : f11_chanceOfLasting S M p0 p1 p2 = some (r, M')) : ph_C (ph_ZX tb adK adV) l 1 yX11_chanceOfLasting cX11_chanceOfLasting 12 (some .long) D cA S.1 S.2 ad [.ref (ad 0), .int p0, .int p1, .int p2] M (some (.long r)) M' := by
  refine ph_mk ph_ZX_ok hinj (by decide) (Nat.le_of_ble_eq_true rfl) fun X h fin hE => ?_
  refine (?_ : ph_J X S.1 S.2 ad ((r, M') : (Int64 × ph_Mem)) 0 [(0, .ref (ad 0)), (1, .int p0), (2, .int p1), (3, .int p2)] [] M (f11_chanceOfLasting S M p0 p1 p2)) hf
  unfold f11_chanceOfLasting
  refine j_aload_n h dX11_chanceOfLasting_0 rfl 0 rfl ?_
  refine j_get (c := 0) (j := 14) (v := .ref (ad 4)) h (ph_xlt hS (by decide)) (ph_kc0 hS) rfl ph_inX11 rfl (by decide) tw_375 rfl rfl dX11_chanceOfLasting_1 ?_
  refine j_astore h [(4, .ref (ad 4)), (0, .ref (ad 0)), (1, .int p0), (2, .int p1), (3, .int p2)] dX11_chanceOfLasting_4 (by decide) rfl ?_
  refine j_aload h dX11_chanceOfLasting_6 0 rfl ?_
  refine j_lconst (v := (0 : Int64)) h dX11_chanceOfLasting_8 (by decide) ?_
  refine j_callSv (n := 2) (As := [.ref (ad 4), .long (0 : Int64)]) (rest := []) h tw_1137 tw_1138 tw_4 tw_1139 ydf7_fill_d0a16 (by decide) (by decide) (fun q hq => cf7_fill_d0a16 (ph_okI h) trivial ⟨(ph_xlt hS (by decide)), (ph_kl4 hS)⟩ hq) rfl (Nat.le_of_ble_eq_true rfl) rfl dX11_chanceOfLasting_9 (fun q1 => ?_)
  refine j_aload h dX11_chanceOfLasting_12 0 rfl ?_
  refine j_iconst (v := (0 : Int32)) h dX11_chanceOfLasting_14 (by decide) ?_
  refine j_ldc2 (v := (1000000000000 : Int64)) h dX11_chanceOfLasting_15 tw_1140 ?_
  refine j_lastK (c := 4) (n := 41) (kn := 0) h (ph_xlt hS (by decide)) (ph_kc4 hS) rfl (by decide) dX11_chanceOfLasting_18 ?_
  refine j_letM (fun M2 => ?_)
  refine j_aload_n h dX11_chanceOfLasting_19 rfl 1 rfl ?_
  refine j_get (c := 0) (j := 0) (v := .ref (ad 11)) h (ph_xlt hS (by decide)) (ph_kc0 hS) rfl ph_inX11 rfl (by decide) tw_361 rfl rfl dX11_chanceOfLasting_20 ?_
  refine j_get (c := 11) (j := 11) (v := .ref (ad 21)) h (ph_xlt hS (by decide)) (ph_kc11 hS) rfl ph_inX9 rfl (by decide) tw_102 rfl rfl dX11_chanceOfLasting_23 ?_
  refine j_iconst (v := (3 : Int32)) h dX11_chanceOfLasting_26 (by decide) ?_
  refine j_ialdK (c := 21) (n := 5) (kn := 3) h (ph_xlt hS (by decide)) (ph_kc21 hS) rfl (by decide) dX11_chanceOfLasting_27 ?_
  refine j_istore h [(5, .int (M2.1 21 3)), (4, .ref (ad 4)), (0, .ref (ad 0)), (1, .int p0), (2, .int p1), (3, .int p2)] dX11_chanceOfLasting_28 (by decide) rfl ?_
  refine j_iconst (v := (1 : Int32)) h dX11_chanceOfLasting_30 (by decide) ?_
  refine j_istore h [(6, .int (1 : Int32)), (5, .int (M2.1 21 3)), (4, .ref (ad 4)), (0, .ref (ad 0)), (1, .int p0), (2, .int p1), (3, .int p2)] dX11_chanceOfLasting_31 (by decide) rfl ?_
  refine j_sub [3, 4, 5, 6, 2, 1, 0] rfl ?_
  exact jb_f11_chanceOfLasting_l33 h fin hS 10000 p0 p1 p2 (M2.1 21 3) (1 : Int32) M2
theorem dX11_lasting_0 : decode cX11_lasting 0 = .ok (.aload_n 0, 1) := by decide +kernel
theorem dX11_lasting_1 : decode cX11_lasting 1 = .ok (.getfield 15, 3) := by decide +kernel
theorem dX11_lasting_4 : decode cX11_lasting 4 = .ok (.iload_n 1, 1) := by decide +kernel
theorem dX11_lasting_5 : decode cX11_lasting 5 = .ok (.invokevirtual 135, 3) := by decide +kernel
theorem dX11_lasting_8 : decode cX11_lasting 8 = .ok (.ifCond .eq 24, 3) := by decide +kernel
theorem dX11_lasting_11 : decode cX11_lasting 11 = .ok (.iload_n 2, 1) := by decide +kernel
theorem dX11_lasting_12 : decode cX11_lasting 12 = .ok (.ifCond .lt 20, 3) := by decide +kernel
theorem dX11_lasting_15 : decode cX11_lasting 15 = .ok (.iload_n 2, 1) := by decide +kernel
theorem dX11_lasting_16 : decode cX11_lasting 16 = .ok (.sipush 9999, 3) := by decide +kernel
theorem dX11_lasting_19 : decode cX11_lasting 19 = .ok (.if_icmp .gt 13, 3) := by decide +kernel
theorem dX11_lasting_22 : decode cX11_lasting 22 = .ok (.iload_n 3, 1) := by decide +kernel
theorem dX11_lasting_23 : decode cX11_lasting 23 = .ok (.ifCond .lt 9, 3) := by decide +kernel
theorem dX11_lasting_26 : decode cX11_lasting 26 = .ok (.iload_n 3, 1) := by decide +kernel
theorem dX11_lasting_27 : decode cX11_lasting 27 = .ok (.bipush 40, 2) := by decide +kernel
theorem dX11_lasting_29 : decode cX11_lasting 29 = .ok (.if_icmp .le 7, 3) := by decide +kernel
theorem dX11_lasting_32 : decode cX11_lasting 32 = .ok (.ldc2_w 329, 3) := by decide +kernel
theorem dX11_lasting_35 : decode cX11_lasting 35 = .ok (.lreturn, 1) := by decide +kernel
theorem dX11_lasting_36 : decode cX11_lasting 36 = .ok (.aload_n 0, 1) := by decide +kernel
theorem dX11_lasting_37 : decode cX11_lasting 37 = .ok (.aload_n 0, 1) := by decide +kernel
theorem dX11_lasting_38 : decode cX11_lasting 38 = .ok (.getfield 15, 3) := by decide +kernel
theorem dX11_lasting_41 : decode cX11_lasting 41 = .ok (.getfield 172, 3) := by decide +kernel
theorem dX11_lasting_44 : decode cX11_lasting 44 = .ok (.iload_n 1, 1) := by decide +kernel
theorem dX11_lasting_45 : decode cX11_lasting 45 = .ok (.iaload, 1) := by decide +kernel
theorem dX11_lasting_46 : decode cX11_lasting 46 = .ok (.iload_n 2, 1) := by decide +kernel
theorem dX11_lasting_47 : decode cX11_lasting 47 = .ok (.iload_n 3, 1) := by decide +kernel
theorem dX11_lasting_48 : decode cX11_lasting 48 = .ok (.invokevirtual 331, 3) := by decide +kernel
theorem dX11_lasting_51 : decode cX11_lasting 51 = .ok (.lreturn, 1) := by decide +kernel
theorem ydf11_lasting : ph_yd yX11_lasting 3 := ⟨by decide, by decide, by decide +kernel⟩
def f11_lasting (S : ph_Sh) (M : ph_Mem) (p0 : Int32) (p1 : Int32) (p2 : Int32) : Option (Int64 × ph_Mem) :=
  (f9_isPerson S M 11 p0).bind fun q1 => if q1 = 0 then (some ((-1 : Int64), M)) else (if p1 < 0 then (some ((-1 : Int64), M)) else (if (9999 : Int32) < p1 then (some ((-1 : Int64), M)) else (if p2 < 0 then (some ((-1 : Int64), M)) else (if p2 ≤ (40 : Int32) then (cond (ph_ib p0 6) ((f11_chanceOfLasting S M (M.1 12 p0.toNatClampNeg) p1 p2).bind fun q2 => some (q2.1, q2.2)) none) else (some ((-1 : Int64), M))))))
set_option maxHeartbeats 4000000 in
theorem cf11_lasting {tb adK adV : Nat → Nat} {S : ph_Sh} {l : Launch} {D : va_G} {cA : Nat → ClassId} {ad : Nat → Nat} (hinj : ∀ i j, i < S.2 → j < S.2 → ad i = ad j → i = j) (hS : ph_SX S) {M : ph_Mem} {p0 : Int32} {p1 : Int32} {p2 : Int32} {r : Int64} {M' : ph_Mem} (hf : f11_lasting S M p0 p1 p2 = some (r, M')) : ph_C (ph_ZX tb adK adV) l 2 yX11_lasting cX11_lasting 4 (some .long) D cA S.1 S.2 ad [.ref (ad 0), .int p0, .int p1, .int p2] M (some (.long r)) M' := by
  refine ph_mk ph_ZX_ok hinj (by decide) (Nat.le_of_ble_eq_true rfl) fun X h fin hE => ?_
  refine (?_ : ph_J X S.1 S.2 ad ((r, M') : (Int64 × ph_Mem)) 0 [(0, .ref (ad 0)), (1, .int p0), (2, .int p1), (3, .int p2)] [] M (f11_lasting S M p0 p1 p2)) hf
  unfold f11_lasting
  refine j_aload_n h dX11_lasting_0 rfl 0 rfl ?_
  refine j_get (c := 0) (j := 0) (v := .ref (ad 11)) h (ph_xlt hS (by decide)) (ph_kc0 hS) rfl ph_inX11 rfl (by decide) tw_361 rfl rfl dX11_lasting_1 ?_
  refine j_iload_n h dX11_lasting_4 rfl 1 rfl ?_
  refine j_callViP (n := 1) (As := [.int p0]) (rest := []) h 11 tw_456 tw_457 tw_458 tw_3 tw_459 ydf9_isPerson (by decide) (by decide) (ph_xlt hS (by decide)) (ph_kc11 hS) rfl (fun q hq => cf9_isPerson (ph_okI h) hS (by decide) hq) rfl (Nat.le_of_ble_eq_true rfl) rfl dX11_lasting_5 (fun q1 => ?_)
  refine j_if_eq h 32 dX11_lasting_8 (by decide) ?_ ?_
  · refine j_ldc2 (v := (-1 : Int64)) h dX11_lasting_32 tw_1132 ?_
    exact j_lret h rfl fin dX11_lasting_35
  · refine j_iload_n h dX11_lasting_11 rfl 2 rfl ?_
    refine j_if_lt h 32 dX11_lasting_12 (by decide) ?_ ?_
    · refine j_ldc2 (v := (-1 : Int64)) h dX11_lasting_32 tw_1132 ?_
      exact j_lret h rfl fin dX11_lasting_35
    · refine j_iload_n h dX11_lasting_15 rfl 2 rfl ?_
      refine j_sipush (v := (9999 : Int32)) h dX11_lasting_16 (by decide) ?_
      refine j_icmp_gt h 32 dX11_lasting_19 (by decide) ?_ ?_
      · refine j_ldc2 (v := (-1 : Int64)) h dX11_lasting_32 tw_1132 ?_
        exact j_lret h rfl fin dX11_lasting_35
      · refine j_iload_n h dX11_lasting_22 rfl 3 rfl ?_
        refine j_if_lt h 32 dX11_lasting_23 (by decide) ?_ ?_
        · refine j_ldc2 (v := (-1 : Int64)) h dX11_lasting_32 tw_1132 ?_
          exact j_lret h rfl fin dX11_lasting_35
        · refine j_iload_n h dX11_lasting_26 rfl 3 rfl ?_
          refine j_bipush (v := (40 : Int32)) h dX11_lasting_27 (by decide) ?_
          refine j_icmp_le h 36 dX11_lasting_29 (by decide) ?_ ?_
          · refine j_aload_n h dX11_lasting_36 rfl 0 rfl ?_
            refine j_aload_n h dX11_lasting_37 rfl 0 rfl ?_
            refine j_get (c := 0) (j := 0) (v := .ref (ad 11)) h (ph_xlt hS (by decide)) (ph_kc0 hS) rfl ph_inX11 rfl (by decide) tw_361 rfl rfl dX11_lasting_38 ?_
            refine j_get (c := 11) (j := 2) (v := .ref (ad 12)) h (ph_xlt hS (by decide)) (ph_kc11 hS) rfl ph_inX9 rfl (by decide) tw_75 rfl rfl dX11_lasting_41 ?_
            refine j_iload_n h dX11_lasting_44 rfl 1 rfl ?_
            refine j_iald (c := 12) (n := 6) h (ph_xlt hS (by decide)) (ph_kc12 hS) dX11_lasting_45 ?_
            refine j_iload_n h dX11_lasting_46 rfl 2 rfl ?_
            refine j_iload_n h dX11_lasting_47 rfl 3 rfl ?_
            refine j_callVl (n := 3) (As := [.int (M.1 12 p0.toNatClampNeg), .int p1, .int p2]) (rest := []) h 0 tw_1133 tw_1135 tp_46 tw_1 tw_1136 ydf11_chanceOfLasting (by decide) (by decide) (ph_xlt hS (by decide)) (ph_kc0 hS) rfl (fun q hq => cf11_chanceOfLasting (ph_okI h) hS hq) rfl (Nat.le_of_ble_eq_true rfl) rfl dX11_lasting_48 (fun q2 => ?_)
            exact j_lret h rfl fin dX11_lasting_51
          · refine j_ldc2 (v := (-1 : Int64)) h dX11_lasting_32 tw_1132 ?_
            exact j_lret h rfl fin dX11_lasting_35
theorem dX11_years_0 : decode cX11_years 0 = .ok (.iload_n 1, 1) := by decide +kernel
theorem dX11_years_1 : decode cX11_years 1 = .ok (.ifCond .lt 21, 3) := by decide +kernel
theorem dX11_years_4 : decode cX11_years 4 = .ok (.iload_n 1, 1) := by decide +kernel
theorem dX11_years_5 : decode cX11_years 5 = .ok (.ldc_w 335, 3) := by decide +kernel
theorem dX11_years_8 : decode cX11_years 8 = .ok (.if_icmp .gt 14, 3) := by decide +kernel
theorem dX11_years_11 : decode cX11_years 11 = .ok (.iload_n 2, 1) := by decide +kernel
theorem dX11_years_12 : decode cX11_years 12 = .ok (.iconst 1, 1) := by decide +kernel
theorem dX11_years_13 : decode cX11_years 13 = .ok (.if_icmp .lt 9, 3) := by decide +kernel
theorem dX11_years_16 : decode cX11_years 16 = .ok (.iload_n 2, 1) := by decide +kernel
theorem dX11_years_17 : decode cX11_years 17 = .ok (.bipush 60, 2) := by decide +kernel
theorem dX11_years_19 : decode cX11_years 19 = .ok (.if_icmp .le 9, 3) := by decide +kernel
theorem dX11_years_22 : decode cX11_years 22 = .ok (.aload_n 0, 1) := by decide +kernel
theorem dX11_years_23 : decode cX11_years 23 = .ok (.iconst (-1), 1) := by decide +kernel
theorem dX11_years_24 : decode cX11_years 24 = .ok (.invokevirtual 117, 3) := by decide +kernel
theorem dX11_years_27 : decode cX11_years 27 = .ok (.ireturn, 1) := by decide +kernel
theorem dX11_years_28 : decode cX11_years 28 = .ok (.aload_n 0, 1) := by decide +kernel
theorem dX11_years_29 : decode cX11_years 29 = .ok (.getfield 15, 3) := by decide +kernel
theorem dX11_years_32 : decode cX11_years 32 = .ok (.getfield 114, 3) := by decide +kernel
theorem dX11_years_35 : decode cX11_years 35 = .ok (.ifCond .ne 10, 3) := by decide +kernel
theorem dX11_years_38 : decode cX11_years 38 = .ok (.aload_n 0, 1) := by decide +kernel
theorem dX11_years_39 : decode cX11_years 39 = .ok (.bipush (-3), 2) := by decide +kernel
theorem dX11_years_41 : decode cX11_years 41 = .ok (.invokevirtual 117, 3) := by decide +kernel
theorem dX11_years_44 : decode cX11_years 44 = .ok (.ireturn, 1) := by decide +kernel
theorem dX11_years_45 : decode cX11_years 45 = .ok (.aload_n 0, 1) := by decide +kernel
theorem dX11_years_46 : decode cX11_years 46 = .ok (.getfield 21, 3) := by decide +kernel
theorem dX11_years_49 : decode cX11_years 49 = .ok (.aload_n 0, 1) := by decide +kernel
theorem dX11_years_50 : decode cX11_years 50 = .ok (.getfield 15, 3) := by decide +kernel
theorem dX11_years_53 : decode cX11_years 53 = .ok (.invokevirtual 227, 3) := by decide +kernel
theorem dX11_years_56 : decode cX11_years 56 = .ok (.aload_n 0, 1) := by decide +kernel
theorem dX11_years_57 : decode cX11_years 57 = .ok (.aload_n 0, 1) := by decide +kernel
theorem dX11_years_58 : decode cX11_years 58 = .ok (.getfield 89, 3) := by decide +kernel
theorem dX11_years_61 : decode cX11_years 61 = .ok (.aload_n 0, 1) := by decide +kernel
theorem dX11_years_62 : decode cX11_years 62 = .ok (.getfield 21, 3) := by decide +kernel
theorem dX11_years_65 : decode cX11_years 65 = .ok (.aload_n 0, 1) := by decide +kernel
theorem dX11_years_66 : decode cX11_years 66 = .ok (.getfield 39, 3) := by decide +kernel
theorem dX11_years_69 : decode cX11_years 69 = .ok (.iload_n 1, 1) := by decide +kernel
theorem dX11_years_70 : decode cX11_years 70 = .ok (.iload_n 2, 1) := by decide +kernel
theorem dX11_years_71 : decode cX11_years 71 = .ok (.invokevirtual 336, 3) := by decide +kernel
theorem dX11_years_74 : decode cX11_years 74 = .ok (.invokevirtual 124, 3) := by decide +kernel
theorem dX11_years_77 : decode cX11_years 77 = .ok (.ireturn, 1) := by decide +kernel
def f11_years_j22 (S : ph_Sh) (M : ph_Mem) : Option (Int32 × ph_Mem) :=
  (f11_refused S M (-1 : Int32)).bind fun q5 => some (q5.1, q5.2)
set_option maxHeartbeats 4000000 in
theorem jb_f11_years_j22 {tb adK adV : Nat → Nat} {S : ph_Sh} {X : ph_X} {ad : Nat → Nat} {o : (Int32 × ph_Mem)} (h : ph_ok (ph_ZX tb adK adV) X cX11_years RX11 (some .int) 3 5 S.2 ad) (fin : ph_fin X S.1 S.2 ad (some (.int o.1)) o.2) (hS : ph_SX S) : ∀ (M : ph_Mem), ph_J X S.1 S.2 ad o 22 [(0, .ref (ad 0))] [] M (f11_years_j22 S M) := by
  intro M
  unfold f11_years_j22
  refine j_aload_n h dX11_years_22 rfl 0 rfl ?_
  refine j_iconst (v := (-1 : Int32)) h dX11_years_23 (by decide) ?_
  refine j_callVi (n := 1) (As := [.int (-1 : Int32)]) (rest := []) h 0 tw_423 tw_425 tp_0 tw_1 tw_426 ydf11_refused (by decide) (by decide) (ph_xlt hS (by decide)) (ph_kc0 hS) rfl (fun q hq => cf11_refused (ph_okI h) hS hq) rfl (Nat.le_of_ble_eq_true rfl) rfl dX11_years_24 (fun q5 => ?_)
  exact j_iret h rfl fin dX11_years_27
theorem ydf11_years : ph_yd yX11_years 2 := ⟨by decide, by decide, by decide +kernel⟩
def f11_years (S : ph_Sh) (M : ph_Mem) (p0 : Int32) (p1 : Int32) : Option (Int32 × ph_Mem) :=
  if p0 < 0 then (f11_years_j22 S  M) else (if (1000000 : Int32) < p0 then (f11_years_j22 S  M) else (if p1 < (1 : Int32) then (f11_years_j22 S  M) else (if p1 ≤ (60 : Int32) then (if (M.1 11 1) = 0 then ((f11_refused S M (-3 : Int32)).bind fun q4 => some (q4.1, q4.2)) else ((f9_copyFrom S M 23 11).bind fun q1 => (f10_live S q1 23 61 p0 p1).bind fun q2 => (f11_accepted S q2.2 q2.1).bind fun q3 => some (q3.1, q3.2))) else (f11_years_j22 S  M))))
set_option maxHeartbeats 4000000 in
theorem cf11_years {tb adK adV : Nat → Nat} {S : ph_Sh} {l : Launch} {D : va_G} {cA : Nat → ClassId} {ad : Nat → Nat} (hinj : ∀ i j, i < S.2 → j < S.2 → ad i = ad j → i = j) (hS : ph_SX S) {M : ph_Mem} {p0 : Int32} {p1 : Int32} {r : Int32} {M' : ph_Mem} (hf : f11_years S M p0 p1 = some (r, M')) : ph_C (ph_ZX tb adK adV) l 5 yX11_years cX11_years 3 (some .int) D cA S.1 S.2 ad [.ref (ad 0), .int p0, .int p1] M (some (.int r)) M' := by
  refine ph_mk ph_ZX_ok hinj (by decide) (Nat.le_of_ble_eq_true rfl) fun X h fin hE => ?_
  refine (?_ : ph_J X S.1 S.2 ad ((r, M') : (Int32 × ph_Mem)) 0 [(0, .ref (ad 0)), (1, .int p0), (2, .int p1)] [] M (f11_years S M p0 p1)) hf
  unfold f11_years
  refine j_iload_n h dX11_years_0 rfl 1 rfl ?_
  refine j_if_lt h 22 dX11_years_1 (by decide) ?_ ?_
  · refine j_sub [0] rfl ?_
    exact jb_f11_years_j22 h fin hS  M
  · refine j_iload_n h dX11_years_4 rfl 1 rfl ?_
    refine j_ldcw (v := (1000000 : Int32)) h dX11_years_5 tw_1146 ?_
    refine j_icmp_gt h 22 dX11_years_8 (by decide) ?_ ?_
    · refine j_sub [0] rfl ?_
      exact jb_f11_years_j22 h fin hS  M
    · refine j_iload_n h dX11_years_11 rfl 2 rfl ?_
      refine j_iconst (v := (1 : Int32)) h dX11_years_12 (by decide) ?_
      refine j_icmp_lt h 22 dX11_years_13 (by decide) ?_ ?_
      · refine j_sub [0] rfl ?_
        exact jb_f11_years_j22 h fin hS  M
      · refine j_iload_n h dX11_years_16 rfl 2 rfl ?_
        refine j_bipush (v := (60 : Int32)) h dX11_years_17 (by decide) ?_
        refine j_icmp_le h 28 dX11_years_19 (by decide) ?_ ?_
        · refine j_aload_n h dX11_years_28 rfl 0 rfl ?_
          refine j_get (c := 0) (j := 0) (v := .ref (ad 11)) h (ph_xlt hS (by decide)) (ph_kc0 hS) rfl ph_inX11 rfl (by decide) tw_361 rfl rfl dX11_years_29 ?_
          refine j_get (c := 11) (j := 1) (v := .int (M.1 11 1)) h (ph_xlt hS (by decide)) (ph_kc11 hS) rfl ph_inX9 rfl (by decide) tw_65 rfl rfl dX11_years_32 ?_
          refine j_if_ne h 45 dX11_years_35 (by decide) ?_ ?_
          · refine j_aload_n h dX11_years_45 rfl 0 rfl ?_
            refine j_get (c := 0) (j := 1) (v := .ref (ad 23)) h (ph_xlt hS (by decide)) (ph_kc0 hS) rfl ph_inX11 rfl (by decide) tw_362 rfl rfl dX11_years_46 ?_
            refine j_aload_n h dX11_years_49 rfl 0 rfl ?_
            refine j_get (c := 0) (j := 0) (v := .ref (ad 11)) h (ph_xlt hS (by decide)) (ph_kc0 hS) rfl ph_inX11 rfl (by decide) tw_361 rfl rfl dX11_years_50 ?_
            refine j_callVv (n := 1) (As := [.ref (ad 11)]) (rest := []) h 23 tw_829 tw_830 tw_831 tw_3 tw_832 ydf9_copyFrom (by decide) (by decide) (ph_xlt hS (by decide)) (ph_kc23 hS) rfl (fun q hq => cf9_copyFrom (ph_okI h) hS (by decide) (by decide) hq) rfl (Nat.le_of_ble_eq_true rfl) rfl dX11_years_53 (fun q1 => ?_)
            refine j_aload_n h dX11_years_56 rfl 0 rfl ?_
            refine j_aload_n h dX11_years_57 rfl 0 rfl ?_
            refine j_get (c := 0) (j := 12) (v := .ref (ad 84)) h (ph_xlt hS (by decide)) (ph_kc0 hS) rfl ph_inX11 rfl (by decide) tw_373 rfl rfl dX11_years_58 ?_
            refine j_aload_n h dX11_years_61 rfl 0 rfl ?_
            refine j_get (c := 0) (j := 1) (v := .ref (ad 23)) h (ph_xlt hS (by decide)) (ph_kc0 hS) rfl ph_inX11 rfl (by decide) tw_362 rfl rfl dX11_years_62 ?_
            refine j_aload_n h dX11_years_65 rfl 0 rfl ?_
            refine j_get (c := 0) (j := 5) (v := .ref (ad 61)) h (ph_xlt hS (by decide)) (ph_kc0 hS) rfl ph_inX11 rfl (by decide) tw_366 rfl rfl dX11_years_66 ?_
            refine j_iload_n h dX11_years_69 rfl 1 rfl ?_
            refine j_iload_n h dX11_years_70 rfl 2 rfl ?_
            refine j_callVi (n := 4) (As := [.ref (ad 23), .ref (ad 61), .int p0, .int p1]) (rest := [.ref (ad 0)]) h 84 tw_1147 tw_1148 tw_1149 tw_13 tw_1150 ydf10_live (by decide) (by decide) (ph_xlt hS (by decide)) (ph_kc84 hS) rfl (fun q hq => cf10_live (ph_okI h) hS (by decide) (by decide) hq) rfl (Nat.le_of_ble_eq_true rfl) rfl dX11_years_71 (fun q2 => ?_)
            refine j_callVi (n := 1) (As := [.int q2.1]) (rest := []) h 0 tw_431 tw_433 tp_1 tw_1 tw_434 ydf11_accepted (by decide) (by decide) (ph_xlt hS (by decide)) (ph_kc0 hS) rfl (fun q hq => cf11_accepted (ph_okI h) hS hq) rfl (Nat.le_of_ble_eq_true rfl) rfl dX11_years_74 (fun q3 => ?_)
            exact j_iret h rfl fin dX11_years_77
          · refine j_aload_n h dX11_years_38 rfl 0 rfl ?_
            refine j_bipush (v := (-3 : Int32)) h dX11_years_39 (by decide) ?_
            refine j_callVi (n := 1) (As := [.int (-3 : Int32)]) (rest := []) h 0 tw_423 tw_425 tp_0 tw_1 tw_426 ydf11_refused (by decide) (by decide) (ph_xlt hS (by decide)) (ph_kc0 hS) rfl (fun q hq => cf11_refused (ph_okI h) hS hq) rfl (Nat.le_of_ble_eq_true rfl) rfl dX11_years_41 (fun q4 => ?_)
            exact j_iret h rfl fin dX11_years_44
        · refine j_sub [0] rfl ?_
          exact jb_f11_years_j22 h fin hS  M
theorem dX11_drawn_0 : decode cX11_drawn 0 = .ok (.iload_n 1, 1) := by decide +kernel
theorem dX11_drawn_1 : decode cX11_drawn 1 = .ok (.ifCond .lt 14, 3) := by decide +kernel
theorem dX11_drawn_4 : decode cX11_drawn 4 = .ok (.iload_n 1, 1) := by decide +kernel
theorem dX11_drawn_5 : decode cX11_drawn 5 = .ok (.aload_n 0, 1) := by decide +kernel
theorem dX11_drawn_6 : decode cX11_drawn 6 = .ok (.getfield 89, 3) := by decide +kernel
theorem dX11_drawn_9 : decode cX11_drawn 9 = .ok (.getfield 340, 3) := by decide +kernel
theorem dX11_drawn_12 : decode cX11_drawn 12 = .ok (.if_icmp .lt 5, 3) := by decide +kernel
theorem dX11_drawn_15 : decode cX11_drawn 15 = .ok (.iconst (-1), 1) := by decide +kernel
theorem dX11_drawn_16 : decode cX11_drawn 16 = .ok (.ireturn, 1) := by decide +kernel
theorem dX11_drawn_17 : decode cX11_drawn 17 = .ok (.iload_n 2, 1) := by decide +kernel
theorem dX11_drawn_18 : decode cX11_drawn 18 = .ok (.tableswitch 56 0 2 #[26, 36, 46], 26) := by decide +kernel
theorem dX11_drawn_44 : decode cX11_drawn 44 = .ok (.aload_n 0, 1) := by decide +kernel
theorem dX11_drawn_45 : decode cX11_drawn 45 = .ok (.getfield 89, 3) := by decide +kernel
theorem dX11_drawn_48 : decode cX11_drawn 48 = .ok (.getfield 341, 3) := by decide +kernel
theorem dX11_drawn_51 : decode cX11_drawn 51 = .ok (.iload_n 1, 1) := by decide +kernel
theorem dX11_drawn_52 : decode cX11_drawn 52 = .ok (.iaload, 1) := by decide +kernel
theorem dX11_drawn_53 : decode cX11_drawn 53 = .ok (.ireturn, 1) := by decide +kernel
theorem dX11_drawn_54 : decode cX11_drawn 54 = .ok (.aload_n 0, 1) := by decide +kernel
theorem dX11_drawn_55 : decode cX11_drawn 55 = .ok (.getfield 89, 3) := by decide +kernel
theorem dX11_drawn_58 : decode cX11_drawn 58 = .ok (.getfield 342, 3) := by decide +kernel
theorem dX11_drawn_61 : decode cX11_drawn 61 = .ok (.iload_n 1, 1) := by decide +kernel
theorem dX11_drawn_62 : decode cX11_drawn 62 = .ok (.iaload, 1) := by decide +kernel
theorem dX11_drawn_63 : decode cX11_drawn 63 = .ok (.ireturn, 1) := by decide +kernel
theorem dX11_drawn_64 : decode cX11_drawn 64 = .ok (.aload_n 0, 1) := by decide +kernel
theorem dX11_drawn_65 : decode cX11_drawn 65 = .ok (.getfield 89, 3) := by decide +kernel
theorem dX11_drawn_68 : decode cX11_drawn 68 = .ok (.getfield 345, 3) := by decide +kernel
theorem dX11_drawn_71 : decode cX11_drawn 71 = .ok (.iload_n 1, 1) := by decide +kernel
theorem dX11_drawn_72 : decode cX11_drawn 72 = .ok (.iaload, 1) := by decide +kernel
theorem dX11_drawn_73 : decode cX11_drawn 73 = .ok (.ireturn, 1) := by decide +kernel
theorem dX11_drawn_74 : decode cX11_drawn 74 = .ok (.iconst (-1), 1) := by decide +kernel
theorem dX11_drawn_75 : decode cX11_drawn 75 = .ok (.ireturn, 1) := by decide +kernel
theorem ydf11_drawn : ph_yd yX11_drawn 2 := ⟨by decide, by decide, by decide +kernel⟩
def f11_drawn (S : ph_Sh) (M : ph_Mem) (p0 : Int32) (p1 : Int32) : Option Int32 :=
  if p0 < 0 then (some (-1 : Int32)) else (if p0 < (M.1 84 0) then (if p1 = (0 : Int32) then (cond (ph_ib p0 6) (some (M.1 85 p0.toNatClampNeg)) none) else (if p1 = (1 : Int32) then (cond (ph_ib p0 6) (some (M.1 86 p0.toNatClampNeg)) none) else (if p1 = (2 : Int32) then (cond (ph_ib p0 6) (some (M.1 87 p0.toNatClampNeg)) none) else (some (-1 : Int32))))) else (some (-1 : Int32)))
set_option maxHeartbeats 4000000 in
theorem cf11_drawn {tb adK adV : Nat → Nat} {S : ph_Sh} {l : Launch} {D : va_G} {cA : Nat → ClassId} {ad : Nat → Nat} (hinj : ∀ i j, i < S.2 → j < S.2 → ad i = ad j → i = j) (hS : ph_SX S) {M : ph_Mem} {p0 : Int32} {p1 : Int32} {r : Int32} (hf : f11_drawn S M p0 p1 = some r) : ph_C (ph_ZX tb adK adV) l 0 yX11_drawn cX11_drawn 3 (some .int) D cA S.1 S.2 ad [.ref (ad 0), .int p0, .int p1] M (some (.int r)) M := by
  refine ph_mk ph_ZX_ok hinj (by decide) (Nat.le_of_ble_eq_true rfl) fun X h fin hE => ?_
  refine (?_ : ph_J X S.1 S.2 ad (r : Int32) 0 [(0, .ref (ad 0)), (1, .int p0), (2, .int p1)] [] M (f11_drawn S M p0 p1)) hf
  unfold f11_drawn
  refine j_iload_n h dX11_drawn_0 rfl 1 rfl ?_
  refine j_if_lt h 15 dX11_drawn_1 (by decide) ?_ ?_
  · refine j_iconst (v := (-1 : Int32)) h dX11_drawn_15 (by decide) ?_
    exact j_iretP h rfl fin dX11_drawn_16
  · refine j_iload_n h dX11_drawn_4 rfl 1 rfl ?_
    refine j_aload_n h dX11_drawn_5 rfl 0 rfl ?_
    refine j_get (c := 0) (j := 12) (v := .ref (ad 84)) h (ph_xlt hS (by decide)) (ph_kc0 hS) rfl ph_inX11 rfl (by decide) tw_373 rfl rfl dX11_drawn_6 ?_
    refine j_get (c := 84) (j := 0) (v := .int (M.1 84 0)) h (ph_xlt hS (by decide)) (ph_kc84 hS) rfl ph_inX10 rfl (by decide) tw_342 rfl rfl dX11_drawn_9 ?_
    refine j_icmp_lt h 17 dX11_drawn_12 (by decide) ?_ ?_
    · refine j_iload_n h dX11_drawn_17 rfl 2 rfl ?_
      refine j_ite (fun c_0 => ?_) (fun c_0 => ?_)
      · refine j_tabIn h 44 (0 : Int32) dX11_drawn_18 c_0 (by decide) (by decide) rfl (by decide) ?_
        refine j_aload_n h dX11_drawn_44 rfl 0 rfl ?_
        refine j_get (c := 0) (j := 12) (v := .ref (ad 84)) h (ph_xlt hS (by decide)) (ph_kc0 hS) rfl ph_inX11 rfl (by decide) tw_373 rfl rfl dX11_drawn_45 ?_
        refine j_get (c := 84) (j := 1) (v := .ref (ad 85)) h (ph_xlt hS (by decide)) (ph_kc84 hS) rfl ph_inX10 rfl (by decide) tw_344 rfl rfl dX11_drawn_48 ?_
        refine j_iload_n h dX11_drawn_51 rfl 1 rfl ?_
        refine j_iald (c := 85) (n := 6) h (ph_xlt hS (by decide)) (ph_kc85 hS) dX11_drawn_52 ?_
        exact j_iretP h rfl fin dX11_drawn_53
      · refine j_ite (fun c_1 => ?_) (fun c_1 => ?_)
        · refine j_tabIn h 54 (1 : Int32) dX11_drawn_18 c_1 (by decide) (by decide) rfl (by decide) ?_
          refine j_aload_n h dX11_drawn_54 rfl 0 rfl ?_
          refine j_get (c := 0) (j := 12) (v := .ref (ad 84)) h (ph_xlt hS (by decide)) (ph_kc0 hS) rfl ph_inX11 rfl (by decide) tw_373 rfl rfl dX11_drawn_55 ?_
          refine j_get (c := 84) (j := 2) (v := .ref (ad 86)) h (ph_xlt hS (by decide)) (ph_kc84 hS) rfl ph_inX10 rfl (by decide) tw_346 rfl rfl dX11_drawn_58 ?_
          refine j_iload_n h dX11_drawn_61 rfl 1 rfl ?_
          refine j_iald (c := 86) (n := 6) h (ph_xlt hS (by decide)) (ph_kc86 hS) dX11_drawn_62 ?_
          exact j_iretP h rfl fin dX11_drawn_63
        · refine j_ite (fun c_2 => ?_) (fun c_2 => ?_)
          · refine j_tabIn h 64 (2 : Int32) dX11_drawn_18 c_2 (by decide) (by decide) rfl (by decide) ?_
            refine j_aload_n h dX11_drawn_64 rfl 0 rfl ?_
            refine j_get (c := 0) (j := 12) (v := .ref (ad 84)) h (ph_xlt hS (by decide)) (ph_kc0 hS) rfl ph_inX11 rfl (by decide) tw_373 rfl rfl dX11_drawn_65 ?_
            refine j_get (c := 84) (j := 3) (v := .ref (ad 87)) h (ph_xlt hS (by decide)) (ph_kc84 hS) rfl ph_inX10 rfl (by decide) tw_348 rfl rfl dX11_drawn_68 ?_
            refine j_iload_n h dX11_drawn_71 rfl 1 rfl ?_
            refine j_iald (c := 87) (n := 6) h (ph_xlt hS (by decide)) (ph_kc87 hS) dX11_drawn_72 ?_
            exact j_iretP h rfl fin dX11_drawn_73
          · have hq0 := lv_neT c_0 (a := 0) rfl
            have hq1 := lv_neT c_1 (a := 1) rfl
            have hq2 := lv_neT c_2 (a := 2) rfl
            refine j_tabOut h 74 dX11_drawn_18 (by omega) (by decide) ?_
            refine j_iconst (v := (-1 : Int32)) h dX11_drawn_74 (by decide) ?_
            exact j_iretP h rfl fin dX11_drawn_75
    · refine j_iconst (v := (-1 : Int32)) h dX11_drawn_15 (by decide) ?_
      exact j_iretP h rfl fin dX11_drawn_16
theorem dX11_image_0 : decode cX11_image 0 = .ok (.iload_n 1, 1) := by decide +kernel
theorem dX11_image_1 : decode cX11_image 1 = .ok (.ifCond .lt 8, 3) := by decide +kernel
theorem dX11_image_4 : decode cX11_image 4 = .ok (.iload_n 1, 1) := by decide +kernel
theorem dX11_image_5 : decode cX11_image 5 = .ok (.iconst 2, 1) := by decide +kernel
theorem dX11_image_6 : decode cX11_image 6 = .ok (.if_icmp .lt 9, 3) := by decide +kernel
theorem dX11_image_9 : decode cX11_image 9 = .ok (.aload_n 0, 1) := by decide +kernel
theorem dX11_image_10 : decode cX11_image 10 = .ok (.iconst (-1), 1) := by decide +kernel
theorem dX11_image_11 : decode cX11_image 11 = .ok (.invokevirtual 117, 3) := by decide +kernel
theorem dX11_image_14 : decode cX11_image 14 = .ok (.ireturn, 1) := by decide +kernel
theorem dX11_image_15 : decode cX11_image 15 = .ok (.aload_n 0, 1) := by decide +kernel
theorem dX11_image_16 : decode cX11_image 16 = .ok (.getfield 24, 3) := by decide +kernel
theorem dX11_image_19 : decode cX11_image 19 = .ok (.iload_n 1, 1) := by decide +kernel
theorem dX11_image_20 : decode cX11_image 20 = .ok (.aaload, 1) := by decide +kernel
theorem dX11_image_21 : decode cX11_image 21 = .ok (.aload_n 0, 1) := by decide +kernel
theorem dX11_image_22 : decode cX11_image 22 = .ok (.getfield 15, 3) := by decide +kernel
theorem dX11_image_25 : decode cX11_image 25 = .ok (.invokevirtual 227, 3) := by decide +kernel
theorem dX11_image_28 : decode cX11_image 28 = .ok (.aload_n 0, 1) := by decide +kernel
theorem dX11_image_29 : decode cX11_image 29 = .ok (.getfield 28, 3) := by decide +kernel
theorem dX11_image_32 : decode cX11_image 32 = .ok (.iload_n 1, 1) := by decide +kernel
theorem dX11_image_33 : decode cX11_image 33 = .ok (.iconst 1, 1) := by decide +kernel
theorem dX11_image_34 : decode cX11_image 34 = .ok (.bastore, 1) := by decide +kernel
theorem dX11_image_35 : decode cX11_image 35 = .ok (.aload_n 0, 1) := by decide +kernel
theorem dX11_image_36 : decode cX11_image 36 = .ok (.iconst 0, 1) := by decide +kernel
theorem dX11_image_37 : decode cX11_image 37 = .ok (.invokevirtual 124, 3) := by decide +kernel
theorem dX11_image_40 : decode cX11_image 40 = .ok (.ireturn, 1) := by decide +kernel
def f11_image_j9 (S : ph_Sh) (M : ph_Mem) : Option (Int32 × ph_Mem) :=
  (f11_refused S M (-1 : Int32)).bind fun q7 => some (q7.1, q7.2)
set_option maxHeartbeats 4000000 in
theorem jb_f11_image_j9 {tb adK adV : Nat → Nat} {S : ph_Sh} {X : ph_X} {ad : Nat → Nat} {o : (Int32 × ph_Mem)} (h : ph_ok (ph_ZX tb adK adV) X cX11_image RX11 (some .int) 2 2 S.2 ad) (fin : ph_fin X S.1 S.2 ad (some (.int o.1)) o.2) (hS : ph_SX S) : ∀ (M : ph_Mem), ph_J X S.1 S.2 ad o 9 [(0, .ref (ad 0))] [] M (f11_image_j9 S M) := by
  intro M
  unfold f11_image_j9
  refine j_aload_n h dX11_image_9 rfl 0 rfl ?_
  refine j_iconst (v := (-1 : Int32)) h dX11_image_10 (by decide) ?_
  refine j_callVi (n := 1) (As := [.int (-1 : Int32)]) (rest := []) h 0 tw_423 tw_425 tp_0 tw_1 tw_426 ydf11_refused (by decide) (by decide) (ph_xlt hS (by decide)) (ph_kc0 hS) rfl (fun q hq => cf11_refused (ph_okI h) hS hq) rfl (Nat.le_of_ble_eq_true rfl) rfl dX11_image_11 (fun q7 => ?_)
  exact j_iret h rfl fin dX11_image_14
theorem ydf11_image : ph_yd yX11_image 1 := ⟨by decide, by decide, by decide +kernel⟩
def f11_image (S : ph_Sh) (M : ph_Mem) (p0 : Int32) : Option (Int32 × ph_Mem) :=
  if p0 < 0 then (f11_image_j9 S  M) else (if p0 < (2 : Int32) then (cond (ph_ib p0 2) (ph_opt (M.2.2 1 p0.toNatClampNeg) none fun c1 => cond (ph_isSb c1) ((f9_copyFrom S M c1 11).bind fun q4 => cond (ph_ib p0 2) (ph_let (ph_wi q4 2 p0.toNatClampNeg (vp_nar .boolean (1 : Int32))) fun M5 => (f11_accepted S M5 (0 : Int32)).bind fun q6 => some (q6.1, q6.2)) none) none) none) else (f11_image_j9 S  M))
set_option maxHeartbeats 4000000 in
theorem cf11_image {tb adK adV : Nat → Nat} {S : ph_Sh} {l : Launch} {D : va_G} {cA : Nat → ClassId} {ad : Nat → Nat} (hinj : ∀ i j, i < S.2 → j < S.2 → ad i = ad j → i = j) (hS : ph_SX S) {M : ph_Mem} {p0 : Int32} {r : Int32} {M' : ph_Mem} (hf : f11_image S M p0 = some (r, M')) : ph_C (ph_ZX tb adK adV) l 2 yX11_image cX11_image 2 (some .int) D cA S.1 S.2 ad [.ref (ad 0), .int p0] M (some (.int r)) M' := by
  refine ph_mk ph_ZX_ok hinj (by decide) (Nat.le_of_ble_eq_true rfl) fun X h fin hE => ?_
  refine (?_ : ph_J X S.1 S.2 ad ((r, M') : (Int32 × ph_Mem)) 0 [(0, .ref (ad 0)), (1, .int p0)] [] M (f11_image S M p0)) hf
  unfold f11_image
  refine j_iload_n h dX11_image_0 rfl 1 rfl ?_
  refine j_if_lt h 9 dX11_image_1 (by decide) ?_ ?_
  · refine j_sub [0] rfl ?_
    exact jb_f11_image_j9 h fin hS  M
  · refine j_iload_n h dX11_image_4 rfl 1 rfl ?_
    refine j_iconst (v := (2 : Int32)) h dX11_image_5 (by decide) ?_
    refine j_icmp_lt h 15 dX11_image_6 (by decide) ?_ ?_
    · refine j_aload_n h dX11_image_15 rfl 0 rfl ?_
      refine j_get (c := 0) (j := 2) (v := .ref (ad 1)) h (ph_xlt hS (by decide)) (ph_kc0 hS) rfl ph_inX11 rfl (by decide) tw_363 rfl rfl dX11_image_16 ?_
      refine j_iload_n h dX11_image_19 rfl 1 rfl ?_
      refine j_aald (c := 1) (n := 2) (tn := 4) (C := RX9) h (ph_xlt hS (by decide)) (ph_kc1 hS) (Or.inl ⟨rfl, rfl⟩) dX11_image_20 ?_
      refine j_opt (fun _ => j_none) (fun c1 hx2 => ?_)
      refine j_chk (fun hb3 => ?_)
      refine j_rf hx2 ?_
      refine j_aload_n h dX11_image_21 rfl 0 rfl ?_
      refine j_get (c := 0) (j := 0) (v := .ref (ad 11)) h (ph_xlt hS (by decide)) (ph_kc0 hS) rfl ph_inX11 rfl (by decide) tw_361 rfl rfl dX11_image_22 ?_
      refine j_callVv (n := 1) (As := [.ref (ad 11)]) (rest := []) h c1 tw_829 tw_830 tw_831 tw_3 tw_832 ydf9_copyFrom (by decide) (by decide) (ph_S0n hS (ph_isSp hb3)) (ph_S0 hS (ph_isSp hb3)) rfl (fun q hq => cf9_copyFrom (ph_okI h) hS (ph_isSp hb3) (by decide) hq) rfl (Nat.le_of_ble_eq_true rfl) rfl dX11_image_25 (fun q4 => ?_)
      refine j_aload_n h dX11_image_28 rfl 0 rfl ?_
      refine j_get (c := 0) (j := 3) (v := .ref (ad 2)) h (ph_xlt hS (by decide)) (ph_kc0 hS) rfl ph_inX11 rfl (by decide) tw_364 rfl rfl dX11_image_29 ?_
      refine j_iload_n h dX11_image_32 rfl 1 rfl ?_
      refine j_iconst (v := (1 : Int32)) h dX11_image_33 (by decide) ?_
      refine j_zast (c := 2) (n := 2) h (ph_xlt hS (by decide)) (ph_kc2 hS) dX11_image_34 ?_
      refine j_letM (fun M5 => ?_)
      refine j_aload_n h dX11_image_35 rfl 0 rfl ?_
      refine j_iconst (v := (0 : Int32)) h dX11_image_36 (by decide) ?_
      refine j_callVi (n := 1) (As := [.int (0 : Int32)]) (rest := []) h 0 tw_431 tw_433 tp_1 tw_1 tw_434 ydf11_accepted (by decide) (by decide) (ph_xlt hS (by decide)) (ph_kc0 hS) rfl (fun q hq => cf11_accepted (ph_okI h) hS hq) rfl (Nat.le_of_ble_eq_true rfl) rfl dX11_image_37 (fun q6 => ?_)
      exact j_iret h rfl fin dX11_image_40
    · refine j_sub [0] rfl ?_
      exact jb_f11_image_j9 h fin hS  M
theorem dX11_back_0 : decode cX11_back 0 = .ok (.iload_n 1, 1) := by decide +kernel
theorem dX11_back_1 : decode cX11_back 1 = .ok (.ifCond .lt 8, 3) := by decide +kernel
theorem dX11_back_4 : decode cX11_back 4 = .ok (.iload_n 1, 1) := by decide +kernel
theorem dX11_back_5 : decode cX11_back 5 = .ok (.iconst 2, 1) := by decide +kernel
theorem dX11_back_6 : decode cX11_back 6 = .ok (.if_icmp .lt 9, 3) := by decide +kernel
theorem dX11_back_9 : decode cX11_back 9 = .ok (.aload_n 0, 1) := by decide +kernel
theorem dX11_back_10 : decode cX11_back 10 = .ok (.iconst (-1), 1) := by decide +kernel
theorem dX11_back_11 : decode cX11_back 11 = .ok (.invokevirtual 117, 3) := by decide +kernel
theorem dX11_back_14 : decode cX11_back 14 = .ok (.ireturn, 1) := by decide +kernel
theorem dX11_back_15 : decode cX11_back 15 = .ok (.aload_n 0, 1) := by decide +kernel
theorem dX11_back_16 : decode cX11_back 16 = .ok (.getfield 28, 3) := by decide +kernel
theorem dX11_back_19 : decode cX11_back 19 = .ok (.iload_n 1, 1) := by decide +kernel
theorem dX11_back_20 : decode cX11_back 20 = .ok (.baload, 1) := by decide +kernel
theorem dX11_back_21 : decode cX11_back 21 = .ok (.ifCond .ne 10, 3) := by decide +kernel
theorem dX11_back_24 : decode cX11_back 24 = .ok (.aload_n 0, 1) := by decide +kernel
theorem dX11_back_25 : decode cX11_back 25 = .ok (.bipush (-2), 2) := by decide +kernel
theorem dX11_back_27 : decode cX11_back 27 = .ok (.invokevirtual 117, 3) := by decide +kernel
theorem dX11_back_30 : decode cX11_back 30 = .ok (.ireturn, 1) := by decide +kernel
theorem dX11_back_31 : decode cX11_back 31 = .ok (.aload_n 0, 1) := by decide +kernel
theorem dX11_back_32 : decode cX11_back 32 = .ok (.getfield 15, 3) := by decide +kernel
theorem dX11_back_35 : decode cX11_back 35 = .ok (.aload_n 0, 1) := by decide +kernel
theorem dX11_back_36 : decode cX11_back 36 = .ok (.getfield 24, 3) := by decide +kernel
theorem dX11_back_39 : decode cX11_back 39 = .ok (.iload_n 1, 1) := by decide +kernel
theorem dX11_back_40 : decode cX11_back 40 = .ok (.aaload, 1) := by decide +kernel
theorem dX11_back_41 : decode cX11_back 41 = .ok (.invokevirtual 227, 3) := by decide +kernel
theorem dX11_back_44 : decode cX11_back 44 = .ok (.aload_n 0, 1) := by decide +kernel
theorem dX11_back_45 : decode cX11_back 45 = .ok (.getfield 35, 3) := by decide +kernel
theorem dX11_back_48 : decode cX11_back 48 = .ok (.invokevirtual 121, 3) := by decide +kernel
theorem dX11_back_51 : decode cX11_back 51 = .ok (.aload_n 0, 1) := by decide +kernel
theorem dX11_back_52 : decode cX11_back 52 = .ok (.iconst 0, 1) := by decide +kernel
theorem dX11_back_53 : decode cX11_back 53 = .ok (.invokevirtual 124, 3) := by decide +kernel
theorem dX11_back_56 : decode cX11_back 56 = .ok (.ireturn, 1) := by decide +kernel
def f11_back_j9 (S : ph_Sh) (M : ph_Mem) : Option (Int32 × ph_Mem) :=
  (f11_refused S M (-1 : Int32)).bind fun q8 => some (q8.1, q8.2)
set_option maxHeartbeats 4000000 in
theorem jb_f11_back_j9 {tb adK adV : Nat → Nat} {S : ph_Sh} {X : ph_X} {ad : Nat → Nat} {o : (Int32 × ph_Mem)} (h : ph_ok (ph_ZX tb adK adV) X cX11_back RX11 (some .int) 2 2 S.2 ad) (fin : ph_fin X S.1 S.2 ad (some (.int o.1)) o.2) (hS : ph_SX S) : ∀ (M : ph_Mem), ph_J X S.1 S.2 ad o 9 [(0, .ref (ad 0))] [] M (f11_back_j9 S M) := by
  intro M
  unfold f11_back_j9
  refine j_aload_n h dX11_back_9 rfl 0 rfl ?_
  refine j_iconst (v := (-1 : Int32)) h dX11_back_10 (by decide) ?_
  refine j_callVi (n := 1) (As := [.int (-1 : Int32)]) (rest := []) h 0 tw_423 tw_425 tp_0 tw_1 tw_426 ydf11_refused (by decide) (by decide) (ph_xlt hS (by decide)) (ph_kc0 hS) rfl (fun q hq => cf11_refused (ph_okI h) hS hq) rfl (Nat.le_of_ble_eq_true rfl) rfl dX11_back_11 (fun q8 => ?_)
  exact j_iret h rfl fin dX11_back_14
theorem ydf11_back : ph_yd yX11_back 1 := ⟨by decide, by decide, by decide +kernel⟩
def f11_back (S : ph_Sh) (M : ph_Mem) (p0 : Int32) : Option (Int32 × ph_Mem) :=
  if p0 < 0 then (f11_back_j9 S  M) else (if p0 < (2 : Int32) then (cond (ph_ib p0 2) (if (M.1 2 p0.toNatClampNeg) = 0 then ((f11_refused S M (-2 : Int32)).bind fun q7 => some (q7.1, q7.2)) else (cond (ph_ib p0 2) (ph_opt (M.2.2 1 p0.toNatClampNeg) none fun c1 => cond (ph_isSb c1) ((f9_copyFrom S M 11 c1).bind fun q4 => (f1_forget S q4 59).bind fun q5 => (f11_accepted S q5 (0 : Int32)).bind fun q6 => some (q6.1, q6.2)) none) none)) none) else (f11_back_j9 S  M))
set_option maxHeartbeats 4000000 in
theorem cf11_back {tb adK adV : Nat → Nat} {S : ph_Sh} {l : Launch} {D : va_G} {cA : Nat → ClassId} {ad : Nat → Nat} (hinj : ∀ i j, i < S.2 → j < S.2 → ad i = ad j → i = j) (hS : ph_SX S) {M : ph_Mem} {p0 : Int32} {r : Int32} {M' : ph_Mem} (hf : f11_back S M p0 = some (r, M')) : ph_C (ph_ZX tb adK adV) l 2 yX11_back cX11_back 2 (some .int) D cA S.1 S.2 ad [.ref (ad 0), .int p0] M (some (.int r)) M' := by
  refine ph_mk ph_ZX_ok hinj (by decide) (Nat.le_of_ble_eq_true rfl) fun X h fin hE => ?_
  refine (?_ : ph_J X S.1 S.2 ad ((r, M') : (Int32 × ph_Mem)) 0 [(0, .ref (ad 0)), (1, .int p0)] [] M (f11_back S M p0)) hf
  unfold f11_back
  refine j_iload_n h dX11_back_0 rfl 1 rfl ?_
  refine j_if_lt h 9 dX11_back_1 (by decide) ?_ ?_
  · refine j_sub [0] rfl ?_
    exact jb_f11_back_j9 h fin hS  M
  · refine j_iload_n h dX11_back_4 rfl 1 rfl ?_
    refine j_iconst (v := (2 : Int32)) h dX11_back_5 (by decide) ?_
    refine j_icmp_lt h 15 dX11_back_6 (by decide) ?_ ?_
    · refine j_aload_n h dX11_back_15 rfl 0 rfl ?_
      refine j_get (c := 0) (j := 3) (v := .ref (ad 2)) h (ph_xlt hS (by decide)) (ph_kc0 hS) rfl ph_inX11 rfl (by decide) tw_364 rfl rfl dX11_back_16 ?_
      refine j_iload_n h dX11_back_19 rfl 1 rfl ?_
      refine j_zald (c := 2) (n := 2) h (ph_xlt hS (by decide)) (ph_kc2 hS) dX11_back_20 ?_
      refine j_if_ne h 31 dX11_back_21 (by decide) ?_ ?_
      · refine j_aload_n h dX11_back_31 rfl 0 rfl ?_
        refine j_get (c := 0) (j := 0) (v := .ref (ad 11)) h (ph_xlt hS (by decide)) (ph_kc0 hS) rfl ph_inX11 rfl (by decide) tw_361 rfl rfl dX11_back_32 ?_
        refine j_aload_n h dX11_back_35 rfl 0 rfl ?_
        refine j_get (c := 0) (j := 2) (v := .ref (ad 1)) h (ph_xlt hS (by decide)) (ph_kc0 hS) rfl ph_inX11 rfl (by decide) tw_363 rfl rfl dX11_back_36 ?_
        refine j_iload_n h dX11_back_39 rfl 1 rfl ?_
        refine j_aald (c := 1) (n := 2) (tn := 4) (C := RX9) h (ph_xlt hS (by decide)) (ph_kc1 hS) (Or.inl ⟨rfl, rfl⟩) dX11_back_40 ?_
        refine j_opt (fun _ => j_none) (fun c1 hx2 => ?_)
        refine j_chk (fun hb3 => ?_)
        refine j_rf hx2 ?_
        refine j_callVv (n := 1) (As := [.ref (ad c1)]) (rest := []) h 11 tw_829 tw_830 tw_831 tw_3 tw_832 ydf9_copyFrom (by decide) (by decide) (ph_xlt hS (by decide)) (ph_kc11 hS) rfl (fun q hq => cf9_copyFrom (ph_okI h) hS (by decide) (ph_isSp hb3) hq) rfl (Nat.le_of_ble_eq_true rfl) rfl dX11_back_41 (fun q4 => ?_)
        refine j_aload_n h dX11_back_44 rfl 0 rfl ?_
        refine j_get (c := 0) (j := 4) (v := .ref (ad 59)) h (ph_xlt hS (by decide)) (ph_kc0 hS) rfl ph_inX11 rfl (by decide) tw_365 rfl rfl dX11_back_45 ?_
        refine j_callVv (n := 0) (As := []) (rest := []) h 59 tw_427 tw_428 tw_429 tw_6 tw_430 ydf1_forget (by decide) (by decide) (ph_xlt hS (by decide)) (ph_kc59 hS) rfl (fun q hq => cf1_forget (ph_okI h) hS (by decide) hq) rfl (Nat.le_of_ble_eq_true rfl) rfl dX11_back_48 (fun q5 => ?_)
        refine j_aload_n h dX11_back_51 rfl 0 rfl ?_
        refine j_iconst (v := (0 : Int32)) h dX11_back_52 (by decide) ?_
        refine j_callVi (n := 1) (As := [.int (0 : Int32)]) (rest := []) h 0 tw_431 tw_433 tp_1 tw_1 tw_434 ydf11_accepted (by decide) (by decide) (ph_xlt hS (by decide)) (ph_kc0 hS) rfl (fun q hq => cf11_accepted (ph_okI h) hS hq) rfl (Nat.le_of_ble_eq_true rfl) rfl dX11_back_53 (fun q6 => ?_)
        exact j_iret h rfl fin dX11_back_56
      · refine j_aload_n h dX11_back_24 rfl 0 rfl ?_
        refine j_bipush (v := (-2 : Int32)) h dX11_back_25 (by decide) ?_
        refine j_callVi (n := 1) (As := [.int (-2 : Int32)]) (rest := []) h 0 tw_423 tw_425 tp_0 tw_1 tw_426 ydf11_refused (by decide) (by decide) (ph_xlt hS (by decide)) (ph_kc0 hS) rfl (fun q hq => cf11_refused (ph_okI h) hS hq) rfl (Nat.le_of_ble_eq_true rfl) rfl dX11_back_27 (fun q7 => ?_)
        exact j_iret h rfl fin dX11_back_30
    · refine j_sub [0] rfl ?_
      exact jb_f11_back_j9 h fin hS  M
theorem dX11_count_0 : decode cX11_count 0 = .ok (.iload_n 1, 1) := by decide +kernel
theorem dX11_count_1 : decode cX11_count 1 = .ok (.tableswitch 157 0 11 #[63, 71, 80, 89, 97, 105, 113, 120, 127, 134, 141, 149], 63) := by decide +kernel
theorem dX11_count_64 : decode cX11_count 64 = .ok (.aload_n 0, 1) := by decide +kernel
theorem dX11_count_65 : decode cX11_count 65 = .ok (.getfield 15, 3) := by decide +kernel
theorem dX11_count_68 : decode cX11_count 68 = .ok (.getfield 114, 3) := by decide +kernel
theorem dX11_count_71 : decode cX11_count 71 = .ok (.ireturn, 1) := by decide +kernel
theorem dX11_count_72 : decode cX11_count 72 = .ok (.aload_n 0, 1) := by decide +kernel
theorem dX11_count_73 : decode cX11_count 73 = .ok (.getfield 15, 3) := by decide +kernel
theorem dX11_count_76 : decode cX11_count 76 = .ok (.iconst 1, 1) := by decide +kernel
theorem dX11_count_77 : decode cX11_count 77 = .ok (.invokevirtual 348, 3) := by decide +kernel
theorem dX11_count_80 : decode cX11_count 80 = .ok (.ireturn, 1) := by decide +kernel
theorem dX11_count_81 : decode cX11_count 81 = .ok (.aload_n 0, 1) := by decide +kernel
theorem dX11_count_82 : decode cX11_count 82 = .ok (.getfield 15, 3) := by decide +kernel
theorem dX11_count_85 : decode cX11_count 85 = .ok (.iconst 2, 1) := by decide +kernel
theorem dX11_count_86 : decode cX11_count 86 = .ok (.invokevirtual 348, 3) := by decide +kernel
theorem dX11_count_89 : decode cX11_count 89 = .ok (.ireturn, 1) := by decide +kernel
theorem dX11_count_90 : decode cX11_count 90 = .ok (.aload_n 0, 1) := by decide +kernel
theorem dX11_count_91 : decode cX11_count 91 = .ok (.getfield 15, 3) := by decide +kernel
theorem dX11_count_94 : decode cX11_count 94 = .ok (.getfield 213, 3) := by decide +kernel
theorem dX11_count_97 : decode cX11_count 97 = .ok (.ireturn, 1) := by decide +kernel
theorem dX11_count_98 : decode cX11_count 98 = .ok (.aload_n 0, 1) := by decide +kernel
theorem dX11_count_99 : decode cX11_count 99 = .ok (.getfield 35, 3) := by decide +kernel
theorem dX11_count_102 : decode cX11_count 102 = .ok (.getfield 351, 3) := by decide +kernel
theorem dX11_count_105 : decode cX11_count 105 = .ok (.ireturn, 1) := by decide +kernel
theorem dX11_count_106 : decode cX11_count 106 = .ok (.aload_n 0, 1) := by decide +kernel
theorem dX11_count_107 : decode cX11_count 107 = .ok (.getfield 45, 3) := by decide +kernel
theorem dX11_count_110 : decode cX11_count 110 = .ok (.getfield 202, 3) := by decide +kernel
theorem dX11_count_113 : decode cX11_count 113 = .ok (.ireturn, 1) := by decide +kernel
theorem dX11_count_114 : decode cX11_count 114 = .ok (.aload_n 0, 1) := by decide +kernel
theorem dX11_count_115 : decode cX11_count 115 = .ok (.getfield 93, 3) := by decide +kernel
theorem dX11_count_118 : decode cX11_count 118 = .ok (.iconst 1, 1) := by decide +kernel
theorem dX11_count_119 : decode cX11_count 119 = .ok (.iaload, 1) := by decide +kernel
theorem dX11_count_120 : decode cX11_count 120 = .ok (.ireturn, 1) := by decide +kernel
theorem dX11_count_121 : decode cX11_count 121 = .ok (.aload_n 0, 1) := by decide +kernel
theorem dX11_count_122 : decode cX11_count 122 = .ok (.getfield 93, 3) := by decide +kernel
theorem dX11_count_125 : decode cX11_count 125 = .ok (.iconst 2, 1) := by decide +kernel
theorem dX11_count_126 : decode cX11_count 126 = .ok (.iaload, 1) := by decide +kernel
theorem dX11_count_127 : decode cX11_count 127 = .ok (.ireturn, 1) := by decide +kernel
theorem dX11_count_128 : decode cX11_count 128 = .ok (.aload_n 0, 1) := by decide +kernel
theorem dX11_count_129 : decode cX11_count 129 = .ok (.getfield 93, 3) := by decide +kernel
theorem dX11_count_132 : decode cX11_count 132 = .ok (.iconst 3, 1) := by decide +kernel
theorem dX11_count_133 : decode cX11_count 133 = .ok (.iaload, 1) := by decide +kernel
theorem dX11_count_134 : decode cX11_count 134 = .ok (.ireturn, 1) := by decide +kernel
theorem dX11_count_135 : decode cX11_count 135 = .ok (.aload_n 0, 1) := by decide +kernel
theorem dX11_count_136 : decode cX11_count 136 = .ok (.getfield 93, 3) := by decide +kernel
theorem dX11_count_139 : decode cX11_count 139 = .ok (.iconst 5, 1) := by decide +kernel
theorem dX11_count_140 : decode cX11_count 140 = .ok (.iaload, 1) := by decide +kernel
theorem dX11_count_141 : decode cX11_count 141 = .ok (.ireturn, 1) := by decide +kernel
theorem dX11_count_142 : decode cX11_count 142 = .ok (.aload_n 0, 1) := by decide +kernel
theorem dX11_count_143 : decode cX11_count 143 = .ok (.getfield 93, 3) := by decide +kernel
theorem dX11_count_146 : decode cX11_count 146 = .ok (.bipush 6, 2) := by decide +kernel
theorem dX11_count_148 : decode cX11_count 148 = .ok (.iaload, 1) := by decide +kernel
theorem dX11_count_149 : decode cX11_count 149 = .ok (.ireturn, 1) := by decide +kernel
theorem dX11_count_150 : decode cX11_count 150 = .ok (.aload_n 0, 1) := by decide +kernel
theorem dX11_count_151 : decode cX11_count 151 = .ok (.getfield 15, 3) := by decide +kernel
theorem dX11_count_154 : decode cX11_count 154 = .ok (.getfield 240, 3) := by decide +kernel
theorem dX11_count_157 : decode cX11_count 157 = .ok (.ireturn, 1) := by decide +kernel
theorem dX11_count_158 : decode cX11_count 158 = .ok (.iload_n 1, 1) := by decide +kernel
theorem dX11_count_159 : decode cX11_count 159 = .ok (.bipush 12, 2) := by decide +kernel
theorem dX11_count_161 : decode cX11_count 161 = .ok (.if_icmp .lt 24, 3) := by decide +kernel
theorem dX11_count_164 : decode cX11_count 164 = .ok (.iload_n 1, 1) := by decide +kernel
theorem dX11_count_165 : decode cX11_count 165 = .ok (.bipush 17, 2) := by decide +kernel
theorem dX11_count_167 : decode cX11_count 167 = .ok (.if_icmp .ge 18, 3) := by decide +kernel
theorem dX11_count_170 : decode cX11_count 170 = .ok (.aload_n 0, 1) := by decide +kernel
theorem dX11_count_171 : decode cX11_count 171 = .ok (.getfield 15, 3) := by decide +kernel
theorem dX11_count_174 : decode cX11_count 174 = .ok (.getfield 161, 3) := by decide +kernel
theorem dX11_count_177 : decode cX11_count 177 = .ok (.iload_n 1, 1) := by decide +kernel
theorem dX11_count_178 : decode cX11_count 178 = .ok (.bipush 12, 2) := by decide +kernel
theorem dX11_count_180 : decode cX11_count 180 = .ok (.isub, 1) := by decide +kernel
theorem dX11_count_181 : decode cX11_count 181 = .ok (.iaload, 1) := by decide +kernel
theorem dX11_count_182 : decode cX11_count 182 = .ok (.goto 4, 3) := by decide +kernel
theorem dX11_count_185 : decode cX11_count 185 = .ok (.iconst (-1), 1) := by decide +kernel
theorem dX11_count_186 : decode cX11_count 186 = .ok (.ireturn, 1) := by decide +kernel
theorem ydf11_count : ph_yd yX11_count 1 := ⟨by decide, by decide, by decide +kernel⟩
def f11_count (S : ph_Sh) (M : ph_Mem) (p0 : Int32) : Option Int32 :=
  if p0 = (0 : Int32) then (some (M.1 11 1)) else (if p0 = (1 : Int32) then ((f9_countAll S M 11 (1 : Int32)).bind fun q1 => some q1) else (if p0 = (2 : Int32) then ((f9_countAll S M 11 (2 : Int32)).bind fun q2 => some q2) else (if p0 = (3 : Int32) then (some (M.1 11 13)) else (if p0 = (4 : Int32) then (some (M.1 59 2)) else (if p0 = (5 : Int32) then (some (M.1 63 1)) else (if p0 = (6 : Int32) then (some (M.1 3 1)) else (if p0 = (7 : Int32) then (some (M.1 3 2)) else (if p0 = (8 : Int32) then (some (M.1 3 3)) else (if p0 = (9 : Int32) then (some (M.1 3 5)) else (if p0 = (10 : Int32) then (some (M.1 3 6)) else (if p0 = (11 : Int32) then (some (M.1 11 14)) else (if p0 < (12 : Int32) then (some (-1 : Int32)) else (if (17 : Int32) ≤ p0 then (some (-1 : Int32)) else (cond (ph_ib (p0 - (12 : Int32)) 5) (some (M.1 21 (p0 - (12 : Int32)).toNatClampNeg)) none))))))))))))))
set_option maxHeartbeats 4000000 in
theorem cf11_count {tb adK adV : Nat → Nat} {S : ph_Sh} {l : Launch} {D : va_G} {cA : Nat → ClassId} {ad : Nat → Nat} (hinj : ∀ i j, i < S.2 → j < S.2 → ad i = ad j → i = j) (hS : ph_SX S) {M : ph_Mem} {p0 : Int32} {r : Int32} (hf : f11_count S M p0 = some r) : ph_C (ph_ZX tb adK adV) l 3 yX11_count cX11_count 2 (some .int) D cA S.1 S.2 ad [.ref (ad 0), .int p0] M (some (.int r)) M := by
  refine ph_mk ph_ZX_ok hinj (by decide) (Nat.le_of_ble_eq_true rfl) fun X h fin hE => ?_
  refine (?_ : ph_J X S.1 S.2 ad (r : Int32) 0 [(0, .ref (ad 0)), (1, .int p0)] [] M (f11_count S M p0)) hf
  unfold f11_count
  refine j_iload_n h dX11_count_0 rfl 1 rfl ?_
  refine j_ite (fun c_0 => ?_) (fun c_0 => ?_)
  · refine j_tabIn h 64 (0 : Int32) dX11_count_1 c_0 (by decide) (by decide) rfl (by decide) ?_
    refine j_aload_n h dX11_count_64 rfl 0 rfl ?_
    refine j_get (c := 0) (j := 0) (v := .ref (ad 11)) h (ph_xlt hS (by decide)) (ph_kc0 hS) rfl ph_inX11 rfl (by decide) tw_361 rfl rfl dX11_count_65 ?_
    refine j_get (c := 11) (j := 1) (v := .int (M.1 11 1)) h (ph_xlt hS (by decide)) (ph_kc11 hS) rfl ph_inX9 rfl (by decide) tw_65 rfl rfl dX11_count_68 ?_
    exact j_iretP h rfl fin dX11_count_71
  · refine j_ite (fun c_1 => ?_) (fun c_1 => ?_)
    · refine j_tabIn h 72 (1 : Int32) dX11_count_1 c_1 (by decide) (by decide) rfl (by decide) ?_
      refine j_aload_n h dX11_count_72 rfl 0 rfl ?_
      refine j_get (c := 0) (j := 0) (v := .ref (ad 11)) h (ph_xlt hS (by decide)) (ph_kc0 hS) rfl ph_inX11 rfl (by decide) tw_361 rfl rfl dX11_count_73 ?_
      refine j_iconst (v := (1 : Int32)) h dX11_count_76 (by decide) ?_
      refine j_callViP (n := 1) (As := [.int (1 : Int32)]) (rest := []) h 11 tw_1184 tw_1185 tw_1186 tw_3 tw_1187 ydf9_countAll (by decide) (by decide) (ph_xlt hS (by decide)) (ph_kc11 hS) rfl (fun q hq => cf9_countAll (ph_okI h) hS (by decide) hq) rfl (Nat.le_of_ble_eq_true rfl) rfl dX11_count_77 (fun q1 => ?_)
      exact j_iretP h rfl fin dX11_count_80
    · refine j_ite (fun c_2 => ?_) (fun c_2 => ?_)
      · refine j_tabIn h 81 (2 : Int32) dX11_count_1 c_2 (by decide) (by decide) rfl (by decide) ?_
        refine j_aload_n h dX11_count_81 rfl 0 rfl ?_
        refine j_get (c := 0) (j := 0) (v := .ref (ad 11)) h (ph_xlt hS (by decide)) (ph_kc0 hS) rfl ph_inX11 rfl (by decide) tw_361 rfl rfl dX11_count_82 ?_
        refine j_iconst (v := (2 : Int32)) h dX11_count_85 (by decide) ?_
        refine j_callViP (n := 1) (As := [.int (2 : Int32)]) (rest := []) h 11 tw_1184 tw_1185 tw_1186 tw_3 tw_1187 ydf9_countAll (by decide) (by decide) (ph_xlt hS (by decide)) (ph_kc11 hS) rfl (fun q hq => cf9_countAll (ph_okI h) hS (by decide) hq) rfl (Nat.le_of_ble_eq_true rfl) rfl dX11_count_86 (fun q2 => ?_)
        exact j_iretP h rfl fin dX11_count_89
      · refine j_ite (fun c_3 => ?_) (fun c_3 => ?_)
        · refine j_tabIn h 90 (3 : Int32) dX11_count_1 c_3 (by decide) (by decide) rfl (by decide) ?_
          refine j_aload_n h dX11_count_90 rfl 0 rfl ?_
          refine j_get (c := 0) (j := 0) (v := .ref (ad 11)) h (ph_xlt hS (by decide)) (ph_kc0 hS) rfl ph_inX11 rfl (by decide) tw_361 rfl rfl dX11_count_91 ?_
          refine j_get (c := 11) (j := 13) (v := .int (M.1 11 13)) h (ph_xlt hS (by decide)) (ph_kc11 hS) rfl ph_inX9 rfl (by decide) tw_107 rfl rfl dX11_count_94 ?_
          exact j_iretP h rfl fin dX11_count_97
        · refine j_ite (fun c_4 => ?_) (fun c_4 => ?_)
          · refine j_tabIn h 98 (4 : Int32) dX11_count_1 c_4 (by decide) (by decide) rfl (by decide) ?_
            refine j_aload_n h dX11_count_98 rfl 0 rfl ?_
            refine j_get (c := 0) (j := 4) (v := .ref (ad 59)) h (ph_xlt hS (by decide)) (ph_kc0 hS) rfl ph_inX11 rfl (by decide) tw_365 rfl rfl dX11_count_99 ?_
            refine j_get (c := 59) (j := 2) (v := .int (M.1 59 2)) h (ph_xlt hS (by decide)) (ph_kc59 hS) rfl ph_inX1 rfl (by decide) tw_151 rfl rfl dX11_count_102 ?_
            exact j_iretP h rfl fin dX11_count_105
          · refine j_ite (fun c_5 => ?_) (fun c_5 => ?_)
            · refine j_tabIn h 106 (5 : Int32) dX11_count_1 c_5 (by decide) (by decide) rfl (by decide) ?_
              refine j_aload_n h dX11_count_106 rfl 0 rfl ?_
              refine j_get (c := 0) (j := 6) (v := .ref (ad 63)) h (ph_xlt hS (by decide)) (ph_kc0 hS) rfl ph_inX11 rfl (by decide) tw_367 rfl rfl dX11_count_107 ?_
              refine j_get (c := 63) (j := 1) (v := .int (M.1 63 1)) h (ph_xlt hS (by decide)) (ph_kc63 hS) rfl ph_inX6 rfl (by decide) tw_169 rfl rfl dX11_count_110 ?_
              exact j_iretP h rfl fin dX11_count_113
            · refine j_ite (fun c_6 => ?_) (fun c_6 => ?_)
              · refine j_tabIn h 114 (6 : Int32) dX11_count_1 c_6 (by decide) (by decide) rfl (by decide) ?_
                refine j_aload_n h dX11_count_114 rfl 0 rfl ?_
                refine j_get (c := 0) (j := 13) (v := .ref (ad 3)) h (ph_xlt hS (by decide)) (ph_kc0 hS) rfl ph_inX11 rfl (by decide) tw_374 rfl rfl dX11_count_115 ?_
                refine j_iconst (v := (1 : Int32)) h dX11_count_118 (by decide) ?_
                refine j_ialdK (c := 3) (n := 7) (kn := 1) h (ph_xlt hS (by decide)) (ph_kc3 hS) rfl (by decide) dX11_count_119 ?_
                exact j_iretP h rfl fin dX11_count_120
              · refine j_ite (fun c_7 => ?_) (fun c_7 => ?_)
                · refine j_tabIn h 121 (7 : Int32) dX11_count_1 c_7 (by decide) (by decide) rfl (by decide) ?_
                  refine j_aload_n h dX11_count_121 rfl 0 rfl ?_
                  refine j_get (c := 0) (j := 13) (v := .ref (ad 3)) h (ph_xlt hS (by decide)) (ph_kc0 hS) rfl ph_inX11 rfl (by decide) tw_374 rfl rfl dX11_count_122 ?_
                  refine j_iconst (v := (2 : Int32)) h dX11_count_125 (by decide) ?_
                  refine j_ialdK (c := 3) (n := 7) (kn := 2) h (ph_xlt hS (by decide)) (ph_kc3 hS) rfl (by decide) dX11_count_126 ?_
                  exact j_iretP h rfl fin dX11_count_127
                · refine j_ite (fun c_8 => ?_) (fun c_8 => ?_)
                  · refine j_tabIn h 128 (8 : Int32) dX11_count_1 c_8 (by decide) (by decide) rfl (by decide) ?_
                    refine j_aload_n h dX11_count_128 rfl 0 rfl ?_
                    refine j_get (c := 0) (j := 13) (v := .ref (ad 3)) h (ph_xlt hS (by decide)) (ph_kc0 hS) rfl ph_inX11 rfl (by decide) tw_374 rfl rfl dX11_count_129 ?_
                    refine j_iconst (v := (3 : Int32)) h dX11_count_132 (by decide) ?_
                    refine j_ialdK (c := 3) (n := 7) (kn := 3) h (ph_xlt hS (by decide)) (ph_kc3 hS) rfl (by decide) dX11_count_133 ?_
                    exact j_iretP h rfl fin dX11_count_134
                  · refine j_ite (fun c_9 => ?_) (fun c_9 => ?_)
                    · refine j_tabIn h 135 (9 : Int32) dX11_count_1 c_9 (by decide) (by decide) rfl (by decide) ?_
                      refine j_aload_n h dX11_count_135 rfl 0 rfl ?_
                      refine j_get (c := 0) (j := 13) (v := .ref (ad 3)) h (ph_xlt hS (by decide)) (ph_kc0 hS) rfl ph_inX11 rfl (by decide) tw_374 rfl rfl dX11_count_136 ?_
                      refine j_iconst (v := (5 : Int32)) h dX11_count_139 (by decide) ?_
                      refine j_ialdK (c := 3) (n := 7) (kn := 5) h (ph_xlt hS (by decide)) (ph_kc3 hS) rfl (by decide) dX11_count_140 ?_
                      exact j_iretP h rfl fin dX11_count_141
                    · refine j_ite (fun c_10 => ?_) (fun c_10 => ?_)
                      · refine j_tabIn h 142 (10 : Int32) dX11_count_1 c_10 (by decide) (by decide) rfl (by decide) ?_
                        refine j_aload_n h dX11_count_142 rfl 0 rfl ?_
                        refine j_get (c := 0) (j := 13) (v := .ref (ad 3)) h (ph_xlt hS (by decide)) (ph_kc0 hS) rfl ph_inX11 rfl (by decide) tw_374 rfl rfl dX11_count_143 ?_
                        refine j_bipush (v := (6 : Int32)) h dX11_count_146 (by decide) ?_
                        refine j_ialdK (c := 3) (n := 7) (kn := 6) h (ph_xlt hS (by decide)) (ph_kc3 hS) rfl (by decide) dX11_count_148 ?_
                        exact j_iretP h rfl fin dX11_count_149
                      · refine j_ite (fun c_11 => ?_) (fun c_11 => ?_)
                        · refine j_tabIn h 150 (11 : Int32) dX11_count_1 c_11 (by decide) (by decide) rfl (by decide) ?_
                          refine j_aload_n h dX11_count_150 rfl 0 rfl ?_
                          refine j_get (c := 0) (j := 0) (v := .ref (ad 11)) h (ph_xlt hS (by decide)) (ph_kc0 hS) rfl ph_inX11 rfl (by decide) tw_361 rfl rfl dX11_count_151 ?_
                          refine j_get (c := 11) (j := 14) (v := .int (M.1 11 14)) h (ph_xlt hS (by decide)) (ph_kc11 hS) rfl ph_inX9 rfl (by decide) tw_109 rfl rfl dX11_count_154 ?_
                          exact j_iretP h rfl fin dX11_count_157
                        · have hq0 := lv_neT c_0 (a := 0) rfl
                          have hq1 := lv_neT c_1 (a := 1) rfl
                          have hq2 := lv_neT c_2 (a := 2) rfl
                          have hq3 := lv_neT c_3 (a := 3) rfl
                          have hq4 := lv_neT c_4 (a := 4) rfl
                          have hq5 := lv_neT c_5 (a := 5) rfl
                          have hq6 := lv_neT c_6 (a := 6) rfl
                          have hq7 := lv_neT c_7 (a := 7) rfl
                          have hq8 := lv_neT c_8 (a := 8) rfl
                          have hq9 := lv_neT c_9 (a := 9) rfl
                          have hq10 := lv_neT c_10 (a := 10) rfl
                          have hq11 := lv_neT c_11 (a := 11) rfl
                          refine j_tabOut h 158 dX11_count_1 (by omega) (by decide) ?_
                          refine j_iload_n h dX11_count_158 rfl 1 rfl ?_
                          refine j_bipush (v := (12 : Int32)) h dX11_count_159 (by decide) ?_
                          refine j_icmp_lt h 185 dX11_count_161 (by decide) ?_ ?_
                          · refine j_iconst (v := (-1 : Int32)) h dX11_count_185 (by decide) ?_
                            exact j_iretP h rfl fin dX11_count_186
                          · refine j_iload_n h dX11_count_164 rfl 1 rfl ?_
                            refine j_bipush (v := (17 : Int32)) h dX11_count_165 (by decide) ?_
                            refine j_icmp_ge h 185 dX11_count_167 (by decide) ?_ ?_
                            · refine j_iconst (v := (-1 : Int32)) h dX11_count_185 (by decide) ?_
                              exact j_iretP h rfl fin dX11_count_186
                            · refine j_aload_n h dX11_count_170 rfl 0 rfl ?_
                              refine j_get (c := 0) (j := 0) (v := .ref (ad 11)) h (ph_xlt hS (by decide)) (ph_kc0 hS) rfl ph_inX11 rfl (by decide) tw_361 rfl rfl dX11_count_171 ?_
                              refine j_get (c := 11) (j := 11) (v := .ref (ad 21)) h (ph_xlt hS (by decide)) (ph_kc11 hS) rfl ph_inX9 rfl (by decide) tw_102 rfl rfl dX11_count_174 ?_
                              refine j_iload_n h dX11_count_177 rfl 1 rfl ?_
                              refine j_bipush (v := (12 : Int32)) h dX11_count_178 (by decide) ?_
                              refine j_isub h dX11_count_180 ?_
                              refine j_iald (c := 21) (n := 5) h (ph_xlt hS (by decide)) (ph_kc21 hS) dX11_count_181 ?_
                              refine j_goto h 186 dX11_count_182 (by decide) ?_
                              exact j_iretP h rfl fin dX11_count_186
