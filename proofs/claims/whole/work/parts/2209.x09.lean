theorem dX8_runOnce_0 : decode cX8_runOnce 0 = .ok (.aload_n 1, 1) := by decide +kernel
theorem dX8_runOnce_1 : decode cX8_runOnce 1 = .ok (.iload_n 2, 1) := by decide +kernel
theorem dX8_runOnce_2 : decode cX8_runOnce 2 = .ok (.invokevirtual 56, 3) := by decide +kernel
theorem dX8_runOnce_5 : decode cX8_runOnce 5 = .ok (.istore 5, 2) := by decide +kernel
theorem dX8_runOnce_7 : decode cX8_runOnce 7 = .ok (.iload 5, 2) := by decide +kernel
theorem dX8_runOnce_9 : decode cX8_runOnce 9 = .ok (.iconst 2, 1) := by decide +kernel
theorem dX8_runOnce_10 : decode cX8_runOnce 10 = .ok (.if_icmp .ne 44, 3) := by decide +kernel
theorem dX8_runOnce_13 : decode cX8_runOnce 13 = .ok (.aload_n 3, 1) := by decide +kernel
theorem dX8_runOnce_14 : decode cX8_runOnce 14 = .ok (.aload 4, 2) := by decide +kernel
theorem dX8_runOnce_16 : decode cX8_runOnce 16 = .ok (.invokevirtual 59, 3) := by decide +kernel
theorem dX8_runOnce_19 : decode cX8_runOnce 19 = .ok (.istore 6, 2) := by decide +kernel
theorem dX8_runOnce_21 : decode cX8_runOnce 21 = .ok (.aload_n 3, 1) := by decide +kernel
theorem dX8_runOnce_22 : decode cX8_runOnce 22 = .ok (.getfield 63, 3) := by decide +kernel
theorem dX8_runOnce_25 : decode cX8_runOnce 25 = .ok (.iconst 0, 1) := by decide +kernel
theorem dX8_runOnce_26 : decode cX8_runOnce 26 = .ok (.aload_n 0, 1) := by decide +kernel
theorem dX8_runOnce_27 : decode cX8_runOnce 27 = .ok (.getfield 14, 3) := by decide +kernel
theorem dX8_runOnce_30 : decode cX8_runOnce 30 = .ok (.getfield 22, 3) := by decide +kernel
theorem dX8_runOnce_33 : decode cX8_runOnce 33 = .ok (.iconst 3, 1) := by decide +kernel
theorem dX8_runOnce_34 : decode cX8_runOnce 34 = .ok (.aload_n 3, 1) := by decide +kernel
theorem dX8_runOnce_35 : decode cX8_runOnce 35 = .ok (.getfield 66, 3) := by decide +kernel
theorem dX8_runOnce_38 : decode cX8_runOnce 38 = .ok (.invokestatic 69, 3) := by decide +kernel
theorem dX8_runOnce_41 : decode cX8_runOnce 41 = .ok (.iload 6, 2) := by decide +kernel
theorem dX8_runOnce_43 : decode cX8_runOnce 43 = .ok (.bipush (-3), 2) := by decide +kernel
theorem dX8_runOnce_45 : decode cX8_runOnce 45 = .ok (.if_icmp .eq 7, 3) := by decide +kernel
theorem dX8_runOnce_48 : decode cX8_runOnce 48 = .ok (.iconst 1, 1) := by decide +kernel
theorem dX8_runOnce_49 : decode cX8_runOnce 49 = .ok (.goto 4, 3) := by decide +kernel
theorem dX8_runOnce_52 : decode cX8_runOnce 52 = .ok (.iconst 0, 1) := by decide +kernel
theorem dX8_runOnce_53 : decode cX8_runOnce 53 = .ok (.ireturn, 1) := by decide +kernel
theorem dX8_runOnce_54 : decode cX8_runOnce 54 = .ok (.aload_n 0, 1) := by decide +kernel
theorem dX8_runOnce_55 : decode cX8_runOnce 55 = .ok (.getfield 14, 3) := by decide +kernel
theorem dX8_runOnce_58 : decode cX8_runOnce 58 = .ok (.aload_n 1, 1) := by decide +kernel
theorem dX8_runOnce_59 : decode cX8_runOnce 59 = .ok (.iload_n 2, 1) := by decide +kernel
theorem dX8_runOnce_60 : decode cX8_runOnce 60 = .ok (.iconst 0, 1) := by decide +kernel
theorem dX8_runOnce_61 : decode cX8_runOnce 61 = .ok (.invokevirtual 48, 3) := by decide +kernel
theorem dX8_runOnce_64 : decode cX8_runOnce 64 = .ok (.lstore 6, 2) := by decide +kernel
theorem dX8_runOnce_66 : decode cX8_runOnce 66 = .ok (.aload_n 0, 1) := by decide +kernel
theorem dX8_runOnce_67 : decode cX8_runOnce 67 = .ok (.getfield 14, 3) := by decide +kernel
theorem dX8_runOnce_70 : decode cX8_runOnce 70 = .ok (.aload_n 1, 1) := by decide +kernel
theorem dX8_runOnce_71 : decode cX8_runOnce 71 = .ok (.iload_n 2, 1) := by decide +kernel
theorem dX8_runOnce_72 : decode cX8_runOnce 72 = .ok (.iconst 1, 1) := by decide +kernel
theorem dX8_runOnce_73 : decode cX8_runOnce 73 = .ok (.invokevirtual 48, 3) := by decide +kernel
theorem dX8_runOnce_76 : decode cX8_runOnce 76 = .ok (.lstore 8, 2) := by decide +kernel
theorem dX8_runOnce_78 : decode cX8_runOnce 78 = .ok (.lload 6, 2) := by decide +kernel
theorem dX8_runOnce_80 : decode cX8_runOnce 80 = .ok (.lconst 0, 1) := by decide +kernel
theorem dX8_runOnce_81 : decode cX8_runOnce 81 = .ok (.lcmp, 1) := by decide +kernel
theorem dX8_runOnce_82 : decode cX8_runOnce 82 = .ok (.ifCond .lt 30, 3) := by decide +kernel
theorem dX8_runOnce_85 : decode cX8_runOnce 85 = .ok (.lload 6, 2) := by decide +kernel
theorem dX8_runOnce_87 : decode cX8_runOnce 87 = .ok (.ldc2_w 75, 3) := by decide +kernel
theorem dX8_runOnce_90 : decode cX8_runOnce 90 = .ok (.lcmp, 1) := by decide +kernel
theorem dX8_runOnce_91 : decode cX8_runOnce 91 = .ok (.ifCond .ge 21, 3) := by decide +kernel
theorem dX8_runOnce_94 : decode cX8_runOnce 94 = .ok (.lload 8, 2) := by decide +kernel
theorem dX8_runOnce_96 : decode cX8_runOnce 96 = .ok (.lconst 0, 1) := by decide +kernel
theorem dX8_runOnce_97 : decode cX8_runOnce 97 = .ok (.lcmp, 1) := by decide +kernel
theorem dX8_runOnce_98 : decode cX8_runOnce 98 = .ok (.ifCond .lt 14, 3) := by decide +kernel
theorem dX8_runOnce_101 : decode cX8_runOnce 101 = .ok (.lload 8, 2) := by decide +kernel
theorem dX8_runOnce_103 : decode cX8_runOnce 103 = .ok (.aload_n 3, 1) := by decide +kernel
theorem dX8_runOnce_104 : decode cX8_runOnce 104 = .ok (.getfield 66, 3) := by decide +kernel
theorem dX8_runOnce_107 : decode cX8_runOnce 107 = .ok (.i2l, 1) := by decide +kernel
theorem dX8_runOnce_108 : decode cX8_runOnce 108 = .ok (.lcmp, 1) := by decide +kernel
theorem dX8_runOnce_109 : decode cX8_runOnce 109 = .ok (.ifCond .lt 5, 3) := by decide +kernel
theorem dX8_runOnce_112 : decode cX8_runOnce 112 = .ok (.iconst 0, 1) := by decide +kernel
theorem dX8_runOnce_113 : decode cX8_runOnce 113 = .ok (.ireturn, 1) := by decide +kernel
theorem dX8_runOnce_114 : decode cX8_runOnce 114 = .ok (.iload 5, 2) := by decide +kernel
theorem dX8_runOnce_116 : decode cX8_runOnce 116 = .ok (.ifCond .ne 18, 3) := by decide +kernel
theorem dX8_runOnce_119 : decode cX8_runOnce 119 = .ok (.aload_n 3, 1) := by decide +kernel
theorem dX8_runOnce_120 : decode cX8_runOnce 120 = .ok (.lload 8, 2) := by decide +kernel
theorem dX8_runOnce_122 : decode cX8_runOnce 122 = .ok (.l2i, 1) := by decide +kernel
theorem dX8_runOnce_123 : decode cX8_runOnce 123 = .ok (.lload 6, 2) := by decide +kernel
theorem dX8_runOnce_125 : decode cX8_runOnce 125 = .ok (.l2i, 1) := by decide +kernel
theorem dX8_runOnce_126 : decode cX8_runOnce 126 = .ok (.aload 4, 2) := by decide +kernel
theorem dX8_runOnce_128 : decode cX8_runOnce 128 = .ok (.invokevirtual 77, 3) := by decide +kernel
theorem dX8_runOnce_131 : decode cX8_runOnce 131 = .ok (.goto 15, 3) := by decide +kernel
theorem dX8_runOnce_134 : decode cX8_runOnce 134 = .ok (.aload_n 3, 1) := by decide +kernel
theorem dX8_runOnce_135 : decode cX8_runOnce 135 = .ok (.lload 8, 2) := by decide +kernel
theorem dX8_runOnce_137 : decode cX8_runOnce 137 = .ok (.l2i, 1) := by decide +kernel
theorem dX8_runOnce_138 : decode cX8_runOnce 138 = .ok (.lload 6, 2) := by decide +kernel
theorem dX8_runOnce_140 : decode cX8_runOnce 140 = .ok (.l2i, 1) := by decide +kernel
theorem dX8_runOnce_141 : decode cX8_runOnce 141 = .ok (.aload 4, 2) := by decide +kernel
theorem dX8_runOnce_143 : decode cX8_runOnce 143 = .ok (.invokevirtual 81, 3) := by decide +kernel
theorem dX8_runOnce_146 : decode cX8_runOnce 146 = .ok (.istore 10, 2) := by decide +kernel
theorem dX8_runOnce_148 : decode cX8_runOnce 148 = .ok (.aload_n 0, 1) := by decide +kernel
theorem dX8_runOnce_149 : decode cX8_runOnce 149 = .ok (.getfield 14, 3) := by decide +kernel
theorem dX8_runOnce_152 : decode cX8_runOnce 152 = .ok (.getfield 22, 3) := by decide +kernel
theorem dX8_runOnce_155 : decode cX8_runOnce 155 = .ok (.iconst 2, 1) := by decide +kernel
theorem dX8_runOnce_156 : decode cX8_runOnce 156 = .ok (.iload 10, 2) := by decide +kernel
theorem dX8_runOnce_158 : decode cX8_runOnce 158 = .ok (.iastore, 1) := by decide +kernel
theorem dX8_runOnce_159 : decode cX8_runOnce 159 = .ok (.aload_n 0, 1) := by decide +kernel
theorem dX8_runOnce_160 : decode cX8_runOnce 160 = .ok (.aload_n 3, 1) := by decide +kernel
theorem dX8_runOnce_161 : decode cX8_runOnce 161 = .ok (.lload 8, 2) := by decide +kernel
theorem dX8_runOnce_163 : decode cX8_runOnce 163 = .ok (.l2i, 1) := by decide +kernel
theorem dX8_runOnce_164 : decode cX8_runOnce 164 = .ok (.invokevirtual 26, 3) := by decide +kernel
theorem dX8_runOnce_167 : decode cX8_runOnce 167 = .ok (.iload 10, 2) := by decide +kernel
theorem dX8_runOnce_169 : decode cX8_runOnce 169 = .ok (.bipush (-3), 2) := by decide +kernel
theorem dX8_runOnce_171 : decode cX8_runOnce 171 = .ok (.if_icmp .eq 7, 3) := by decide +kernel
theorem dX8_runOnce_174 : decode cX8_runOnce 174 = .ok (.iconst 1, 1) := by decide +kernel
theorem dX8_runOnce_175 : decode cX8_runOnce 175 = .ok (.goto 4, 3) := by decide +kernel
theorem dX8_runOnce_178 : decode cX8_runOnce 178 = .ok (.iconst 0, 1) := by decide +kernel
theorem dX8_runOnce_179 : decode cX8_runOnce 179 = .ok (.ireturn, 1) := by decide +kernel
def f8_runOnce_j146 (S : ph_Sh) (p0 : Nat) (p2 : Nat) (p3 : Nat) (x8 : Int64) (s0 : Int32) (M : ph_Mem) : Option (Int32 × ph_Mem) :=
  ph_let (ph_wi M 9 2 s0) fun M8 => (f8_look S M8 p2 x8.toInt32).bind fun q9 => if s0 = (-3 : Int32) then (some ((0 : Int32), q9)) else (some ((1 : Int32), q9))
set_option maxHeartbeats 4000000 in
theorem jb_f8_runOnce_j146 {tb adK adV : Nat → Nat} {S : ph_Sh} {p0 : Nat} {p2 : Nat} {p3 : Nat} {X : ph_X} {ad : Nat → Nat} {o : (Int32 × ph_Mem)} (h : ph_ok (ph_ZX tb adK adV) X cX8_runOnce RX8 (some .boolean) 11 4 S.2 ad) (fin : ph_fin X S.1 S.2 ad (some (.int o.1)) o.2) (hS : ph_SX S) (hp0 : ph_isP S p0) (hp2 : ph_isS p2) (hp3 : ph_isL p3) : ∀ (x8 : Int64) (s0 : Int32) (M : ph_Mem), ph_J X S.1 S.2 ad o 146 [(0, .ref (ad 70)), (3, .ref (ad p2)), (8, .long x8)] [.int s0] M (f8_runOnce_j146 S p0 p2 p3 x8 s0 M) := by
  intro x8 s0 M
  unfold f8_runOnce_j146
  refine j_istore h [(10, .int s0), (0, .ref (ad 70)), (3, .ref (ad p2)), (8, .long x8)] dX8_runOnce_146 (by decide) rfl ?_
  refine j_aload_n h dX8_runOnce_148 rfl 1 rfl ?_
  refine j_get (c := 70) (j := 0) (v := .ref (ad 8)) h (ph_xlt hS (by decide)) (ph_kc70 hS) rfl ph_inX8 rfl (by decide) tw_223 rfl rfl dX8_runOnce_149 ?_
  refine j_get (c := 8) (j := 0) (v := .ref (ad 9)) h (ph_xlt hS (by decide)) (ph_kc8 hS) rfl ph_inX2 rfl (by decide) tw_37 rfl rfl dX8_runOnce_152 ?_
  refine j_iconst (v := (2 : Int32)) h dX8_runOnce_155 (by decide) ?_
  refine j_iload h dX8_runOnce_156 0 rfl ?_
  refine j_iastK (c := 9) (n := 21) (kn := 2) h (ph_xlt hS (by decide)) (ph_kc9 hS) rfl (by decide) dX8_runOnce_158 ?_
  refine j_letM (fun M8 => ?_)
  refine j_aload_n h dX8_runOnce_159 rfl 1 rfl ?_
  refine j_aload_n h dX8_runOnce_160 rfl 2 rfl ?_
  refine j_lload h dX8_runOnce_161 3 rfl ?_
  refine j_l2i h dX8_runOnce_163 ?_
  refine j_callVv (n := 2) (As := [.ref (ad p2), .int x8.toInt32]) (rest := []) h 70 tw_842 tw_844 tp_29 tw_8 tw_845 ydf8_look (by decide) (by decide) (ph_xlt hS (by decide)) (ph_kc70 hS) rfl (fun q hq => cf8_look (ph_okI h) hS hp2 hq) rfl (Nat.le_of_ble_eq_true rfl) rfl dX8_runOnce_164 (fun q9 => ?_)
  refine j_iload h dX8_runOnce_167 0 rfl ?_
  refine j_bipush (v := (-3 : Int32)) h dX8_runOnce_169 (by decide) ?_
  refine j_icmp_eq h 178 dX8_runOnce_171 (by decide) ?_ ?_
  · refine j_iconst (v := (0 : Int32)) h dX8_runOnce_178 (by decide) ?_
    exact j_zretC h rfl (by decide) fin dX8_runOnce_179
  · refine j_iconst (v := (1 : Int32)) h dX8_runOnce_174 (by decide) ?_
    refine j_goto h 179 dX8_runOnce_175 (by decide) ?_
    exact j_zretC h rfl (by decide) fin dX8_runOnce_179
theorem ydf8_runOnce : ph_yd yX8_runOnce 4 := ⟨by decide, by decide, by decide +kernel⟩
def f8_runOnce (S : ph_Sh) (M : ph_Mem) (p0 : Nat) (p1 : Int32) (p2 : Nat) (p3 : Nat) : Option (Int32 × ph_Mem) :=
  (f4_kindOf S M p0 p1).bind fun q1 => if q1 = (2 : Int32) then ((f9_tryNextDay S M p2 p3).bind fun q6 => cond (ph_cpk (0 : Int32) (3 : Int32) (q6.2.1 p2 1) 6 21) (ph_let (ph_cp q6.2 (p2 + 1) (0 : Int32).toNatClampNeg 9 (3 : Int32).toNatClampNeg (q6.2.1 p2 1).toNatClampNeg) fun M7 => if q6.1 = (-3 : Int32) then (some ((0 : Int32), M7)) else (some ((1 : Int32), M7))) none) else ((f2_value S M 8 p0 p1 (0 : Int32)).bind fun q2 => (f2_value S q2.2 8 p0 p1 (1 : Int32)).bind fun q3 => if (lg_cmp q2.1 (0 : Int64)) < 0 then (some ((0 : Int32), q3.2)) else (if 0 ≤ (lg_cmp q2.1 (12 : Int64)) then (some ((0 : Int32), q3.2)) else (if (lg_cmp q3.1 (0 : Int64)) < 0 then (some ((0 : Int32), q3.2)) else (if (lg_cmp q3.1 (q3.2.1 p2 1).toInt64) < 0 then (if q1 = 0 then ((f9_tryPawn S q3.2 p2 q3.1.toInt32 q2.1.toInt32 p3).bind fun q5 => f8_runOnce_j146 S p0 p2 p3 q3.1 q5.1 q5.2) else ((f9_tryRedeem S q3.2 p2 q3.1.toInt32 q2.1.toInt32 p3).bind fun q4 => f8_runOnce_j146 S p0 p2 p3 q3.1 q4.1 q4.2)) else (some ((0 : Int32), q3.2))))))
set_option maxHeartbeats 4000000 in
theorem cf8_runOnce {tb adK adV : Nat → Nat} {S : ph_Sh} {p0 : Nat} {p2 : Nat} {p3 : Nat} {l : Launch} {D : va_G} {cA : Nat → ClassId} {ad : Nat → Nat} (hinj : ∀ i j, i < S.2 → j < S.2 → ad i = ad j → i = j) (hS : ph_SX S) (hp0 : ph_isP S p0) (hp2 : ph_isS p2) (hp3 : ph_isL p3) {M : ph_Mem} {p1 : Int32} {r : Int32} {M' : ph_Mem} (hf : f8_runOnce S M p0 p1 p2 p3 = some (r, M')) : ph_C (ph_ZX tb adK adV) l 4 yX8_runOnce cX8_runOnce 11 (some .boolean) D cA S.1 S.2 ad [.ref (ad 70), .ref (ad p0), .int p1, .ref (ad p2), .ref (ad p3)] M (some (.int r)) M' := by
  refine ph_mk ph_ZX_ok hinj (by decide) (Nat.le_of_ble_eq_true rfl) fun X h fin hE => ?_
  refine (?_ : ph_J X S.1 S.2 ad ((r, M') : (Int32 × ph_Mem)) 0 [(0, .ref (ad 70)), (1, .ref (ad p0)), (2, .int p1), (3, .ref (ad p2)), (4, .ref (ad p3))] [] M (f8_runOnce S M p0 p1 p2 p3)) hf
  unfold f8_runOnce
  refine j_aload_n h dX8_runOnce_0 rfl 1 rfl ?_
  refine j_iload_n h dX8_runOnce_1 rfl 2 rfl ?_
  refine j_callViP (n := 1) (As := [.int p1]) (rest := []) h p0 tw_860 tw_487 tw_488 tw_21 tw_489 ydf4_kindOf (by decide) (by decide) (ph_P0n hS hp0) (ph_P0 hS hp0) rfl (fun q hq => cf4_kindOf (ph_okI h) hS hp0 hq) rfl (Nat.le_of_ble_eq_true rfl) rfl dX8_runOnce_2 (fun q1 => ?_)
  refine j_istore h [(5, .int q1), (0, .ref (ad 70)), (1, .ref (ad p0)), (2, .int p1), (3, .ref (ad p2)), (4, .ref (ad p3))] dX8_runOnce_5 (by decide) rfl ?_
  refine j_iload h dX8_runOnce_7 0 rfl ?_
  refine j_iconst (v := (2 : Int32)) h dX8_runOnce_9 (by decide) ?_
  refine j_icmp_ne h 54 dX8_runOnce_10 (by decide) ?_ ?_
  · refine j_aload_n h dX8_runOnce_54 rfl 1 rfl ?_
    refine j_get (c := 70) (j := 0) (v := .ref (ad 8)) h (ph_xlt hS (by decide)) (ph_kc70 hS) rfl ph_inX8 rfl (by decide) tw_223 rfl rfl dX8_runOnce_55 ?_
    refine j_aload_n h dX8_runOnce_58 rfl 2 rfl ?_
    refine j_iload_n h dX8_runOnce_59 rfl 3 rfl ?_
    refine j_iconst (v := (0 : Int32)) h dX8_runOnce_60 (by decide) ?_
    refine j_callVl (n := 3) (As := [.ref (ad p0), .int p1, .int (0 : Int32)]) (rest := []) h 8 tw_855 tw_503 tw_504 tw_2 tw_505 ydf2_value (by decide) (by decide) (ph_xlt hS (by decide)) (ph_kc8 hS) rfl (fun q hq => cf2_value (ph_okI h) hS (by decide) hp0 hq) rfl (Nat.le_of_ble_eq_true rfl) rfl dX8_runOnce_61 (fun q2 => ?_)
    refine j_lstore h [(6, .long q2.1), (5, .int q1), (0, .ref (ad 70)), (1, .ref (ad p0)), (2, .int p1), (3, .ref (ad p2)), (4, .ref (ad p3))] dX8_runOnce_64 (by decide) rfl ?_
    refine j_aload_n h dX8_runOnce_66 rfl 2 rfl ?_
    refine j_get (c := 70) (j := 0) (v := .ref (ad 8)) h (ph_xlt hS (by decide)) (ph_kc70 hS) rfl ph_inX8 rfl (by decide) tw_223 rfl rfl dX8_runOnce_67 ?_
    refine j_aload_n h dX8_runOnce_70 rfl 3 rfl ?_
    refine j_iload_n h dX8_runOnce_71 rfl 4 rfl ?_
    refine j_iconst (v := (1 : Int32)) h dX8_runOnce_72 (by decide) ?_
    refine j_callVl (n := 3) (As := [.ref (ad p0), .int p1, .int (1 : Int32)]) (rest := []) h 8 tw_855 tw_503 tw_504 tw_2 tw_505 ydf2_value (by decide) (by decide) (ph_xlt hS (by decide)) (ph_kc8 hS) rfl (fun q hq => cf2_value (ph_okI h) hS (by decide) hp0 hq) rfl (Nat.le_of_ble_eq_true rfl) rfl dX8_runOnce_73 (fun q3 => ?_)
    refine j_lstore h [(8, .long q3.1), (6, .long q2.1), (5, .int q1), (0, .ref (ad 70)), (1, .ref (ad p0)), (2, .int p1), (3, .ref (ad p2)), (4, .ref (ad p3))] dX8_runOnce_76 (by decide) rfl ?_
    refine j_lload h dX8_runOnce_78 1 rfl ?_
    refine j_lconst (v := (0 : Int64)) h dX8_runOnce_80 (by decide) ?_
    refine j_lcmp h dX8_runOnce_81 ?_
    refine j_if_lt h 112 dX8_runOnce_82 (by decide) ?_ ?_
    · refine j_iconst (v := (0 : Int32)) h dX8_runOnce_112 (by decide) ?_
      exact j_zretC h rfl (by decide) fin dX8_runOnce_113
    · refine j_lload h dX8_runOnce_85 1 rfl ?_
      refine j_ldc2 (v := (12 : Int64)) h dX8_runOnce_87 tw_873 ?_
      refine j_lcmp h dX8_runOnce_90 ?_
      refine j_if_ge h 112 dX8_runOnce_91 (by decide) ?_ ?_
      · refine j_iconst (v := (0 : Int32)) h dX8_runOnce_112 (by decide) ?_
        exact j_zretC h rfl (by decide) fin dX8_runOnce_113
      · refine j_lload h dX8_runOnce_94 0 rfl ?_
        refine j_lconst (v := (0 : Int64)) h dX8_runOnce_96 (by decide) ?_
        refine j_lcmp h dX8_runOnce_97 ?_
        refine j_if_lt h 112 dX8_runOnce_98 (by decide) ?_ ?_
        · refine j_iconst (v := (0 : Int32)) h dX8_runOnce_112 (by decide) ?_
          exact j_zretC h rfl (by decide) fin dX8_runOnce_113
        · refine j_lload h dX8_runOnce_101 0 rfl ?_
          refine j_aload_n h dX8_runOnce_103 rfl 6 rfl ?_
          refine j_get (c := p2) (j := 1) (v := .int (q3.2.1 p2 1)) h (ph_S0n hS hp2) (ph_S0 hS hp2) rfl ph_inX9 rfl (by decide) tw_68 rfl rfl dX8_runOnce_104 ?_
          refine j_i2l h dX8_runOnce_107 ?_
          refine j_lcmp h dX8_runOnce_108 ?_
          refine j_if_lt h 114 dX8_runOnce_109 (by decide) ?_ ?_
          · refine j_iload h dX8_runOnce_114 2 rfl ?_
            refine j_if_ne h 134 dX8_runOnce_116 (by decide) ?_ ?_
            · refine j_aload_n h dX8_runOnce_134 rfl 6 rfl ?_
              refine j_lload h dX8_runOnce_135 0 rfl ?_
              refine j_l2i h dX8_runOnce_137 ?_
              refine j_lload h dX8_runOnce_138 1 rfl ?_
              refine j_l2i h dX8_runOnce_140 ?_
              refine j_aload h dX8_runOnce_141 7 rfl ?_
              refine j_callVi (n := 3) (As := [.int q3.1.toInt32, .int q2.1.toInt32, .ref (ad p3)]) (rest := []) h p2 tw_883 tw_884 tw_885 tw_3 tw_886 ydf9_tryRedeem (by decide) (by decide) (ph_S0n hS hp2) (ph_S0 hS hp2) rfl (fun q hq => cf9_tryRedeem (ph_okI h) hS hp2 hp3 hq) rfl (Nat.le_of_ble_eq_true rfl) rfl dX8_runOnce_143 (fun q4 => ?_)
              refine j_sub [3, 6, 0] rfl ?_
              exact jb_f8_runOnce_j146 h fin hS hp0 hp2 hp3 q3.1 q4.1 q4.2
            · refine j_aload_n h dX8_runOnce_119 rfl 6 rfl ?_
              refine j_lload h dX8_runOnce_120 0 rfl ?_
              refine j_l2i h dX8_runOnce_122 ?_
              refine j_lload h dX8_runOnce_123 1 rfl ?_
              refine j_l2i h dX8_runOnce_125 ?_
              refine j_aload h dX8_runOnce_126 7 rfl ?_
              refine j_callVi (n := 3) (As := [.int q3.1.toInt32, .int q2.1.toInt32, .ref (ad p3)]) (rest := []) h p2 tw_874 tw_875 tw_876 tw_3 tw_877 ydf9_tryPawn (by decide) (by decide) (ph_S0n hS hp2) (ph_S0 hS hp2) rfl (fun q hq => cf9_tryPawn (ph_okI h) hS hp2 hp3 hq) rfl (Nat.le_of_ble_eq_true rfl) rfl dX8_runOnce_128 (fun q5 => ?_)
              refine j_goto h 146 dX8_runOnce_131 (by decide) ?_
              refine j_sub [3, 6, 0] rfl ?_
              exact jb_f8_runOnce_j146 h fin hS hp0 hp2 hp3 q3.1 q5.1 q5.2
          · refine j_iconst (v := (0 : Int32)) h dX8_runOnce_112 (by decide) ?_
            exact j_zretC h rfl (by decide) fin dX8_runOnce_113
  · refine j_aload_n h dX8_runOnce_13 rfl 4 rfl ?_
    refine j_aload h dX8_runOnce_14 5 rfl ?_
    refine j_callVi (n := 1) (As := [.ref (ad p3)]) (rest := []) h p2 tw_861 tw_862 tw_863 tw_3 tw_864 ydf9_tryNextDay (by decide) (by decide) (ph_S0n hS hp2) (ph_S0 hS hp2) rfl (fun q hq => cf9_tryNextDay (ph_okI h) hS hp2 hp3 hq) rfl (Nat.le_of_ble_eq_true rfl) rfl dX8_runOnce_16 (fun q6 => ?_)
    refine j_istore h [(6, .int q6.1), (5, .int q1), (0, .ref (ad 70)), (1, .ref (ad p0)), (2, .int p1), (3, .ref (ad p2)), (4, .ref (ad p3))] dX8_runOnce_19 (by decide) rfl ?_
    refine j_aload_n h dX8_runOnce_21 rfl 5 rfl ?_
    refine j_get (c := p2) (j := 2) (v := .ref (ad (p2 + 1))) h (ph_S0n hS hp2) (ph_S0 hS hp2) rfl ph_inX9 rfl (by decide) tw_73 rfl rfl dX8_runOnce_22 ?_
    refine j_iconst (v := (0 : Int32)) h dX8_runOnce_25 (by decide) ?_
    refine j_aload_n h dX8_runOnce_26 rfl 2 rfl ?_
    refine j_get (c := 70) (j := 0) (v := .ref (ad 8)) h (ph_xlt hS (by decide)) (ph_kc70 hS) rfl ph_inX8 rfl (by decide) tw_223 rfl rfl dX8_runOnce_27 ?_
    refine j_get (c := 8) (j := 0) (v := .ref (ad 9)) h (ph_xlt hS (by decide)) (ph_kc8 hS) rfl ph_inX2 rfl (by decide) tw_37 rfl rfl dX8_runOnce_30 ?_
    refine j_iconst (v := (3 : Int32)) h dX8_runOnce_33 (by decide) ?_
    refine j_aload_n h dX8_runOnce_34 rfl 5 rfl ?_
    refine j_get (c := p2) (j := 1) (v := .int (q6.2.1 p2 1)) h (ph_S0n hS hp2) (ph_S0 hS hp2) rfl ph_inX9 rfl (by decide) tw_68 rfl rfl dX8_runOnce_35 ?_
    refine j_copy (a0 := (p2 + 1)) (a1 := 9) (n0 := 6) (n1 := 21) h (by decide) tw_872 tw_62 tw_61 tw_5 (ph_S1n hS hp2) (ph_S1 hS hp2) (ph_xlt hS (by decide)) (ph_kc9 hS) (Nat.le_of_ble_eq_true rfl) dX8_runOnce_38 ?_
    refine j_letM (fun M7 => ?_)
    refine j_iload h dX8_runOnce_41 0 rfl ?_
    refine j_bipush (v := (-3 : Int32)) h dX8_runOnce_43 (by decide) ?_
    refine j_icmp_eq h 52 dX8_runOnce_45 (by decide) ?_ ?_
    · refine j_iconst (v := (0 : Int32)) h dX8_runOnce_52 (by decide) ?_
      exact j_zretC h rfl (by decide) fin dX8_runOnce_53
    · refine j_iconst (v := (1 : Int32)) h dX8_runOnce_48 (by decide) ?_
      refine j_goto h 53 dX8_runOnce_49 (by decide) ?_
      exact j_zretC h rfl (by decide) fin dX8_runOnce_53
theorem dX8_run_0 : decode cX8_run 0 = .ok (.aload_n 0, 1) := by decide +kernel
theorem dX8_run_1 : decode cX8_run 1 = .ok (.iconst 0, 1) := by decide +kernel
theorem dX8_run_2 : decode cX8_run 2 = .ok (.putfield 18, 3) := by decide +kernel
theorem dX8_run_5 : decode cX8_run 5 = .ok (.aload_n 0, 1) := by decide +kernel
theorem dX8_run_6 : decode cX8_run 6 = .ok (.getfield 14, 3) := by decide +kernel
theorem dX8_run_9 : decode cX8_run 9 = .ok (.getfield 22, 3) := by decide +kernel
theorem dX8_run_12 : decode cX8_run 12 = .ok (.iconst 2, 1) := by decide +kernel
theorem dX8_run_13 : decode cX8_run 13 = .ok (.iconst (-1), 1) := by decide +kernel
theorem dX8_run_14 : decode cX8_run 14 = .ok (.iastore, 1) := by decide +kernel
theorem dX8_run_15 : decode cX8_run 15 = .ok (.iconst 0, 1) := by decide +kernel
theorem dX8_run_16 : decode cX8_run 16 = .ok (.istore 4, 2) := by decide +kernel
theorem dX8_run_18 : decode cX8_run 18 = .ok (.iload 4, 2) := by decide +kernel
theorem dX8_run_20 : decode cX8_run 20 = .ok (.bipush 6, 2) := by decide +kernel
theorem dX8_run_22 : decode cX8_run 22 = .ok (.if_icmp .ge 16, 3) := by decide +kernel
theorem dX8_run_25 : decode cX8_run 25 = .ok (.aload_n 0, 1) := by decide +kernel
theorem dX8_run_26 : decode cX8_run 26 = .ok (.aload_n 2, 1) := by decide +kernel
theorem dX8_run_27 : decode cX8_run 27 = .ok (.iload 4, 2) := by decide +kernel
theorem dX8_run_29 : decode cX8_run 29 = .ok (.invokevirtual 26, 3) := by decide +kernel
theorem dX8_run_32 : decode cX8_run 32 = .ok (.iinc 4 1, 3) := by decide +kernel
theorem dX8_run_35 : decode cX8_run 35 = .ok (.goto (-17), 3) := by decide +kernel
theorem dX8_run_38 : decode cX8_run 38 = .ok (.iconst 0, 1) := by decide +kernel
theorem dX8_run_39 : decode cX8_run 39 = .ok (.istore 4, 2) := by decide +kernel
theorem dX8_run_41 : decode cX8_run 41 = .ok (.iload 4, 2) := by decide +kernel
theorem dX8_run_43 : decode cX8_run 43 = .ok (.aload_n 1, 1) := by decide +kernel
theorem dX8_run_44 : decode cX8_run 44 = .ok (.getfield 30, 3) := by decide +kernel
theorem dX8_run_47 : decode cX8_run 47 = .ok (.if_icmp .ge 112, 3) := by decide +kernel
theorem dX8_run_50 : decode cX8_run 50 = .ok (.aload_n 1, 1) := by decide +kernel
theorem dX8_run_51 : decode cX8_run 51 = .ok (.iload 4, 2) := by decide +kernel
theorem dX8_run_53 : decode cX8_run 53 = .ok (.invokevirtual 35, 3) := by decide +kernel
theorem dX8_run_56 : decode cX8_run 56 = .ok (.istore 5, 2) := by decide +kernel
theorem dX8_run_58 : decode cX8_run 58 = .ok (.iconst 0, 1) := by decide +kernel
theorem dX8_run_59 : decode cX8_run 59 = .ok (.istore 6, 2) := by decide +kernel
theorem dX8_run_61 : decode cX8_run 61 = .ok (.iload 6, 2) := by decide +kernel
theorem dX8_run_63 : decode cX8_run 63 = .ok (.iload 5, 2) := by decide +kernel
theorem dX8_run_65 : decode cX8_run 65 = .ok (.if_icmp .ge 88, 3) := by decide +kernel
theorem dX8_run_68 : decode cX8_run 68 = .ok (.aload_n 0, 1) := by decide +kernel
theorem dX8_run_69 : decode cX8_run 69 = .ok (.getfield 14, 3) := by decide +kernel
theorem dX8_run_72 : decode cX8_run 72 = .ok (.getfield 22, 3) := by decide +kernel
theorem dX8_run_75 : decode cX8_run 75 = .ok (.iconst 0, 1) := by decide +kernel
theorem dX8_run_76 : decode cX8_run 76 = .ok (.aload_n 2, 1) := by decide +kernel
theorem dX8_run_77 : decode cX8_run 77 = .ok (.getfield 39, 3) := by decide +kernel
theorem dX8_run_80 : decode cX8_run 80 = .ok (.iconst 0, 1) := by decide +kernel
theorem dX8_run_81 : decode cX8_run 81 = .ok (.iaload, 1) := by decide +kernel
theorem dX8_run_82 : decode cX8_run 82 = .ok (.iastore, 1) := by decide +kernel
theorem dX8_run_83 : decode cX8_run 83 = .ok (.aload_n 0, 1) := by decide +kernel
theorem dX8_run_84 : decode cX8_run 84 = .ok (.getfield 14, 3) := by decide +kernel
theorem dX8_run_87 : decode cX8_run 87 = .ok (.getfield 22, 3) := by decide +kernel
theorem dX8_run_90 : decode cX8_run 90 = .ok (.iconst 1, 1) := by decide +kernel
theorem dX8_run_91 : decode cX8_run 91 = .ok (.aload_n 0, 1) := by decide +kernel
theorem dX8_run_92 : decode cX8_run 92 = .ok (.getfield 18, 3) := by decide +kernel
theorem dX8_run_95 : decode cX8_run 95 = .ok (.iastore, 1) := by decide +kernel
theorem dX8_run_96 : decode cX8_run 96 = .ok (.aload_n 1, 1) := by decide +kernel
theorem dX8_run_97 : decode cX8_run 97 = .ok (.iload 4, 2) := by decide +kernel
theorem dX8_run_99 : decode cX8_run 99 = .ok (.iconst 2, 1) := by decide +kernel
theorem dX8_run_100 : decode cX8_run 100 = .ok (.invokevirtual 44, 3) := by decide +kernel
theorem dX8_run_103 : decode cX8_run 103 = .ok (.ifCond .ne 19, 3) := by decide +kernel
theorem dX8_run_106 : decode cX8_run 106 = .ok (.aload_n 0, 1) := by decide +kernel
theorem dX8_run_107 : decode cX8_run 107 = .ok (.getfield 14, 3) := by decide +kernel
theorem dX8_run_110 : decode cX8_run 110 = .ok (.aload_n 1, 1) := by decide +kernel
theorem dX8_run_111 : decode cX8_run 111 = .ok (.iload 4, 2) := by decide +kernel
theorem dX8_run_113 : decode cX8_run 113 = .ok (.iconst 2, 1) := by decide +kernel
theorem dX8_run_114 : decode cX8_run 114 = .ok (.invokevirtual 48, 3) := by decide +kernel
theorem dX8_run_117 : decode cX8_run 117 = .ok (.lconst 1, 1) := by decide +kernel
theorem dX8_run_118 : decode cX8_run 118 = .ok (.lcmp, 1) := by decide +kernel
theorem dX8_run_119 : decode cX8_run 119 = .ok (.ifCond .ne 28, 3) := by decide +kernel
theorem dX8_run_122 : decode cX8_run 122 = .ok (.aload_n 0, 1) := by decide +kernel
theorem dX8_run_123 : decode cX8_run 123 = .ok (.aload_n 1, 1) := by decide +kernel
theorem dX8_run_124 : decode cX8_run 124 = .ok (.iload 4, 2) := by decide +kernel
theorem dX8_run_126 : decode cX8_run 126 = .ok (.aload_n 2, 1) := by decide +kernel
theorem dX8_run_127 : decode cX8_run 127 = .ok (.aload_n 3, 1) := by decide +kernel
theorem dX8_run_128 : decode cX8_run 128 = .ok (.invokevirtual 52, 3) := by decide +kernel
theorem dX8_run_131 : decode cX8_run 131 = .ok (.ifCond .ne 6, 3) := by decide +kernel
theorem dX8_run_134 : decode cX8_run 134 = .ok (.iload 4, 2) := by decide +kernel
theorem dX8_run_136 : decode cX8_run 136 = .ok (.ireturn, 1) := by decide +kernel
theorem dX8_run_137 : decode cX8_run 137 = .ok (.aload_n 0, 1) := by decide +kernel
theorem dX8_run_138 : decode cX8_run 138 = .ok (.dup, 1) := by decide +kernel
theorem dX8_run_139 : decode cX8_run 139 = .ok (.getfield 18, 3) := by decide +kernel
theorem dX8_run_142 : decode cX8_run 142 = .ok (.iconst 1, 1) := by decide +kernel
theorem dX8_run_143 : decode cX8_run 143 = .ok (.iadd, 1) := by decide +kernel
theorem dX8_run_144 : decode cX8_run 144 = .ok (.putfield 18, 3) := by decide +kernel
theorem dX8_run_147 : decode cX8_run 147 = .ok (.iinc 6 1, 3) := by decide +kernel
theorem dX8_run_150 : decode cX8_run 150 = .ok (.goto (-89), 3) := by decide +kernel
theorem dX8_run_153 : decode cX8_run 153 = .ok (.iinc 4 1, 3) := by decide +kernel
theorem dX8_run_156 : decode cX8_run 156 = .ok (.goto (-115), 3) := by decide +kernel
theorem dX8_run_159 : decode cX8_run 159 = .ok (.iconst (-1), 1) := by decide +kernel
theorem dX8_run_160 : decode cX8_run 160 = .ok (.ireturn, 1) := by decide +kernel
def f8_run_j147 (S : ph_Sh) (p0 : Nat) (p1 : Nat) (p2 : Nat) (rc41 : Int32 → ph_Mem → Option (Int32 × ph_Mem)) (rc61 : Int32 → Int32 → Int32 → ph_Mem → Option (Int32 × ph_Mem)) (x4 : Int32) (x5 : Int32) (x6 : Int32) (M : ph_Mem) : Option (Int32 × ph_Mem) :=
  rc61 x4 x5 (x6 + (1 : Int32)) M
set_option maxHeartbeats 4000000 in
theorem jb_f8_run_j147 {tb adK adV : Nat → Nat} {S : ph_Sh} {p0 : Nat} {p1 : Nat} {p2 : Nat} {X : ph_X} {ad : Nat → Nat} {o : (Int32 × ph_Mem)} (h : ph_ok (ph_ZX tb adK adV) X cX8_run RX8 (some .int) 7 5 S.2 ad) (fin : ph_fin X S.1 S.2 ad (some (.int o.1)) o.2) (hS : ph_SX S) (hp0 : ph_isP S p0) (hp1 : ph_isS p1) (hp2 : ph_isL p2) {rc41 : Int32 → ph_Mem → Option (Int32 × ph_Mem)} (hrc41 : ∀ (x4 : Int32) (M : ph_Mem), ph_J X S.1 S.2 ad o 41 [(0, .ref (ad 70)), (1, .ref (ad p0)), (2, .ref (ad p1)), (3, .ref (ad p2)), (4, .int x4)] [] M (rc41 x4 M)) {rc61 : Int32 → Int32 → Int32 → ph_Mem → Option (Int32 × ph_Mem)} (hrc61 : ∀ (x4 : Int32) (x5 : Int32) (x6 : Int32) (M : ph_Mem), ph_J X S.1 S.2 ad o 61 [(0, .ref (ad 70)), (1, .ref (ad p0)), (2, .ref (ad p1)), (3, .ref (ad p2)), (4, .int x4), (5, .int x5), (6, .int x6)] [] M (rc61 x4 x5 x6 M)) : ∀ (x4 : Int32) (x5 : Int32) (x6 : Int32) (M : ph_Mem), ph_J X S.1 S.2 ad o 147 [(0, .ref (ad 70)), (1, .ref (ad p0)), (2, .ref (ad p1)), (3, .ref (ad p2)), (4, .int x4), (5, .int x5), (6, .int x6)] [] M (f8_run_j147 S p0 p1 p2 rc41 rc61 x4 x5 x6 M) := by
  intro x4 x5 x6 M
  unfold f8_run_j147
  refine j_iinc h [(6, .int (x6 + (1 : Int32))), (0, .ref (ad 70)), (1, .ref (ad p0)), (2, .ref (ad p1)), (3, .ref (ad p2)), (4, .int x4), (5, .int x5)] dX8_run_147 6 rfl rfl (by decide) rfl ?_
  refine j_goto h 61 dX8_run_150 (by decide) ?_
  refine j_sub [1, 2, 3, 4, 5, 6, 0] rfl ?_
  exact hrc61 x4 x5 (x6 + (1 : Int32)) M
def f8_run_j122 (S : ph_Sh) (p0 : Nat) (p1 : Nat) (p2 : Nat) (rc41 : Int32 → ph_Mem → Option (Int32 × ph_Mem)) (rc61 : Int32 → Int32 → Int32 → ph_Mem → Option (Int32 × ph_Mem)) (x4 : Int32) (x5 : Int32) (x6 : Int32) (M : ph_Mem) : Option (Int32 × ph_Mem) :=
  (f8_runOnce S M p0 x4 p1 p2).bind fun q9 => if q9.1 = 0 then (some (x4, q9.2)) else (ph_let (ph_wi q9.2 70 1 ((q9.2.1 70 1) + (1 : Int32))) fun M10 => f8_run_j147 S p0 p1 p2 rc41 rc61 x4 x5 x6 M10)
set_option maxHeartbeats 4000000 in
theorem jb_f8_run_j122 {tb adK adV : Nat → Nat} {S : ph_Sh} {p0 : Nat} {p1 : Nat} {p2 : Nat} {X : ph_X} {ad : Nat → Nat} {o : (Int32 × ph_Mem)} (h : ph_ok (ph_ZX tb adK adV) X cX8_run RX8 (some .int) 7 5 S.2 ad) (fin : ph_fin X S.1 S.2 ad (some (.int o.1)) o.2) (hS : ph_SX S) (hp0 : ph_isP S p0) (hp1 : ph_isS p1) (hp2 : ph_isL p2) {rc41 : Int32 → ph_Mem → Option (Int32 × ph_Mem)} (hrc41 : ∀ (x4 : Int32) (M : ph_Mem), ph_J X S.1 S.2 ad o 41 [(0, .ref (ad 70)), (1, .ref (ad p0)), (2, .ref (ad p1)), (3, .ref (ad p2)), (4, .int x4)] [] M (rc41 x4 M)) {rc61 : Int32 → Int32 → Int32 → ph_Mem → Option (Int32 × ph_Mem)} (hrc61 : ∀ (x4 : Int32) (x5 : Int32) (x6 : Int32) (M : ph_Mem), ph_J X S.1 S.2 ad o 61 [(0, .ref (ad 70)), (1, .ref (ad p0)), (2, .ref (ad p1)), (3, .ref (ad p2)), (4, .int x4), (5, .int x5), (6, .int x6)] [] M (rc61 x4 x5 x6 M)) : ∀ (x4 : Int32) (x5 : Int32) (x6 : Int32) (M : ph_Mem), ph_J X S.1 S.2 ad o 122 [(0, .ref (ad 70)), (1, .ref (ad p0)), (2, .ref (ad p1)), (3, .ref (ad p2)), (4, .int x4), (5, .int x5), (6, .int x6)] [] M (f8_run_j122 S p0 p1 p2 rc41 rc61 x4 x5 x6 M) := by
  intro x4 x5 x6 M
  unfold f8_run_j122
  refine j_aload_n h dX8_run_122 rfl 0 rfl ?_
  refine j_aload_n h dX8_run_123 rfl 1 rfl ?_
  refine j_iload h dX8_run_124 4 rfl ?_
  refine j_aload_n h dX8_run_126 rfl 2 rfl ?_
  refine j_aload_n h dX8_run_127 rfl 3 rfl ?_
  refine j_callVi (n := 4) (As := [.ref (ad p0), .int x4, .ref (ad p1), .ref (ad p2)]) (rest := []) h 70 tw_856 tw_858 tp_30 tw_8 tw_859 ydf8_runOnce (by decide) (by decide) (ph_xlt hS (by decide)) (ph_kc70 hS) rfl (fun q hq => cf8_runOnce (ph_okI h) hS hp0 hp1 hp2 hq) rfl (Nat.le_of_ble_eq_true rfl) rfl dX8_run_128 (fun q9 => ?_)
  refine j_if_ne h 137 dX8_run_131 (by decide) ?_ ?_
  · refine j_aload_n h dX8_run_137 rfl 0 rfl ?_
    refine j_dup h dX8_run_138 rfl ?_
    refine j_get (c := 70) (j := 1) (v := .int (q9.2.1 70 1)) h (ph_xlt hS (by decide)) (ph_kc70 hS) rfl ph_inX8 rfl (by decide) tw_224 rfl rfl dX8_run_139 ?_
    refine j_iconst (v := (1 : Int32)) h dX8_run_142 (by decide) ?_
    refine j_iadd h dX8_run_143 ?_
    refine j_puti (c := 70) (j := 1) (ty := .int) h (ph_xlt hS (by decide)) (ph_kc70 hS) rfl ph_inX8 tyX8 tyX8_ok nmX8 rfl (by decide) tw_224 rfl rfl (tyX8_ok 1 (by decide)) rfl rfl dX8_run_144 ?_
    refine j_letM (fun M10 => ?_)
    refine j_sub [0, 1, 2, 3, 4, 5, 6] rfl ?_
    exact jb_f8_run_j147 h fin hS hp0 hp1 hp2 hrc41 hrc61 x4 x5 x6 M10
  · refine j_iload h dX8_run_134 4 rfl ?_
    exact j_iret h rfl fin dX8_run_136
def f8_run_j153 (S : ph_Sh) (p0 : Nat) (p1 : Nat) (p2 : Nat) (rc41 : Int32 → ph_Mem → Option (Int32 × ph_Mem)) (x4 : Int32) (M : ph_Mem) : Option (Int32 × ph_Mem) :=
  rc41 (x4 + (1 : Int32)) M
set_option maxHeartbeats 4000000 in
theorem jb_f8_run_j153 {tb adK adV : Nat → Nat} {S : ph_Sh} {p0 : Nat} {p1 : Nat} {p2 : Nat} {X : ph_X} {ad : Nat → Nat} {o : (Int32 × ph_Mem)} (h : ph_ok (ph_ZX tb adK adV) X cX8_run RX8 (some .int) 7 5 S.2 ad) (fin : ph_fin X S.1 S.2 ad (some (.int o.1)) o.2) (hS : ph_SX S) (hp0 : ph_isP S p0) (hp1 : ph_isS p1) (hp2 : ph_isL p2) {rc41 : Int32 → ph_Mem → Option (Int32 × ph_Mem)} (hrc41 : ∀ (x4 : Int32) (M : ph_Mem), ph_J X S.1 S.2 ad o 41 [(0, .ref (ad 70)), (1, .ref (ad p0)), (2, .ref (ad p1)), (3, .ref (ad p2)), (4, .int x4)] [] M (rc41 x4 M)) : ∀ (x4 : Int32) (M : ph_Mem), ph_J X S.1 S.2 ad o 153 [(0, .ref (ad 70)), (1, .ref (ad p0)), (2, .ref (ad p1)), (3, .ref (ad p2)), (4, .int x4)] [] M (f8_run_j153 S p0 p1 p2 rc41 x4 M) := by
  intro x4 M
  unfold f8_run_j153
  refine j_iinc h [(4, .int (x4 + (1 : Int32))), (0, .ref (ad 70)), (1, .ref (ad p0)), (2, .ref (ad p1)), (3, .ref (ad p2))] dX8_run_153 4 rfl rfl (by decide) rfl ?_
  refine j_goto h 41 dX8_run_156 (by decide) ?_
  refine j_sub [1, 2, 3, 4, 0] rfl ?_
  exact hrc41 (x4 + (1 : Int32)) M
def f8_run_l61 (S : ph_Sh) (p0 : Nat) (p1 : Nat) (p2 : Nat) (rc41 : Int32 → ph_Mem → Option (Int32 × ph_Mem)) : Nat → Int32 → Int32 → Int32 → ph_Mem → Option (Int32 × ph_Mem)
  | 0, _, _, _, _ => none
  | n + 1, x4, x5, x6, M => if x5 ≤ x6 then (f8_run_j153 S p0 p1 p2 rc41 x4 M) else (ph_let (ph_wi M 9 0 (M.1 (p1 + 10) 0)) fun M5 => ph_let (ph_wi M5 9 1 (M5.1 70 1)) fun M6 => (f4_isEmpty S M6 p0 x4 (2 : Int32)).bind fun q7 => if q7 = 0 then ((f2_value S M6 8 p0 x4 (2 : Int32)).bind fun q8 => if (lg_cmp q8.1 (1 : Int64)) = 0 then (f8_run_j122 S p0 p1 p2 rc41 (f8_run_l61 S p0 p1 p2 rc41 n) x4 x5 x6 q8.2) else (f8_run_j147 S p0 p1 p2 rc41 (f8_run_l61 S p0 p1 p2 rc41 n) x4 x5 x6 q8.2)) else (f8_run_j122 S p0 p1 p2 rc41 (f8_run_l61 S p0 p1 p2 rc41 n) x4 x5 x6 M6))
set_option maxHeartbeats 4000000 in
theorem jb_f8_run_l61 {tb adK adV : Nat → Nat} {S : ph_Sh} {p0 : Nat} {p1 : Nat} {p2 : Nat} {X : ph_X} {ad : Nat → Nat} {o : (Int32 × ph_Mem)} (h : ph_ok (ph_ZX tb adK adV) X cX8_run RX8 (some .int) 7 5 S.2 ad) (fin : ph_fin X S.1 S.2 ad (some (.int o.1)) o.2) (hS : ph_SX S) (hp0 : ph_isP S p0) (hp1 : ph_isS p1) (hp2 : ph_isL p2) {rc41 : Int32 → ph_Mem → Option (Int32 × ph_Mem)} (hrc41 : ∀ (x4 : Int32) (M : ph_Mem), ph_J X S.1 S.2 ad o 41 [(0, .ref (ad 70)), (1, .ref (ad p0)), (2, .ref (ad p1)), (3, .ref (ad p2)), (4, .int x4)] [] M (rc41 x4 M)) : ∀ (n : Nat) (x4 : Int32) (x5 : Int32) (x6 : Int32) (M : ph_Mem), ph_J X S.1 S.2 ad o 61 [(0, .ref (ad 70)), (1, .ref (ad p0)), (2, .ref (ad p1)), (3, .ref (ad p2)), (4, .int x4), (5, .int x5), (6, .int x6)] [] M (f8_run_l61 S p0 p1 p2 rc41 n x4 x5 x6 M) := by
  intro n
  induction n with
  | zero => intro x4 x5 x6 M; exact j_none
  | succ n hrc61 =>
    intro x4 x5 x6 M
    unfold f8_run_l61
    refine j_iload h dX8_run_61 6 rfl ?_
    refine j_iload h dX8_run_63 5 rfl ?_
    refine j_icmp_ge h 153 dX8_run_65 (by decide) ?_ ?_
    · refine j_sub [0, 1, 2, 3, 4] rfl ?_
      exact jb_f8_run_j153 h fin hS hp0 hp1 hp2 hrc41 x4 M
    · refine j_aload_n h dX8_run_68 rfl 0 rfl ?_
      refine j_get (c := 70) (j := 0) (v := .ref (ad 8)) h (ph_xlt hS (by decide)) (ph_kc70 hS) rfl ph_inX8 rfl (by decide) tw_223 rfl rfl dX8_run_69 ?_
      refine j_get (c := 8) (j := 0) (v := .ref (ad 9)) h (ph_xlt hS (by decide)) (ph_kc8 hS) rfl ph_inX2 rfl (by decide) tw_37 rfl rfl dX8_run_72 ?_
      refine j_iconst (v := (0 : Int32)) h dX8_run_75 (by decide) ?_
      refine j_aload_n h dX8_run_76 rfl 2 rfl ?_
      refine j_get (c := p1) (j := 11) (v := .ref (ad (p1 + 10))) h (ph_S0n hS hp1) (ph_S0 hS hp1) rfl ph_inX9 rfl (by decide) tw_100 rfl rfl dX8_run_77 ?_
      refine j_iconst (v := (0 : Int32)) h dX8_run_80 (by decide) ?_
      refine j_ialdK (c := (p1 + 10)) (n := 5) (kn := 0) h (ph_S10n hS hp1) (ph_S10 hS hp1) rfl (by decide) dX8_run_81 ?_
      refine j_iastK (c := 9) (n := 21) (kn := 0) h (ph_xlt hS (by decide)) (ph_kc9 hS) rfl (by decide) dX8_run_82 ?_
      refine j_letM (fun M5 => ?_)
      refine j_aload_n h dX8_run_83 rfl 0 rfl ?_
      refine j_get (c := 70) (j := 0) (v := .ref (ad 8)) h (ph_xlt hS (by decide)) (ph_kc70 hS) rfl ph_inX8 rfl (by decide) tw_223 rfl rfl dX8_run_84 ?_
      refine j_get (c := 8) (j := 0) (v := .ref (ad 9)) h (ph_xlt hS (by decide)) (ph_kc8 hS) rfl ph_inX2 rfl (by decide) tw_37 rfl rfl dX8_run_87 ?_
      refine j_iconst (v := (1 : Int32)) h dX8_run_90 (by decide) ?_
      refine j_aload_n h dX8_run_91 rfl 0 rfl ?_
      refine j_get (c := 70) (j := 1) (v := .int (M5.1 70 1)) h (ph_xlt hS (by decide)) (ph_kc70 hS) rfl ph_inX8 rfl (by decide) tw_224 rfl rfl dX8_run_92 ?_
      refine j_iastK (c := 9) (n := 21) (kn := 1) h (ph_xlt hS (by decide)) (ph_kc9 hS) rfl (by decide) dX8_run_95 ?_
      refine j_letM (fun M6 => ?_)
      refine j_aload_n h dX8_run_96 rfl 1 rfl ?_
      refine j_iload h dX8_run_97 4 rfl ?_
      refine j_iconst (v := (2 : Int32)) h dX8_run_99 (by decide) ?_
      refine j_callViP (n := 2) (As := [.int x4, .int (2 : Int32)]) (rest := []) h p0 tw_854 tw_491 tw_492 tw_21 tw_493 ydf4_isEmpty (by decide) (by decide) (ph_P0n hS hp0) (ph_P0 hS hp0) rfl (fun q hq => cf4_isEmpty (ph_okI h) hS hp0 hq) rfl (Nat.le_of_ble_eq_true rfl) rfl dX8_run_100 (fun q7 => ?_)
      refine j_if_ne h 122 dX8_run_103 (by decide) ?_ ?_
      · refine j_sub [0, 1, 2, 3, 4, 5, 6] rfl ?_
        exact jb_f8_run_j122 h fin hS hp0 hp1 hp2 hrc41 hrc61 x4 x5 x6 M6
      · refine j_aload_n h dX8_run_106 rfl 0 rfl ?_
        refine j_get (c := 70) (j := 0) (v := .ref (ad 8)) h (ph_xlt hS (by decide)) (ph_kc70 hS) rfl ph_inX8 rfl (by decide) tw_223 rfl rfl dX8_run_107 ?_
        refine j_aload_n h dX8_run_110 rfl 1 rfl ?_
        refine j_iload h dX8_run_111 4 rfl ?_
        refine j_iconst (v := (2 : Int32)) h dX8_run_113 (by decide) ?_
        refine j_callVl (n := 3) (As := [.ref (ad p0), .int x4, .int (2 : Int32)]) (rest := []) h 8 tw_855 tw_503 tw_504 tw_2 tw_505 ydf2_value (by decide) (by decide) (ph_xlt hS (by decide)) (ph_kc8 hS) rfl (fun q hq => cf2_value (ph_okI h) hS (by decide) hp0 hq) rfl (Nat.le_of_ble_eq_true rfl) rfl dX8_run_114 (fun q8 => ?_)
        refine j_lconst (v := (1 : Int64)) h dX8_run_117 (by decide) ?_
        refine j_lcmp h dX8_run_118 ?_
        refine j_if_ne h 147 dX8_run_119 (by decide) ?_ ?_
        · refine j_sub [0, 1, 2, 3, 4, 5, 6] rfl ?_
          exact jb_f8_run_j147 h fin hS hp0 hp1 hp2 hrc41 hrc61 x4 x5 x6 q8.2
        · refine j_sub [0, 1, 2, 3, 4, 5, 6] rfl ?_
          exact jb_f8_run_j122 h fin hS hp0 hp1 hp2 hrc41 hrc61 x4 x5 x6 q8.2
def f8_run_l41 (S : ph_Sh) (p0 : Nat) (p1 : Nat) (p2 : Nat) : Nat → Int32 → ph_Mem → Option (Int32 × ph_Mem)
  | 0, _, _ => none
  | n + 1, x4, M => if (M.1 p0 0) ≤ x4 then (some ((-1 : Int32), M)) else ((f4_timesOf S M p0 x4).bind fun q4 => f8_run_l61 S p0 p1 p2 (f8_run_l41 S p0 p1 p2 n) 10000 x4 q4 (0 : Int32) M)
set_option maxHeartbeats 4000000 in
theorem jb_f8_run_l41 {tb adK adV : Nat → Nat} {S : ph_Sh} {p0 : Nat} {p1 : Nat} {p2 : Nat} {X : ph_X} {ad : Nat → Nat} {o : (Int32 × ph_Mem)} (h : ph_ok (ph_ZX tb adK adV) X cX8_run RX8 (some .int) 7 5 S.2 ad) (fin : ph_fin X S.1 S.2 ad (some (.int o.1)) o.2) (hS : ph_SX S) (hp0 : ph_isP S p0) (hp1 : ph_isS p1) (hp2 : ph_isL p2) : ∀ (n : Nat) (x4 : Int32) (M : ph_Mem), ph_J X S.1 S.2 ad o 41 [(0, .ref (ad 70)), (1, .ref (ad p0)), (2, .ref (ad p1)), (3, .ref (ad p2)), (4, .int x4)] [] M (f8_run_l41 S p0 p1 p2 n x4 M) := by
  intro n
  induction n with
  | zero => intro x4 M; exact j_none
  | succ n hrc41 =>
    intro x4 M
    unfold f8_run_l41
    refine j_iload h dX8_run_41 4 rfl ?_
    refine j_aload_n h dX8_run_43 rfl 1 rfl ?_
    refine j_get (c := p0) (j := 0) (v := .int (M.1 p0 0)) h (ph_P0n hS hp0) (ph_P0 hS hp0) rfl ph_inX4 rfl (by decide) tw_812 rfl rfl dX8_run_44 ?_
    refine j_icmp_ge h 159 dX8_run_47 (by decide) ?_ ?_
    · refine j_iconst (v := (-1 : Int32)) h dX8_run_159 (by decide) ?_
      exact j_iret h rfl fin dX8_run_160
    · refine j_aload_n h dX8_run_50 rfl 1 rfl ?_
      refine j_iload h dX8_run_51 4 rfl ?_
      refine j_callViP (n := 1) (As := [.int x4]) (rest := []) h p0 tw_850 tw_851 tw_852 tw_21 tw_853 ydf4_timesOf (by decide) (by decide) (ph_P0n hS hp0) (ph_P0 hS hp0) rfl (fun q hq => cf4_timesOf (ph_okI h) hS hp0 hq) rfl (Nat.le_of_ble_eq_true rfl) rfl dX8_run_53 (fun q4 => ?_)
      refine j_istore h [(5, .int q4), (0, .ref (ad 70)), (1, .ref (ad p0)), (2, .ref (ad p1)), (3, .ref (ad p2)), (4, .int x4)] dX8_run_56 (by decide) rfl ?_
      refine j_iconst (v := (0 : Int32)) h dX8_run_58 (by decide) ?_
      refine j_istore h [(6, .int (0 : Int32)), (5, .int q4), (0, .ref (ad 70)), (1, .ref (ad p0)), (2, .ref (ad p1)), (3, .ref (ad p2)), (4, .int x4)] dX8_run_59 (by decide) rfl ?_
      refine j_sub [2, 3, 4, 5, 6, 1, 0] rfl ?_
      exact jb_f8_run_l61 h fin hS hp0 hp1 hp2 hrc41 10000 x4 q4 (0 : Int32) M
def f8_run_j38 (S : ph_Sh) (p0 : Nat) (p1 : Nat) (p2 : Nat) (M : ph_Mem) : Option (Int32 × ph_Mem) :=
  f8_run_l41 S p0 p1 p2 10000 (0 : Int32) M
set_option maxHeartbeats 4000000 in
theorem jb_f8_run_j38 {tb adK adV : Nat → Nat} {S : ph_Sh} {p0 : Nat} {p1 : Nat} {p2 : Nat} {X : ph_X} {ad : Nat → Nat} {o : (Int32 × ph_Mem)} (h : ph_ok (ph_ZX tb adK adV) X cX8_run RX8 (some .int) 7 5 S.2 ad) (fin : ph_fin X S.1 S.2 ad (some (.int o.1)) o.2) (hS : ph_SX S) (hp0 : ph_isP S p0) (hp1 : ph_isS p1) (hp2 : ph_isL p2) : ∀ (M : ph_Mem), ph_J X S.1 S.2 ad o 38 [(0, .ref (ad 70)), (1, .ref (ad p0)), (2, .ref (ad p1)), (3, .ref (ad p2))] [] M (f8_run_j38 S p0 p1 p2 M) := by
  intro M
  unfold f8_run_j38
  refine j_iconst (v := (0 : Int32)) h dX8_run_38 (by decide) ?_
  refine j_istore h [(4, .int (0 : Int32)), (0, .ref (ad 70)), (1, .ref (ad p0)), (2, .ref (ad p1)), (3, .ref (ad p2))] dX8_run_39 (by decide) rfl ?_
  refine j_sub [1, 2, 3, 4, 0] rfl ?_
  exact jb_f8_run_l41 h fin hS hp0 hp1 hp2 10000 (0 : Int32) M
def f8_run_l18 (S : ph_Sh) (p0 : Nat) (p1 : Nat) (p2 : Nat) : Nat → Int32 → ph_Mem → Option (Int32 × ph_Mem)
  | 0, _, _ => none
  | n + 1, x4, M => if (6 : Int32) ≤ x4 then (f8_run_j38 S p0 p1 p2  M) else ((f8_look S M p1 x4).bind fun q3 => (f8_run_l18 S p0 p1 p2 n) (x4 + (1 : Int32)) q3)
set_option maxHeartbeats 4000000 in
theorem jb_f8_run_l18 {tb adK adV : Nat → Nat} {S : ph_Sh} {p0 : Nat} {p1 : Nat} {p2 : Nat} {X : ph_X} {ad : Nat → Nat} {o : (Int32 × ph_Mem)} (h : ph_ok (ph_ZX tb adK adV) X cX8_run RX8 (some .int) 7 5 S.2 ad) (fin : ph_fin X S.1 S.2 ad (some (.int o.1)) o.2) (hS : ph_SX S) (hp0 : ph_isP S p0) (hp1 : ph_isS p1) (hp2 : ph_isL p2) : ∀ (n : Nat) (x4 : Int32) (M : ph_Mem), ph_J X S.1 S.2 ad o 18 [(0, .ref (ad 70)), (1, .ref (ad p0)), (2, .ref (ad p1)), (3, .ref (ad p2)), (4, .int x4)] [] M (f8_run_l18 S p0 p1 p2 n x4 M) := by
  intro n
  induction n with
  | zero => intro x4 M; exact j_none
  | succ n hrc18 =>
    intro x4 M
    unfold f8_run_l18
    refine j_iload h dX8_run_18 4 rfl ?_
    refine j_bipush (v := (6 : Int32)) h dX8_run_20 (by decide) ?_
    refine j_icmp_ge h 38 dX8_run_22 (by decide) ?_ ?_
    · refine j_sub [0, 1, 2, 3] rfl ?_
      exact jb_f8_run_j38 h fin hS hp0 hp1 hp2  M
    · refine j_aload_n h dX8_run_25 rfl 0 rfl ?_
      refine j_aload_n h dX8_run_26 rfl 2 rfl ?_
      refine j_iload h dX8_run_27 4 rfl ?_
      refine j_callVv (n := 2) (As := [.ref (ad p1), .int x4]) (rest := []) h 70 tw_842 tw_844 tp_29 tw_8 tw_845 ydf8_look (by decide) (by decide) (ph_xlt hS (by decide)) (ph_kc70 hS) rfl (fun q hq => cf8_look (ph_okI h) hS hp1 hq) rfl (Nat.le_of_ble_eq_true rfl) rfl dX8_run_29 (fun q3 => ?_)
      refine j_iinc h [(4, .int (x4 + (1 : Int32))), (0, .ref (ad 70)), (1, .ref (ad p0)), (2, .ref (ad p1)), (3, .ref (ad p2))] dX8_run_32 4 rfl rfl (by decide) rfl ?_
      refine j_goto h 18 dX8_run_35 (by decide) ?_
      refine j_sub [1, 2, 3, 4, 0] rfl ?_
      exact hrc18 (x4 + (1 : Int32)) q3
theorem ydf8_run : ph_yd yX8_run 3 := ⟨by decide, by decide, by decide +kernel⟩
def f8_run (S : ph_Sh) (M : ph_Mem) (p0 : Nat) (p1 : Nat) (p2 : Nat) : Option (Int32 × ph_Mem) :=
  ph_let (ph_wi M 70 1 (0 : Int32)) fun M1 => ph_let (ph_wi M1 9 2 (-1 : Int32)) fun M2 => f8_run_l18 S p0 p1 p2 10000 (0 : Int32) M2
set_option maxHeartbeats 4000000 in
theorem cf8_run {tb adK adV : Nat → Nat} {S : ph_Sh} {p0 : Nat} {p1 : Nat} {p2 : Nat} {l : Launch} {D : va_G} {cA : Nat → ClassId} {ad : Nat → Nat} (hinj : ∀ i j, i < S.2 → j < S.2 → ad i = ad j → i = j) (hS : ph_SX S) (hp0 : ph_isP S p0) (hp1 : ph_isS p1) (hp2 : ph_isL p2) {M : ph_Mem} {r : Int32} {M' : ph_Mem} (hf : f8_run S M p0 p1 p2 = some (r, M')) : ph_C (ph_ZX tb adK adV) l 5 yX8_run cX8_run 7 (some .int) D cA S.1 S.2 ad [.ref (ad 70), .ref (ad p0), .ref (ad p1), .ref (ad p2)] M (some (.int r)) M' := by
  refine ph_mk ph_ZX_ok hinj (by decide) (Nat.le_of_ble_eq_true rfl) fun X h fin hE => ?_
  refine (?_ : ph_J X S.1 S.2 ad ((r, M') : (Int32 × ph_Mem)) 0 [(0, .ref (ad 70)), (1, .ref (ad p0)), (2, .ref (ad p1)), (3, .ref (ad p2))] [] M (f8_run S M p0 p1 p2)) hf
  unfold f8_run
  refine j_aload_n h dX8_run_0 rfl 0 rfl ?_
  refine j_iconst (v := (0 : Int32)) h dX8_run_1 (by decide) ?_
  refine j_puti (c := 70) (j := 1) (ty := .int) h (ph_xlt hS (by decide)) (ph_kc70 hS) rfl ph_inX8 tyX8 tyX8_ok nmX8 rfl (by decide) tw_224 rfl rfl (tyX8_ok 1 (by decide)) rfl rfl dX8_run_2 ?_
  refine j_letM (fun M1 => ?_)
  refine j_aload_n h dX8_run_5 rfl 0 rfl ?_
  refine j_get (c := 70) (j := 0) (v := .ref (ad 8)) h (ph_xlt hS (by decide)) (ph_kc70 hS) rfl ph_inX8 rfl (by decide) tw_223 rfl rfl dX8_run_6 ?_
  refine j_get (c := 8) (j := 0) (v := .ref (ad 9)) h (ph_xlt hS (by decide)) (ph_kc8 hS) rfl ph_inX2 rfl (by decide) tw_37 rfl rfl dX8_run_9 ?_
  refine j_iconst (v := (2 : Int32)) h dX8_run_12 (by decide) ?_
  refine j_iconst (v := (-1 : Int32)) h dX8_run_13 (by decide) ?_
  refine j_iastK (c := 9) (n := 21) (kn := 2) h (ph_xlt hS (by decide)) (ph_kc9 hS) rfl (by decide) dX8_run_14 ?_
  refine j_letM (fun M2 => ?_)
  refine j_iconst (v := (0 : Int32)) h dX8_run_15 (by decide) ?_
  refine j_istore h [(4, .int (0 : Int32)), (0, .ref (ad 70)), (1, .ref (ad p0)), (2, .ref (ad p1)), (3, .ref (ad p2))] dX8_run_16 (by decide) rfl ?_
  refine j_sub [1, 2, 3, 4, 0] rfl ?_
  exact jb_f8_run_l18 h fin hS hp0 hp1 hp2 10000 (0 : Int32) M2
theorem dX9_copyFrom_0 : decode cX9_copyFrom 0 = .ok (.aload_n 0, 1) := by decide +kernel
theorem dX9_copyFrom_1 : decode cX9_copyFrom 1 = .ok (.aload_n 1, 1) := by decide +kernel
theorem dX9_copyFrom_2 : decode cX9_copyFrom 2 = .ok (.getfield 71, 3) := by decide +kernel
theorem dX9_copyFrom_5 : decode cX9_copyFrom 5 = .ok (.putfield 71, 3) := by decide +kernel
theorem dX9_copyFrom_8 : decode cX9_copyFrom 8 = .ok (.aload_n 1, 1) := by decide +kernel
theorem dX9_copyFrom_9 : decode cX9_copyFrom 9 = .ok (.getfield 9, 3) := by decide +kernel
theorem dX9_copyFrom_12 : decode cX9_copyFrom 12 = .ok (.iconst 0, 1) := by decide +kernel
theorem dX9_copyFrom_13 : decode cX9_copyFrom 13 = .ok (.aload_n 0, 1) := by decide +kernel
theorem dX9_copyFrom_14 : decode cX9_copyFrom 14 = .ok (.getfield 9, 3) := by decide +kernel
theorem dX9_copyFrom_17 : decode cX9_copyFrom 17 = .ok (.iconst 0, 1) := by decide +kernel
theorem dX9_copyFrom_18 : decode cX9_copyFrom 18 = .ok (.bipush 6, 2) := by decide +kernel
theorem dX9_copyFrom_20 : decode cX9_copyFrom 20 = .ok (.invokestatic 61, 3) := by decide +kernel
theorem dX9_copyFrom_23 : decode cX9_copyFrom 23 = .ok (.aload_n 1, 1) := by decide +kernel
theorem dX9_copyFrom_24 : decode cX9_copyFrom 24 = .ok (.getfield 15, 3) := by decide +kernel
theorem dX9_copyFrom_27 : decode cX9_copyFrom 27 = .ok (.iconst 0, 1) := by decide +kernel
theorem dX9_copyFrom_28 : decode cX9_copyFrom 28 = .ok (.aload_n 0, 1) := by decide +kernel
theorem dX9_copyFrom_29 : decode cX9_copyFrom 29 = .ok (.getfield 15, 3) := by decide +kernel
theorem dX9_copyFrom_32 : decode cX9_copyFrom 32 = .ok (.iconst 0, 1) := by decide +kernel
theorem dX9_copyFrom_33 : decode cX9_copyFrom 33 = .ok (.bipush 72, 2) := by decide +kernel
theorem dX9_copyFrom_35 : decode cX9_copyFrom 35 = .ok (.invokestatic 61, 3) := by decide +kernel
theorem dX9_copyFrom_38 : decode cX9_copyFrom 38 = .ok (.aload_n 1, 1) := by decide +kernel
theorem dX9_copyFrom_39 : decode cX9_copyFrom 39 = .ok (.getfield 18, 3) := by decide +kernel
theorem dX9_copyFrom_42 : decode cX9_copyFrom 42 = .ok (.iconst 0, 1) := by decide +kernel
theorem dX9_copyFrom_43 : decode cX9_copyFrom 43 = .ok (.aload_n 0, 1) := by decide +kernel
theorem dX9_copyFrom_44 : decode cX9_copyFrom 44 = .ok (.getfield 18, 3) := by decide +kernel
theorem dX9_copyFrom_47 : decode cX9_copyFrom 47 = .ok (.iconst 0, 1) := by decide +kernel
theorem dX9_copyFrom_48 : decode cX9_copyFrom 48 = .ok (.bipush 72, 2) := by decide +kernel
theorem dX9_copyFrom_50 : decode cX9_copyFrom 50 = .ok (.invokestatic 61, 3) := by decide +kernel
theorem dX9_copyFrom_53 : decode cX9_copyFrom 53 = .ok (.aload_n 1, 1) := by decide +kernel
theorem dX9_copyFrom_54 : decode cX9_copyFrom 54 = .ok (.getfield 21, 3) := by decide +kernel
theorem dX9_copyFrom_57 : decode cX9_copyFrom 57 = .ok (.iconst 0, 1) := by decide +kernel
theorem dX9_copyFrom_58 : decode cX9_copyFrom 58 = .ok (.aload_n 0, 1) := by decide +kernel
theorem dX9_copyFrom_59 : decode cX9_copyFrom 59 = .ok (.getfield 21, 3) := by decide +kernel
theorem dX9_copyFrom_62 : decode cX9_copyFrom 62 = .ok (.iconst 0, 1) := by decide +kernel
theorem dX9_copyFrom_63 : decode cX9_copyFrom 63 = .ok (.bipush 72, 2) := by decide +kernel
theorem dX9_copyFrom_65 : decode cX9_copyFrom 65 = .ok (.invokestatic 61, 3) := by decide +kernel
theorem dX9_copyFrom_68 : decode cX9_copyFrom 68 = .ok (.aload_n 1, 1) := by decide +kernel
theorem dX9_copyFrom_69 : decode cX9_copyFrom 69 = .ok (.getfield 24, 3) := by decide +kernel
theorem dX9_copyFrom_72 : decode cX9_copyFrom 72 = .ok (.iconst 0, 1) := by decide +kernel
theorem dX9_copyFrom_73 : decode cX9_copyFrom 73 = .ok (.aload_n 0, 1) := by decide +kernel
theorem dX9_copyFrom_74 : decode cX9_copyFrom 74 = .ok (.getfield 24, 3) := by decide +kernel
theorem dX9_copyFrom_77 : decode cX9_copyFrom 77 = .ok (.iconst 0, 1) := by decide +kernel
theorem dX9_copyFrom_78 : decode cX9_copyFrom 78 = .ok (.bipush 72, 2) := by decide +kernel
theorem dX9_copyFrom_80 : decode cX9_copyFrom 80 = .ok (.invokestatic 61, 3) := by decide +kernel
theorem dX9_copyFrom_83 : decode cX9_copyFrom 83 = .ok (.aload_n 1, 1) := by decide +kernel
theorem dX9_copyFrom_84 : decode cX9_copyFrom 84 = .ok (.getfield 27, 3) := by decide +kernel
theorem dX9_copyFrom_87 : decode cX9_copyFrom 87 = .ok (.iconst 0, 1) := by decide +kernel
theorem dX9_copyFrom_88 : decode cX9_copyFrom 88 = .ok (.aload_n 0, 1) := by decide +kernel
theorem dX9_copyFrom_89 : decode cX9_copyFrom 89 = .ok (.getfield 27, 3) := by decide +kernel
theorem dX9_copyFrom_92 : decode cX9_copyFrom 92 = .ok (.iconst 0, 1) := by decide +kernel
theorem dX9_copyFrom_93 : decode cX9_copyFrom 93 = .ok (.bipush 72, 2) := by decide +kernel
theorem dX9_copyFrom_95 : decode cX9_copyFrom 95 = .ok (.invokestatic 61, 3) := by decide +kernel
theorem dX9_copyFrom_98 : decode cX9_copyFrom 98 = .ok (.aload_n 1, 1) := by decide +kernel
theorem dX9_copyFrom_99 : decode cX9_copyFrom 99 = .ok (.getfield 30, 3) := by decide +kernel
theorem dX9_copyFrom_102 : decode cX9_copyFrom 102 = .ok (.iconst 0, 1) := by decide +kernel
theorem dX9_copyFrom_103 : decode cX9_copyFrom 103 = .ok (.aload_n 0, 1) := by decide +kernel
theorem dX9_copyFrom_104 : decode cX9_copyFrom 104 = .ok (.getfield 30, 3) := by decide +kernel
theorem dX9_copyFrom_107 : decode cX9_copyFrom 107 = .ok (.iconst 0, 1) := by decide +kernel
theorem dX9_copyFrom_108 : decode cX9_copyFrom 108 = .ok (.bipush 72, 2) := by decide +kernel
theorem dX9_copyFrom_110 : decode cX9_copyFrom 110 = .ok (.invokestatic 61, 3) := by decide +kernel
theorem dX9_copyFrom_113 : decode cX9_copyFrom 113 = .ok (.aload_n 1, 1) := by decide +kernel
theorem dX9_copyFrom_114 : decode cX9_copyFrom 114 = .ok (.getfield 33, 3) := by decide +kernel
theorem dX9_copyFrom_117 : decode cX9_copyFrom 117 = .ok (.iconst 0, 1) := by decide +kernel
theorem dX9_copyFrom_118 : decode cX9_copyFrom 118 = .ok (.aload_n 0, 1) := by decide +kernel
theorem dX9_copyFrom_119 : decode cX9_copyFrom 119 = .ok (.getfield 33, 3) := by decide +kernel
theorem dX9_copyFrom_122 : decode cX9_copyFrom 122 = .ok (.iconst 0, 1) := by decide +kernel
theorem dX9_copyFrom_123 : decode cX9_copyFrom 123 = .ok (.bipush 8, 2) := by decide +kernel
theorem dX9_copyFrom_125 : decode cX9_copyFrom 125 = .ok (.invokestatic 61, 3) := by decide +kernel
theorem dX9_copyFrom_128 : decode cX9_copyFrom 128 = .ok (.aload_n 1, 1) := by decide +kernel
theorem dX9_copyFrom_129 : decode cX9_copyFrom 129 = .ok (.getfield 36, 3) := by decide +kernel
theorem dX9_copyFrom_132 : decode cX9_copyFrom 132 = .ok (.iconst 0, 1) := by decide +kernel
theorem dX9_copyFrom_133 : decode cX9_copyFrom 133 = .ok (.aload_n 0, 1) := by decide +kernel
theorem dX9_copyFrom_134 : decode cX9_copyFrom 134 = .ok (.getfield 36, 3) := by decide +kernel
theorem dX9_copyFrom_137 : decode cX9_copyFrom 137 = .ok (.iconst 0, 1) := by decide +kernel
theorem dX9_copyFrom_138 : decode cX9_copyFrom 138 = .ok (.bipush 24, 2) := by decide +kernel
theorem dX9_copyFrom_140 : decode cX9_copyFrom 140 = .ok (.invokestatic 61, 3) := by decide +kernel
theorem dX9_copyFrom_143 : decode cX9_copyFrom 143 = .ok (.aload_n 1, 1) := by decide +kernel
theorem dX9_copyFrom_144 : decode cX9_copyFrom 144 = .ok (.getfield 39, 3) := by decide +kernel
theorem dX9_copyFrom_147 : decode cX9_copyFrom 147 = .ok (.iconst 0, 1) := by decide +kernel
theorem dX9_copyFrom_148 : decode cX9_copyFrom 148 = .ok (.aload_n 0, 1) := by decide +kernel
theorem dX9_copyFrom_149 : decode cX9_copyFrom 149 = .ok (.getfield 39, 3) := by decide +kernel
theorem dX9_copyFrom_152 : decode cX9_copyFrom 152 = .ok (.iconst 0, 1) := by decide +kernel
theorem dX9_copyFrom_153 : decode cX9_copyFrom 153 = .ok (.iconst 5, 1) := by decide +kernel
theorem dX9_copyFrom_154 : decode cX9_copyFrom 154 = .ok (.invokestatic 61, 3) := by decide +kernel
theorem dX9_copyFrom_157 : decode cX9_copyFrom 157 = .ok (.iconst 0, 1) := by decide +kernel
theorem dX9_copyFrom_158 : decode cX9_copyFrom 158 = .ok (.istore_n 2, 1) := by decide +kernel
theorem dX9_copyFrom_159 : decode cX9_copyFrom 159 = .ok (.iload_n 2, 1) := by decide +kernel
theorem dX9_copyFrom_160 : decode cX9_copyFrom 160 = .ok (.bipush 6, 2) := by decide +kernel
theorem dX9_copyFrom_162 : decode cX9_copyFrom 162 = .ok (.if_icmp .ge 21, 3) := by decide +kernel
theorem dX9_copyFrom_165 : decode cX9_copyFrom 165 = .ok (.aload_n 0, 1) := by decide +kernel
theorem dX9_copyFrom_166 : decode cX9_copyFrom 166 = .ok (.getfield 44, 3) := by decide +kernel
theorem dX9_copyFrom_169 : decode cX9_copyFrom 169 = .ok (.iload_n 2, 1) := by decide +kernel
theorem dX9_copyFrom_170 : decode cX9_copyFrom 170 = .ok (.aload_n 1, 1) := by decide +kernel
theorem dX9_copyFrom_171 : decode cX9_copyFrom 171 = .ok (.getfield 44, 3) := by decide +kernel
theorem dX9_copyFrom_174 : decode cX9_copyFrom 174 = .ok (.iload_n 2, 1) := by decide +kernel
theorem dX9_copyFrom_175 : decode cX9_copyFrom 175 = .ok (.aaload, 1) := by decide +kernel
theorem dX9_copyFrom_176 : decode cX9_copyFrom 176 = .ok (.aastore, 1) := by decide +kernel
theorem dX9_copyFrom_177 : decode cX9_copyFrom 177 = .ok (.iinc 2 1, 3) := by decide +kernel
theorem dX9_copyFrom_180 : decode cX9_copyFrom 180 = .ok (.goto (-21), 3) := by decide +kernel
theorem dX9_copyFrom_183 : decode cX9_copyFrom 183 = .ok (.aload_n 0, 1) := by decide +kernel
theorem dX9_copyFrom_184 : decode cX9_copyFrom 184 = .ok (.aload_n 1, 1) := by decide +kernel
theorem dX9_copyFrom_185 : decode cX9_copyFrom 185 = .ok (.getfield 74, 3) := by decide +kernel
theorem dX9_copyFrom_188 : decode cX9_copyFrom 188 = .ok (.putfield 74, 3) := by decide +kernel
theorem dX9_copyFrom_191 : decode cX9_copyFrom 191 = .ok (.aload_n 0, 1) := by decide +kernel
theorem dX9_copyFrom_192 : decode cX9_copyFrom 192 = .ok (.aload_n 1, 1) := by decide +kernel
theorem dX9_copyFrom_193 : decode cX9_copyFrom 193 = .ok (.getfield 67, 3) := by decide +kernel
theorem dX9_copyFrom_196 : decode cX9_copyFrom 196 = .ok (.putfield 67, 3) := by decide +kernel
theorem dX9_copyFrom_199 : decode cX9_copyFrom 199 = .ok (.return_, 1) := by decide +kernel
def f9_copyFrom_j183 (S : ph_Sh) (c : Nat) (p0 : Nat) (M : ph_Mem) : Option ph_Mem :=
  ph_let (ph_wi M c 13 (M.1 p0 13)) fun M14 => ph_let (ph_wi M14 c 14 (M14.1 p0 14)) fun M15 => some M15
set_option maxHeartbeats 4000000 in
theorem jb_f9_copyFrom_j183 {tb adK adV : Nat → Nat} {S : ph_Sh} {c : Nat} {p0 : Nat} {X : ph_X} {ad : Nat → Nat} {o : ph_Mem} (h : ph_ok (ph_ZX tb adK adV) X cX9_copyFrom RX9 none 3 1 S.2 ad) (fin : ph_fin X S.1 S.2 ad none o) (hS : ph_SX S) (hc : ph_isS c) (hp0 : ph_isS p0) : ∀ (M : ph_Mem), ph_J X S.1 S.2 ad o 183 [(0, .ref (ad c)), (1, .ref (ad p0))] [] M (f9_copyFrom_j183 S c p0 M) := by
  intro M
  unfold f9_copyFrom_j183
  refine j_aload_n h dX9_copyFrom_183 rfl 0 rfl ?_
  refine j_aload_n h dX9_copyFrom_184 rfl 1 rfl ?_
  refine j_get (c := p0) (j := 13) (v := .int (M.1 p0 13)) h (ph_S0n hS hp0) (ph_S0 hS hp0) rfl ph_inX9 rfl (by decide) tw_106 rfl rfl dX9_copyFrom_185 ?_
  refine j_puti (c := c) (j := 13) (ty := .int) h (ph_S0n hS hc) (ph_S0 hS hc) rfl ph_inX9 tyX9 tyX9_ok nmX9 rfl (by decide) tw_106 rfl rfl (tyX9_ok 13 (by decide)) rfl rfl dX9_copyFrom_188 ?_
  refine j_letM (fun M14 => ?_)
  refine j_aload_n h dX9_copyFrom_191 rfl 0 rfl ?_
  refine j_aload_n h dX9_copyFrom_192 rfl 1 rfl ?_
  refine j_get (c := p0) (j := 14) (v := .int (M14.1 p0 14)) h (ph_S0n hS hp0) (ph_S0 hS hp0) rfl ph_inX9 rfl (by decide) tw_108 rfl rfl dX9_copyFrom_193 ?_
  refine j_puti (c := c) (j := 14) (ty := .int) h (ph_S0n hS hc) (ph_S0 hS hc) rfl ph_inX9 tyX9 tyX9_ok nmX9 rfl (by decide) tw_108 rfl rfl (tyX9_ok 14 (by decide)) rfl rfl dX9_copyFrom_196 ?_
  refine j_letM (fun M15 => ?_)
  exact j_vret h rfl fin dX9_copyFrom_199
def f9_copyFrom_l159 (S : ph_Sh) (c : Nat) (p0 : Nat) : Nat → Int32 → ph_Mem → Option ph_Mem
  | 0, _, _ => none
  | n + 1, x2, M => if (6 : Int32) ≤ x2 then (f9_copyFrom_j183 S c p0  M) else (cond (ph_ib x2 6) (cond (ph_okN S (M.2.2 (p0 + 11) x2.toNatClampNeg)) (cond (ph_ib x2 6) (ph_let (ph_wr M (c + 11) x2.toNatClampNeg (M.2.2 (p0 + 11) x2.toNatClampNeg)) fun M13 => (f9_copyFrom_l159 S c p0 n) (x2 + (1 : Int32)) M13) none) none) none)
set_option maxHeartbeats 4000000 in
theorem jb_f9_copyFrom_l159 {tb adK adV : Nat → Nat} {S : ph_Sh} {c : Nat} {p0 : Nat} {X : ph_X} {ad : Nat → Nat} {o : ph_Mem} (h : ph_ok (ph_ZX tb adK adV) X cX9_copyFrom RX9 none 3 1 S.2 ad) (fin : ph_fin X S.1 S.2 ad none o) (hS : ph_SX S) (hc : ph_isS c) (hp0 : ph_isS p0) : ∀ (n : Nat) (x2 : Int32) (M : ph_Mem), ph_J X S.1 S.2 ad o 159 [(0, .ref (ad c)), (1, .ref (ad p0)), (2, .int x2)] [] M (f9_copyFrom_l159 S c p0 n x2 M) := by
  intro n
  induction n with
  | zero => intro x2 M; exact j_none
  | succ n hrc159 =>
    intro x2 M
    unfold f9_copyFrom_l159
    refine j_iload_n h dX9_copyFrom_159 rfl 2 rfl ?_
    refine j_bipush (v := (6 : Int32)) h dX9_copyFrom_160 (by decide) ?_
    refine j_icmp_ge h 183 dX9_copyFrom_162 (by decide) ?_ ?_
    · refine j_sub [0, 1] rfl ?_
      exact jb_f9_copyFrom_j183 h fin hS hc hp0  M
    · refine j_aload_n h dX9_copyFrom_165 rfl 0 rfl ?_
      refine j_get (c := c) (j := 12) (v := .ref (ad (c + 11))) h (ph_S0n hS hc) (ph_S0 hS hc) rfl ph_inX9 rfl (by decide) tw_104 rfl rfl dX9_copyFrom_166 ?_
      refine j_iload_n h dX9_copyFrom_169 rfl 2 rfl ?_
      refine j_aload_n h dX9_copyFrom_170 rfl 1 rfl ?_
      refine j_get (c := p0) (j := 12) (v := .ref (ad (p0 + 11))) h (ph_S0n hS hp0) (ph_S0 hS hp0) rfl ph_inX9 rfl (by decide) tw_104 rfl rfl dX9_copyFrom_171 ?_
      refine j_iload_n h dX9_copyFrom_174 rfl 2 rfl ?_
      refine j_aald (c := (p0 + 11)) (n := 6) (tn := 5) (C := RX4) h (ph_S11n hS hp0) (ph_S11 hS hp0) (Or.inr ⟨rfl, rfl⟩) dX9_copyFrom_175 ?_
      refine j_chk (fun hq12 => ?_)
      refine j_aastP (c := (c + 11)) (n := 6) (sl := fun c => [(0, 0), (2, c + 1), (2, c + 2)]) h (ph_S11n hS hc) (ph_S11 hS hc) (ph_okNp hq12) dX9_copyFrom_176 ?_
      refine j_letM (fun M13 => ?_)
      refine j_iinc h [(2, .int (x2 + (1 : Int32))), (0, .ref (ad c)), (1, .ref (ad p0))] dX9_copyFrom_177 2 rfl rfl (by decide) rfl ?_
      refine j_goto h 159 dX9_copyFrom_180 (by decide) ?_
      refine j_sub [1, 2, 0] rfl ?_
      exact hrc159 (x2 + (1 : Int32)) M13
theorem ydf9_copyFrom : ph_yd yX9_copyFrom 1 := ⟨by decide, by decide, by decide +kernel⟩
def f9_copyFrom (S : ph_Sh) (M : ph_Mem) (c : Nat) (p0 : Nat) : Option ph_Mem :=
  ph_let (ph_wi M c 1 (M.1 p0 1)) fun M1 => cond (ph_cpk (0 : Int32) (0 : Int32) (6 : Int32) 6 6) (ph_let (ph_cp M1 (p0 + 1) (0 : Int32).toNatClampNeg (c + 1) (0 : Int32).toNatClampNeg (6 : Int32).toNatClampNeg) fun M2 => cond (ph_cpk (0 : Int32) (0 : Int32) (72 : Int32) 72 72) (ph_let (ph_cp M2 (p0 + 2) (0 : Int32).toNatClampNeg (c + 2) (0 : Int32).toNatClampNeg (72 : Int32).toNatClampNeg) fun M3 => cond (ph_cpk (0 : Int32) (0 : Int32) (72 : Int32) 72 72) (ph_let (ph_cp M3 (p0 + 3) (0 : Int32).toNatClampNeg (c + 3) (0 : Int32).toNatClampNeg (72 : Int32).toNatClampNeg) fun M4 => cond (ph_cpk (0 : Int32) (0 : Int32) (72 : Int32) 72 72) (ph_let (ph_cp M4 (p0 + 4) (0 : Int32).toNatClampNeg (c + 4) (0 : Int32).toNatClampNeg (72 : Int32).toNatClampNeg) fun M5 => cond (ph_cpk (0 : Int32) (0 : Int32) (72 : Int32) 72 72) (ph_let (ph_cp M5 (p0 + 5) (0 : Int32).toNatClampNeg (c + 5) (0 : Int32).toNatClampNeg (72 : Int32).toNatClampNeg) fun M6 => cond (ph_cpk (0 : Int32) (0 : Int32) (72 : Int32) 72 72) (ph_let (ph_cp M6 (p0 + 6) (0 : Int32).toNatClampNeg (c + 6) (0 : Int32).toNatClampNeg (72 : Int32).toNatClampNeg) fun M7 => cond (ph_cpk (0 : Int32) (0 : Int32) (72 : Int32) 72 72) (ph_let (ph_cp M7 (p0 + 7) (0 : Int32).toNatClampNeg (c + 7) (0 : Int32).toNatClampNeg (72 : Int32).toNatClampNeg) fun M8 => cond (ph_cpk (0 : Int32) (0 : Int32) (8 : Int32) 8 8) (ph_let (ph_cp M8 (p0 + 8) (0 : Int32).toNatClampNeg (c + 8) (0 : Int32).toNatClampNeg (8 : Int32).toNatClampNeg) fun M9 => cond (ph_cpk (0 : Int32) (0 : Int32) (24 : Int32) 24 24) (ph_let (ph_cp M9 (p0 + 9) (0 : Int32).toNatClampNeg (c + 9) (0 : Int32).toNatClampNeg (24 : Int32).toNatClampNeg) fun M10 => cond (ph_cpk (0 : Int32) (0 : Int32) (5 : Int32) 5 5) (ph_let (ph_cp M10 (p0 + 10) (0 : Int32).toNatClampNeg (c + 10) (0 : Int32).toNatClampNeg (5 : Int32).toNatClampNeg) fun M11 => f9_copyFrom_l159 S c p0 10000 (0 : Int32) M11) none) none) none) none) none) none) none) none) none) none
set_option maxHeartbeats 4000000 in
theorem cf9_copyFrom {tb adK adV : Nat → Nat} {S : ph_Sh} {c : Nat} {p0 : Nat} {l : Launch} {D : va_G} {cA : Nat → ClassId} {ad : Nat → Nat} (hinj : ∀ i j, i < S.2 → j < S.2 → ad i = ad j → i = j) (hS : ph_SX S) (hc : ph_isS c) (hp0 : ph_isS p0) {M : ph_Mem} {M' : ph_Mem} (hf : f9_copyFrom S M c p0 = some M') : ph_C (ph_ZX tb adK adV) l 1 yX9_copyFrom cX9_copyFrom 3 none D cA S.1 S.2 ad [.ref (ad c), .ref (ad p0)] M none M' := by
  refine ph_mk ph_ZX_ok hinj (by decide) (Nat.le_of_ble_eq_true rfl) fun X h fin hE => ?_
  refine (?_ : ph_J X S.1 S.2 ad (M' : ph_Mem) 0 [(0, .ref (ad c)), (1, .ref (ad p0))] [] M (f9_copyFrom S M c p0)) hf
  unfold f9_copyFrom
  refine j_aload_n h dX9_copyFrom_0 rfl 0 rfl ?_
  refine j_aload_n h dX9_copyFrom_1 rfl 1 rfl ?_
  refine j_get (c := p0) (j := 1) (v := .int (M.1 p0 1)) h (ph_S0n hS hp0) (ph_S0 hS hp0) rfl ph_inX9 rfl (by decide) tw_64 rfl rfl dX9_copyFrom_2 ?_
  refine j_puti (c := c) (j := 1) (ty := .int) h (ph_S0n hS hc) (ph_S0 hS hc) rfl ph_inX9 tyX9 tyX9_ok nmX9 rfl (by decide) tw_64 rfl rfl (tyX9_ok 1 (by decide)) rfl rfl dX9_copyFrom_5 ?_
  refine j_letM (fun M1 => ?_)
  refine j_aload_n h dX9_copyFrom_8 rfl 1 rfl ?_
  refine j_get (c := p0) (j := 2) (v := .ref (ad (p0 + 1))) h (ph_S0n hS hp0) (ph_S0 hS hp0) rfl ph_inX9 rfl (by decide) tw_70 rfl rfl dX9_copyFrom_9 ?_
  refine j_iconst (v := (0 : Int32)) h dX9_copyFrom_12 (by decide) ?_
  refine j_aload_n h dX9_copyFrom_13 rfl 0 rfl ?_
  refine j_get (c := c) (j := 2) (v := .ref (ad (c + 1))) h (ph_S0n hS hc) (ph_S0 hS hc) rfl ph_inX9 rfl (by decide) tw_70 rfl rfl dX9_copyFrom_14 ?_
  refine j_iconst (v := (0 : Int32)) h dX9_copyFrom_17 (by decide) ?_
  refine j_bipush (v := (6 : Int32)) h dX9_copyFrom_18 (by decide) ?_
  refine j_copy (a0 := (p0 + 1)) (a1 := (c + 1)) (n0 := 6) (n1 := 6) h (by decide) tw_60 tw_62 tw_61 tw_5 (ph_S1n hS hp0) (ph_S1 hS hp0) (ph_S1n hS hc) (ph_S1 hS hc) (Nat.le_of_ble_eq_true rfl) dX9_copyFrom_20 ?_
  refine j_letM (fun M2 => ?_)
  refine j_aload_n h dX9_copyFrom_23 rfl 1 rfl ?_
  refine j_get (c := p0) (j := 3) (v := .ref (ad (p0 + 2))) h (ph_S0n hS hp0) (ph_S0 hS hp0) rfl ph_inX9 rfl (by decide) tw_76 rfl rfl dX9_copyFrom_24 ?_
  refine j_iconst (v := (0 : Int32)) h dX9_copyFrom_27 (by decide) ?_
  refine j_aload_n h dX9_copyFrom_28 rfl 0 rfl ?_
  refine j_get (c := c) (j := 3) (v := .ref (ad (c + 2))) h (ph_S0n hS hc) (ph_S0 hS hc) rfl ph_inX9 rfl (by decide) tw_76 rfl rfl dX9_copyFrom_29 ?_
  refine j_iconst (v := (0 : Int32)) h dX9_copyFrom_32 (by decide) ?_
  refine j_bipush (v := (72 : Int32)) h dX9_copyFrom_33 (by decide) ?_
  refine j_copy (a0 := (p0 + 2)) (a1 := (c + 2)) (n0 := 72) (n1 := 72) h (by decide) tw_60 tw_62 tw_61 tw_5 (ph_S2n hS hp0) (ph_S2 hS hp0) (ph_S2n hS hc) (ph_S2 hS hc) (Nat.le_of_ble_eq_true rfl) dX9_copyFrom_35 ?_
  refine j_letM (fun M3 => ?_)
  refine j_aload_n h dX9_copyFrom_38 rfl 1 rfl ?_
  refine j_get (c := p0) (j := 4) (v := .ref (ad (p0 + 3))) h (ph_S0n hS hp0) (ph_S0 hS hp0) rfl ph_inX9 rfl (by decide) tw_79 rfl rfl dX9_copyFrom_39 ?_
  refine j_iconst (v := (0 : Int32)) h dX9_copyFrom_42 (by decide) ?_
  refine j_aload_n h dX9_copyFrom_43 rfl 0 rfl ?_
  refine j_get (c := c) (j := 4) (v := .ref (ad (c + 3))) h (ph_S0n hS hc) (ph_S0 hS hc) rfl ph_inX9 rfl (by decide) tw_79 rfl rfl dX9_copyFrom_44 ?_
  refine j_iconst (v := (0 : Int32)) h dX9_copyFrom_47 (by decide) ?_
  refine j_bipush (v := (72 : Int32)) h dX9_copyFrom_48 (by decide) ?_
  refine j_copy (a0 := (p0 + 3)) (a1 := (c + 3)) (n0 := 72) (n1 := 72) h (by decide) tw_60 tw_62 tw_61 tw_5 (ph_S3n hS hp0) (ph_S3 hS hp0) (ph_S3n hS hc) (ph_S3 hS hc) (Nat.le_of_ble_eq_true rfl) dX9_copyFrom_50 ?_
  refine j_letM (fun M4 => ?_)
  refine j_aload_n h dX9_copyFrom_53 rfl 1 rfl ?_
  refine j_get (c := p0) (j := 5) (v := .ref (ad (p0 + 4))) h (ph_S0n hS hp0) (ph_S0 hS hp0) rfl ph_inX9 rfl (by decide) tw_81 rfl rfl dX9_copyFrom_54 ?_
  refine j_iconst (v := (0 : Int32)) h dX9_copyFrom_57 (by decide) ?_
  refine j_aload_n h dX9_copyFrom_58 rfl 0 rfl ?_
  refine j_get (c := c) (j := 5) (v := .ref (ad (c + 4))) h (ph_S0n hS hc) (ph_S0 hS hc) rfl ph_inX9 rfl (by decide) tw_81 rfl rfl dX9_copyFrom_59 ?_
  refine j_iconst (v := (0 : Int32)) h dX9_copyFrom_62 (by decide) ?_
  refine j_bipush (v := (72 : Int32)) h dX9_copyFrom_63 (by decide) ?_
  refine j_copy (a0 := (p0 + 4)) (a1 := (c + 4)) (n0 := 72) (n1 := 72) h (by decide) tw_60 tw_62 tw_61 tw_5 (ph_S4n hS hp0) (ph_S4 hS hp0) (ph_S4n hS hc) (ph_S4 hS hc) (Nat.le_of_ble_eq_true rfl) dX9_copyFrom_65 ?_
  refine j_letM (fun M5 => ?_)
  refine j_aload_n h dX9_copyFrom_68 rfl 1 rfl ?_
  refine j_get (c := p0) (j := 6) (v := .ref (ad (p0 + 5))) h (ph_S0n hS hp0) (ph_S0 hS hp0) rfl ph_inX9 rfl (by decide) tw_84 rfl rfl dX9_copyFrom_69 ?_
  refine j_iconst (v := (0 : Int32)) h dX9_copyFrom_72 (by decide) ?_
  refine j_aload_n h dX9_copyFrom_73 rfl 0 rfl ?_
  refine j_get (c := c) (j := 6) (v := .ref (ad (c + 5))) h (ph_S0n hS hc) (ph_S0 hS hc) rfl ph_inX9 rfl (by decide) tw_84 rfl rfl dX9_copyFrom_74 ?_
  refine j_iconst (v := (0 : Int32)) h dX9_copyFrom_77 (by decide) ?_
  refine j_bipush (v := (72 : Int32)) h dX9_copyFrom_78 (by decide) ?_
  refine j_copy (a0 := (p0 + 5)) (a1 := (c + 5)) (n0 := 72) (n1 := 72) h (by decide) tw_60 tw_62 tw_61 tw_5 (ph_S5n hS hp0) (ph_S5 hS hp0) (ph_S5n hS hc) (ph_S5 hS hc) (Nat.le_of_ble_eq_true rfl) dX9_copyFrom_80 ?_
  refine j_letM (fun M6 => ?_)
  refine j_aload_n h dX9_copyFrom_83 rfl 1 rfl ?_
  refine j_get (c := p0) (j := 7) (v := .ref (ad (p0 + 6))) h (ph_S0n hS hp0) (ph_S0 hS hp0) rfl ph_inX9 rfl (by decide) tw_87 rfl rfl dX9_copyFrom_84 ?_
  refine j_iconst (v := (0 : Int32)) h dX9_copyFrom_87 (by decide) ?_
  refine j_aload_n h dX9_copyFrom_88 rfl 0 rfl ?_
  refine j_get (c := c) (j := 7) (v := .ref (ad (c + 6))) h (ph_S0n hS hc) (ph_S0 hS hc) rfl ph_inX9 rfl (by decide) tw_87 rfl rfl dX9_copyFrom_89 ?_
  refine j_iconst (v := (0 : Int32)) h dX9_copyFrom_92 (by decide) ?_
  refine j_bipush (v := (72 : Int32)) h dX9_copyFrom_93 (by decide) ?_
  refine j_copy (a0 := (p0 + 6)) (a1 := (c + 6)) (n0 := 72) (n1 := 72) h (by decide) tw_60 tw_62 tw_61 tw_5 (ph_S6n hS hp0) (ph_S6 hS hp0) (ph_S6n hS hc) (ph_S6 hS hc) (Nat.le_of_ble_eq_true rfl) dX9_copyFrom_95 ?_
  refine j_letM (fun M7 => ?_)
  refine j_aload_n h dX9_copyFrom_98 rfl 1 rfl ?_
  refine j_get (c := p0) (j := 8) (v := .ref (ad (p0 + 7))) h (ph_S0n hS hp0) (ph_S0 hS hp0) rfl ph_inX9 rfl (by decide) tw_90 rfl rfl dX9_copyFrom_99 ?_
  refine j_iconst (v := (0 : Int32)) h dX9_copyFrom_102 (by decide) ?_
  refine j_aload_n h dX9_copyFrom_103 rfl 0 rfl ?_
  refine j_get (c := c) (j := 8) (v := .ref (ad (c + 7))) h (ph_S0n hS hc) (ph_S0 hS hc) rfl ph_inX9 rfl (by decide) tw_90 rfl rfl dX9_copyFrom_104 ?_
  refine j_iconst (v := (0 : Int32)) h dX9_copyFrom_107 (by decide) ?_
  refine j_bipush (v := (72 : Int32)) h dX9_copyFrom_108 (by decide) ?_
  refine j_copy (a0 := (p0 + 7)) (a1 := (c + 7)) (n0 := 72) (n1 := 72) h (by decide) tw_60 tw_62 tw_61 tw_5 (ph_S7n hS hp0) (ph_S7 hS hp0) (ph_S7n hS hc) (ph_S7 hS hc) (Nat.le_of_ble_eq_true rfl) dX9_copyFrom_110 ?_
  refine j_letM (fun M8 => ?_)
  refine j_aload_n h dX9_copyFrom_113 rfl 1 rfl ?_
  refine j_get (c := p0) (j := 9) (v := .ref (ad (p0 + 8))) h (ph_S0n hS hp0) (ph_S0 hS hp0) rfl ph_inX9 rfl (by decide) tw_93 rfl rfl dX9_copyFrom_114 ?_
  refine j_iconst (v := (0 : Int32)) h dX9_copyFrom_117 (by decide) ?_
  refine j_aload_n h dX9_copyFrom_118 rfl 0 rfl ?_
  refine j_get (c := c) (j := 9) (v := .ref (ad (c + 8))) h (ph_S0n hS hc) (ph_S0 hS hc) rfl ph_inX9 rfl (by decide) tw_93 rfl rfl dX9_copyFrom_119 ?_
  refine j_iconst (v := (0 : Int32)) h dX9_copyFrom_122 (by decide) ?_
  refine j_bipush (v := (8 : Int32)) h dX9_copyFrom_123 (by decide) ?_
  refine j_copy (a0 := (p0 + 8)) (a1 := (c + 8)) (n0 := 8) (n1 := 8) h (by decide) tw_60 tw_62 tw_61 tw_5 (ph_S8n hS hp0) (ph_S8 hS hp0) (ph_S8n hS hc) (ph_S8 hS hc) (Nat.le_of_ble_eq_true rfl) dX9_copyFrom_125 ?_
  refine j_letM (fun M9 => ?_)
  refine j_aload_n h dX9_copyFrom_128 rfl 1 rfl ?_
  refine j_get (c := p0) (j := 10) (v := .ref (ad (p0 + 9))) h (ph_S0n hS hp0) (ph_S0 hS hp0) rfl ph_inX9 rfl (by decide) tw_95 rfl rfl dX9_copyFrom_129 ?_
  refine j_iconst (v := (0 : Int32)) h dX9_copyFrom_132 (by decide) ?_
  refine j_aload_n h dX9_copyFrom_133 rfl 0 rfl ?_
  refine j_get (c := c) (j := 10) (v := .ref (ad (c + 9))) h (ph_S0n hS hc) (ph_S0 hS hc) rfl ph_inX9 rfl (by decide) tw_95 rfl rfl dX9_copyFrom_134 ?_
  refine j_iconst (v := (0 : Int32)) h dX9_copyFrom_137 (by decide) ?_
  refine j_bipush (v := (24 : Int32)) h dX9_copyFrom_138 (by decide) ?_
  refine j_copy (a0 := (p0 + 9)) (a1 := (c + 9)) (n0 := 24) (n1 := 24) h (by decide) tw_60 tw_62 tw_61 tw_5 (ph_S9n hS hp0) (ph_S9 hS hp0) (ph_S9n hS hc) (ph_S9 hS hc) (Nat.le_of_ble_eq_true rfl) dX9_copyFrom_140 ?_
  refine j_letM (fun M10 => ?_)
  refine j_aload_n h dX9_copyFrom_143 rfl 1 rfl ?_
  refine j_get (c := p0) (j := 11) (v := .ref (ad (p0 + 10))) h (ph_S0n hS hp0) (ph_S0 hS hp0) rfl ph_inX9 rfl (by decide) tw_98 rfl rfl dX9_copyFrom_144 ?_
  refine j_iconst (v := (0 : Int32)) h dX9_copyFrom_147 (by decide) ?_
  refine j_aload_n h dX9_copyFrom_148 rfl 0 rfl ?_
  refine j_get (c := c) (j := 11) (v := .ref (ad (c + 10))) h (ph_S0n hS hc) (ph_S0 hS hc) rfl ph_inX9 rfl (by decide) tw_98 rfl rfl dX9_copyFrom_149 ?_
  refine j_iconst (v := (0 : Int32)) h dX9_copyFrom_152 (by decide) ?_
  refine j_iconst (v := (5 : Int32)) h dX9_copyFrom_153 (by decide) ?_
  refine j_copy (a0 := (p0 + 10)) (a1 := (c + 10)) (n0 := 5) (n1 := 5) h (by decide) tw_60 tw_62 tw_61 tw_5 (ph_S10n hS hp0) (ph_S10 hS hp0) (ph_S10n hS hc) (ph_S10 hS hc) (Nat.le_of_ble_eq_true rfl) dX9_copyFrom_154 ?_
  refine j_letM (fun M11 => ?_)
  refine j_iconst (v := (0 : Int32)) h dX9_copyFrom_157 (by decide) ?_
  refine j_istore_n h [(2, .int (0 : Int32)), (0, .ref (ad c)), (1, .ref (ad p0))] dX9_copyFrom_158 rfl (by decide) rfl ?_
  refine j_sub [1, 2, 0] rfl ?_
  exact jb_f9_copyFrom_l159 h fin hS hc hp0 10000 (0 : Int32) M11
theorem dX9_arePeople_0 : decode cX9_arePeople 0 = .ok (.iload_n 1, 1) := by decide +kernel
theorem dX9_arePeople_1 : decode cX9_arePeople 1 = .ok (.ifCond .lt 17, 3) := by decide +kernel
theorem dX9_arePeople_4 : decode cX9_arePeople 4 = .ok (.iload_n 1, 1) := by decide +kernel
theorem dX9_arePeople_5 : decode cX9_arePeople 5 = .ok (.iconst 1, 1) := by decide +kernel
theorem dX9_arePeople_6 : decode cX9_arePeople 6 = .ok (.aload_n 0, 1) := by decide +kernel
theorem dX9_arePeople_7 : decode cX9_arePeople 7 = .ok (.getfield 71, 3) := by decide +kernel
theorem dX9_arePeople_10 : decode cX9_arePeople 10 = .ok (.ishl, 1) := by decide +kernel
theorem dX9_arePeople_11 : decode cX9_arePeople 11 = .ok (.if_icmp .ge 7, 3) := by decide +kernel
theorem dX9_arePeople_14 : decode cX9_arePeople 14 = .ok (.iconst 1, 1) := by decide +kernel
theorem dX9_arePeople_15 : decode cX9_arePeople 15 = .ok (.goto 4, 3) := by decide +kernel
theorem dX9_arePeople_18 : decode cX9_arePeople 18 = .ok (.iconst 0, 1) := by decide +kernel
theorem dX9_arePeople_19 : decode cX9_arePeople 19 = .ok (.ireturn, 1) := by decide +kernel
theorem ydf9_arePeople : ph_yd yX9_arePeople 1 := ⟨by decide, by decide, by decide +kernel⟩
def f9_arePeople (S : ph_Sh) (M : ph_Mem) (c : Nat) (p0 : Int32) : Option Int32 :=
  if p0 < 0 then (some (0 : Int32)) else (if ((1 : Int32) <<< ((M.1 c 1) &&& 31)) ≤ p0 then (some (0 : Int32)) else (some (1 : Int32)))
set_option maxHeartbeats 4000000 in
theorem cf9_arePeople {tb adK adV : Nat → Nat} {S : ph_Sh} {c : Nat} {l : Launch} {D : va_G} {cA : Nat → ClassId} {ad : Nat → Nat} (hinj : ∀ i j, i < S.2 → j < S.2 → ad i = ad j → i = j) (hS : ph_SX S) (hc : ph_isS c) {M : ph_Mem} {p0 : Int32} {r : Int32} (hf : f9_arePeople S M c p0 = some r) : ph_C (ph_ZX tb adK adV) l 0 yX9_arePeople cX9_arePeople 2 (some .boolean) D cA S.1 S.2 ad [.ref (ad c), .int p0] M (some (.int r)) M := by
  refine ph_mk ph_ZX_ok hinj (by decide) (Nat.le_of_ble_eq_true rfl) fun X h fin hE => ?_
  refine (?_ : ph_J X S.1 S.2 ad (r : Int32) 0 [(0, .ref (ad c)), (1, .int p0)] [] M (f9_arePeople S M c p0)) hf
  unfold f9_arePeople
  refine j_iload_n h dX9_arePeople_0 rfl 1 rfl ?_
  refine j_if_lt h 18 dX9_arePeople_1 (by decide) ?_ ?_
  · refine j_iconst (v := (0 : Int32)) h dX9_arePeople_18 (by decide) ?_
    exact j_zretPC h rfl (by decide) fin dX9_arePeople_19
  · refine j_iload_n h dX9_arePeople_4 rfl 1 rfl ?_
    refine j_iconst (v := (1 : Int32)) h dX9_arePeople_5 (by decide) ?_
    refine j_aload_n h dX9_arePeople_6 rfl 0 rfl ?_
    refine j_get (c := c) (j := 1) (v := .int (M.1 c 1)) h (ph_S0n hS hc) (ph_S0 hS hc) rfl ph_inX9 rfl (by decide) tw_64 rfl rfl dX9_arePeople_7 ?_
    refine j_ishl h dX9_arePeople_10 ?_
    refine j_icmp_ge h 18 dX9_arePeople_11 (by decide) ?_ ?_
    · refine j_iconst (v := (0 : Int32)) h dX9_arePeople_18 (by decide) ?_
      exact j_zretPC h rfl (by decide) fin dX9_arePeople_19
    · refine j_iconst (v := (1 : Int32)) h dX9_arePeople_14 (by decide) ?_
      refine j_goto h 19 dX9_arePeople_15 (by decide) ?_
      exact j_zretPC h rfl (by decide) fin dX9_arePeople_19
theorem dX11_isFact_0 : decode cX11_isFact 0 = .ok (.iload_n 0, 1) := by decide +kernel
theorem dX11_isFact_1 : decode cX11_isFact 1 = .ok (.ifCond .lt 13, 3) := by decide +kernel
theorem dX11_isFact_4 : decode cX11_isFact 4 = .ok (.iload_n 0, 1) := by decide +kernel
theorem dX11_isFact_5 : decode cX11_isFact 5 = .ok (.bipush 8, 2) := by decide +kernel
theorem dX11_isFact_7 : decode cX11_isFact 7 = .ok (.if_icmp .ge 7, 3) := by decide +kernel
theorem dX11_isFact_10 : decode cX11_isFact 10 = .ok (.iconst 1, 1) := by decide +kernel
theorem dX11_isFact_11 : decode cX11_isFact 11 = .ok (.goto 4, 3) := by decide +kernel
theorem dX11_isFact_14 : decode cX11_isFact 14 = .ok (.iconst 0, 1) := by decide +kernel
theorem dX11_isFact_15 : decode cX11_isFact 15 = .ok (.ireturn, 1) := by decide +kernel
theorem ydf11_isFact : ph_yd yX11_isFact 1 := ⟨by decide, by decide, by decide +kernel⟩
def f11_isFact (S : ph_Sh) (M : ph_Mem) (p0 : Int32) : Option Int32 :=
  if p0 < 0 then (some (0 : Int32)) else (if (8 : Int32) ≤ p0 then (some (0 : Int32)) else (some (1 : Int32)))
set_option maxHeartbeats 4000000 in
theorem cf11_isFact {tb adK adV : Nat → Nat} {S : ph_Sh} {l : Launch} {D : va_G} {cA : Nat → ClassId} {ad : Nat → Nat} (hinj : ∀ i j, i < S.2 → j < S.2 → ad i = ad j → i = j) (hS : ph_SX S) {M : ph_Mem} {p0 : Int32} {r : Int32} (hf : f11_isFact S M p0 = some r) : ph_C (ph_ZX tb adK adV) l 0 yX11_isFact cX11_isFact 1 (some .boolean) D cA S.1 S.2 ad [.int p0] M (some (.int r)) M := by
  refine ph_mk ph_ZX_ok hinj (by decide) (Nat.le_of_ble_eq_true rfl) fun X h fin hE => ?_
  refine (?_ : ph_J X S.1 S.2 ad (r : Int32) 0 [(0, .int p0)] [] M (f11_isFact S M p0)) hf
  unfold f11_isFact
  refine j_iload_n h dX11_isFact_0 rfl 0 rfl ?_
  refine j_if_lt h 14 dX11_isFact_1 (by decide) ?_ ?_
  · refine j_iconst (v := (0 : Int32)) h dX11_isFact_14 (by decide) ?_
    exact j_zretPC h rfl (by decide) fin dX11_isFact_15
  · refine j_iload_n h dX11_isFact_4 rfl 0 rfl ?_
    refine j_bipush (v := (8 : Int32)) h dX11_isFact_5 (by decide) ?_
    refine j_icmp_ge h 14 dX11_isFact_7 (by decide) ?_ ?_
    · refine j_iconst (v := (0 : Int32)) h dX11_isFact_14 (by decide) ?_
      exact j_zretPC h rfl (by decide) fin dX11_isFact_15
    · refine j_iconst (v := (1 : Int32)) h dX11_isFact_10 (by decide) ?_
      refine j_goto h 15 dX11_isFact_11 (by decide) ?_
      exact j_zretPC h rfl (by decide) fin dX11_isFact_15
theorem dX9_canBeTold_0 : decode cX9_canBeTold 0 = .ok (.iload_n 2, 1) := by decide +kernel
theorem dX9_canBeTold_1 : decode cX9_canBeTold 1 = .ok (.tableswitch 83 0 2 #[27, 45, 67], 27) := by decide +kernel
theorem dX9_canBeTold_28 : decode cX9_canBeTold 28 = .ok (.iload_n 3, 1) := by decide +kernel
theorem dX9_canBeTold_29 : decode cX9_canBeTold 29 = .ok (.iconst (-1), 1) := by decide +kernel
theorem dX9_canBeTold_30 : decode cX9_canBeTold 30 = .ok (.if_icmp .eq 10, 3) := by decide +kernel
theorem dX9_canBeTold_33 : decode cX9_canBeTold 33 = .ok (.iload_n 3, 1) := by decide +kernel
theorem dX9_canBeTold_34 : decode cX9_canBeTold 34 = .ok (.invokestatic 77, 3) := by decide +kernel
theorem dX9_canBeTold_37 : decode cX9_canBeTold 37 = .ok (.ifCond .eq 7, 3) := by decide +kernel
theorem dX9_canBeTold_40 : decode cX9_canBeTold 40 = .ok (.iconst 1, 1) := by decide +kernel
theorem dX9_canBeTold_41 : decode cX9_canBeTold 41 = .ok (.goto 4, 3) := by decide +kernel
theorem dX9_canBeTold_44 : decode cX9_canBeTold 44 = .ok (.iconst 0, 1) := by decide +kernel
theorem dX9_canBeTold_45 : decode cX9_canBeTold 45 = .ok (.ireturn, 1) := by decide +kernel
theorem dX9_canBeTold_46 : decode cX9_canBeTold 46 = .ok (.aload_n 0, 1) := by decide +kernel
theorem dX9_canBeTold_47 : decode cX9_canBeTold 47 = .ok (.iload_n 3, 1) := by decide +kernel
theorem dX9_canBeTold_48 : decode cX9_canBeTold 48 = .ok (.invokevirtual 81, 3) := by decide +kernel
theorem dX9_canBeTold_51 : decode cX9_canBeTold 51 = .ok (.ifCond .eq 15, 3) := by decide +kernel
theorem dX9_canBeTold_54 : decode cX9_canBeTold 54 = .ok (.iload_n 3, 1) := by decide +kernel
theorem dX9_canBeTold_55 : decode cX9_canBeTold 55 = .ok (.iload_n 1, 1) := by decide +kernel
theorem dX9_canBeTold_56 : decode cX9_canBeTold 56 = .ok (.invokestatic 84, 3) := by decide +kernel
theorem dX9_canBeTold_59 : decode cX9_canBeTold 59 = .ok (.ifCond .ne 7, 3) := by decide +kernel
theorem dX9_canBeTold_62 : decode cX9_canBeTold 62 = .ok (.iconst 1, 1) := by decide +kernel
theorem dX9_canBeTold_63 : decode cX9_canBeTold 63 = .ok (.goto 4, 3) := by decide +kernel
theorem dX9_canBeTold_66 : decode cX9_canBeTold 66 = .ok (.iconst 0, 1) := by decide +kernel
theorem dX9_canBeTold_67 : decode cX9_canBeTold 67 = .ok (.ireturn, 1) := by decide +kernel
theorem dX9_canBeTold_68 : decode cX9_canBeTold 68 = .ok (.iload_n 3, 1) := by decide +kernel
theorem dX9_canBeTold_69 : decode cX9_canBeTold 69 = .ok (.ifCond .lt 13, 3) := by decide +kernel
theorem dX9_canBeTold_72 : decode cX9_canBeTold 72 = .ok (.iload_n 3, 1) := by decide +kernel
theorem dX9_canBeTold_73 : decode cX9_canBeTold 73 = .ok (.bipush 99, 2) := by decide +kernel
theorem dX9_canBeTold_75 : decode cX9_canBeTold 75 = .ok (.if_icmp .gt 7, 3) := by decide +kernel
theorem dX9_canBeTold_78 : decode cX9_canBeTold 78 = .ok (.iconst 1, 1) := by decide +kernel
theorem dX9_canBeTold_79 : decode cX9_canBeTold 79 = .ok (.goto 4, 3) := by decide +kernel
theorem dX9_canBeTold_82 : decode cX9_canBeTold 82 = .ok (.iconst 0, 1) := by decide +kernel
theorem dX9_canBeTold_83 : decode cX9_canBeTold 83 = .ok (.ireturn, 1) := by decide +kernel
theorem dX9_canBeTold_84 : decode cX9_canBeTold 84 = .ok (.iconst 0, 1) := by decide +kernel
theorem dX9_canBeTold_85 : decode cX9_canBeTold 85 = .ok (.ireturn, 1) := by decide +kernel
theorem ydf9_canBeTold : ph_yd yX9_canBeTold 3 := ⟨by decide, by decide, by decide +kernel⟩
def f9_canBeTold (S : ph_Sh) (M : ph_Mem) (c : Nat) (p0 : Int32) (p1 : Int32) (p2 : Int32) : Option Int32 :=
  if p1 = (0 : Int32) then (if p2 = (-1 : Int32) then (some (1 : Int32)) else ((f11_isFact S M p2).bind fun q1 => if q1 = 0 then (some (0 : Int32)) else (some (1 : Int32)))) else (if p1 = (1 : Int32) then ((f9_arePeople S M c p2).bind fun q2 => if q2 = 0 then (some (0 : Int32)) else ((f9_hasBit S M p2 p0).bind fun q3 => if q3 = 0 then (some (1 : Int32)) else (some (0 : Int32)))) else (if p1 = (2 : Int32) then (if p2 < 0 then (some (0 : Int32)) else (if (99 : Int32) < p2 then (some (0 : Int32)) else (some (1 : Int32)))) else (some (0 : Int32))))
set_option maxHeartbeats 4000000 in
theorem cf9_canBeTold {tb adK adV : Nat → Nat} {S : ph_Sh} {c : Nat} {l : Launch} {D : va_G} {cA : Nat → ClassId} {ad : Nat → Nat} (hinj : ∀ i j, i < S.2 → j < S.2 → ad i = ad j → i = j) (hS : ph_SX S) (hc : ph_isS c) {M : ph_Mem} {p0 : Int32} {p1 : Int32} {p2 : Int32} {r : Int32} (hf : f9_canBeTold S M c p0 p1 p2 = some r) : ph_C (ph_ZX tb adK adV) l 1 yX9_canBeTold cX9_canBeTold 4 (some .boolean) D cA S.1 S.2 ad [.ref (ad c), .int p0, .int p1, .int p2] M (some (.int r)) M := by
  refine ph_mk ph_ZX_ok hinj (by decide) (Nat.le_of_ble_eq_true rfl) fun X h fin hE => ?_
  refine (?_ : ph_J X S.1 S.2 ad (r : Int32) 0 [(0, .ref (ad c)), (1, .int p0), (2, .int p1), (3, .int p2)] [] M (f9_canBeTold S M c p0 p1 p2)) hf
  unfold f9_canBeTold
  refine j_iload_n h dX9_canBeTold_0 rfl 2 rfl ?_
  refine j_ite (fun c_0 => ?_) (fun c_0 => ?_)
  · refine j_tabIn h 28 (0 : Int32) dX9_canBeTold_1 c_0 (by decide) (by decide) rfl (by decide) ?_
    refine j_iload_n h dX9_canBeTold_28 rfl 3 rfl ?_
    refine j_iconst (v := (-1 : Int32)) h dX9_canBeTold_29 (by decide) ?_
    refine j_icmp_eq h 40 dX9_canBeTold_30 (by decide) ?_ ?_
    · refine j_iconst (v := (1 : Int32)) h dX9_canBeTold_40 (by decide) ?_
      refine j_goto h 45 dX9_canBeTold_41 (by decide) ?_
      exact j_zretPC h rfl (by decide) fin dX9_canBeTold_45
    · refine j_iload_n h dX9_canBeTold_33 rfl 3 rfl ?_
      refine j_callNiP (n := 1) (As := [.int p2]) (rest := []) h (by decide +kernel) tw_447 tw_1 tw_448 ydf11_isFact (by decide) (by decide) (fun q hq => cf11_isFact (ph_okI h) hS hq) rfl (Nat.le_of_ble_eq_true rfl) rfl dX9_canBeTold_34 (fun q1 => ?_)
      refine j_if_eq h 44 dX9_canBeTold_37 (by decide) ?_ ?_
      · refine j_iconst (v := (0 : Int32)) h dX9_canBeTold_44 (by decide) ?_
        exact j_zretPC h rfl (by decide) fin dX9_canBeTold_45
      · refine j_iconst (v := (1 : Int32)) h dX9_canBeTold_40 (by decide) ?_
        refine j_goto h 45 dX9_canBeTold_41 (by decide) ?_
        exact j_zretPC h rfl (by decide) fin dX9_canBeTold_45
  · refine j_ite (fun c_1 => ?_) (fun c_1 => ?_)
    · refine j_tabIn h 46 (1 : Int32) dX9_canBeTold_1 c_1 (by decide) (by decide) rfl (by decide) ?_
      refine j_aload_n h dX9_canBeTold_46 rfl 0 rfl ?_
      refine j_iload_n h dX9_canBeTold_47 rfl 3 rfl ?_
      refine j_callViP (n := 1) (As := [.int p2]) (rest := []) h c tw_449 tw_450 tw_451 tw_3 tw_452 ydf9_arePeople (by decide) (by decide) (ph_S0n hS hc) (ph_S0 hS hc) rfl (fun q hq => cf9_arePeople (ph_okI h) hS hc hq) rfl (Nat.le_of_ble_eq_true rfl) rfl dX9_canBeTold_48 (fun q2 => ?_)
      refine j_if_eq h 66 dX9_canBeTold_51 (by decide) ?_ ?_
      · refine j_iconst (v := (0 : Int32)) h dX9_canBeTold_66 (by decide) ?_
        exact j_zretPC h rfl (by decide) fin dX9_canBeTold_67
      · refine j_iload_n h dX9_canBeTold_54 rfl 3 rfl ?_
        refine j_iload_n h dX9_canBeTold_55 rfl 1 rfl ?_
        refine j_callSiP (n := 2) (As := [.int p2, .int p0]) (rest := []) h tw_453 tw_454 tw_3 tw_455 ydf9_hasBit (by decide) (by decide) (fun q hq => cf9_hasBit (ph_okI h) hS hq) rfl (Nat.le_of_ble_eq_true rfl) rfl dX9_canBeTold_56 (fun q3 => ?_)
        refine j_if_ne h 66 dX9_canBeTold_59 (by decide) ?_ ?_
        · refine j_iconst (v := (0 : Int32)) h dX9_canBeTold_66 (by decide) ?_
          exact j_zretPC h rfl (by decide) fin dX9_canBeTold_67
        · refine j_iconst (v := (1 : Int32)) h dX9_canBeTold_62 (by decide) ?_
          refine j_goto h 67 dX9_canBeTold_63 (by decide) ?_
          exact j_zretPC h rfl (by decide) fin dX9_canBeTold_67
    · refine j_ite (fun c_2 => ?_) (fun c_2 => ?_)
      · refine j_tabIn h 68 (2 : Int32) dX9_canBeTold_1 c_2 (by decide) (by decide) rfl (by decide) ?_
        refine j_iload_n h dX9_canBeTold_68 rfl 3 rfl ?_
        refine j_if_lt h 82 dX9_canBeTold_69 (by decide) ?_ ?_
        · refine j_iconst (v := (0 : Int32)) h dX9_canBeTold_82 (by decide) ?_
          exact j_zretPC h rfl (by decide) fin dX9_canBeTold_83
        · refine j_iload_n h dX9_canBeTold_72 rfl 3 rfl ?_
          refine j_bipush (v := (99 : Int32)) h dX9_canBeTold_73 (by decide) ?_
          refine j_icmp_gt h 82 dX9_canBeTold_75 (by decide) ?_ ?_
          · refine j_iconst (v := (0 : Int32)) h dX9_canBeTold_82 (by decide) ?_
            exact j_zretPC h rfl (by decide) fin dX9_canBeTold_83
          · refine j_iconst (v := (1 : Int32)) h dX9_canBeTold_78 (by decide) ?_
            refine j_goto h 83 dX9_canBeTold_79 (by decide) ?_
            exact j_zretPC h rfl (by decide) fin dX9_canBeTold_83
      · have hq0 := lv_neT c_0 (a := 0) rfl
        have hq1 := lv_neT c_1 (a := 1) rfl
        have hq2 := lv_neT c_2 (a := 2) rfl
        refine j_tabOut h 84 dX9_canBeTold_1 (by omega) (by decide) ?_
        refine j_iconst (v := (0 : Int32)) h dX9_canBeTold_84 (by decide) ?_
        exact j_zretPC h rfl (by decide) fin dX9_canBeTold_85
theorem dX9_tell_0 : decode cX9_tell 0 = .ok (.iload_n 2, 1) := by decide +kernel
theorem dX9_tell_1 : decode cX9_tell 1 = .ok (.ifCond .ne 10, 3) := by decide +kernel
theorem dX9_tell_4 : decode cX9_tell 4 = .ok (.aload_n 0, 1) := by decide +kernel
theorem dX9_tell_5 : decode cX9_tell 5 = .ok (.getfield 15, 3) := by decide +kernel
theorem dX9_tell_8 : decode cX9_tell 8 = .ok (.goto 19, 3) := by decide +kernel
theorem dX9_tell_11 : decode cX9_tell 11 = .ok (.iload_n 2, 1) := by decide +kernel
theorem dX9_tell_12 : decode cX9_tell 12 = .ok (.iconst 1, 1) := by decide +kernel
theorem dX9_tell_13 : decode cX9_tell 13 = .ok (.if_icmp .ne 10, 3) := by decide +kernel
theorem dX9_tell_16 : decode cX9_tell 16 = .ok (.aload_n 0, 1) := by decide +kernel
theorem dX9_tell_17 : decode cX9_tell 17 = .ok (.getfield 18, 3) := by decide +kernel
theorem dX9_tell_20 : decode cX9_tell 20 = .ok (.goto 7, 3) := by decide +kernel
theorem dX9_tell_23 : decode cX9_tell 23 = .ok (.aload_n 0, 1) := by decide +kernel
theorem dX9_tell_24 : decode cX9_tell 24 = .ok (.getfield 21, 3) := by decide +kernel
theorem dX9_tell_27 : decode cX9_tell 27 = .ok (.astore 4, 2) := by decide +kernel
theorem dX9_tell_29 : decode cX9_tell 29 = .ok (.aload 4, 2) := by decide +kernel
theorem dX9_tell_31 : decode cX9_tell 31 = .ok (.iload_n 1, 1) := by decide +kernel
theorem dX9_tell_32 : decode cX9_tell 32 = .ok (.iaload, 1) := by decide +kernel
theorem dX9_tell_33 : decode cX9_tell 33 = .ok (.istore 5, 2) := by decide +kernel
theorem dX9_tell_35 : decode cX9_tell 35 = .ok (.aload 4, 2) := by decide +kernel
theorem dX9_tell_37 : decode cX9_tell 37 = .ok (.iload_n 1, 1) := by decide +kernel
theorem dX9_tell_38 : decode cX9_tell 38 = .ok (.iload_n 3, 1) := by decide +kernel
theorem dX9_tell_39 : decode cX9_tell 39 = .ok (.iastore, 1) := by decide +kernel
theorem dX9_tell_40 : decode cX9_tell 40 = .ok (.iload 5, 2) := by decide +kernel
theorem dX9_tell_42 : decode cX9_tell 42 = .ok (.ireturn, 1) := by decide +kernel
def f9_tell_j27 (S : ph_Sh) (c : Nat) (x1 : Int32) (x3 : Int32) (s0 : Nat) (M : ph_Mem) : Option (Int32 × ph_Mem) :=
  cond (ph_dyb S s0 72) (cond (ph_ib x1 72) (ph_let (M.1 s0 x1.toNatClampNeg) fun z2 => cond (ph_ib x1 72) (ph_let (ph_wi M s0 x1.toNatClampNeg x3) fun M3 => some (z2, M3)) none) none) none
set_option maxHeartbeats 4000000 in
theorem jb_f9_tell_j27 {tb adK adV : Nat → Nat} {S : ph_Sh} {c : Nat} {X : ph_X} {ad : Nat → Nat} {o : (Int32 × ph_Mem)} (h : ph_ok (ph_ZX tb adK adV) X cX9_tell RX9 (some .int) 6 0 S.2 ad) (fin : ph_fin X S.1 S.2 ad (some (.int o.1)) o.2) (hS : ph_SX S) (hc : ph_isS c) : ∀ (x1 : Int32) (x3 : Int32) (s0 : Nat) (M : ph_Mem), ph_J X S.1 S.2 ad o 27 [(1, .int x1), (3, .int x3)] [.ref (ad s0)] M (f9_tell_j27 S c x1 x3 s0 M) := by
  intro x1 x3 s0 M
  unfold f9_tell_j27
  refine j_chk (fun hd1 => ?_)
  refine j_astore h [(4, .ref (ad s0)), (1, .int x1), (3, .int x3)] dX9_tell_27 (by decide) rfl ?_
  refine j_aload h dX9_tell_29 0 rfl ?_
  refine j_iload_n h dX9_tell_31 rfl 1 rfl ?_
  refine j_iald (c := s0) (n := 72) h (ph_dyp hd1).1 (ph_dyp hd1).2 dX9_tell_32 ?_
  refine j_istore h [(5, .int (M.1 s0 x1.toNatClampNeg)), (4, .ref (ad s0)), (1, .int x1), (3, .int x3)] dX9_tell_33 (by decide) rfl ?_
  refine j_letI (lvf := fun z2 => [(5, .int z2), (4, .ref (ad s0)), (1, .int x1), (3, .int x3)]) (fun z2 => ?_)
  refine j_aload h dX9_tell_35 1 rfl ?_
  refine j_iload_n h dX9_tell_37 rfl 2 rfl ?_
  refine j_iload_n h dX9_tell_38 rfl 3 rfl ?_
  refine j_iast (c := s0) (n := 72) h (ph_dyp hd1).1 (ph_dyp hd1).2 dX9_tell_39 ?_
  refine j_letM (fun M3 => ?_)
  refine j_iload h dX9_tell_40 0 rfl ?_
  exact j_iret h rfl fin dX9_tell_42
theorem ydf9_tell : ph_yd yX9_tell 3 := ⟨by decide, by decide, by decide +kernel⟩
def f9_tell (S : ph_Sh) (M : ph_Mem) (c : Nat) (p0 : Int32) (p1 : Int32) (p2 : Int32) : Option (Int32 × ph_Mem) :=
  if p1 = 0 then (f9_tell_j27 S c p0 p2 (c + 2) M) else (if p1 = (1 : Int32) then (f9_tell_j27 S c p0 p2 (c + 3) M) else (f9_tell_j27 S c p0 p2 (c + 4) M))
set_option maxHeartbeats 4000000 in
theorem cf9_tell {tb adK adV : Nat → Nat} {S : ph_Sh} {c : Nat} {l : Launch} {D : va_G} {cA : Nat → ClassId} {ad : Nat → Nat} (hinj : ∀ i j, i < S.2 → j < S.2 → ad i = ad j → i = j) (hS : ph_SX S) (hc : ph_isS c) {M : ph_Mem} {p0 : Int32} {p1 : Int32} {p2 : Int32} {r : Int32} {M' : ph_Mem} (hf : f9_tell S M c p0 p1 p2 = some (r, M')) : ph_C (ph_ZX tb adK adV) l 0 yX9_tell cX9_tell 6 (some .int) D cA S.1 S.2 ad [.ref (ad c), .int p0, .int p1, .int p2] M (some (.int r)) M' := by
  refine ph_mk ph_ZX_ok hinj (by decide) (Nat.le_of_ble_eq_true rfl) fun X h fin hE => ?_
  refine (?_ : ph_J X S.1 S.2 ad ((r, M') : (Int32 × ph_Mem)) 0 [(0, .ref (ad c)), (1, .int p0), (2, .int p1), (3, .int p2)] [] M (f9_tell S M c p0 p1 p2)) hf
  unfold f9_tell
  refine j_iload_n h dX9_tell_0 rfl 2 rfl ?_
  refine j_if_ne h 11 dX9_tell_1 (by decide) ?_ ?_
  · refine j_iload_n h dX9_tell_11 rfl 2 rfl ?_
    refine j_iconst (v := (1 : Int32)) h dX9_tell_12 (by decide) ?_
    refine j_icmp_ne h 23 dX9_tell_13 (by decide) ?_ ?_
    · refine j_aload_n h dX9_tell_23 rfl 0 rfl ?_
      refine j_get (c := c) (j := 5) (v := .ref (ad (c + 4))) h (ph_S0n hS hc) (ph_S0 hS hc) rfl ph_inX9 rfl (by decide) tw_81 rfl rfl dX9_tell_24 ?_
      refine j_sub [1, 3] rfl ?_
      exact jb_f9_tell_j27 h fin hS hc p0 p2 (c + 4) M
    · refine j_aload_n h dX9_tell_16 rfl 0 rfl ?_
      refine j_get (c := c) (j := 4) (v := .ref (ad (c + 3))) h (ph_S0n hS hc) (ph_S0 hS hc) rfl ph_inX9 rfl (by decide) tw_79 rfl rfl dX9_tell_17 ?_
      refine j_goto h 27 dX9_tell_20 (by decide) ?_
      refine j_sub [1, 3] rfl ?_
      exact jb_f9_tell_j27 h fin hS hc p0 p2 (c + 3) M
  · refine j_aload_n h dX9_tell_4 rfl 0 rfl ?_
    refine j_get (c := c) (j := 3) (v := .ref (ad (c + 2))) h (ph_S0n hS hc) (ph_S0 hS hc) rfl ph_inX9 rfl (by decide) tw_76 rfl rfl dX9_tell_5 ?_
    refine j_goto h 27 dX9_tell_8 (by decide) ?_
    refine j_sub [1, 3] rfl ?_
    exact jb_f9_tell_j27 h fin hS hc p0 p2 (c + 2) M
