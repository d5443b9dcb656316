theorem dX12_bounded_0 : decode cX12_bounded 0 = .ok (.iload_n 3, 1) := by decide +kernel
theorem dX12_bounded_1 : decode cX12_bounded 1 = .ok (.ifCond .eq 24, 3) := by decide +kernel
theorem dX12_bounded_4 : decode cX12_bounded 4 = .ok (.lload_n 1, 1) := by decide +kernel
theorem dX12_bounded_5 : decode cX12_bounded 5 = .ok (.ldc2_w 286, 3) := by decide +kernel
theorem dX12_bounded_8 : decode cX12_bounded 8 = .ok (.lcmp, 1) := by decide +kernel
theorem dX12_bounded_9 : decode cX12_bounded 9 = .ok (.ifCond .gt 11, 3) := by decide +kernel
theorem dX12_bounded_12 : decode cX12_bounded 12 = .ok (.lload_n 1, 1) := by decide +kernel
theorem dX12_bounded_13 : decode cX12_bounded 13 = .ok (.ldc2_w 288, 3) := by decide +kernel
theorem dX12_bounded_16 : decode cX12_bounded 16 = .ok (.lcmp, 1) := by decide +kernel
theorem dX12_bounded_17 : decode cX12_bounded 17 = .ok (.ifCond .ge 8, 3) := by decide +kernel
theorem dX12_bounded_20 : decode cX12_bounded 20 = .ok (.aload_n 0, 1) := by decide +kernel
theorem dX12_bounded_21 : decode cX12_bounded 21 = .ok (.iconst 1, 1) := by decide +kernel
theorem dX12_bounded_22 : decode cX12_bounded 22 = .ok (.putfield 290, 3) := by decide +kernel
theorem dX12_bounded_25 : decode cX12_bounded 25 = .ok (.aload_n 0, 1) := by decide +kernel
theorem dX12_bounded_26 : decode cX12_bounded 26 = .ok (.getfield 290, 3) := by decide +kernel
theorem dX12_bounded_29 : decode cX12_bounded 29 = .ok (.ifCond .eq 7, 3) := by decide +kernel
theorem dX12_bounded_32 : decode cX12_bounded 32 = .ok (.lconst 0, 1) := by decide +kernel
theorem dX12_bounded_33 : decode cX12_bounded 33 = .ok (.goto 4, 3) := by decide +kernel
theorem dX12_bounded_36 : decode cX12_bounded 36 = .ok (.lload_n 1, 1) := by decide +kernel
theorem dX12_bounded_37 : decode cX12_bounded 37 = .ok (.lreturn, 1) := by decide +kernel
def f12_bounded_j25 (x1 : Int64) (M : ph_Mem) : Option (Int64 × ph_Mem) :=
  if (M.1 0 24) = 0 then (some (x1, M)) else (some ((0 : Int64), M))
set_option maxHeartbeats 4000000 in
theorem jb_f12_bounded_j25 {Z : (Nat → Prop) → State → Prop} {X : ph_X} {ad : Nat → Nat} {o : (Int64 × ph_Mem)} (h : ph_ok Z X cX12_bounded RX12 (some .long) 4 0 ph_NM ad) (fin : ph_fin X ph_kdM ph_NM ad (some (.long o.1)) o.2) : ∀ (x1 : Int64) (M : ph_Mem), ph_J X ph_kdM ph_NM ad o 25 [(0, .ref (ad 0)), (1, .long x1)] [] M (f12_bounded_j25 x1 M) := by
  intro x1 M
  unfold f12_bounded_j25
  refine j_aload_n h dX12_bounded_25 rfl 0 rfl ?_
  refine j_get (c := 0) (j := 24) (v := .int (M.1 0 24)) h (by decide) rfl rfl ph_inX12 rfl (by decide) tw_1223 rfl rfl dX12_bounded_26 ?_
  refine j_if_eq h 36 dX12_bounded_29 (by decide) ?_ ?_
  · refine j_lload_n h dX12_bounded_36 rfl 1 rfl ?_
    exact j_lret h rfl fin dX12_bounded_37
  · refine j_lconst (v := (0 : Int64)) h dX12_bounded_32 (by decide) ?_
    refine j_goto h 37 dX12_bounded_33 (by decide) ?_
    exact j_lret h rfl fin dX12_bounded_37
def f12_bounded_j20 (x1 : Int64) (M : ph_Mem) : Option (Int64 × ph_Mem) :=
  ph_let (ph_wi M 0 24 (1 : Int32)) fun M1 => f12_bounded_j25 x1 M1
set_option maxHeartbeats 4000000 in
theorem jb_f12_bounded_j20 {Z : (Nat → Prop) → State → Prop} {X : ph_X} {ad : Nat → Nat} {o : (Int64 × ph_Mem)} (h : ph_ok Z X cX12_bounded RX12 (some .long) 4 0 ph_NM ad) (fin : ph_fin X ph_kdM ph_NM ad (some (.long o.1)) o.2) : ∀ (x1 : Int64) (M : ph_Mem), ph_J X ph_kdM ph_NM ad o 20 [(0, .ref (ad 0)), (1, .long x1)] [] M (f12_bounded_j20 x1 M) := by
  intro x1 M
  unfold f12_bounded_j20
  refine j_aload_n h dX12_bounded_20 rfl 0 rfl ?_
  refine j_iconst (v := (1 : Int32)) h dX12_bounded_21 (by decide) ?_
  refine j_puti (c := 0) (j := 24) (ty := .boolean) h (by decide) rfl rfl ph_inX12 tyX12 tyX12_ok nmX12 rfl (by decide) tw_1223 rfl rfl (tyX12_ok 24 (by decide)) rfl rfl dX12_bounded_22 ?_
  refine j_letM (fun M1 => ?_)
  refine j_sub [0, 1] rfl ?_
  exact jb_f12_bounded_j25 h fin x1 M1
theorem ydf12_bounded : ph_yd yX12_bounded 2 := ⟨by decide, by decide, by decide +kernel⟩
def f12_bounded (M : ph_Mem) (p0 : Int64) (p1 : Int32) : Option (Int64 × ph_Mem) :=
  if p1 = 0 then (f12_bounded_j25 p0 M) else (if 0 < (lg_cmp p0 (1000000000 : Int64)) then (f12_bounded_j20 p0 M) else (if 0 ≤ (lg_cmp p0 (-1000000000 : Int64)) then (f12_bounded_j25 p0 M) else (f12_bounded_j20 p0 M)))
set_option maxHeartbeats 4000000 in
theorem cf12_bounded {Z : (Nat → Prop) → State → Prop} (hZ : ph_Zok Z) {l : Launch} {D : va_G} {cA : Nat → ClassId} {ad : Nat → Nat} (hinj : ∀ i j, i < ph_NM → j < ph_NM → ad i = ad j → i = j) {M : ph_Mem} {p0 : Int64} {p1 : Int32} {r : Int64} {M' : ph_Mem} (hf : f12_bounded M p0 p1 = some (r, M')) : ph_C Z l 0 yX12_bounded cX12_bounded 4 (some .long) D cA ph_kdM ph_NM ad [.ref (ad 0), .long p0, .int p1] M (some (.long r)) M' := by
  refine ph_mk hZ hinj (by decide) (Nat.le_of_ble_eq_true rfl) fun X h fin hE => ?_
  refine (?_ : ph_J X ph_kdM ph_NM ad ((r, M') : (Int64 × ph_Mem)) 0 [(0, .ref (ad 0)), (1, .long p0), (3, .int p1)] [] M (f12_bounded M p0 p1)) hf
  unfold f12_bounded
  refine j_iload_n h dX12_bounded_0 rfl 2 rfl ?_
  refine j_if_eq h 25 dX12_bounded_1 (by decide) ?_ ?_
  · refine j_sub [0, 1] rfl ?_
    exact jb_f12_bounded_j25 h fin p0 M
  · refine j_lload_n h dX12_bounded_4 rfl 1 rfl ?_
    refine j_ldc2 (v := (1000000000 : Int64)) h dX12_bounded_5 tw_1481 ?_
    refine j_lcmp h dX12_bounded_8 ?_
    refine j_if_gt h 20 dX12_bounded_9 (by decide) ?_ ?_
    · refine j_sub [0, 1] rfl ?_
      exact jb_f12_bounded_j20 h fin p0 M
    · refine j_lload_n h dX12_bounded_12 rfl 1 rfl ?_
      refine j_ldc2 (v := (-1000000000 : Int64)) h dX12_bounded_13 tw_1482 ?_
      refine j_lcmp h dX12_bounded_16 ?_
      refine j_if_ge h 25 dX12_bounded_17 (by decide) ?_ ?_
      · refine j_sub [0, 1] rfl ?_
        exact jb_f12_bounded_j25 h fin p0 M
      · refine j_sub [0, 1] rfl ?_
        exact jb_f12_bounded_j20 h fin p0 M
theorem dX12_termOf_0 : decode cX12_termOf 0 = .ok (.aload_n 0, 1) := by decide +kernel
theorem dX12_termOf_1 : decode cX12_termOf 1 = .ok (.iload_n 1, 1) := by decide +kernel
theorem dX12_termOf_2 : decode cX12_termOf 2 = .ok (.invokevirtual 301, 3) := by decide +kernel
theorem dX12_termOf_5 : decode cX12_termOf 5 = .ok (.lstore_n 2, 1) := by decide +kernel
theorem dX12_termOf_6 : decode cX12_termOf 6 = .ok (.aload_n 0, 1) := by decide +kernel
theorem dX12_termOf_7 : decode cX12_termOf 7 = .ok (.aload_n 0, 1) := by decide +kernel
theorem dX12_termOf_8 : decode cX12_termOf 8 = .ok (.getfield 280, 3) := by decide +kernel
theorem dX12_termOf_11 : decode cX12_termOf 11 = .ok (.invokevirtual 283, 3) := by decide +kernel
theorem dX12_termOf_14 : decode cX12_termOf 14 = .ok (.bipush 42, 2) := by decide +kernel
theorem dX12_termOf_16 : decode cX12_termOf 16 = .ok (.invokestatic 242, 3) := by decide +kernel
theorem dX12_termOf_19 : decode cX12_termOf 19 = .ok (.if_icmp .eq 35, 3) := by decide +kernel
theorem dX12_termOf_22 : decode cX12_termOf 22 = .ok (.aload_n 0, 1) := by decide +kernel
theorem dX12_termOf_23 : decode cX12_termOf 23 = .ok (.aload_n 0, 1) := by decide +kernel
theorem dX12_termOf_24 : decode cX12_termOf 24 = .ok (.getfield 280, 3) := by decide +kernel
theorem dX12_termOf_27 : decode cX12_termOf 27 = .ok (.invokevirtual 283, 3) := by decide +kernel
theorem dX12_termOf_30 : decode cX12_termOf 30 = .ok (.bipush 47, 2) := by decide +kernel
theorem dX12_termOf_32 : decode cX12_termOf 32 = .ok (.invokestatic 242, 3) := by decide +kernel
theorem dX12_termOf_35 : decode cX12_termOf 35 = .ok (.if_icmp .eq 19, 3) := by decide +kernel
theorem dX12_termOf_38 : decode cX12_termOf 38 = .ok (.aload_n 0, 1) := by decide +kernel
theorem dX12_termOf_39 : decode cX12_termOf 39 = .ok (.aload_n 0, 1) := by decide +kernel
theorem dX12_termOf_40 : decode cX12_termOf 40 = .ok (.getfield 280, 3) := by decide +kernel
theorem dX12_termOf_43 : decode cX12_termOf 43 = .ok (.invokevirtual 283, 3) := by decide +kernel
theorem dX12_termOf_46 : decode cX12_termOf 46 = .ok (.bipush 37, 2) := by decide +kernel
theorem dX12_termOf_48 : decode cX12_termOf 48 = .ok (.invokestatic 242, 3) := by decide +kernel
theorem dX12_termOf_51 : decode cX12_termOf 51 = .ok (.if_icmp .ne 117, 3) := by decide +kernel
theorem dX12_termOf_54 : decode cX12_termOf 54 = .ok (.aload_n 0, 1) := by decide +kernel
theorem dX12_termOf_55 : decode cX12_termOf 55 = .ok (.aload_n 0, 1) := by decide +kernel
theorem dX12_termOf_56 : decode cX12_termOf 56 = .ok (.getfield 280, 3) := by decide +kernel
theorem dX12_termOf_59 : decode cX12_termOf 59 = .ok (.invokevirtual 283, 3) := by decide +kernel
theorem dX12_termOf_62 : decode cX12_termOf 62 = .ok (.istore 4, 2) := by decide +kernel
theorem dX12_termOf_64 : decode cX12_termOf 64 = .ok (.aload_n 0, 1) := by decide +kernel
theorem dX12_termOf_65 : decode cX12_termOf 65 = .ok (.dup, 1) := by decide +kernel
theorem dX12_termOf_66 : decode cX12_termOf 66 = .ok (.getfield 280, 3) := by decide +kernel
theorem dX12_termOf_69 : decode cX12_termOf 69 = .ok (.iconst 1, 1) := by decide +kernel
theorem dX12_termOf_70 : decode cX12_termOf 70 = .ok (.iadd, 1) := by decide +kernel
theorem dX12_termOf_71 : decode cX12_termOf 71 = .ok (.putfield 280, 3) := by decide +kernel
theorem dX12_termOf_74 : decode cX12_termOf 74 = .ok (.aload_n 0, 1) := by decide +kernel
theorem dX12_termOf_75 : decode cX12_termOf 75 = .ok (.iload_n 1, 1) := by decide +kernel
theorem dX12_termOf_76 : decode cX12_termOf 76 = .ok (.invokevirtual 301, 3) := by decide +kernel
theorem dX12_termOf_79 : decode cX12_termOf 79 = .ok (.lstore 5, 2) := by decide +kernel
theorem dX12_termOf_81 : decode cX12_termOf 81 = .ok (.iload 4, 2) := by decide +kernel
theorem dX12_termOf_83 : decode cX12_termOf 83 = .ok (.bipush 42, 2) := by decide +kernel
theorem dX12_termOf_85 : decode cX12_termOf 85 = .ok (.invokestatic 242, 3) := by decide +kernel
theorem dX12_termOf_88 : decode cX12_termOf 88 = .ok (.if_icmp .eq 33, 3) := by decide +kernel
theorem dX12_termOf_91 : decode cX12_termOf 91 = .ok (.lload 5, 2) := by decide +kernel
theorem dX12_termOf_93 : decode cX12_termOf 93 = .ok (.lconst 0, 1) := by decide +kernel
theorem dX12_termOf_94 : decode cX12_termOf 94 = .ok (.lcmp, 1) := by decide +kernel
theorem dX12_termOf_95 : decode cX12_termOf 95 = .ok (.ifCond .ne 26, 3) := by decide +kernel
theorem dX12_termOf_98 : decode cX12_termOf 98 = .ok (.aload_n 0, 1) := by decide +kernel
theorem dX12_termOf_99 : decode cX12_termOf 99 = .ok (.aload_n 0, 1) := by decide +kernel
theorem dX12_termOf_100 : decode cX12_termOf 100 = .ok (.getfield 290, 3) := by decide +kernel
theorem dX12_termOf_103 : decode cX12_termOf 103 = .ok (.ifCond .ne 7, 3) := by decide +kernel
theorem dX12_termOf_106 : decode cX12_termOf 106 = .ok (.iload_n 1, 1) := by decide +kernel
theorem dX12_termOf_107 : decode cX12_termOf 107 = .ok (.ifCond .eq 7, 3) := by decide +kernel
theorem dX12_termOf_110 : decode cX12_termOf 110 = .ok (.iconst 1, 1) := by decide +kernel
theorem dX12_termOf_111 : decode cX12_termOf 111 = .ok (.goto 4, 3) := by decide +kernel
theorem dX12_termOf_114 : decode cX12_termOf 114 = .ok (.iconst 0, 1) := by decide +kernel
theorem dX12_termOf_115 : decode cX12_termOf 115 = .ok (.putfield 290, 3) := by decide +kernel
theorem dX12_termOf_118 : decode cX12_termOf 118 = .ok (.lconst 1, 1) := by decide +kernel
theorem dX12_termOf_119 : decode cX12_termOf 119 = .ok (.lstore 5, 2) := by decide +kernel
theorem dX12_termOf_121 : decode cX12_termOf 121 = .ok (.aload_n 0, 1) := by decide +kernel
theorem dX12_termOf_122 : decode cX12_termOf 122 = .ok (.iload 4, 2) := by decide +kernel
theorem dX12_termOf_124 : decode cX12_termOf 124 = .ok (.bipush 42, 2) := by decide +kernel
theorem dX12_termOf_126 : decode cX12_termOf 126 = .ok (.invokestatic 242, 3) := by decide +kernel
theorem dX12_termOf_129 : decode cX12_termOf 129 = .ok (.if_icmp .ne 10, 3) := by decide +kernel
theorem dX12_termOf_132 : decode cX12_termOf 132 = .ok (.lload_n 2, 1) := by decide +kernel
theorem dX12_termOf_133 : decode cX12_termOf 133 = .ok (.lload 5, 2) := by decide +kernel
theorem dX12_termOf_135 : decode cX12_termOf 135 = .ok (.lmul, 1) := by decide +kernel
theorem dX12_termOf_136 : decode cX12_termOf 136 = .ok (.goto 24, 3) := by decide +kernel
theorem dX12_termOf_139 : decode cX12_termOf 139 = .ok (.iload 4, 2) := by decide +kernel
theorem dX12_termOf_141 : decode cX12_termOf 141 = .ok (.bipush 47, 2) := by decide +kernel
theorem dX12_termOf_143 : decode cX12_termOf 143 = .ok (.invokestatic 242, 3) := by decide +kernel
theorem dX12_termOf_146 : decode cX12_termOf 146 = .ok (.if_icmp .ne 10, 3) := by decide +kernel
theorem dX12_termOf_149 : decode cX12_termOf 149 = .ok (.lload_n 2, 1) := by decide +kernel
theorem dX12_termOf_150 : decode cX12_termOf 150 = .ok (.lload 5, 2) := by decide +kernel
theorem dX12_termOf_152 : decode cX12_termOf 152 = .ok (.ldiv, 1) := by decide +kernel
theorem dX12_termOf_153 : decode cX12_termOf 153 = .ok (.goto 7, 3) := by decide +kernel
theorem dX12_termOf_156 : decode cX12_termOf 156 = .ok (.lload_n 2, 1) := by decide +kernel
theorem dX12_termOf_157 : decode cX12_termOf 157 = .ok (.lload 5, 2) := by decide +kernel
theorem dX12_termOf_159 : decode cX12_termOf 159 = .ok (.lrem, 1) := by decide +kernel
theorem dX12_termOf_160 : decode cX12_termOf 160 = .ok (.iload_n 1, 1) := by decide +kernel
theorem dX12_termOf_161 : decode cX12_termOf 161 = .ok (.invokevirtual 297, 3) := by decide +kernel
theorem dX12_termOf_164 : decode cX12_termOf 164 = .ok (.lstore_n 2, 1) := by decide +kernel
theorem dX12_termOf_165 : decode cX12_termOf 165 = .ok (.goto (-159), 3) := by decide +kernel
theorem dX12_termOf_168 : decode cX12_termOf 168 = .ok (.lload_n 2, 1) := by decide +kernel
theorem dX12_termOf_169 : decode cX12_termOf 169 = .ok (.lreturn, 1) := by decide +kernel
def f12_termOf_j160 (rs : ph_Mem → Int32 → Option (Int64 × ph_Mem)) (rc6 : Int32 → Int64 → ph_Mem → Option (Int64 × ph_Mem)) (x1 : Int32) (s0 : Int64) (M : ph_Mem) : Option (Int64 × ph_Mem) :=
  (f12_bounded M s0 x1).bind fun q15 => rc6 x1 q15.1 q15.2
set_option maxHeartbeats 4000000 in
theorem jb_f12_termOf_j160 {Z : (Nat → Prop) → State → Prop} {X : ph_X} {ad : Nat → Nat} {o : (Int64 × ph_Mem)} {rs : ph_Mem → Int32 → Option (Int64 × ph_Mem)} {dr : Nat} (h : ph_ok Z X cX12_termOf RX12 (some .long) 7 (dr + 2) ph_NM ad) (fin : ph_fin X ph_kdM ph_NM ad (some (.long o.1)) o.2) (hB : 2 ≤ dr) (hrs : ∀ (M : ph_Mem) (a0 : Int32) (q : (Int64 × ph_Mem)), rs M a0 = some q → ph_CX Z X dr yX12_sumOf cX12_sumOf 7 (some .long) ph_kdM ph_NM ad [.ref (ad 0), .int a0] M (some (.long q.1)) q.2)  {rc6 : Int32 → Int64 → ph_Mem → Option (Int64 × ph_Mem)} (hrc6 : ∀ (x1 : Int32) (x2 : Int64) (M : ph_Mem), ph_J X ph_kdM ph_NM ad o 6 [(0, .ref (ad 0)), (1, .int x1), (2, .long x2)] [] M (rc6 x1 x2 M)) : ∀ (x1 : Int32) (s0 : Int64) (M : ph_Mem), ph_J X ph_kdM ph_NM ad o 160 [(0, .ref (ad 0)), (1, .int x1)] [.long s0, .ref (ad 0)] M (f12_termOf_j160 rs rc6 x1 s0 M) := by
  intro x1 s0 M
  unfold f12_termOf_j160
  refine j_iload_n h dX12_termOf_160 rfl 1 rfl ?_
  refine j_callVl (n := 2) (As := [.long s0, .int x1]) (rest := []) h 0 tw_1477 tw_1479 tp_68 tw_14 tw_1480 ydf12_bounded (by omega) (by decide) (by decide) rfl rfl (fun q hq => cf12_bounded (ph_okZ h) (ph_okI h) hq) rfl (Nat.le_of_ble_eq_true rfl) rfl dX12_termOf_161 (fun q15 => ?_)
  refine j_lstore_n h [(2, .long q15.1), (0, .ref (ad 0)), (1, .int x1)] dX12_termOf_164 rfl (by decide) rfl ?_
  refine j_goto h 6 dX12_termOf_165 (by decide) ?_
  refine j_sub [1, 2, 0] rfl ?_
  exact hrc6 x1 q15.1 q15.2
def f12_termOf_j121 (rs : ph_Mem → Int32 → Option (Int64 × ph_Mem)) (rc6 : Int32 → Int64 → ph_Mem → Option (Int64 × ph_Mem)) (x1 : Int32) (x2 : Int64) (x4 : Int32) (x5 : Int64) (M : ph_Mem) : Option (Int64 × ph_Mem) :=
  (f12_sign M (42 : Int32)).bind fun q13 => if x4 = q13 then (f12_termOf_j160 rs rc6 x1 (x2 * x5) M) else ((f12_sign M (47 : Int32)).bind fun q14 => if x4 = q14 then (if x5 = 0 then none else f12_termOf_j160 rs rc6 x1 (x2 / x5) M) else (if x5 = 0 then none else f12_termOf_j160 rs rc6 x1 (x2 - x2 / x5 * x5) M))
set_option maxHeartbeats 4000000 in
theorem jb_f12_termOf_j121 {Z : (Nat → Prop) → State → Prop} {X : ph_X} {ad : Nat → Nat} {o : (Int64 × ph_Mem)} {rs : ph_Mem → Int32 → Option (Int64 × ph_Mem)} {dr : Nat} (h : ph_ok Z X cX12_termOf RX12 (some .long) 7 (dr + 2) ph_NM ad) (fin : ph_fin X ph_kdM ph_NM ad (some (.long o.1)) o.2) (hB : 2 ≤ dr) (hrs : ∀ (M : ph_Mem) (a0 : Int32) (q : (Int64 × ph_Mem)), rs M a0 = some q → ph_CX Z X dr yX12_sumOf cX12_sumOf 7 (some .long) ph_kdM ph_NM ad [.ref (ad 0), .int a0] M (some (.long q.1)) q.2)  {rc6 : Int32 → Int64 → ph_Mem → Option (Int64 × ph_Mem)} (hrc6 : ∀ (x1 : Int32) (x2 : Int64) (M : ph_Mem), ph_J X ph_kdM ph_NM ad o 6 [(0, .ref (ad 0)), (1, .int x1), (2, .long x2)] [] M (rc6 x1 x2 M)) : ∀ (x1 : Int32) (x2 : Int64) (x4 : Int32) (x5 : Int64) (M : ph_Mem), ph_J X ph_kdM ph_NM ad o 121 [(0, .ref (ad 0)), (1, .int x1), (2, .long x2), (4, .int x4), (5, .long x5)] [] M (f12_termOf_j121 rs rc6 x1 x2 x4 x5 M) := by
  intro x1 x2 x4 x5 M
  unfold f12_termOf_j121
  refine j_aload_n h dX12_termOf_121 rfl 0 rfl ?_
  refine j_iload h dX12_termOf_122 3 rfl ?_
  refine j_bipush (v := (42 : Int32)) h dX12_termOf_124 (by decide) ?_
  refine j_callSiP (n := 1) (As := [.int (42 : Int32)]) (rest := [.int x4, .ref (ad 0)]) h tw_1461 tw_1462 tw_14 tw_1463 ydf12_sign (by omega) (by decide) (fun q hq => cf12_sign (ph_okZ h) (ph_okI h) hq) rfl (Nat.le_of_ble_eq_true rfl) rfl dX12_termOf_126 (fun q13 => ?_)
  refine j_icmp_ne h 139 dX12_termOf_129 (by decide) ?_ ?_
  · refine j_iload h dX12_termOf_139 3 rfl ?_
    refine j_bipush (v := (47 : Int32)) h dX12_termOf_141 (by decide) ?_
    refine j_callSiP (n := 1) (As := [.int (47 : Int32)]) (rest := [.int x4, .ref (ad 0)]) h tw_1461 tw_1462 tw_14 tw_1463 ydf12_sign (by omega) (by decide) (fun q hq => cf12_sign (ph_okZ h) (ph_okI h) hq) rfl (Nat.le_of_ble_eq_true rfl) rfl dX12_termOf_143 (fun q14 => ?_)
    refine j_icmp_ne h 156 dX12_termOf_146 (by decide) ?_ ?_
    · refine j_lload_n h dX12_termOf_156 rfl 2 rfl ?_
      refine j_lload h dX12_termOf_157 4 rfl ?_
      refine j_lrem h dX12_termOf_159 ?_
      refine j_sub [0, 1] rfl ?_
      exact jb_f12_termOf_j160 h fin hB hrs hrc6 x1 (x2 - x2 / x5 * x5) M
    · refine j_lload_n h dX12_termOf_149 rfl 2 rfl ?_
      refine j_lload h dX12_termOf_150 4 rfl ?_
      refine j_ldiv h dX12_termOf_152 ?_
      refine j_goto h 160 dX12_termOf_153 (by decide) ?_
      refine j_sub [0, 1] rfl ?_
      exact jb_f12_termOf_j160 h fin hB hrs hrc6 x1 (x2 / x5) M
  · refine j_lload_n h dX12_termOf_132 rfl 2 rfl ?_
    refine j_lload h dX12_termOf_133 4 rfl ?_
    refine j_lmul h dX12_termOf_135 ?_
    refine j_goto h 160 dX12_termOf_136 (by decide) ?_
    refine j_sub [0, 1] rfl ?_
    exact jb_f12_termOf_j160 h fin hB hrs hrc6 x1 (x2 * x5) M
def f12_termOf_j115 (rs : ph_Mem → Int32 → Option (Int64 × ph_Mem)) (rc6 : Int32 → Int64 → ph_Mem → Option (Int64 × ph_Mem)) (x1 : Int32) (x2 : Int64) (x4 : Int32) (s0 : Int32) (M : ph_Mem) : Option (Int64 × ph_Mem) :=
  cond (ph_isz s0) (ph_let (ph_wi M 0 24 s0) fun M12 => f12_termOf_j121 rs rc6 x1 x2 x4 (1 : Int64) M12) none
set_option maxHeartbeats 4000000 in
theorem jb_f12_termOf_j115 {Z : (Nat → Prop) → State → Prop} {X : ph_X} {ad : Nat → Nat} {o : (Int64 × ph_Mem)} {rs : ph_Mem → Int32 → Option (Int64 × ph_Mem)} {dr : Nat} (h : ph_ok Z X cX12_termOf RX12 (some .long) 7 (dr + 2) ph_NM ad) (fin : ph_fin X ph_kdM ph_NM ad (some (.long o.1)) o.2) (hB : 2 ≤ dr) (hrs : ∀ (M : ph_Mem) (a0 : Int32) (q : (Int64 × ph_Mem)), rs M a0 = some q → ph_CX Z X dr yX12_sumOf cX12_sumOf 7 (some .long) ph_kdM ph_NM ad [.ref (ad 0), .int a0] M (some (.long q.1)) q.2)  {rc6 : Int32 → Int64 → ph_Mem → Option (Int64 × ph_Mem)} (hrc6 : ∀ (x1 : Int32) (x2 : Int64) (M : ph_Mem), ph_J X ph_kdM ph_NM ad o 6 [(0, .ref (ad 0)), (1, .int x1), (2, .long x2)] [] M (rc6 x1 x2 M)) : ∀ (x1 : Int32) (x2 : Int64) (x4 : Int32) (s0 : Int32) (M : ph_Mem), ph_J X ph_kdM ph_NM ad o 115 [(0, .ref (ad 0)), (1, .int x1), (2, .long x2), (4, .int x4)] [.int s0, .ref (ad 0)] M (f12_termOf_j115 rs rc6 x1 x2 x4 s0 M) := by
  intro x1 x2 x4 s0 M
  unfold f12_termOf_j115
  refine j_putz (c := 0) (j := 24)  h (by decide) rfl rfl ph_inX12 tyX12 tyX12_ok nmX12 rfl (by decide) tw_1223 rfl rfl (tyX12_ok 24 (by decide)) dX12_termOf_115 ?_
  refine j_letM (fun M12 => ?_)
  refine j_lconst (v := (1 : Int64)) h dX12_termOf_118 (by decide) ?_
  refine j_lstore h [(5, .long (1 : Int64)), (0, .ref (ad 0)), (1, .int x1), (2, .long x2), (4, .int x4)] dX12_termOf_119 (by decide) rfl ?_
  refine j_sub [1, 2, 3, 4, 0] rfl ?_
  exact jb_f12_termOf_j121 h fin hB hrs hrc6 x1 x2 x4 (1 : Int64) M12
def f12_termOf_j110 (rs : ph_Mem → Int32 → Option (Int64 × ph_Mem)) (rc6 : Int32 → Int64 → ph_Mem → Option (Int64 × ph_Mem)) (x1 : Int32) (x2 : Int64) (x4 : Int32) (M : ph_Mem) : Option (Int64 × ph_Mem) :=
  f12_termOf_j115 rs rc6 x1 x2 x4 (1 : Int32) M
set_option maxHeartbeats 4000000 in
theorem jb_f12_termOf_j110 {Z : (Nat → Prop) → State → Prop} {X : ph_X} {ad : Nat → Nat} {o : (Int64 × ph_Mem)} {rs : ph_Mem → Int32 → Option (Int64 × ph_Mem)} {dr : Nat} (h : ph_ok Z X cX12_termOf RX12 (some .long) 7 (dr + 2) ph_NM ad) (fin : ph_fin X ph_kdM ph_NM ad (some (.long o.1)) o.2) (hB : 2 ≤ dr) (hrs : ∀ (M : ph_Mem) (a0 : Int32) (q : (Int64 × ph_Mem)), rs M a0 = some q → ph_CX Z X dr yX12_sumOf cX12_sumOf 7 (some .long) ph_kdM ph_NM ad [.ref (ad 0), .int a0] M (some (.long q.1)) q.2)  {rc6 : Int32 → Int64 → ph_Mem → Option (Int64 × ph_Mem)} (hrc6 : ∀ (x1 : Int32) (x2 : Int64) (M : ph_Mem), ph_J X ph_kdM ph_NM ad o 6 [(0, .ref (ad 0)), (1, .int x1), (2, .long x2)] [] M (rc6 x1 x2 M)) : ∀ (x1 : Int32) (x2 : Int64) (x4 : Int32) (M : ph_Mem), ph_J X ph_kdM ph_NM ad o 110 [(0, .ref (ad 0)), (1, .int x1), (2, .long x2), (4, .int x4)] [.ref (ad 0)] M (f12_termOf_j110 rs rc6 x1 x2 x4 M) := by
  intro x1 x2 x4 M
  unfold f12_termOf_j110
  refine j_iconst (v := (1 : Int32)) h dX12_termOf_110 (by decide) ?_
  refine j_goto h 115 dX12_termOf_111 (by decide) ?_
  refine j_sub [0, 1, 2, 3] rfl ?_
  exact jb_f12_termOf_j115 h fin hB hrs hrc6 x1 x2 x4 (1 : Int32) M
def f12_termOf_j54 (rs : ph_Mem → Int32 → Option (Int64 × ph_Mem)) (rc6 : Int32 → Int64 → ph_Mem → Option (Int64 × ph_Mem)) (x1 : Int32) (x2 : Int64) (M : ph_Mem) : Option (Int64 × ph_Mem) :=
  (f12_codeAt M (M.1 0 22)).bind fun q8 => ph_let (ph_wi M 0 22 ((M.1 0 22) + (1 : Int32))) fun M9 => (f12_partOf rs M9 x1).bind fun q10 => (f12_sign q10.2 (42 : Int32)).bind fun q11 => if q8 = q11 then (f12_termOf_j121 rs rc6 x1 x2 q8 q10.1 q10.2) else (if (lg_cmp q10.1 (0 : Int64)) = 0 then (if (q10.2.1 0 24) = 0 then (if x1 = 0 then (f12_termOf_j115 rs rc6 x1 x2 q8 (0 : Int32) q10.2) else (f12_termOf_j110 rs rc6 x1 x2 q8 q10.2)) else (f12_termOf_j110 rs rc6 x1 x2 q8 q10.2)) else (f12_termOf_j121 rs rc6 x1 x2 q8 q10.1 q10.2))
set_option maxHeartbeats 4000000 in
theorem jb_f12_termOf_j54 {Z : (Nat → Prop) → State → Prop} {X : ph_X} {ad : Nat → Nat} {o : (Int64 × ph_Mem)} {rs : ph_Mem → Int32 → Option (Int64 × ph_Mem)} {dr : Nat} (h : ph_ok Z X cX12_termOf RX12 (some .long) 7 (dr + 2) ph_NM ad) (fin : ph_fin X ph_kdM ph_NM ad (some (.long o.1)) o.2) (hB : 2 ≤ dr) (hrs : ∀ (M : ph_Mem) (a0 : Int32) (q : (Int64 × ph_Mem)), rs M a0 = some q → ph_CX Z X dr yX12_sumOf cX12_sumOf 7 (some .long) ph_kdM ph_NM ad [.ref (ad 0), .int a0] M (some (.long q.1)) q.2)  {rc6 : Int32 → Int64 → ph_Mem → Option (Int64 × ph_Mem)} (hrc6 : ∀ (x1 : Int32) (x2 : Int64) (M : ph_Mem), ph_J X ph_kdM ph_NM ad o 6 [(0, .ref (ad 0)), (1, .int x1), (2, .long x2)] [] M (rc6 x1 x2 M)) : ∀ (x1 : Int32) (x2 : Int64) (M : ph_Mem), ph_J X ph_kdM ph_NM ad o 54 [(0, .ref (ad 0)), (1, .int x1), (2, .long x2)] [] M (f12_termOf_j54 rs rc6 x1 x2 M) := by
  intro x1 x2 M
  unfold f12_termOf_j54
  refine j_aload_n h dX12_termOf_54 rfl 0 rfl ?_
  refine j_aload_n h dX12_termOf_55 rfl 0 rfl ?_
  refine j_get (c := 0) (j := 22) (v := .int (M.1 0 22)) h (by decide) rfl rfl ph_inX12 rfl (by decide) tw_1221 rfl rfl dX12_termOf_56 ?_
  refine j_callViP (n := 1) (As := [.int (M.1 0 22)]) (rest := []) h 0 tw_1445 tw_1447 tp_61 tw_14 tw_1448 ydf12_codeAt (by omega) (by decide) (by decide) rfl rfl (fun q hq => cf12_codeAt (ph_okZ h) (ph_okI h) hq) rfl (Nat.le_of_ble_eq_true rfl) rfl dX12_termOf_59 (fun q8 => ?_)
  refine j_istore h [(4, .int q8), (0, .ref (ad 0)), (1, .int x1), (2, .long x2)] dX12_termOf_62 (by decide) rfl ?_
  refine j_aload_n h dX12_termOf_64 rfl 1 rfl ?_
  refine j_dup h dX12_termOf_65 rfl ?_
  refine j_get (c := 0) (j := 22) (v := .int (M.1 0 22)) h (by decide) rfl rfl ph_inX12 rfl (by decide) tw_1221 rfl rfl dX12_termOf_66 ?_
  refine j_iconst (v := (1 : Int32)) h dX12_termOf_69 (by decide) ?_
  refine j_iadd h dX12_termOf_70 ?_
  refine j_puti (c := 0) (j := 22) (ty := .int) h (by decide) rfl rfl ph_inX12 tyX12 tyX12_ok nmX12 rfl (by decide) tw_1221 rfl rfl (tyX12_ok 22 (by decide)) rfl rfl dX12_termOf_71 ?_
  refine j_letM (fun M9 => ?_)
  refine j_aload_n h dX12_termOf_74 rfl 1 rfl ?_
  refine j_iload_n h dX12_termOf_75 rfl 2 rfl ?_
  refine j_callVl (n := 1) (As := [.int x1]) (rest := []) h 0 tw_1457 tw_1459 tp_64 tw_14 tw_1460 ydf12_partOf (by omega) (by decide) (by decide) rfl rfl (fun q hq => cf12_partOf (ph_okZ h) (ph_okI h) (rs := rs) (dr := dr) (by omega) hrs hq) rfl (Nat.le_of_ble_eq_true rfl) rfl dX12_termOf_76 (fun q10 => ?_)
  refine j_lstore h [(5, .long q10.1), (4, .int q8), (0, .ref (ad 0)), (1, .int x1), (2, .long x2)] dX12_termOf_79 (by decide) rfl ?_
  refine j_iload h dX12_termOf_81 1 rfl ?_
  refine j_bipush (v := (42 : Int32)) h dX12_termOf_83 (by decide) ?_
  refine j_callSiP (n := 1) (As := [.int (42 : Int32)]) (rest := [.int q8]) h tw_1461 tw_1462 tw_14 tw_1463 ydf12_sign (by omega) (by decide) (fun q hq => cf12_sign (ph_okZ h) (ph_okI h) hq) rfl (Nat.le_of_ble_eq_true rfl) rfl dX12_termOf_85 (fun q11 => ?_)
  refine j_icmp_eq h 121 dX12_termOf_88 (by decide) ?_ ?_
  · refine j_sub [2, 3, 4, 1, 0] rfl ?_
    exact jb_f12_termOf_j121 h fin hB hrs hrc6 x1 x2 q8 q10.1 q10.2
  · refine j_lload h dX12_termOf_91 0 rfl ?_
    refine j_lconst (v := (0 : Int64)) h dX12_termOf_93 (by decide) ?_
    refine j_lcmp h dX12_termOf_94 ?_
    refine j_if_ne h 121 dX12_termOf_95 (by decide) ?_ ?_
    · refine j_sub [2, 3, 4, 1, 0] rfl ?_
      exact jb_f12_termOf_j121 h fin hB hrs hrc6 x1 x2 q8 q10.1 q10.2
    · refine j_aload_n h dX12_termOf_98 rfl 2 rfl ?_
      refine j_aload_n h dX12_termOf_99 rfl 2 rfl ?_
      refine j_get (c := 0) (j := 24) (v := .int (q10.2.1 0 24)) h (by decide) rfl rfl ph_inX12 rfl (by decide) tw_1223 rfl rfl dX12_termOf_100 ?_
      refine j_if_ne h 110 dX12_termOf_103 (by decide) ?_ ?_
      · refine j_sub [2, 3, 4, 1] rfl ?_
        exact jb_f12_termOf_j110 h fin hB hrs hrc6 x1 x2 q8 q10.2
      · refine j_iload_n h dX12_termOf_106 rfl 3 rfl ?_
        refine j_if_eq h 114 dX12_termOf_107 (by decide) ?_ ?_
        · refine j_iconst (v := (0 : Int32)) h dX12_termOf_114 (by decide) ?_
          refine j_sub [2, 3, 4, 1] rfl ?_
          exact jb_f12_termOf_j115 h fin hB hrs hrc6 x1 x2 q8 (0 : Int32) q10.2
        · refine j_sub [2, 3, 4, 1] rfl ?_
          exact jb_f12_termOf_j110 h fin hB hrs hrc6 x1 x2 q8 q10.2
def f12_termOf_l6 (rs : ph_Mem → Int32 → Option (Int64 × ph_Mem)) : Nat → Int32 → Int64 → ph_Mem → Option (Int64 × ph_Mem)
  | 0, _, _, _ => none
  | n + 1, x1, x2, M => (f12_codeAt M (M.1 0 22)).bind fun q2 => (f12_sign M (42 : Int32)).bind fun q3 => if q2 = q3 then (f12_termOf_j54 rs (f12_termOf_l6 rs n) x1 x2 M) else ((f12_codeAt M (M.1 0 22)).bind fun q4 => (f12_sign M (47 : Int32)).bind fun q5 => if q4 = q5 then (f12_termOf_j54 rs (f12_termOf_l6 rs n) x1 x2 M) else ((f12_codeAt M (M.1 0 22)).bind fun q6 => (f12_sign M (37 : Int32)).bind fun q7 => if q6 = q7 then (f12_termOf_j54 rs (f12_termOf_l6 rs n) x1 x2 M) else (some (x2, M))))
set_option maxHeartbeats 4000000 in
theorem jb_f12_termOf_l6 {Z : (Nat → Prop) → State → Prop} {X : ph_X} {ad : Nat → Nat} {o : (Int64 × ph_Mem)} {rs : ph_Mem → Int32 → Option (Int64 × ph_Mem)} {dr : Nat} (h : ph_ok Z X cX12_termOf RX12 (some .long) 7 (dr + 2) ph_NM ad) (fin : ph_fin X ph_kdM ph_NM ad (some (.long o.1)) o.2) (hB : 2 ≤ dr) (hrs : ∀ (M : ph_Mem) (a0 : Int32) (q : (Int64 × ph_Mem)), rs M a0 = some q → ph_CX Z X dr yX12_sumOf cX12_sumOf 7 (some .long) ph_kdM ph_NM ad [.ref (ad 0), .int a0] M (some (.long q.1)) q.2)  : ∀ (n : Nat) (x1 : Int32) (x2 : Int64) (M : ph_Mem), ph_J X ph_kdM ph_NM ad o 6 [(0, .ref (ad 0)), (1, .int x1), (2, .long x2)] [] M (f12_termOf_l6 rs n x1 x2 M) := by
  intro n
  induction n with
  | zero => intro x1 x2 M; exact j_none
  | succ n hrc6 =>
    intro x1 x2 M
    unfold f12_termOf_l6
    refine j_aload_n h dX12_termOf_6 rfl 0 rfl ?_
    refine j_aload_n h dX12_termOf_7 rfl 0 rfl ?_
    refine j_get (c := 0) (j := 22) (v := .int (M.1 0 22)) h (by decide) rfl rfl ph_inX12 rfl (by decide) tw_1221 rfl rfl dX12_termOf_8 ?_
    refine j_callViP (n := 1) (As := [.int (M.1 0 22)]) (rest := []) h 0 tw_1445 tw_1447 tp_61 tw_14 tw_1448 ydf12_codeAt (by omega) (by decide) (by decide) rfl rfl (fun q hq => cf12_codeAt (ph_okZ h) (ph_okI h) hq) rfl (Nat.le_of_ble_eq_true rfl) rfl dX12_termOf_11 (fun q2 => ?_)
    refine j_bipush (v := (42 : Int32)) h dX12_termOf_14 (by decide) ?_
    refine j_callSiP (n := 1) (As := [.int (42 : Int32)]) (rest := [.int q2]) h tw_1461 tw_1462 tw_14 tw_1463 ydf12_sign (by omega) (by decide) (fun q hq => cf12_sign (ph_okZ h) (ph_okI h) hq) rfl (Nat.le_of_ble_eq_true rfl) rfl dX12_termOf_16 (fun q3 => ?_)
    refine j_icmp_eq h 54 dX12_termOf_19 (by decide) ?_ ?_
    · refine j_sub [0, 1, 2] rfl ?_
      exact jb_f12_termOf_j54 h fin hB hrs hrc6 x1 x2 M
    · refine j_aload_n h dX12_termOf_22 rfl 0 rfl ?_
      refine j_aload_n h dX12_termOf_23 rfl 0 rfl ?_
      refine j_get (c := 0) (j := 22) (v := .int (M.1 0 22)) h (by decide) rfl rfl ph_inX12 rfl (by decide) tw_1221 rfl rfl dX12_termOf_24 ?_
      refine j_callViP (n := 1) (As := [.int (M.1 0 22)]) (rest := []) h 0 tw_1445 tw_1447 tp_61 tw_14 tw_1448 ydf12_codeAt (by omega) (by decide) (by decide) rfl rfl (fun q hq => cf12_codeAt (ph_okZ h) (ph_okI h) hq) rfl (Nat.le_of_ble_eq_true rfl) rfl dX12_termOf_27 (fun q4 => ?_)
      refine j_bipush (v := (47 : Int32)) h dX12_termOf_30 (by decide) ?_
      refine j_callSiP (n := 1) (As := [.int (47 : Int32)]) (rest := [.int q4]) h tw_1461 tw_1462 tw_14 tw_1463 ydf12_sign (by omega) (by decide) (fun q hq => cf12_sign (ph_okZ h) (ph_okI h) hq) rfl (Nat.le_of_ble_eq_true rfl) rfl dX12_termOf_32 (fun q5 => ?_)
      refine j_icmp_eq h 54 dX12_termOf_35 (by decide) ?_ ?_
      · refine j_sub [0, 1, 2] rfl ?_
        exact jb_f12_termOf_j54 h fin hB hrs hrc6 x1 x2 M
      · refine j_aload_n h dX12_termOf_38 rfl 0 rfl ?_
        refine j_aload_n h dX12_termOf_39 rfl 0 rfl ?_
        refine j_get (c := 0) (j := 22) (v := .int (M.1 0 22)) h (by decide) rfl rfl ph_inX12 rfl (by decide) tw_1221 rfl rfl dX12_termOf_40 ?_
        refine j_callViP (n := 1) (As := [.int (M.1 0 22)]) (rest := []) h 0 tw_1445 tw_1447 tp_61 tw_14 tw_1448 ydf12_codeAt (by omega) (by decide) (by decide) rfl rfl (fun q hq => cf12_codeAt (ph_okZ h) (ph_okI h) hq) rfl (Nat.le_of_ble_eq_true rfl) rfl dX12_termOf_43 (fun q6 => ?_)
        refine j_bipush (v := (37 : Int32)) h dX12_termOf_46 (by decide) ?_
        refine j_callSiP (n := 1) (As := [.int (37 : Int32)]) (rest := [.int q6]) h tw_1461 tw_1462 tw_14 tw_1463 ydf12_sign (by omega) (by decide) (fun q hq => cf12_sign (ph_okZ h) (ph_okI h) hq) rfl (Nat.le_of_ble_eq_true rfl) rfl dX12_termOf_48 (fun q7 => ?_)
        refine j_icmp_ne h 168 dX12_termOf_51 (by decide) ?_ ?_
        · refine j_lload_n h dX12_termOf_168 rfl 2 rfl ?_
          exact j_lret h rfl fin dX12_termOf_169
        · refine j_sub [0, 1, 2] rfl ?_
          exact jb_f12_termOf_j54 h fin hB hrs hrc6 x1 x2 M
theorem ydf12_termOf : ph_yd yX12_termOf 1 := ⟨by decide, by decide, by decide +kernel⟩
def f12_termOf (rs : ph_Mem → Int32 → Option (Int64 × ph_Mem)) (M : ph_Mem) (p0 : Int32) : Option (Int64 × ph_Mem) :=
  (f12_partOf rs M p0).bind fun q1 => f12_termOf_l6 rs 10000 p0 q1.1 q1.2
set_option maxHeartbeats 4000000 in
theorem cf12_termOf {Z : (Nat → Prop) → State → Prop} (hZ : ph_Zok Z) {l : Launch} {D : va_G} {cA : Nat → ClassId} {ad : Nat → Nat} (hinj : ∀ i j, i < ph_NM → j < ph_NM → ad i = ad j → i = j) {rs : ph_Mem → Int32 → Option (Int64 × ph_Mem)} {dr : Nat} (hB : 2 ≤ dr) (hrs : ∀ (M : ph_Mem) (a0 : Int32) (q : (Int64 × ph_Mem)), rs M a0 = some q → ph_C Z l dr yX12_sumOf cX12_sumOf 7 (some .long) D cA ph_kdM ph_NM ad [.ref (ad 0), .int a0] M (some (.long q.1)) q.2) {M : ph_Mem} {p0 : Int32} {r : Int64} {M' : ph_Mem} (hf : f12_termOf rs M p0 = some (r, M')) : ph_C Z l (dr + 2) yX12_termOf cX12_termOf 7 (some .long) D cA ph_kdM ph_NM ad [.ref (ad 0), .int p0] M (some (.long r)) M' := by
  refine ph_mk hZ hinj (by decide) (Nat.le_of_ble_eq_true rfl) fun X h fin hE => ?_
  obtain ⟨rfl, rfl, rfl⟩ := hE
  refine (?_ : ph_J X ph_kdM ph_NM ad ((r, M') : (Int64 × ph_Mem)) 0 [(0, .ref (ad 0)), (1, .int p0)] [] M (f12_termOf rs M p0)) hf
  unfold f12_termOf
  refine j_aload_n h dX12_termOf_0 rfl 0 rfl ?_
  refine j_iload_n h dX12_termOf_1 rfl 1 rfl ?_
  refine j_callVl (n := 1) (As := [.int p0]) (rest := []) h 0 tw_1457 tw_1459 tp_64 tw_14 tw_1460 ydf12_partOf (by omega) (by decide) (by decide) rfl rfl (fun q hq => cf12_partOf (ph_okZ h) (ph_okI h) (rs := rs) (dr := dr) (by omega) hrs hq) rfl (Nat.le_of_ble_eq_true rfl) rfl dX12_termOf_2 (fun q1 => ?_)
  refine j_lstore_n h [(2, .long q1.1), (0, .ref (ad 0)), (1, .int p0)] dX12_termOf_5 rfl (by decide) rfl ?_
  refine j_sub [1, 2, 0] rfl ?_
  exact jb_f12_termOf_l6 h fin hB hrs 10000 p0 q1.1 q1.2
theorem dX12_sumOf_0 : decode cX12_sumOf 0 = .ok (.aload_n 0, 1) := by decide +kernel
theorem dX12_sumOf_1 : decode cX12_sumOf 1 = .ok (.iload_n 1, 1) := by decide +kernel
theorem dX12_sumOf_2 : decode cX12_sumOf 2 = .ok (.invokevirtual 293, 3) := by decide +kernel
theorem dX12_sumOf_5 : decode cX12_sumOf 5 = .ok (.lstore_n 2, 1) := by decide +kernel
theorem dX12_sumOf_6 : decode cX12_sumOf 6 = .ok (.aload_n 0, 1) := by decide +kernel
theorem dX12_sumOf_7 : decode cX12_sumOf 7 = .ok (.aload_n 0, 1) := by decide +kernel
theorem dX12_sumOf_8 : decode cX12_sumOf 8 = .ok (.getfield 280, 3) := by decide +kernel
theorem dX12_sumOf_11 : decode cX12_sumOf 11 = .ok (.invokevirtual 283, 3) := by decide +kernel
theorem dX12_sumOf_14 : decode cX12_sumOf 14 = .ok (.bipush 43, 2) := by decide +kernel
theorem dX12_sumOf_16 : decode cX12_sumOf 16 = .ok (.invokestatic 242, 3) := by decide +kernel
theorem dX12_sumOf_19 : decode cX12_sumOf 19 = .ok (.if_icmp .eq 19, 3) := by decide +kernel
theorem dX12_sumOf_22 : decode cX12_sumOf 22 = .ok (.aload_n 0, 1) := by decide +kernel
theorem dX12_sumOf_23 : decode cX12_sumOf 23 = .ok (.aload_n 0, 1) := by decide +kernel
theorem dX12_sumOf_24 : decode cX12_sumOf 24 = .ok (.getfield 280, 3) := by decide +kernel
theorem dX12_sumOf_27 : decode cX12_sumOf 27 = .ok (.invokevirtual 283, 3) := by decide +kernel
theorem dX12_sumOf_30 : decode cX12_sumOf 30 = .ok (.bipush 45, 2) := by decide +kernel
theorem dX12_sumOf_32 : decode cX12_sumOf 32 = .ok (.invokestatic 242, 3) := by decide +kernel
theorem dX12_sumOf_35 : decode cX12_sumOf 35 = .ok (.if_icmp .ne 68, 3) := by decide +kernel
theorem dX12_sumOf_38 : decode cX12_sumOf 38 = .ok (.aload_n 0, 1) := by decide +kernel
theorem dX12_sumOf_39 : decode cX12_sumOf 39 = .ok (.aload_n 0, 1) := by decide +kernel
theorem dX12_sumOf_40 : decode cX12_sumOf 40 = .ok (.getfield 280, 3) := by decide +kernel
theorem dX12_sumOf_43 : decode cX12_sumOf 43 = .ok (.invokevirtual 283, 3) := by decide +kernel
theorem dX12_sumOf_46 : decode cX12_sumOf 46 = .ok (.bipush 43, 2) := by decide +kernel
theorem dX12_sumOf_48 : decode cX12_sumOf 48 = .ok (.invokestatic 242, 3) := by decide +kernel
theorem dX12_sumOf_51 : decode cX12_sumOf 51 = .ok (.if_icmp .ne 7, 3) := by decide +kernel
theorem dX12_sumOf_54 : decode cX12_sumOf 54 = .ok (.iconst 1, 1) := by decide +kernel
theorem dX12_sumOf_55 : decode cX12_sumOf 55 = .ok (.goto 4, 3) := by decide +kernel
theorem dX12_sumOf_58 : decode cX12_sumOf 58 = .ok (.iconst 0, 1) := by decide +kernel
theorem dX12_sumOf_59 : decode cX12_sumOf 59 = .ok (.istore 4, 2) := by decide +kernel
theorem dX12_sumOf_61 : decode cX12_sumOf 61 = .ok (.aload_n 0, 1) := by decide +kernel
theorem dX12_sumOf_62 : decode cX12_sumOf 62 = .ok (.dup, 1) := by decide +kernel
theorem dX12_sumOf_63 : decode cX12_sumOf 63 = .ok (.getfield 280, 3) := by decide +kernel
theorem dX12_sumOf_66 : decode cX12_sumOf 66 = .ok (.iconst 1, 1) := by decide +kernel
theorem dX12_sumOf_67 : decode cX12_sumOf 67 = .ok (.iadd, 1) := by decide +kernel
theorem dX12_sumOf_68 : decode cX12_sumOf 68 = .ok (.putfield 280, 3) := by decide +kernel
theorem dX12_sumOf_71 : decode cX12_sumOf 71 = .ok (.aload_n 0, 1) := by decide +kernel
theorem dX12_sumOf_72 : decode cX12_sumOf 72 = .ok (.iload_n 1, 1) := by decide +kernel
theorem dX12_sumOf_73 : decode cX12_sumOf 73 = .ok (.invokevirtual 293, 3) := by decide +kernel
theorem dX12_sumOf_76 : decode cX12_sumOf 76 = .ok (.lstore 5, 2) := by decide +kernel
theorem dX12_sumOf_78 : decode cX12_sumOf 78 = .ok (.aload_n 0, 1) := by decide +kernel
theorem dX12_sumOf_79 : decode cX12_sumOf 79 = .ok (.iload 4, 2) := by decide +kernel
theorem dX12_sumOf_81 : decode cX12_sumOf 81 = .ok (.ifCond .eq 10, 3) := by decide +kernel
theorem dX12_sumOf_84 : decode cX12_sumOf 84 = .ok (.lload_n 2, 1) := by decide +kernel
theorem dX12_sumOf_85 : decode cX12_sumOf 85 = .ok (.lload 5, 2) := by decide +kernel
theorem dX12_sumOf_87 : decode cX12_sumOf 87 = .ok (.ladd, 1) := by decide +kernel
theorem dX12_sumOf_88 : decode cX12_sumOf 88 = .ok (.goto 7, 3) := by decide +kernel
theorem dX12_sumOf_91 : decode cX12_sumOf 91 = .ok (.lload_n 2, 1) := by decide +kernel
theorem dX12_sumOf_92 : decode cX12_sumOf 92 = .ok (.lload 5, 2) := by decide +kernel
theorem dX12_sumOf_94 : decode cX12_sumOf 94 = .ok (.lsub, 1) := by decide +kernel
theorem dX12_sumOf_95 : decode cX12_sumOf 95 = .ok (.iload_n 1, 1) := by decide +kernel
theorem dX12_sumOf_96 : decode cX12_sumOf 96 = .ok (.invokevirtual 297, 3) := by decide +kernel
theorem dX12_sumOf_99 : decode cX12_sumOf 99 = .ok (.lstore_n 2, 1) := by decide +kernel
theorem dX12_sumOf_100 : decode cX12_sumOf 100 = .ok (.goto (-94), 3) := by decide +kernel
theorem dX12_sumOf_103 : decode cX12_sumOf 103 = .ok (.lload_n 2, 1) := by decide +kernel
theorem dX12_sumOf_104 : decode cX12_sumOf 104 = .ok (.lreturn, 1) := by decide +kernel
def f12_sumOf_j95 (rs : ph_Mem → Int32 → Option (Int64 × ph_Mem)) (rc6 : Int32 → Int64 → ph_Mem → Option (Int64 × ph_Mem)) (x1 : Int32) (s0 : Int64) (M : ph_Mem) : Option (Int64 × ph_Mem) :=
  (f12_bounded M s0 x1).bind fun q10 => rc6 x1 q10.1 q10.2
set_option maxHeartbeats 4000000 in
theorem jb_f12_sumOf_j95 {Z : (Nat → Prop) → State → Prop} {X : ph_X} {ad : Nat → Nat} {o : (Int64 × ph_Mem)} {rs : ph_Mem → Int32 → Option (Int64 × ph_Mem)} {dr : Nat} (h : ph_ok Z X cX12_sumOf RX12 (some .long) 7 (dr + 3) ph_NM ad) (fin : ph_fin X ph_kdM ph_NM ad (some (.long o.1)) o.2) (hB : 2 ≤ dr) (hrs : ∀ (M : ph_Mem) (a0 : Int32) (q : (Int64 × ph_Mem)), rs M a0 = some q → ph_CX Z X dr yX12_sumOf cX12_sumOf 7 (some .long) ph_kdM ph_NM ad [.ref (ad 0), .int a0] M (some (.long q.1)) q.2)  {rc6 : Int32 → Int64 → ph_Mem → Option (Int64 × ph_Mem)} (hrc6 : ∀ (x1 : Int32) (x2 : Int64) (M : ph_Mem), ph_J X ph_kdM ph_NM ad o 6 [(0, .ref (ad 0)), (1, .int x1), (2, .long x2)] [] M (rc6 x1 x2 M)) : ∀ (x1 : Int32) (s0 : Int64) (M : ph_Mem), ph_J X ph_kdM ph_NM ad o 95 [(0, .ref (ad 0)), (1, .int x1)] [.long s0, .ref (ad 0)] M (f12_sumOf_j95 rs rc6 x1 s0 M) := by
  intro x1 s0 M
  unfold f12_sumOf_j95
  refine j_iload_n h dX12_sumOf_95 rfl 1 rfl ?_
  refine j_callVl (n := 2) (As := [.long s0, .int x1]) (rest := []) h 0 tw_1477 tw_1479 tp_68 tw_14 tw_1480 ydf12_bounded (by omega) (by decide) (by decide) rfl rfl (fun q hq => cf12_bounded (ph_okZ h) (ph_okI h) hq) rfl (Nat.le_of_ble_eq_true rfl) rfl dX12_sumOf_96 (fun q10 => ?_)
  refine j_lstore_n h [(2, .long q10.1), (0, .ref (ad 0)), (1, .int x1)] dX12_sumOf_99 rfl (by decide) rfl ?_
  refine j_goto h 6 dX12_sumOf_100 (by decide) ?_
  refine j_sub [1, 2, 0] rfl ?_
  exact hrc6 x1 q10.1 q10.2
def f12_sumOf_j59 (rs : ph_Mem → Int32 → Option (Int64 × ph_Mem)) (rc6 : Int32 → Int64 → ph_Mem → Option (Int64 × ph_Mem)) (x1 : Int32) (x2 : Int64) (s0 : Int32) (M : ph_Mem) : Option (Int64 × ph_Mem) :=
  ph_let (ph_wi M 0 22 ((M.1 0 22) + (1 : Int32))) fun M8 => (f12_termOf rs M8 x1).bind fun q9 => if s0 = 0 then (f12_sumOf_j95 rs rc6 x1 (x2 - q9.1) q9.2) else (f12_sumOf_j95 rs rc6 x1 (x2 + q9.1) q9.2)
set_option maxHeartbeats 4000000 in
theorem jb_f12_sumOf_j59 {Z : (Nat → Prop) → State → Prop} {X : ph_X} {ad : Nat → Nat} {o : (Int64 × ph_Mem)} {rs : ph_Mem → Int32 → Option (Int64 × ph_Mem)} {dr : Nat} (h : ph_ok Z X cX12_sumOf RX12 (some .long) 7 (dr + 3) ph_NM ad) (fin : ph_fin X ph_kdM ph_NM ad (some (.long o.1)) o.2) (hB : 2 ≤ dr) (hrs : ∀ (M : ph_Mem) (a0 : Int32) (q : (Int64 × ph_Mem)), rs M a0 = some q → ph_CX Z X dr yX12_sumOf cX12_sumOf 7 (some .long) ph_kdM ph_NM ad [.ref (ad 0), .int a0] M (some (.long q.1)) q.2)  {rc6 : Int32 → Int64 → ph_Mem → Option (Int64 × ph_Mem)} (hrc6 : ∀ (x1 : Int32) (x2 : Int64) (M : ph_Mem), ph_J X ph_kdM ph_NM ad o 6 [(0, .ref (ad 0)), (1, .int x1), (2, .long x2)] [] M (rc6 x1 x2 M)) : ∀ (x1 : Int32) (x2 : Int64) (s0 : Int32) (M : ph_Mem), ph_J X ph_kdM ph_NM ad o 59 [(0, .ref (ad 0)), (1, .int x1), (2, .long x2)] [.int s0] M (f12_sumOf_j59 rs rc6 x1 x2 s0 M) := by
  intro x1 x2 s0 M
  unfold f12_sumOf_j59
  refine j_istore h [(4, .int s0), (0, .ref (ad 0)), (1, .int x1), (2, .long x2)] dX12_sumOf_59 (by decide) rfl ?_
  refine j_aload_n h dX12_sumOf_61 rfl 1 rfl ?_
  refine j_dup h dX12_sumOf_62 rfl ?_
  refine j_get (c := 0) (j := 22) (v := .int (M.1 0 22)) h (by decide) rfl rfl ph_inX12 rfl (by decide) tw_1221 rfl rfl dX12_sumOf_63 ?_
  refine j_iconst (v := (1 : Int32)) h dX12_sumOf_66 (by decide) ?_
  refine j_iadd h dX12_sumOf_67 ?_
  refine j_puti (c := 0) (j := 22) (ty := .int) h (by decide) rfl rfl ph_inX12 tyX12 tyX12_ok nmX12 rfl (by decide) tw_1221 rfl rfl (tyX12_ok 22 (by decide)) rfl rfl dX12_sumOf_68 ?_
  refine j_letM (fun M8 => ?_)
  refine j_aload_n h dX12_sumOf_71 rfl 1 rfl ?_
  refine j_iload_n h dX12_sumOf_72 rfl 2 rfl ?_
  refine j_callVl (n := 1) (As := [.int x1]) (rest := []) h 0 tw_1453 tw_1455 tp_63 tw_14 tw_1456 ydf12_termOf (by omega) (by decide) (by decide) rfl rfl (fun q hq => cf12_termOf (ph_okZ h) (ph_okI h) (rs := rs) (dr := dr) (by omega) hrs hq) rfl (Nat.le_of_ble_eq_true rfl) rfl dX12_sumOf_73 (fun q9 => ?_)
  refine j_lstore h [(5, .long q9.1), (4, .int s0), (0, .ref (ad 0)), (1, .int x1), (2, .long x2)] dX12_sumOf_76 (by decide) rfl ?_
  refine j_aload_n h dX12_sumOf_78 rfl 2 rfl ?_
  refine j_iload h dX12_sumOf_79 1 rfl ?_
  refine j_if_eq h 91 dX12_sumOf_81 (by decide) ?_ ?_
  · refine j_lload_n h dX12_sumOf_91 rfl 4 rfl ?_
    refine j_lload h dX12_sumOf_92 0 rfl ?_
    refine j_lsub h dX12_sumOf_94 ?_
    refine j_sub [2, 3] rfl ?_
    exact jb_f12_sumOf_j95 h fin hB hrs hrc6 x1 (x2 - q9.1) q9.2
  · refine j_lload_n h dX12_sumOf_84 rfl 4 rfl ?_
    refine j_lload h dX12_sumOf_85 0 rfl ?_
    refine j_ladd h dX12_sumOf_87 ?_
    refine j_goto h 95 dX12_sumOf_88 (by decide) ?_
    refine j_sub [2, 3] rfl ?_
    exact jb_f12_sumOf_j95 h fin hB hrs hrc6 x1 (x2 + q9.1) q9.2
def f12_sumOf_j38 (rs : ph_Mem → Int32 → Option (Int64 × ph_Mem)) (rc6 : Int32 → Int64 → ph_Mem → Option (Int64 × ph_Mem)) (x1 : Int32) (x2 : Int64) (M : ph_Mem) : Option (Int64 × ph_Mem) :=
  (f12_codeAt M (M.1 0 22)).bind fun q6 => (f12_sign M (43 : Int32)).bind fun q7 => if q6 = q7 then (f12_sumOf_j59 rs rc6 x1 x2 (1 : Int32) M) else (f12_sumOf_j59 rs rc6 x1 x2 (0 : Int32) M)
set_option maxHeartbeats 4000000 in
theorem jb_f12_sumOf_j38 {Z : (Nat → Prop) → State → Prop} {X : ph_X} {ad : Nat → Nat} {o : (Int64 × ph_Mem)} {rs : ph_Mem → Int32 → Option (Int64 × ph_Mem)} {dr : Nat} (h : ph_ok Z X cX12_sumOf RX12 (some .long) 7 (dr + 3) ph_NM ad) (fin : ph_fin X ph_kdM ph_NM ad (some (.long o.1)) o.2) (hB : 2 ≤ dr) (hrs : ∀ (M : ph_Mem) (a0 : Int32) (q : (Int64 × ph_Mem)), rs M a0 = some q → ph_CX Z X dr yX12_sumOf cX12_sumOf 7 (some .long) ph_kdM ph_NM ad [.ref (ad 0), .int a0] M (some (.long q.1)) q.2)  {rc6 : Int32 → Int64 → ph_Mem → Option (Int64 × ph_Mem)} (hrc6 : ∀ (x1 : Int32) (x2 : Int64) (M : ph_Mem), ph_J X ph_kdM ph_NM ad o 6 [(0, .ref (ad 0)), (1, .int x1), (2, .long x2)] [] M (rc6 x1 x2 M)) : ∀ (x1 : Int32) (x2 : Int64) (M : ph_Mem), ph_J X ph_kdM ph_NM ad o 38 [(0, .ref (ad 0)), (1, .int x1), (2, .long x2)] [] M (f12_sumOf_j38 rs rc6 x1 x2 M) := by
  intro x1 x2 M
  unfold f12_sumOf_j38
  refine j_aload_n h dX12_sumOf_38 rfl 0 rfl ?_
  refine j_aload_n h dX12_sumOf_39 rfl 0 rfl ?_
  refine j_get (c := 0) (j := 22) (v := .int (M.1 0 22)) h (by decide) rfl rfl ph_inX12 rfl (by decide) tw_1221 rfl rfl dX12_sumOf_40 ?_
  refine j_callViP (n := 1) (As := [.int (M.1 0 22)]) (rest := []) h 0 tw_1445 tw_1447 tp_61 tw_14 tw_1448 ydf12_codeAt (by omega) (by decide) (by decide) rfl rfl (fun q hq => cf12_codeAt (ph_okZ h) (ph_okI h) hq) rfl (Nat.le_of_ble_eq_true rfl) rfl dX12_sumOf_43 (fun q6 => ?_)
  refine j_bipush (v := (43 : Int32)) h dX12_sumOf_46 (by decide) ?_
  refine j_callSiP (n := 1) (As := [.int (43 : Int32)]) (rest := [.int q6]) h tw_1461 tw_1462 tw_14 tw_1463 ydf12_sign (by omega) (by decide) (fun q hq => cf12_sign (ph_okZ h) (ph_okI h) hq) rfl (Nat.le_of_ble_eq_true rfl) rfl dX12_sumOf_48 (fun q7 => ?_)
  refine j_icmp_ne h 58 dX12_sumOf_51 (by decide) ?_ ?_
  · refine j_iconst (v := (0 : Int32)) h dX12_sumOf_58 (by decide) ?_
    refine j_sub [0, 1, 2] rfl ?_
    exact jb_f12_sumOf_j59 h fin hB hrs hrc6 x1 x2 (0 : Int32) M
  · refine j_iconst (v := (1 : Int32)) h dX12_sumOf_54 (by decide) ?_
    refine j_goto h 59 dX12_sumOf_55 (by decide) ?_
    refine j_sub [0, 1, 2] rfl ?_
    exact jb_f12_sumOf_j59 h fin hB hrs hrc6 x1 x2 (1 : Int32) M
def f12_sumOf_l6 (rs : ph_Mem → Int32 → Option (Int64 × ph_Mem)) : Nat → Int32 → Int64 → ph_Mem → Option (Int64 × ph_Mem)
  | 0, _, _, _ => none
  | n + 1, x1, x2, M => (f12_codeAt M (M.1 0 22)).bind fun q2 => (f12_sign M (43 : Int32)).bind fun q3 => if q2 = q3 then (f12_sumOf_j38 rs (f12_sumOf_l6 rs n) x1 x2 M) else ((f12_codeAt M (M.1 0 22)).bind fun q4 => (f12_sign M (45 : Int32)).bind fun q5 => if q4 = q5 then (f12_sumOf_j38 rs (f12_sumOf_l6 rs n) x1 x2 M) else (some (x2, M)))
set_option maxHeartbeats 4000000 in
theorem jb_f12_sumOf_l6 {Z : (Nat → Prop) → State → Prop} {X : ph_X} {ad : Nat → Nat} {o : (Int64 × ph_Mem)} {rs : ph_Mem → Int32 → Option (Int64 × ph_Mem)} {dr : Nat} (h : ph_ok Z X cX12_sumOf RX12 (some .long) 7 (dr + 3) ph_NM ad) (fin : ph_fin X ph_kdM ph_NM ad (some (.long o.1)) o.2) (hB : 2 ≤ dr) (hrs : ∀ (M : ph_Mem) (a0 : Int32) (q : (Int64 × ph_Mem)), rs M a0 = some q → ph_CX Z X dr yX12_sumOf cX12_sumOf 7 (some .long) ph_kdM ph_NM ad [.ref (ad 0), .int a0] M (some (.long q.1)) q.2)  : ∀ (n : Nat) (x1 : Int32) (x2 : Int64) (M : ph_Mem), ph_J X ph_kdM ph_NM ad o 6 [(0, .ref (ad 0)), (1, .int x1), (2, .long x2)] [] M (f12_sumOf_l6 rs n x1 x2 M) := by
  intro n
  induction n with
  | zero => intro x1 x2 M; exact j_none
  | succ n hrc6 =>
    intro x1 x2 M
    unfold f12_sumOf_l6
    refine j_aload_n h dX12_sumOf_6 rfl 0 rfl ?_
    refine j_aload_n h dX12_sumOf_7 rfl 0 rfl ?_
    refine j_get (c := 0) (j := 22) (v := .int (M.1 0 22)) h (by decide) rfl rfl ph_inX12 rfl (by decide) tw_1221 rfl rfl dX12_sumOf_8 ?_
    refine j_callViP (n := 1) (As := [.int (M.1 0 22)]) (rest := []) h 0 tw_1445 tw_1447 tp_61 tw_14 tw_1448 ydf12_codeAt (by omega) (by decide) (by decide) rfl rfl (fun q hq => cf12_codeAt (ph_okZ h) (ph_okI h) hq) rfl (Nat.le_of_ble_eq_true rfl) rfl dX12_sumOf_11 (fun q2 => ?_)
    refine j_bipush (v := (43 : Int32)) h dX12_sumOf_14 (by decide) ?_
    refine j_callSiP (n := 1) (As := [.int (43 : Int32)]) (rest := [.int q2]) h tw_1461 tw_1462 tw_14 tw_1463 ydf12_sign (by omega) (by decide) (fun q hq => cf12_sign (ph_okZ h) (ph_okI h) hq) rfl (Nat.le_of_ble_eq_true rfl) rfl dX12_sumOf_16 (fun q3 => ?_)
    refine j_icmp_eq h 38 dX12_sumOf_19 (by decide) ?_ ?_
    · refine j_sub [0, 1, 2] rfl ?_
      exact jb_f12_sumOf_j38 h fin hB hrs hrc6 x1 x2 M
    · refine j_aload_n h dX12_sumOf_22 rfl 0 rfl ?_
      refine j_aload_n h dX12_sumOf_23 rfl 0 rfl ?_
      refine j_get (c := 0) (j := 22) (v := .int (M.1 0 22)) h (by decide) rfl rfl ph_inX12 rfl (by decide) tw_1221 rfl rfl dX12_sumOf_24 ?_
      refine j_callViP (n := 1) (As := [.int (M.1 0 22)]) (rest := []) h 0 tw_1445 tw_1447 tp_61 tw_14 tw_1448 ydf12_codeAt (by omega) (by decide) (by decide) rfl rfl (fun q hq => cf12_codeAt (ph_okZ h) (ph_okI h) hq) rfl (Nat.le_of_ble_eq_true rfl) rfl dX12_sumOf_27 (fun q4 => ?_)
      refine j_bipush (v := (45 : Int32)) h dX12_sumOf_30 (by decide) ?_
      refine j_callSiP (n := 1) (As := [.int (45 : Int32)]) (rest := [.int q4]) h tw_1461 tw_1462 tw_14 tw_1463 ydf12_sign (by omega) (by decide) (fun q hq => cf12_sign (ph_okZ h) (ph_okI h) hq) rfl (Nat.le_of_ble_eq_true rfl) rfl dX12_sumOf_32 (fun q5 => ?_)
      refine j_icmp_ne h 103 dX12_sumOf_35 (by decide) ?_ ?_
      · refine j_lload_n h dX12_sumOf_103 rfl 2 rfl ?_
        exact j_lret h rfl fin dX12_sumOf_104
      · refine j_sub [0, 1, 2] rfl ?_
        exact jb_f12_sumOf_j38 h fin hB hrs hrc6 x1 x2 M
def f12_sumOf_b (rs : ph_Mem → Int32 → Option (Int64 × ph_Mem)) (M : ph_Mem) (p0 : Int32) : Option (Int64 × ph_Mem) :=
  (f12_termOf rs M p0).bind fun q1 => f12_sumOf_l6 rs 10000 p0 q1.1 q1.2
set_option maxHeartbeats 4000000 in
theorem cf12_sumOf_b {Z : (Nat → Prop) → State → Prop} (hZ : ph_Zok Z) {l : Launch} {D : va_G} {cA : Nat → ClassId} {ad : Nat → Nat} (hinj : ∀ i j, i < ph_NM → j < ph_NM → ad i = ad j → i = j) {rs : ph_Mem → Int32 → Option (Int64 × ph_Mem)} {dr : Nat} (hB : 2 ≤ dr) (hrs : ∀ (M : ph_Mem) (a0 : Int32) (q : (Int64 × ph_Mem)), rs M a0 = some q → ph_C Z l dr yX12_sumOf cX12_sumOf 7 (some .long) D cA ph_kdM ph_NM ad [.ref (ad 0), .int a0] M (some (.long q.1)) q.2) {M : ph_Mem} {p0 : Int32} {r : Int64} {M' : ph_Mem} (hf : f12_sumOf_b rs M p0 = some (r, M')) : ph_C Z l (dr + 3) yX12_sumOf cX12_sumOf 7 (some .long) D cA ph_kdM ph_NM ad [.ref (ad 0), .int p0] M (some (.long r)) M' := by
  refine ph_mk hZ hinj (by decide) (Nat.le_of_ble_eq_true rfl) fun X h fin hE => ?_
  obtain ⟨rfl, rfl, rfl⟩ := hE
  refine (?_ : ph_J X ph_kdM ph_NM ad ((r, M') : (Int64 × ph_Mem)) 0 [(0, .ref (ad 0)), (1, .int p0)] [] M (f12_sumOf_b rs M p0)) hf
  unfold f12_sumOf_b
  refine j_aload_n h dX12_sumOf_0 rfl 0 rfl ?_
  refine j_iload_n h dX12_sumOf_1 rfl 1 rfl ?_
  refine j_callVl (n := 1) (As := [.int p0]) (rest := []) h 0 tw_1453 tw_1455 tp_63 tw_14 tw_1456 ydf12_termOf (by omega) (by decide) (by decide) rfl rfl (fun q hq => cf12_termOf (ph_okZ h) (ph_okI h) (rs := rs) (dr := dr) (by omega) hrs hq) rfl (Nat.le_of_ble_eq_true rfl) rfl dX12_sumOf_2 (fun q1 => ?_)
  refine j_lstore_n h [(2, .long q1.1), (0, .ref (ad 0)), (1, .int p0)] dX12_sumOf_5 rfl (by decide) rfl ?_
  refine j_sub [1, 2, 0] rfl ?_
  exact jb_f12_sumOf_l6 h fin hB hrs 10000 p0 q1.1 q1.2
def f12_sumOf_n : Nat → ph_Mem → Int32 → Option (Int64 × ph_Mem)
  | 0, _, _ => none
  | n + 1, M, p0 => f12_sumOf_b (f12_sumOf_n n) M p0
theorem cf12_sumOf_n {Z : (Nat → Prop) → State → Prop} (hZ : ph_Zok Z) {l : Launch} {D : va_G} {cA : Nat → ClassId} {ad : Nat → Nat} (hinj : ∀ i j, i < ph_NM → j < ph_NM → ad i = ad j → i = j) : ∀ (n : Nat) {M : ph_Mem} {p0 : Int32} {r : Int64} {M' : ph_Mem} (_ : f12_sumOf_n n M p0 = some (r, M')), ph_C Z l (2 + 3 * n) yX12_sumOf cX12_sumOf 7 (some .long) D cA ph_kdM ph_NM ad [.ref (ad 0), .int p0] M (some (.long r)) M'
  | 0, _, _, _, _, h => by cases h
  | n + 1, _, _, _, _, h => by
    rw [show 2 + 3 * (n + 1) = 2 + 3 * n + 3 by omega]
    exact cf12_sumOf_b hZ hinj (rs := f12_sumOf_n n) (dr := 2 + 3 * n) (Nat.le_add_right _ _) (fun _ _ q hq => cf12_sumOf_n hZ hinj n hq) h
def f12_sumOf (M : ph_Mem) (p0 : Int32) : Option (Int64 × ph_Mem) := f12_sumOf_n 20 M p0
theorem cf12_sumOf {Z : (Nat → Prop) → State → Prop} (hZ : ph_Zok Z) {l : Launch} {D : va_G} {cA : Nat → ClassId} {ad : Nat → Nat} (hinj : ∀ i j, i < ph_NM → j < ph_NM → ad i = ad j → i = j) {M : ph_Mem} {p0 : Int32} {r : Int64} {M' : ph_Mem} (hf : f12_sumOf M p0 = some (r, M')) : ph_C Z l 62 yX12_sumOf cX12_sumOf 7 (some .long) D cA ph_kdM ph_NM ad [.ref (ad 0), .int p0] M (some (.long r)) M' := cf12_sumOf_n hZ hinj 20 hf
theorem dX12_positiveOf_0 : decode cX12_positiveOf 0 = .ok (.aload_n 0, 1) := by decide +kernel
theorem dX12_positiveOf_1 : decode cX12_positiveOf 1 = .ok (.bipush 40, 2) := by decide +kernel
theorem dX12_positiveOf_3 : decode cX12_positiveOf 3 = .ok (.invokestatic 242, 3) := by decide +kernel
theorem dX12_positiveOf_6 : decode cX12_positiveOf 6 = .ok (.invokevirtual 304, 3) := by decide +kernel
theorem dX12_positiveOf_9 : decode cX12_positiveOf 9 = .ok (.ifCond .eq 21, 3) := by decide +kernel
theorem dX12_positiveOf_12 : decode cX12_positiveOf 12 = .ok (.aload_n 0, 1) := by decide +kernel
theorem dX12_positiveOf_13 : decode cX12_positiveOf 13 = .ok (.iload_n 1, 1) := by decide +kernel
theorem dX12_positiveOf_14 : decode cX12_positiveOf 14 = .ok (.invokevirtual 321, 3) := by decide +kernel
theorem dX12_positiveOf_17 : decode cX12_positiveOf 17 = .ok (.istore_n 2, 1) := by decide +kernel
theorem dX12_positiveOf_18 : decode cX12_positiveOf 18 = .ok (.aload_n 0, 1) := by decide +kernel
theorem dX12_positiveOf_19 : decode cX12_positiveOf 19 = .ok (.dup, 1) := by decide +kernel
theorem dX12_positiveOf_20 : decode cX12_positiveOf 20 = .ok (.getfield 280, 3) := by decide +kernel
theorem dX12_positiveOf_23 : decode cX12_positiveOf 23 = .ok (.iconst 1, 1) := by decide +kernel
theorem dX12_positiveOf_24 : decode cX12_positiveOf 24 = .ok (.iadd, 1) := by decide +kernel
theorem dX12_positiveOf_25 : decode cX12_positiveOf 25 = .ok (.putfield 280, 3) := by decide +kernel
theorem dX12_positiveOf_28 : decode cX12_positiveOf 28 = .ok (.iload_n 2, 1) := by decide +kernel
theorem dX12_positiveOf_29 : decode cX12_positiveOf 29 = .ok (.ireturn, 1) := by decide +kernel
theorem dX12_positiveOf_30 : decode cX12_positiveOf 30 = .ok (.aload_n 0, 1) := by decide +kernel
theorem dX12_positiveOf_31 : decode cX12_positiveOf 31 = .ok (.iload_n 1, 1) := by decide +kernel
theorem dX12_positiveOf_32 : decode cX12_positiveOf 32 = .ok (.invokevirtual 307, 3) := by decide +kernel
theorem dX12_positiveOf_35 : decode cX12_positiveOf 35 = .ok (.lstore_n 2, 1) := by decide +kernel
theorem dX12_positiveOf_36 : decode cX12_positiveOf 36 = .ok (.aload_n 0, 1) := by decide +kernel
theorem dX12_positiveOf_37 : decode cX12_positiveOf 37 = .ok (.aload_n 0, 1) := by decide +kernel
theorem dX12_positiveOf_38 : decode cX12_positiveOf 38 = .ok (.getfield 280, 3) := by decide +kernel
theorem dX12_positiveOf_41 : decode cX12_positiveOf 41 = .ok (.invokevirtual 283, 3) := by decide +kernel
theorem dX12_positiveOf_44 : decode cX12_positiveOf 44 = .ok (.istore 4, 2) := by decide +kernel
theorem dX12_positiveOf_46 : decode cX12_positiveOf 46 = .ok (.aload_n 0, 1) := by decide +kernel
theorem dX12_positiveOf_47 : decode cX12_positiveOf 47 = .ok (.dup, 1) := by decide +kernel
theorem dX12_positiveOf_48 : decode cX12_positiveOf 48 = .ok (.getfield 280, 3) := by decide +kernel
theorem dX12_positiveOf_51 : decode cX12_positiveOf 51 = .ok (.iconst 1, 1) := by decide +kernel
theorem dX12_positiveOf_52 : decode cX12_positiveOf 52 = .ok (.iadd, 1) := by decide +kernel
theorem dX12_positiveOf_53 : decode cX12_positiveOf 53 = .ok (.putfield 280, 3) := by decide +kernel
theorem dX12_positiveOf_56 : decode cX12_positiveOf 56 = .ok (.aload_n 0, 1) := by decide +kernel
theorem dX12_positiveOf_57 : decode cX12_positiveOf 57 = .ok (.iload_n 1, 1) := by decide +kernel
theorem dX12_positiveOf_58 : decode cX12_positiveOf 58 = .ok (.invokevirtual 307, 3) := by decide +kernel
theorem dX12_positiveOf_61 : decode cX12_positiveOf 61 = .ok (.lstore 5, 2) := by decide +kernel
theorem dX12_positiveOf_63 : decode cX12_positiveOf 63 = .ok (.iload_n 1, 1) := by decide +kernel
theorem dX12_positiveOf_64 : decode cX12_positiveOf 64 = .ok (.ifCond .eq 61, 3) := by decide +kernel
theorem dX12_positiveOf_67 : decode cX12_positiveOf 67 = .ok (.aload_n 0, 1) := by decide +kernel
theorem dX12_positiveOf_68 : decode cX12_positiveOf 68 = .ok (.getfield 290, 3) := by decide +kernel
theorem dX12_positiveOf_71 : decode cX12_positiveOf 71 = .ok (.ifCond .ne 54, 3) := by decide +kernel
theorem dX12_positiveOf_74 : decode cX12_positiveOf 74 = .ok (.iload 4, 2) := by decide +kernel
theorem dX12_positiveOf_76 : decode cX12_positiveOf 76 = .ok (.bipush 60, 2) := by decide +kernel
theorem dX12_positiveOf_78 : decode cX12_positiveOf 78 = .ok (.invokestatic 242, 3) := by decide +kernel
theorem dX12_positiveOf_81 : decode cX12_positiveOf 81 = .ok (.if_icmp .ne 13, 3) := by decide +kernel
theorem dX12_positiveOf_84 : decode cX12_positiveOf 84 = .ok (.lload_n 2, 1) := by decide +kernel
theorem dX12_positiveOf_85 : decode cX12_positiveOf 85 = .ok (.lload 5, 2) := by decide +kernel
theorem dX12_positiveOf_87 : decode cX12_positiveOf 87 = .ok (.lcmp, 1) := by decide +kernel
theorem dX12_positiveOf_88 : decode cX12_positiveOf 88 = .ok (.ifCond .ge 37, 3) := by decide +kernel
theorem dX12_positiveOf_91 : decode cX12_positiveOf 91 = .ok (.goto 30, 3) := by decide +kernel
theorem dX12_positiveOf_94 : decode cX12_positiveOf 94 = .ok (.iload 4, 2) := by decide +kernel
theorem dX12_positiveOf_96 : decode cX12_positiveOf 96 = .ok (.bipush 62, 2) := by decide +kernel
theorem dX12_positiveOf_98 : decode cX12_positiveOf 98 = .ok (.invokestatic 242, 3) := by decide +kernel
theorem dX12_positiveOf_101 : decode cX12_positiveOf 101 = .ok (.if_icmp .ne 13, 3) := by decide +kernel
theorem dX12_positiveOf_104 : decode cX12_positiveOf 104 = .ok (.lload_n 2, 1) := by decide +kernel
theorem dX12_positiveOf_105 : decode cX12_positiveOf 105 = .ok (.lload 5, 2) := by decide +kernel
theorem dX12_positiveOf_107 : decode cX12_positiveOf 107 = .ok (.lcmp, 1) := by decide +kernel
theorem dX12_positiveOf_108 : decode cX12_positiveOf 108 = .ok (.ifCond .le 17, 3) := by decide +kernel
theorem dX12_positiveOf_111 : decode cX12_positiveOf 111 = .ok (.goto 10, 3) := by decide +kernel
theorem dX12_positiveOf_114 : decode cX12_positiveOf 114 = .ok (.lload_n 2, 1) := by decide +kernel
theorem dX12_positiveOf_115 : decode cX12_positiveOf 115 = .ok (.lload 5, 2) := by decide +kernel
theorem dX12_positiveOf_117 : decode cX12_positiveOf 117 = .ok (.lcmp, 1) := by decide +kernel
theorem dX12_positiveOf_118 : decode cX12_positiveOf 118 = .ok (.ifCond .ne 7, 3) := by decide +kernel
theorem dX12_positiveOf_121 : decode cX12_positiveOf 121 = .ok (.iconst 1, 1) := by decide +kernel
theorem dX12_positiveOf_122 : decode cX12_positiveOf 122 = .ok (.goto 4, 3) := by decide +kernel
theorem dX12_positiveOf_125 : decode cX12_positiveOf 125 = .ok (.iconst 0, 1) := by decide +kernel
theorem dX12_positiveOf_126 : decode cX12_positiveOf 126 = .ok (.ireturn, 1) := by decide +kernel
theorem ydf12_positiveOf : ph_yd yX12_positiveOf 1 := ⟨by decide, by decide, by decide +kernel⟩
def f12_positiveOf (rs : ph_Mem → Int32 → Option (Int32 × ph_Mem)) (M : ph_Mem) (p0 : Int32) : Option (Int32 × ph_Mem) :=
  (f12_sign M (40 : Int32)).bind fun q1 => (f12_passes0 M q1).bind fun q2 => if q2.1 = 0 then ((f12_sumOf q2.2 p0).bind fun q3 => (f12_codeAt q3.2 (q3.2.1 0 22)).bind fun q4 => ph_let (ph_wi q3.2 0 22 ((q3.2.1 0 22) + (1 : Int32))) fun M5 => (f12_sumOf M5 p0).bind fun q6 => if p0 = 0 then (some ((0 : Int32), q6.2)) else (if (q6.2.1 0 24) = 0 then ((f12_sign q6.2 (60 : Int32)).bind fun q7 => if q4 = q7 then (if 0 ≤ (lg_cmp q3.1 q6.1) then (some ((0 : Int32), q6.2)) else (some ((1 : Int32), q6.2))) else ((f12_sign q6.2 (62 : Int32)).bind fun q8 => if q4 = q8 then (if (lg_cmp q3.1 q6.1) ≤ 0 then (some ((0 : Int32), q6.2)) else (some ((1 : Int32), q6.2))) else (if (lg_cmp q3.1 q6.1) = 0 then (some ((1 : Int32), q6.2)) else (some ((0 : Int32), q6.2))))) else (some ((0 : Int32), q6.2)))) else ((rs q2.2 p0).bind fun q9 => ph_let (ph_wi q9.2 0 22 ((q9.2.1 0 22) + (1 : Int32))) fun M10 => cond (ph_isz q9.1) (some (q9.1, M10)) none)
set_option maxHeartbeats 4000000 in
theorem cf12_positiveOf {Z : (Nat → Prop) → State → Prop} (hZ : ph_Zok Z) {l : Launch} {D : va_G} {cA : Nat → ClassId} {ad : Nat → Nat} (hinj : ∀ i j, i < ph_NM → j < ph_NM → ad i = ad j → i = j) {rs : ph_Mem → Int32 → Option (Int32 × ph_Mem)} {dr : Nat} (hB : 62 ≤ dr) (hrs : ∀ (M : ph_Mem) (a0 : Int32) (q : (Int32 × ph_Mem)), rs M a0 = some q → ph_C Z l dr yX12_testOf cX12_testOf 4 (some .boolean) D cA ph_kdM ph_NM ad [.ref (ad 0), .int a0] M (some (.int q.1)) q.2) {M : ph_Mem} {p0 : Int32} {r : Int32} {M' : ph_Mem} (hf : f12_positiveOf rs M p0 = some (r, M')) : ph_C Z l (dr + 1) yX12_positiveOf cX12_positiveOf 7 (some .boolean) D cA ph_kdM ph_NM ad [.ref (ad 0), .int p0] M (some (.int r)) M' := by
  refine ph_mk hZ hinj (by decide) (Nat.le_of_ble_eq_true rfl) fun X h fin hE => ?_
  obtain ⟨rfl, rfl, rfl⟩ := hE
  refine (?_ : ph_J X ph_kdM ph_NM ad ((r, M') : (Int32 × ph_Mem)) 0 [(0, .ref (ad 0)), (1, .int p0)] [] M (f12_positiveOf rs M p0)) hf
  unfold f12_positiveOf
  refine j_aload_n h dX12_positiveOf_0 rfl 0 rfl ?_
  refine j_bipush (v := (40 : Int32)) h dX12_positiveOf_1 (by decide) ?_
  refine j_callSiP (n := 1) (As := [.int (40 : Int32)]) (rest := [.ref (ad 0)]) h tw_1461 tw_1462 tw_14 tw_1463 ydf12_sign (by omega) (by decide) (fun q hq => cf12_sign (ph_okZ h) (ph_okI h) hq) rfl (Nat.le_of_ble_eq_true rfl) rfl dX12_positiveOf_3 (fun q1 => ?_)
  refine j_callVi (n := 1) (As := [.int q1]) (rest := []) h 0 tw_1464 tw_1466 tp_65 tw_14 tw_1467 ydf12_passes0 (by omega) (by decide) (by decide) rfl rfl (fun q hq => cf12_passes0 (ph_okZ h) (ph_okI h) hq) rfl (Nat.le_of_ble_eq_true rfl) rfl dX12_positiveOf_6 (fun q2 => ?_)
  refine j_if_eq h 30 dX12_positiveOf_9 (by decide) ?_ ?_
  · refine j_aload_n h dX12_positiveOf_30 rfl 0 rfl ?_
    refine j_iload_n h dX12_positiveOf_31 rfl 1 rfl ?_
    refine j_callVl (n := 1) (As := [.int p0]) (rest := []) h 0 tw_1449 tw_1451 tp_62 tw_14 tw_1452 ydf12_sumOf (by omega) (by decide) (by decide) rfl rfl (fun q hq => cf12_sumOf (ph_okZ h) (ph_okI h) hq) rfl (Nat.le_of_ble_eq_true rfl) rfl dX12_positiveOf_32 (fun q3 => ?_)
    refine j_lstore_n h [(2, .long q3.1), (0, .ref (ad 0)), (1, .int p0)] dX12_positiveOf_35 rfl (by decide) rfl ?_
    refine j_aload_n h dX12_positiveOf_36 rfl 1 rfl ?_
    refine j_aload_n h dX12_positiveOf_37 rfl 1 rfl ?_
    refine j_get (c := 0) (j := 22) (v := .int (q3.2.1 0 22)) h (by decide) rfl rfl ph_inX12 rfl (by decide) tw_1221 rfl rfl dX12_positiveOf_38 ?_
    refine j_callViP (n := 1) (As := [.int (q3.2.1 0 22)]) (rest := []) h 0 tw_1445 tw_1447 tp_61 tw_14 tw_1448 ydf12_codeAt (by omega) (by decide) (by decide) rfl rfl (fun q hq => cf12_codeAt (ph_okZ h) (ph_okI h) hq) rfl (Nat.le_of_ble_eq_true rfl) rfl dX12_positiveOf_41 (fun q4 => ?_)
    refine j_istore h [(4, .int q4), (2, .long q3.1), (0, .ref (ad 0)), (1, .int p0)] dX12_positiveOf_44 (by decide) rfl ?_
    refine j_aload_n h dX12_positiveOf_46 rfl 2 rfl ?_
    refine j_dup h dX12_positiveOf_47 rfl ?_
    refine j_get (c := 0) (j := 22) (v := .int (q3.2.1 0 22)) h (by decide) rfl rfl ph_inX12 rfl (by decide) tw_1221 rfl rfl dX12_positiveOf_48 ?_
    refine j_iconst (v := (1 : Int32)) h dX12_positiveOf_51 (by decide) ?_
    refine j_iadd h dX12_positiveOf_52 ?_
    refine j_puti (c := 0) (j := 22) (ty := .int) h (by decide) rfl rfl ph_inX12 tyX12 tyX12_ok nmX12 rfl (by decide) tw_1221 rfl rfl (tyX12_ok 22 (by decide)) rfl rfl dX12_positiveOf_53 ?_
    refine j_letM (fun M5 => ?_)
    refine j_aload_n h dX12_positiveOf_56 rfl 2 rfl ?_
    refine j_iload_n h dX12_positiveOf_57 rfl 3 rfl ?_
    refine j_callVl (n := 1) (As := [.int p0]) (rest := []) h 0 tw_1449 tw_1451 tp_62 tw_14 tw_1452 ydf12_sumOf (by omega) (by decide) (by decide) rfl rfl (fun q hq => cf12_sumOf (ph_okZ h) (ph_okI h) hq) rfl (Nat.le_of_ble_eq_true rfl) rfl dX12_positiveOf_58 (fun q6 => ?_)
    refine j_lstore h [(5, .long q6.1), (4, .int q4), (2, .long q3.1), (0, .ref (ad 0)), (1, .int p0)] dX12_positiveOf_61 (by decide) rfl ?_
    refine j_iload_n h dX12_positiveOf_63 rfl 4 rfl ?_
    refine j_if_eq h 125 dX12_positiveOf_64 (by decide) ?_ ?_
    · refine j_iconst (v := (0 : Int32)) h dX12_positiveOf_125 (by decide) ?_
      exact j_zretC h rfl (by decide) fin dX12_positiveOf_126
    · refine j_aload_n h dX12_positiveOf_67 rfl 3 rfl ?_
      refine j_get (c := 0) (j := 24) (v := .int (q6.2.1 0 24)) h (by decide) rfl rfl ph_inX12 rfl (by decide) tw_1223 rfl rfl dX12_positiveOf_68 ?_
      refine j_if_ne h 125 dX12_positiveOf_71 (by decide) ?_ ?_
      · refine j_iconst (v := (0 : Int32)) h dX12_positiveOf_125 (by decide) ?_
        exact j_zretC h rfl (by decide) fin dX12_positiveOf_126
      · refine j_iload h dX12_positiveOf_74 1 rfl ?_
        refine j_bipush (v := (60 : Int32)) h dX12_positiveOf_76 (by decide) ?_
        refine j_callSiP (n := 1) (As := [.int (60 : Int32)]) (rest := [.int q4]) h tw_1461 tw_1462 tw_14 tw_1463 ydf12_sign (by omega) (by decide) (fun q hq => cf12_sign (ph_okZ h) (ph_okI h) hq) rfl (Nat.le_of_ble_eq_true rfl) rfl dX12_positiveOf_78 (fun q7 => ?_)
        refine j_icmp_ne h 94 dX12_positiveOf_81 (by decide) ?_ ?_
        · refine j_iload h dX12_positiveOf_94 1 rfl ?_
          refine j_bipush (v := (62 : Int32)) h dX12_positiveOf_96 (by decide) ?_
          refine j_callSiP (n := 1) (As := [.int (62 : Int32)]) (rest := [.int q4]) h tw_1461 tw_1462 tw_14 tw_1463 ydf12_sign (by omega) (by decide) (fun q hq => cf12_sign (ph_okZ h) (ph_okI h) hq) rfl (Nat.le_of_ble_eq_true rfl) rfl dX12_positiveOf_98 (fun q8 => ?_)
          refine j_icmp_ne h 114 dX12_positiveOf_101 (by decide) ?_ ?_
          · refine j_lload_n h dX12_positiveOf_114 rfl 2 rfl ?_
            refine j_lload h dX12_positiveOf_115 0 rfl ?_
            refine j_lcmp h dX12_positiveOf_117 ?_
            refine j_if_ne h 125 dX12_positiveOf_118 (by decide) ?_ ?_
            · refine j_iconst (v := (0 : Int32)) h dX12_positiveOf_125 (by decide) ?_
              exact j_zretC h rfl (by decide) fin dX12_positiveOf_126
            · refine j_iconst (v := (1 : Int32)) h dX12_positiveOf_121 (by decide) ?_
              refine j_goto h 126 dX12_positiveOf_122 (by decide) ?_
              exact j_zretC h rfl (by decide) fin dX12_positiveOf_126
          · refine j_lload_n h dX12_positiveOf_104 rfl 2 rfl ?_
            refine j_lload h dX12_positiveOf_105 0 rfl ?_
            refine j_lcmp h dX12_positiveOf_107 ?_
            refine j_if_le h 125 dX12_positiveOf_108 (by decide) ?_ ?_
            · refine j_iconst (v := (0 : Int32)) h dX12_positiveOf_125 (by decide) ?_
              exact j_zretC h rfl (by decide) fin dX12_positiveOf_126
            · refine j_goto h 121 dX12_positiveOf_111 (by decide) ?_
              refine j_iconst (v := (1 : Int32)) h dX12_positiveOf_121 (by decide) ?_
              refine j_goto h 126 dX12_positiveOf_122 (by decide) ?_
              exact j_zretC h rfl (by decide) fin dX12_positiveOf_126
        · refine j_lload_n h dX12_positiveOf_84 rfl 2 rfl ?_
          refine j_lload h dX12_positiveOf_85 0 rfl ?_
          refine j_lcmp h dX12_positiveOf_87 ?_
          refine j_if_ge h 125 dX12_positiveOf_88 (by decide) ?_ ?_
          · refine j_iconst (v := (0 : Int32)) h dX12_positiveOf_125 (by decide) ?_
            exact j_zretC h rfl (by decide) fin dX12_positiveOf_126
          · refine j_goto h 121 dX12_positiveOf_91 (by decide) ?_
            refine j_iconst (v := (1 : Int32)) h dX12_positiveOf_121 (by decide) ?_
            refine j_goto h 126 dX12_positiveOf_122 (by decide) ?_
            exact j_zretC h rfl (by decide) fin dX12_positiveOf_126
  · refine j_aload_n h dX12_positiveOf_12 rfl 0 rfl ?_
    refine j_iload_n h dX12_positiveOf_13 rfl 1 rfl ?_
    refine j_callVi (n := 1) (As := [.int p0]) (rest := []) h 0 tw_1483 tw_1485 tp_69 tw_14 tw_1486 ydf12_testOf (by omega) (by decide) (by decide) rfl rfl (fun q hq => hrs _ _ q hq) rfl (Nat.le_of_ble_eq_true rfl) rfl dX12_positiveOf_14 (fun q9 => ?_)
    refine j_istore_n h [(2, .int q9.1), (0, .ref (ad 0)), (1, .int p0)] dX12_positiveOf_17 rfl (by decide) rfl ?_
    refine j_aload_n h dX12_positiveOf_18 rfl 1 rfl ?_
    refine j_dup h dX12_positiveOf_19 rfl ?_
    refine j_get (c := 0) (j := 22) (v := .int (q9.2.1 0 22)) h (by decide) rfl rfl ph_inX12 rfl (by decide) tw_1221 rfl rfl dX12_positiveOf_20 ?_
    refine j_iconst (v := (1 : Int32)) h dX12_positiveOf_23 (by decide) ?_
    refine j_iadd h dX12_positiveOf_24 ?_
    refine j_puti (c := 0) (j := 22) (ty := .int) h (by decide) rfl rfl ph_inX12 tyX12 tyX12_ok nmX12 rfl (by decide) tw_1221 rfl rfl (tyX12_ok 22 (by decide)) rfl rfl dX12_positiveOf_25 ?_
    refine j_letM (fun M10 => ?_)
    refine j_iload_n h dX12_positiveOf_28 rfl 0 rfl ?_
    exact j_zret h rfl fin dX12_positiveOf_29
theorem dX12_plainOf_0 : decode cX12_plainOf 0 = .ok (.iconst 0, 1) := by decide +kernel
theorem dX12_plainOf_1 : decode cX12_plainOf 1 = .ok (.istore_n 2, 1) := by decide +kernel
theorem dX12_plainOf_2 : decode cX12_plainOf 2 = .ok (.aload_n 0, 1) := by decide +kernel
theorem dX12_plainOf_3 : decode cX12_plainOf 3 = .ok (.bipush 7, 2) := by decide +kernel
theorem dX12_plainOf_5 : decode cX12_plainOf 5 = .ok (.invokevirtual 304, 3) := by decide +kernel
theorem dX12_plainOf_8 : decode cX12_plainOf 8 = .ok (.ifCond .eq 16, 3) := by decide +kernel
theorem dX12_plainOf_11 : decode cX12_plainOf 11 = .ok (.iload_n 2, 1) := by decide +kernel
theorem dX12_plainOf_12 : decode cX12_plainOf 12 = .ok (.ifCond .ne 7, 3) := by decide +kernel
theorem dX12_plainOf_15 : decode cX12_plainOf 15 = .ok (.iconst 1, 1) := by decide +kernel
theorem dX12_plainOf_16 : decode cX12_plainOf 16 = .ok (.goto 4, 3) := by decide +kernel
theorem dX12_plainOf_19 : decode cX12_plainOf 19 = .ok (.iconst 0, 1) := by decide +kernel
theorem dX12_plainOf_20 : decode cX12_plainOf 20 = .ok (.istore_n 2, 1) := by decide +kernel
theorem dX12_plainOf_21 : decode cX12_plainOf 21 = .ok (.goto (-19), 3) := by decide +kernel
theorem dX12_plainOf_24 : decode cX12_plainOf 24 = .ok (.aload_n 0, 1) := by decide +kernel
theorem dX12_plainOf_25 : decode cX12_plainOf 25 = .ok (.iload_n 1, 1) := by decide +kernel
theorem dX12_plainOf_26 : decode cX12_plainOf 26 = .ok (.invokevirtual 318, 3) := by decide +kernel
theorem dX12_plainOf_29 : decode cX12_plainOf 29 = .ok (.iload_n 2, 1) := by decide +kernel
theorem dX12_plainOf_30 : decode cX12_plainOf 30 = .ok (.if_icmp .eq 7, 3) := by decide +kernel
theorem dX12_plainOf_33 : decode cX12_plainOf 33 = .ok (.iconst 1, 1) := by decide +kernel
theorem dX12_plainOf_34 : decode cX12_plainOf 34 = .ok (.goto 4, 3) := by decide +kernel
theorem dX12_plainOf_37 : decode cX12_plainOf 37 = .ok (.iconst 0, 1) := by decide +kernel
theorem dX12_plainOf_38 : decode cX12_plainOf 38 = .ok (.ireturn, 1) := by decide +kernel
def f12_plainOf_j20 (rs : ph_Mem → Int32 → Option (Int32 × ph_Mem)) (rc2 : Int32 → Int32 → ph_Mem → Option (Int32 × ph_Mem)) (x1 : Int32) (s0 : Int32) (M : ph_Mem) : Option (Int32 × ph_Mem) :=
  rc2 x1 s0 M
set_option maxHeartbeats 4000000 in
theorem jb_f12_plainOf_j20 {Z : (Nat → Prop) → State → Prop} {X : ph_X} {ad : Nat → Nat} {o : (Int32 × ph_Mem)} {rs : ph_Mem → Int32 → Option (Int32 × ph_Mem)} {dr : Nat} (h : ph_ok Z X cX12_plainOf RX12 (some .boolean) 3 (dr + 2) ph_NM ad) (fin : ph_fin X ph_kdM ph_NM ad (some (.int o.1)) o.2) (hB : 62 ≤ dr) (hrs : ∀ (M : ph_Mem) (a0 : Int32) (q : (Int32 × ph_Mem)), rs M a0 = some q → ph_CX Z X dr yX12_testOf cX12_testOf 4 (some .boolean) ph_kdM ph_NM ad [.ref (ad 0), .int a0] M (some (.int q.1)) q.2)  {rc2 : Int32 → Int32 → ph_Mem → Option (Int32 × ph_Mem)} (hrc2 : ∀ (x1 : Int32) (x2 : Int32) (M : ph_Mem), ph_J X ph_kdM ph_NM ad o 2 [(0, .ref (ad 0)), (1, .int x1), (2, .int x2)] [] M (rc2 x1 x2 M)) : ∀ (x1 : Int32) (s0 : Int32) (M : ph_Mem), ph_J X ph_kdM ph_NM ad o 20 [(0, .ref (ad 0)), (1, .int x1)] [.int s0] M (f12_plainOf_j20 rs rc2 x1 s0 M) := by
  intro x1 s0 M
  unfold f12_plainOf_j20
  refine j_istore_n h [(2, .int s0), (0, .ref (ad 0)), (1, .int x1)] dX12_plainOf_20 rfl (by decide) rfl ?_
  refine j_goto h 2 dX12_plainOf_21 (by decide) ?_
  refine j_sub [1, 2, 0] rfl ?_
  exact hrc2 x1 s0 M
def f12_plainOf_j24 (rs : ph_Mem → Int32 → Option (Int32 × ph_Mem)) (x1 : Int32) (x2 : Int32) (M : ph_Mem) : Option (Int32 × ph_Mem) :=
  (f12_positiveOf rs M x1).bind fun q2 => if q2.1 = x2 then (some ((0 : Int32), q2.2)) else (some ((1 : Int32), q2.2))
set_option maxHeartbeats 4000000 in
theorem jb_f12_plainOf_j24 {Z : (Nat → Prop) → State → Prop} {X : ph_X} {ad : Nat → Nat} {o : (Int32 × ph_Mem)} {rs : ph_Mem → Int32 → Option (Int32 × ph_Mem)} {dr : Nat} (h : ph_ok Z X cX12_plainOf RX12 (some .boolean) 3 (dr + 2) ph_NM ad) (fin : ph_fin X ph_kdM ph_NM ad (some (.int o.1)) o.2) (hB : 62 ≤ dr) (hrs : ∀ (M : ph_Mem) (a0 : Int32) (q : (Int32 × ph_Mem)), rs M a0 = some q → ph_CX Z X dr yX12_testOf cX12_testOf 4 (some .boolean) ph_kdM ph_NM ad [.ref (ad 0), .int a0] M (some (.int q.1)) q.2)  : ∀ (x1 : Int32) (x2 : Int32) (M : ph_Mem), ph_J X ph_kdM ph_NM ad o 24 [(0, .ref (ad 0)), (1, .int x1), (2, .int x2)] [] M (f12_plainOf_j24 rs x1 x2 M) := by
  intro x1 x2 M
  unfold f12_plainOf_j24
  refine j_aload_n h dX12_plainOf_24 rfl 0 rfl ?_
  refine j_iload_n h dX12_plainOf_25 rfl 1 rfl ?_
  refine j_callVi (n := 1) (As := [.int x1]) (rest := []) h 0 tw_1495 tw_1497 tp_72 tw_14 tw_1498 ydf12_positiveOf (by omega) (by decide) (by decide) rfl rfl (fun q hq => cf12_positiveOf (ph_okZ h) (ph_okI h) (rs := rs) (dr := dr) (by omega) hrs hq) rfl (Nat.le_of_ble_eq_true rfl) rfl dX12_plainOf_26 (fun q2 => ?_)
  refine j_iload_n h dX12_plainOf_29 rfl 2 rfl ?_
  refine j_icmp_eq h 37 dX12_plainOf_30 (by decide) ?_ ?_
  · refine j_iconst (v := (0 : Int32)) h dX12_plainOf_37 (by decide) ?_
    exact j_zretC h rfl (by decide) fin dX12_plainOf_38
  · refine j_iconst (v := (1 : Int32)) h dX12_plainOf_33 (by decide) ?_
    refine j_goto h 38 dX12_plainOf_34 (by decide) ?_
    exact j_zretC h rfl (by decide) fin dX12_plainOf_38
def f12_plainOf_l2 (rs : ph_Mem → Int32 → Option (Int32 × ph_Mem)) : Nat → Int32 → Int32 → ph_Mem → Option (Int32 × ph_Mem)
  | 0, _, _, _ => none
  | n + 1, x1, x2, M => (f12_passes0 M (7 : Int32)).bind fun q1 => if q1.1 = 0 then (f12_plainOf_j24 rs x1 x2 q1.2) else (if x2 = 0 then (f12_plainOf_j20 rs (f12_plainOf_l2 rs n) x1 (1 : Int32) q1.2) else (f12_plainOf_j20 rs (f12_plainOf_l2 rs n) x1 (0 : Int32) q1.2))
set_option maxHeartbeats 4000000 in
theorem jb_f12_plainOf_l2 {Z : (Nat → Prop) → State → Prop} {X : ph_X} {ad : Nat → Nat} {o : (Int32 × ph_Mem)} {rs : ph_Mem → Int32 → Option (Int32 × ph_Mem)} {dr : Nat} (h : ph_ok Z X cX12_plainOf RX12 (some .boolean) 3 (dr + 2) ph_NM ad) (fin : ph_fin X ph_kdM ph_NM ad (some (.int o.1)) o.2) (hB : 62 ≤ dr) (hrs : ∀ (M : ph_Mem) (a0 : Int32) (q : (Int32 × ph_Mem)), rs M a0 = some q → ph_CX Z X dr yX12_testOf cX12_testOf 4 (some .boolean) ph_kdM ph_NM ad [.ref (ad 0), .int a0] M (some (.int q.1)) q.2)  : ∀ (n : Nat) (x1 : Int32) (x2 : Int32) (M : ph_Mem), ph_J X ph_kdM ph_NM ad o 2 [(0, .ref (ad 0)), (1, .int x1), (2, .int x2)] [] M (f12_plainOf_l2 rs n x1 x2 M) := by
  intro n
  induction n with
  | zero => intro x1 x2 M; exact j_none
  | succ n hrc2 =>
    intro x1 x2 M
    unfold f12_plainOf_l2
    refine j_aload_n h dX12_plainOf_2 rfl 0 rfl ?_
    refine j_bipush (v := (7 : Int32)) h dX12_plainOf_3 (by decide) ?_
    refine j_callVi (n := 1) (As := [.int (7 : Int32)]) (rest := []) h 0 tw_1464 tw_1466 tp_65 tw_14 tw_1467 ydf12_passes0 (by omega) (by decide) (by decide) rfl rfl (fun q hq => cf12_passes0 (ph_okZ h) (ph_okI h) hq) rfl (Nat.le_of_ble_eq_true rfl) rfl dX12_plainOf_5 (fun q1 => ?_)
    refine j_if_eq h 24 dX12_plainOf_8 (by decide) ?_ ?_
    · refine j_sub [0, 1, 2] rfl ?_
      exact jb_f12_plainOf_j24 h fin hB hrs x1 x2 q1.2
    · refine j_iload_n h dX12_plainOf_11 rfl 2 rfl ?_
      refine j_if_ne h 19 dX12_plainOf_12 (by decide) ?_ ?_
      · refine j_iconst (v := (0 : Int32)) h dX12_plainOf_19 (by decide) ?_
        refine j_sub [0, 1] rfl ?_
        exact jb_f12_plainOf_j20 h fin hB hrs hrc2 x1 (0 : Int32) q1.2
      · refine j_iconst (v := (1 : Int32)) h dX12_plainOf_15 (by decide) ?_
        refine j_goto h 20 dX12_plainOf_16 (by decide) ?_
        refine j_sub [0, 1] rfl ?_
        exact jb_f12_plainOf_j20 h fin hB hrs hrc2 x1 (1 : Int32) q1.2
theorem ydf12_plainOf : ph_yd yX12_plainOf 1 := ⟨by decide, by decide, by decide +kernel⟩
def f12_plainOf (rs : ph_Mem → Int32 → Option (Int32 × ph_Mem)) (M : ph_Mem) (p0 : Int32) : Option (Int32 × ph_Mem) :=
  f12_plainOf_l2 rs 10000 p0 (0 : Int32) M
set_option maxHeartbeats 4000000 in
theorem cf12_plainOf {Z : (Nat → Prop) → State → Prop} (hZ : ph_Zok Z) {l : Launch} {D : va_G} {cA : Nat → ClassId} {ad : Nat → Nat} (hinj : ∀ i j, i < ph_NM → j < ph_NM → ad i = ad j → i = j) {rs : ph_Mem → Int32 → Option (Int32 × ph_Mem)} {dr : Nat} (hB : 62 ≤ dr) (hrs : ∀ (M : ph_Mem) (a0 : Int32) (q : (Int32 × ph_Mem)), rs M a0 = some q → ph_C Z l dr yX12_testOf cX12_testOf 4 (some .boolean) D cA ph_kdM ph_NM ad [.ref (ad 0), .int a0] M (some (.int q.1)) q.2) {M : ph_Mem} {p0 : Int32} {r : Int32} {M' : ph_Mem} (hf : f12_plainOf rs M p0 = some (r, M')) : ph_C Z l (dr + 2) yX12_plainOf cX12_plainOf 3 (some .boolean) D cA ph_kdM ph_NM ad [.ref (ad 0), .int p0] M (some (.int r)) M' := by
  refine ph_mk hZ hinj (by decide) (Nat.le_of_ble_eq_true rfl) fun X h fin hE => ?_
  obtain ⟨rfl, rfl, rfl⟩ := hE
  refine (?_ : ph_J X ph_kdM ph_NM ad ((r, M') : (Int32 × ph_Mem)) 0 [(0, .ref (ad 0)), (1, .int p0)] [] M (f12_plainOf rs M p0)) hf
  unfold f12_plainOf
  refine j_iconst (v := (0 : Int32)) h dX12_plainOf_0 (by decide) ?_
  refine j_istore_n h [(2, .int (0 : Int32)), (0, .ref (ad 0)), (1, .int p0)] dX12_plainOf_1 rfl (by decide) rfl ?_
  refine j_sub [1, 2, 0] rfl ?_
  exact jb_f12_plainOf_l2 h fin hB hrs 10000 p0 (0 : Int32) M
theorem dX12_bothOf_0 : decode cX12_bothOf 0 = .ok (.aload_n 0, 1) := by decide +kernel
theorem dX12_bothOf_1 : decode cX12_bothOf 1 = .ok (.iload_n 1, 1) := by decide +kernel
theorem dX12_bothOf_2 : decode cX12_bothOf 2 = .ok (.invokevirtual 315, 3) := by decide +kernel
theorem dX12_bothOf_5 : decode cX12_bothOf 5 = .ok (.istore_n 2, 1) := by decide +kernel
theorem dX12_bothOf_6 : decode cX12_bothOf 6 = .ok (.aload_n 0, 1) := by decide +kernel
theorem dX12_bothOf_7 : decode cX12_bothOf 7 = .ok (.bipush 6, 2) := by decide +kernel
theorem dX12_bothOf_9 : decode cX12_bothOf 9 = .ok (.invokevirtual 304, 3) := by decide +kernel
theorem dX12_bothOf_12 : decode cX12_bothOf 12 = .ok (.ifCond .eq 38, 3) := by decide +kernel
theorem dX12_bothOf_15 : decode cX12_bothOf 15 = .ok (.aload_n 0, 1) := by decide +kernel
theorem dX12_bothOf_16 : decode cX12_bothOf 16 = .ok (.iload_n 1, 1) := by decide +kernel
theorem dX12_bothOf_17 : decode cX12_bothOf 17 = .ok (.ifCond .eq 11, 3) := by decide +kernel
theorem dX12_bothOf_20 : decode cX12_bothOf 20 = .ok (.iload_n 2, 1) := by decide +kernel
theorem dX12_bothOf_21 : decode cX12_bothOf 21 = .ok (.ifCond .eq 7, 3) := by decide +kernel
theorem dX12_bothOf_24 : decode cX12_bothOf 24 = .ok (.iconst 1, 1) := by decide +kernel
theorem dX12_bothOf_25 : decode cX12_bothOf 25 = .ok (.goto 4, 3) := by decide +kernel
theorem dX12_bothOf_28 : decode cX12_bothOf 28 = .ok (.iconst 0, 1) := by decide +kernel
theorem dX12_bothOf_29 : decode cX12_bothOf 29 = .ok (.invokevirtual 315, 3) := by decide +kernel
theorem dX12_bothOf_32 : decode cX12_bothOf 32 = .ok (.istore_n 3, 1) := by decide +kernel
theorem dX12_bothOf_33 : decode cX12_bothOf 33 = .ok (.iload_n 2, 1) := by decide +kernel
theorem dX12_bothOf_34 : decode cX12_bothOf 34 = .ok (.ifCond .eq 11, 3) := by decide +kernel
theorem dX12_bothOf_37 : decode cX12_bothOf 37 = .ok (.iload_n 3, 1) := by decide +kernel
theorem dX12_bothOf_38 : decode cX12_bothOf 38 = .ok (.ifCond .eq 7, 3) := by decide +kernel
theorem dX12_bothOf_41 : decode cX12_bothOf 41 = .ok (.iconst 1, 1) := by decide +kernel
theorem dX12_bothOf_42 : decode cX12_bothOf 42 = .ok (.goto 4, 3) := by decide +kernel
theorem dX12_bothOf_45 : decode cX12_bothOf 45 = .ok (.iconst 0, 1) := by decide +kernel
theorem dX12_bothOf_46 : decode cX12_bothOf 46 = .ok (.istore_n 2, 1) := by decide +kernel
theorem dX12_bothOf_47 : decode cX12_bothOf 47 = .ok (.goto (-41), 3) := by decide +kernel
theorem dX12_bothOf_50 : decode cX12_bothOf 50 = .ok (.iload_n 2, 1) := by decide +kernel
theorem dX12_bothOf_51 : decode cX12_bothOf 51 = .ok (.ireturn, 1) := by decide +kernel
def f12_bothOf_j46 (rs : ph_Mem → Int32 → Option (Int32 × ph_Mem)) (rc6 : Int32 → Int32 → ph_Mem → Option (Int32 × ph_Mem)) (x1 : Int32) (s0 : Int32) (M : ph_Mem) : Option (Int32 × ph_Mem) :=
  rc6 x1 s0 M
set_option maxHeartbeats 4000000 in
theorem jb_f12_bothOf_j46 {Z : (Nat → Prop) → State → Prop} {X : ph_X} {ad : Nat → Nat} {o : (Int32 × ph_Mem)} {rs : ph_Mem → Int32 → Option (Int32 × ph_Mem)} {dr : Nat} (h : ph_ok Z X cX12_bothOf RX12 (some .boolean) 4 (dr + 3) ph_NM ad) (fin : ph_fin X ph_kdM ph_NM ad (some (.int o.1)) o.2) (hB : 62 ≤ dr) (hrs : ∀ (M : ph_Mem) (a0 : Int32) (q : (Int32 × ph_Mem)), rs M a0 = some q → ph_CX Z X dr yX12_testOf cX12_testOf 4 (some .boolean) ph_kdM ph_NM ad [.ref (ad 0), .int a0] M (some (.int q.1)) q.2)  {rc6 : Int32 → Int32 → ph_Mem → Option (Int32 × ph_Mem)} (hrc6 : ∀ (x1 : Int32) (x2 : Int32) (M : ph_Mem), ph_J X ph_kdM ph_NM ad o 6 [(0, .ref (ad 0)), (1, .int x1), (2, .int x2)] [] M (rc6 x1 x2 M)) : ∀ (x1 : Int32) (s0 : Int32) (M : ph_Mem), ph_J X ph_kdM ph_NM ad o 46 [(0, .ref (ad 0)), (1, .int x1)] [.int s0] M (f12_bothOf_j46 rs rc6 x1 s0 M) := by
  intro x1 s0 M
  unfold f12_bothOf_j46
  refine j_istore_n h [(2, .int s0), (0, .ref (ad 0)), (1, .int x1)] dX12_bothOf_46 rfl (by decide) rfl ?_
  refine j_goto h 6 dX12_bothOf_47 (by decide) ?_
  refine j_sub [1, 2, 0] rfl ?_
  exact hrc6 x1 s0 M
def f12_bothOf_j45 (rs : ph_Mem → Int32 → Option (Int32 × ph_Mem)) (rc6 : Int32 → Int32 → ph_Mem → Option (Int32 × ph_Mem)) (x1 : Int32) (M : ph_Mem) : Option (Int32 × ph_Mem) :=
  f12_bothOf_j46 rs rc6 x1 (0 : Int32) M
set_option maxHeartbeats 4000000 in
theorem jb_f12_bothOf_j45 {Z : (Nat → Prop) → State → Prop} {X : ph_X} {ad : Nat → Nat} {o : (Int32 × ph_Mem)} {rs : ph_Mem → Int32 → Option (Int32 × ph_Mem)} {dr : Nat} (h : ph_ok Z X cX12_bothOf RX12 (some .boolean) 4 (dr + 3) ph_NM ad) (fin : ph_fin X ph_kdM ph_NM ad (some (.int o.1)) o.2) (hB : 62 ≤ dr) (hrs : ∀ (M : ph_Mem) (a0 : Int32) (q : (Int32 × ph_Mem)), rs M a0 = some q → ph_CX Z X dr yX12_testOf cX12_testOf 4 (some .boolean) ph_kdM ph_NM ad [.ref (ad 0), .int a0] M (some (.int q.1)) q.2)  {rc6 : Int32 → Int32 → ph_Mem → Option (Int32 × ph_Mem)} (hrc6 : ∀ (x1 : Int32) (x2 : Int32) (M : ph_Mem), ph_J X ph_kdM ph_NM ad o 6 [(0, .ref (ad 0)), (1, .int x1), (2, .int x2)] [] M (rc6 x1 x2 M)) : ∀ (x1 : Int32) (M : ph_Mem), ph_J X ph_kdM ph_NM ad o 45 [(0, .ref (ad 0)), (1, .int x1)] [] M (f12_bothOf_j45 rs rc6 x1 M) := by
  intro x1 M
  unfold f12_bothOf_j45
  refine j_iconst (v := (0 : Int32)) h dX12_bothOf_45 (by decide) ?_
  refine j_sub [0, 1] rfl ?_
  exact jb_f12_bothOf_j46 h fin hB hrs hrc6 x1 (0 : Int32) M
def f12_bothOf_j29 (rs : ph_Mem → Int32 → Option (Int32 × ph_Mem)) (rc6 : Int32 → Int32 → ph_Mem → Option (Int32 × ph_Mem)) (x1 : Int32) (x2 : Int32) (s0 : Int32) (M : ph_Mem) : Option (Int32 × ph_Mem) :=
  (f12_plainOf rs M s0).bind fun q3 => if x2 = 0 then (f12_bothOf_j45 rs rc6 x1 q3.2) else (if q3.1 = 0 then (f12_bothOf_j45 rs rc6 x1 q3.2) else (f12_bothOf_j46 rs rc6 x1 (1 : Int32) q3.2))
set_option maxHeartbeats 4000000 in
theorem jb_f12_bothOf_j29 {Z : (Nat → Prop) → State → Prop} {X : ph_X} {ad : Nat → Nat} {o : (Int32 × ph_Mem)} {rs : ph_Mem → Int32 → Option (Int32 × ph_Mem)} {dr : Nat} (h : ph_ok Z X cX12_bothOf RX12 (some .boolean) 4 (dr + 3) ph_NM ad) (fin : ph_fin X ph_kdM ph_NM ad (some (.int o.1)) o.2) (hB : 62 ≤ dr) (hrs : ∀ (M : ph_Mem) (a0 : Int32) (q : (Int32 × ph_Mem)), rs M a0 = some q → ph_CX Z X dr yX12_testOf cX12_testOf 4 (some .boolean) ph_kdM ph_NM ad [.ref (ad 0), .int a0] M (some (.int q.1)) q.2)  {rc6 : Int32 → Int32 → ph_Mem → Option (Int32 × ph_Mem)} (hrc6 : ∀ (x1 : Int32) (x2 : Int32) (M : ph_Mem), ph_J X ph_kdM ph_NM ad o 6 [(0, .ref (ad 0)), (1, .int x1), (2, .int x2)] [] M (rc6 x1 x2 M)) : ∀ (x1 : Int32) (x2 : Int32) (s0 : Int32) (M : ph_Mem), ph_J X ph_kdM ph_NM ad o 29 [(0, .ref (ad 0)), (1, .int x1), (2, .int x2)] [.int s0, .ref (ad 0)] M (f12_bothOf_j29 rs rc6 x1 x2 s0 M) := by
  intro x1 x2 s0 M
  unfold f12_bothOf_j29
  refine j_callVi (n := 1) (As := [.int s0]) (rest := []) h 0 tw_1491 tw_1493 tp_71 tw_14 tw_1494 ydf12_plainOf (by omega) (by decide) (by decide) rfl rfl (fun q hq => cf12_plainOf (ph_okZ h) (ph_okI h) (rs := rs) (dr := dr) (by omega) hrs hq) rfl (Nat.le_of_ble_eq_true rfl) rfl dX12_bothOf_29 (fun q3 => ?_)
  refine j_istore_n h [(3, .int q3.1), (0, .ref (ad 0)), (1, .int x1), (2, .int x2)] dX12_bothOf_32 rfl (by decide) rfl ?_
  refine j_iload_n h dX12_bothOf_33 rfl 3 rfl ?_
  refine j_if_eq h 45 dX12_bothOf_34 (by decide) ?_ ?_
  · refine j_sub [1, 2] rfl ?_
    exact jb_f12_bothOf_j45 h fin hB hrs hrc6 x1 q3.2
  · refine j_iload_n h dX12_bothOf_37 rfl 0 rfl ?_
    refine j_if_eq h 45 dX12_bothOf_38 (by decide) ?_ ?_
    · refine j_sub [1, 2] rfl ?_
      exact jb_f12_bothOf_j45 h fin hB hrs hrc6 x1 q3.2
    · refine j_iconst (v := (1 : Int32)) h dX12_bothOf_41 (by decide) ?_
      refine j_goto h 46 dX12_bothOf_42 (by decide) ?_
      refine j_sub [1, 2] rfl ?_
      exact jb_f12_bothOf_j46 h fin hB hrs hrc6 x1 (1 : Int32) q3.2
def f12_bothOf_j28 (rs : ph_Mem → Int32 → Option (Int32 × ph_Mem)) (rc6 : Int32 → Int32 → ph_Mem → Option (Int32 × ph_Mem)) (x1 : Int32) (x2 : Int32) (M : ph_Mem) : Option (Int32 × ph_Mem) :=
  f12_bothOf_j29 rs rc6 x1 x2 (0 : Int32) M
set_option maxHeartbeats 4000000 in
theorem jb_f12_bothOf_j28 {Z : (Nat → Prop) → State → Prop} {X : ph_X} {ad : Nat → Nat} {o : (Int32 × ph_Mem)} {rs : ph_Mem → Int32 → Option (Int32 × ph_Mem)} {dr : Nat} (h : ph_ok Z X cX12_bothOf RX12 (some .boolean) 4 (dr + 3) ph_NM ad) (fin : ph_fin X ph_kdM ph_NM ad (some (.int o.1)) o.2) (hB : 62 ≤ dr) (hrs : ∀ (M : ph_Mem) (a0 : Int32) (q : (Int32 × ph_Mem)), rs M a0 = some q → ph_CX Z X dr yX12_testOf cX12_testOf 4 (some .boolean) ph_kdM ph_NM ad [.ref (ad 0), .int a0] M (some (.int q.1)) q.2)  {rc6 : Int32 → Int32 → ph_Mem → Option (Int32 × ph_Mem)} (hrc6 : ∀ (x1 : Int32) (x2 : Int32) (M : ph_Mem), ph_J X ph_kdM ph_NM ad o 6 [(0, .ref (ad 0)), (1, .int x1), (2, .int x2)] [] M (rc6 x1 x2 M)) : ∀ (x1 : Int32) (x2 : Int32) (M : ph_Mem), ph_J X ph_kdM ph_NM ad o 28 [(0, .ref (ad 0)), (1, .int x1), (2, .int x2)] [.ref (ad 0)] M (f12_bothOf_j28 rs rc6 x1 x2 M) := by
  intro x1 x2 M
  unfold f12_bothOf_j28
  refine j_iconst (v := (0 : Int32)) h dX12_bothOf_28 (by decide) ?_
  refine j_sub [0, 1, 2] rfl ?_
  exact jb_f12_bothOf_j29 h fin hB hrs hrc6 x1 x2 (0 : Int32) M
def f12_bothOf_l6 (rs : ph_Mem → Int32 → Option (Int32 × ph_Mem)) : Nat → Int32 → Int32 → ph_Mem → Option (Int32 × ph_Mem)
  | 0, _, _, _ => none
  | n + 1, x1, x2, M => (f12_passes0 M (6 : Int32)).bind fun q2 => if q2.1 = 0 then (cond (ph_isz x2) (some (x2, q2.2)) none) else (if x1 = 0 then (f12_bothOf_j28 rs (f12_bothOf_l6 rs n) x1 x2 q2.2) else (if x2 = 0 then (f12_bothOf_j28 rs (f12_bothOf_l6 rs n) x1 x2 q2.2) else (f12_bothOf_j29 rs (f12_bothOf_l6 rs n) x1 x2 (1 : Int32) q2.2)))
set_option maxHeartbeats 4000000 in
theorem jb_f12_bothOf_l6 {Z : (Nat → Prop) → State → Prop} {X : ph_X} {ad : Nat → Nat} {o : (Int32 × ph_Mem)} {rs : ph_Mem → Int32 → Option (Int32 × ph_Mem)} {dr : Nat} (h : ph_ok Z X cX12_bothOf RX12 (some .boolean) 4 (dr + 3) ph_NM ad) (fin : ph_fin X ph_kdM ph_NM ad (some (.int o.1)) o.2) (hB : 62 ≤ dr) (hrs : ∀ (M : ph_Mem) (a0 : Int32) (q : (Int32 × ph_Mem)), rs M a0 = some q → ph_CX Z X dr yX12_testOf cX12_testOf 4 (some .boolean) ph_kdM ph_NM ad [.ref (ad 0), .int a0] M (some (.int q.1)) q.2)  : ∀ (n : Nat) (x1 : Int32) (x2 : Int32) (M : ph_Mem), ph_J X ph_kdM ph_NM ad o 6 [(0, .ref (ad 0)), (1, .int x1), (2, .int x2)] [] M (f12_bothOf_l6 rs n x1 x2 M) := by
  intro n
  induction n with
  | zero => intro x1 x2 M; exact j_none
  | succ n hrc6 =>
    intro x1 x2 M
    unfold f12_bothOf_l6
    refine j_aload_n h dX12_bothOf_6 rfl 0 rfl ?_
    refine j_bipush (v := (6 : Int32)) h dX12_bothOf_7 (by decide) ?_
    refine j_callVi (n := 1) (As := [.int (6 : Int32)]) (rest := []) h 0 tw_1464 tw_1466 tp_65 tw_14 tw_1467 ydf12_passes0 (by omega) (by decide) (by decide) rfl rfl (fun q hq => cf12_passes0 (ph_okZ h) (ph_okI h) hq) rfl (Nat.le_of_ble_eq_true rfl) rfl dX12_bothOf_9 (fun q2 => ?_)
    refine j_if_eq h 50 dX12_bothOf_12 (by decide) ?_ ?_
    · refine j_iload_n h dX12_bothOf_50 rfl 2 rfl ?_
      exact j_zret h rfl fin dX12_bothOf_51
    · refine j_aload_n h dX12_bothOf_15 rfl 0 rfl ?_
      refine j_iload_n h dX12_bothOf_16 rfl 1 rfl ?_
      refine j_if_eq h 28 dX12_bothOf_17 (by decide) ?_ ?_
      · refine j_sub [0, 1, 2] rfl ?_
        exact jb_f12_bothOf_j28 h fin hB hrs hrc6 x1 x2 q2.2
      · refine j_iload_n h dX12_bothOf_20 rfl 2 rfl ?_
        refine j_if_eq h 28 dX12_bothOf_21 (by decide) ?_ ?_
        · refine j_sub [0, 1, 2] rfl ?_
          exact jb_f12_bothOf_j28 h fin hB hrs hrc6 x1 x2 q2.2
        · refine j_iconst (v := (1 : Int32)) h dX12_bothOf_24 (by decide) ?_
          refine j_goto h 29 dX12_bothOf_25 (by decide) ?_
          refine j_sub [0, 1, 2] rfl ?_
          exact jb_f12_bothOf_j29 h fin hB hrs hrc6 x1 x2 (1 : Int32) q2.2
theorem ydf12_bothOf : ph_yd yX12_bothOf 1 := ⟨by decide, by decide, by decide +kernel⟩
def f12_bothOf (rs : ph_Mem → Int32 → Option (Int32 × ph_Mem)) (M : ph_Mem) (p0 : Int32) : Option (Int32 × ph_Mem) :=
  (f12_plainOf rs M p0).bind fun q1 => f12_bothOf_l6 rs 10000 p0 q1.1 q1.2
set_option maxHeartbeats 4000000 in
theorem cf12_bothOf {Z : (Nat → Prop) → State → Prop} (hZ : ph_Zok Z) {l : Launch} {D : va_G} {cA : Nat → ClassId} {ad : Nat → Nat} (hinj : ∀ i j, i < ph_NM → j < ph_NM → ad i = ad j → i = j) {rs : ph_Mem → Int32 → Option (Int32 × ph_Mem)} {dr : Nat} (hB : 62 ≤ dr) (hrs : ∀ (M : ph_Mem) (a0 : Int32) (q : (Int32 × ph_Mem)), rs M a0 = some q → ph_C Z l dr yX12_testOf cX12_testOf 4 (some .boolean) D cA ph_kdM ph_NM ad [.ref (ad 0), .int a0] M (some (.int q.1)) q.2) {M : ph_Mem} {p0 : Int32} {r : Int32} {M' : ph_Mem} (hf : f12_bothOf rs M p0 = some (r, M')) : ph_C Z l (dr + 3) yX12_bothOf cX12_bothOf 4 (some .boolean) D cA ph_kdM ph_NM ad [.ref (ad 0), .int p0] M (some (.int r)) M' := by
  refine ph_mk hZ hinj (by decide) (Nat.le_of_ble_eq_true rfl) fun X h fin hE => ?_
  obtain ⟨rfl, rfl, rfl⟩ := hE
  refine (?_ : ph_J X ph_kdM ph_NM ad ((r, M') : (Int32 × ph_Mem)) 0 [(0, .ref (ad 0)), (1, .int p0)] [] M (f12_bothOf rs M p0)) hf
  unfold f12_bothOf
  refine j_aload_n h dX12_bothOf_0 rfl 0 rfl ?_
  refine j_iload_n h dX12_bothOf_1 rfl 1 rfl ?_
  refine j_callVi (n := 1) (As := [.int p0]) (rest := []) h 0 tw_1491 tw_1493 tp_71 tw_14 tw_1494 ydf12_plainOf (by omega) (by decide) (by decide) rfl rfl (fun q hq => cf12_plainOf (ph_okZ h) (ph_okI h) (rs := rs) (dr := dr) (by omega) hrs hq) rfl (Nat.le_of_ble_eq_true rfl) rfl dX12_bothOf_2 (fun q1 => ?_)
  refine j_istore_n h [(2, .int q1.1), (0, .ref (ad 0)), (1, .int p0)] dX12_bothOf_5 rfl (by decide) rfl ?_
  refine j_sub [1, 2, 0] rfl ?_
  exact jb_f12_bothOf_l6 h fin hB hrs 10000 p0 q1.1 q1.2
theorem dX12_testOf_0 : decode cX12_testOf 0 = .ok (.aload_n 0, 1) := by decide +kernel
theorem dX12_testOf_1 : decode cX12_testOf 1 = .ok (.iload_n 1, 1) := by decide +kernel
theorem dX12_testOf_2 : decode cX12_testOf 2 = .ok (.invokevirtual 312, 3) := by decide +kernel
theorem dX12_testOf_5 : decode cX12_testOf 5 = .ok (.istore_n 2, 1) := by decide +kernel
theorem dX12_testOf_6 : decode cX12_testOf 6 = .ok (.aload_n 0, 1) := by decide +kernel
theorem dX12_testOf_7 : decode cX12_testOf 7 = .ok (.iconst 5, 1) := by decide +kernel
theorem dX12_testOf_8 : decode cX12_testOf 8 = .ok (.invokevirtual 304, 3) := by decide +kernel
theorem dX12_testOf_11 : decode cX12_testOf 11 = .ok (.ifCond .eq 38, 3) := by decide +kernel
theorem dX12_testOf_14 : decode cX12_testOf 14 = .ok (.aload_n 0, 1) := by decide +kernel
theorem dX12_testOf_15 : decode cX12_testOf 15 = .ok (.iload_n 1, 1) := by decide +kernel
theorem dX12_testOf_16 : decode cX12_testOf 16 = .ok (.ifCond .eq 11, 3) := by decide +kernel
theorem dX12_testOf_19 : decode cX12_testOf 19 = .ok (.iload_n 2, 1) := by decide +kernel
theorem dX12_testOf_20 : decode cX12_testOf 20 = .ok (.ifCond .ne 7, 3) := by decide +kernel
theorem dX12_testOf_23 : decode cX12_testOf 23 = .ok (.iconst 1, 1) := by decide +kernel
theorem dX12_testOf_24 : decode cX12_testOf 24 = .ok (.goto 4, 3) := by decide +kernel
theorem dX12_testOf_27 : decode cX12_testOf 27 = .ok (.iconst 0, 1) := by decide +kernel
theorem dX12_testOf_28 : decode cX12_testOf 28 = .ok (.invokevirtual 312, 3) := by decide +kernel
theorem dX12_testOf_31 : decode cX12_testOf 31 = .ok (.istore_n 3, 1) := by decide +kernel
theorem dX12_testOf_32 : decode cX12_testOf 32 = .ok (.iload_n 2, 1) := by decide +kernel
theorem dX12_testOf_33 : decode cX12_testOf 33 = .ok (.ifCond .ne 7, 3) := by decide +kernel
theorem dX12_testOf_36 : decode cX12_testOf 36 = .ok (.iload_n 3, 1) := by decide +kernel
theorem dX12_testOf_37 : decode cX12_testOf 37 = .ok (.ifCond .eq 7, 3) := by decide +kernel
theorem dX12_testOf_40 : decode cX12_testOf 40 = .ok (.iconst 1, 1) := by decide +kernel
theorem dX12_testOf_41 : decode cX12_testOf 41 = .ok (.goto 4, 3) := by decide +kernel
theorem dX12_testOf_44 : decode cX12_testOf 44 = .ok (.iconst 0, 1) := by decide +kernel
theorem dX12_testOf_45 : decode cX12_testOf 45 = .ok (.istore_n 2, 1) := by decide +kernel
theorem dX12_testOf_46 : decode cX12_testOf 46 = .ok (.goto (-40), 3) := by decide +kernel
theorem dX12_testOf_49 : decode cX12_testOf 49 = .ok (.iload_n 2, 1) := by decide +kernel
theorem dX12_testOf_50 : decode cX12_testOf 50 = .ok (.ireturn, 1) := by decide +kernel
def f12_testOf_j45 (rs : ph_Mem → Int32 → Option (Int32 × ph_Mem)) (rc6 : Int32 → Int32 → ph_Mem → Option (Int32 × ph_Mem)) (x1 : Int32) (s0 : Int32) (M : ph_Mem) : Option (Int32 × ph_Mem) :=
  rc6 x1 s0 M
set_option maxHeartbeats 4000000 in
theorem jb_f12_testOf_j45 {Z : (Nat → Prop) → State → Prop} {X : ph_X} {ad : Nat → Nat} {o : (Int32 × ph_Mem)} {rs : ph_Mem → Int32 → Option (Int32 × ph_Mem)} {dr : Nat} (h : ph_ok Z X cX12_testOf RX12 (some .boolean) 4 (dr + 4) ph_NM ad) (fin : ph_fin X ph_kdM ph_NM ad (some (.int o.1)) o.2) (hB : 62 ≤ dr) (hrs : ∀ (M : ph_Mem) (a0 : Int32) (q : (Int32 × ph_Mem)), rs M a0 = some q → ph_CX Z X dr yX12_testOf cX12_testOf 4 (some .boolean) ph_kdM ph_NM ad [.ref (ad 0), .int a0] M (some (.int q.1)) q.2)  {rc6 : Int32 → Int32 → ph_Mem → Option (Int32 × ph_Mem)} (hrc6 : ∀ (x1 : Int32) (x2 : Int32) (M : ph_Mem), ph_J X ph_kdM ph_NM ad o 6 [(0, .ref (ad 0)), (1, .int x1), (2, .int x2)] [] M (rc6 x1 x2 M)) : ∀ (x1 : Int32) (s0 : Int32) (M : ph_Mem), ph_J X ph_kdM ph_NM ad o 45 [(0, .ref (ad 0)), (1, .int x1)] [.int s0] M (f12_testOf_j45 rs rc6 x1 s0 M) := by
  intro x1 s0 M
  unfold f12_testOf_j45
  refine j_istore_n h [(2, .int s0), (0, .ref (ad 0)), (1, .int x1)] dX12_testOf_45 rfl (by decide) rfl ?_
  refine j_goto h 6 dX12_testOf_46 (by decide) ?_
  refine j_sub [1, 2, 0] rfl ?_
  exact hrc6 x1 s0 M
def f12_testOf_j40 (rs : ph_Mem → Int32 → Option (Int32 × ph_Mem)) (rc6 : Int32 → Int32 → ph_Mem → Option (Int32 × ph_Mem)) (x1 : Int32) (M : ph_Mem) : Option (Int32 × ph_Mem) :=
  f12_testOf_j45 rs rc6 x1 (1 : Int32) M
set_option maxHeartbeats 4000000 in
theorem jb_f12_testOf_j40 {Z : (Nat → Prop) → State → Prop} {X : ph_X} {ad : Nat → Nat} {o : (Int32 × ph_Mem)} {rs : ph_Mem → Int32 → Option (Int32 × ph_Mem)} {dr : Nat} (h : ph_ok Z X cX12_testOf RX12 (some .boolean) 4 (dr + 4) ph_NM ad) (fin : ph_fin X ph_kdM ph_NM ad (some (.int o.1)) o.2) (hB : 62 ≤ dr) (hrs : ∀ (M : ph_Mem) (a0 : Int32) (q : (Int32 × ph_Mem)), rs M a0 = some q → ph_CX Z X dr yX12_testOf cX12_testOf 4 (some .boolean) ph_kdM ph_NM ad [.ref (ad 0), .int a0] M (some (.int q.1)) q.2)  {rc6 : Int32 → Int32 → ph_Mem → Option (Int32 × ph_Mem)} (hrc6 : ∀ (x1 : Int32) (x2 : Int32) (M : ph_Mem), ph_J X ph_kdM ph_NM ad o 6 [(0, .ref (ad 0)), (1, .int x1), (2, .int x2)] [] M (rc6 x1 x2 M)) : ∀ (x1 : Int32) (M : ph_Mem), ph_J X ph_kdM ph_NM ad o 40 [(0, .ref (ad 0)), (1, .int x1)] [] M (f12_testOf_j40 rs rc6 x1 M) := by
  intro x1 M
  unfold f12_testOf_j40
  refine j_iconst (v := (1 : Int32)) h dX12_testOf_40 (by decide) ?_
  refine j_goto h 45 dX12_testOf_41 (by decide) ?_
  refine j_sub [0, 1] rfl ?_
  exact jb_f12_testOf_j45 h fin hB hrs hrc6 x1 (1 : Int32) M
def f12_testOf_j28 (rs : ph_Mem → Int32 → Option (Int32 × ph_Mem)) (rc6 : Int32 → Int32 → ph_Mem → Option (Int32 × ph_Mem)) (x1 : Int32) (x2 : Int32) (s0 : Int32) (M : ph_Mem) : Option (Int32 × ph_Mem) :=
  (f12_bothOf rs M s0).bind fun q3 => if x2 = 0 then (if q3.1 = 0 then (f12_testOf_j45 rs rc6 x1 (0 : Int32) q3.2) else (f12_testOf_j40 rs rc6 x1 q3.2)) else (f12_testOf_j40 rs rc6 x1 q3.2)
set_option maxHeartbeats 4000000 in
theorem jb_f12_testOf_j28 {Z : (Nat → Prop) → State → Prop} {X : ph_X} {ad : Nat → Nat} {o : (Int32 × ph_Mem)} {rs : ph_Mem → Int32 → Option (Int32 × ph_Mem)} {dr : Nat} (h : ph_ok Z X cX12_testOf RX12 (some .boolean) 4 (dr + 4) ph_NM ad) (fin : ph_fin X ph_kdM ph_NM ad (some (.int o.1)) o.2) (hB : 62 ≤ dr) (hrs : ∀ (M : ph_Mem) (a0 : Int32) (q : (Int32 × ph_Mem)), rs M a0 = some q → ph_CX Z X dr yX12_testOf cX12_testOf 4 (some .boolean) ph_kdM ph_NM ad [.ref (ad 0), .int a0] M (some (.int q.1)) q.2)  {rc6 : Int32 → Int32 → ph_Mem → Option (Int32 × ph_Mem)} (hrc6 : ∀ (x1 : Int32) (x2 : Int32) (M : ph_Mem), ph_J X ph_kdM ph_NM ad o 6 [(0, .ref (ad 0)), (1, .int x1), (2, .int x2)] [] M (rc6 x1 x2 M)) : ∀ (x1 : Int32) (x2 : Int32) (s0 : Int32) (M : ph_Mem), ph_J X ph_kdM ph_NM ad o 28 [(0, .ref (ad 0)), (1, .int x1), (2, .int x2)] [.int s0, .ref (ad 0)] M (f12_testOf_j28 rs rc6 x1 x2 s0 M) := by
  intro x1 x2 s0 M
  unfold f12_testOf_j28
  refine j_callVi (n := 1) (As := [.int s0]) (rest := []) h 0 tw_1487 tw_1489 tp_70 tw_14 tw_1490 ydf12_bothOf (by omega) (by decide) (by decide) rfl rfl (fun q hq => cf12_bothOf (ph_okZ h) (ph_okI h) (rs := rs) (dr := dr) (by omega) hrs hq) rfl (Nat.le_of_ble_eq_true rfl) rfl dX12_testOf_28 (fun q3 => ?_)
  refine j_istore_n h [(3, .int q3.1), (0, .ref (ad 0)), (1, .int x1), (2, .int x2)] dX12_testOf_31 rfl (by decide) rfl ?_
  refine j_iload_n h dX12_testOf_32 rfl 3 rfl ?_
  refine j_if_ne h 40 dX12_testOf_33 (by decide) ?_ ?_
  · refine j_sub [1, 2] rfl ?_
    exact jb_f12_testOf_j40 h fin hB hrs hrc6 x1 q3.2
  · refine j_iload_n h dX12_testOf_36 rfl 0 rfl ?_
    refine j_if_eq h 44 dX12_testOf_37 (by decide) ?_ ?_
    · refine j_iconst (v := (0 : Int32)) h dX12_testOf_44 (by decide) ?_
      refine j_sub [1, 2] rfl ?_
      exact jb_f12_testOf_j45 h fin hB hrs hrc6 x1 (0 : Int32) q3.2
    · refine j_sub [1, 2] rfl ?_
      exact jb_f12_testOf_j40 h fin hB hrs hrc6 x1 q3.2
def f12_testOf_j27 (rs : ph_Mem → Int32 → Option (Int32 × ph_Mem)) (rc6 : Int32 → Int32 → ph_Mem → Option (Int32 × ph_Mem)) (x1 : Int32) (x2 : Int32) (M : ph_Mem) : Option (Int32 × ph_Mem) :=
  f12_testOf_j28 rs rc6 x1 x2 (0 : Int32) M
set_option maxHeartbeats 4000000 in
theorem jb_f12_testOf_j27 {Z : (Nat → Prop) → State → Prop} {X : ph_X} {ad : Nat → Nat} {o : (Int32 × ph_Mem)} {rs : ph_Mem → Int32 → Option (Int32 × ph_Mem)} {dr : Nat} (h : ph_ok Z X cX12_testOf RX12 (some .boolean) 4 (dr + 4) ph_NM ad) (fin : ph_fin X ph_kdM ph_NM ad (some (.int o.1)) o.2) (hB : 62 ≤ dr) (hrs : ∀ (M : ph_Mem) (a0 : Int32) (q : (Int32 × ph_Mem)), rs M a0 = some q → ph_CX Z X dr yX12_testOf cX12_testOf 4 (some .boolean) ph_kdM ph_NM ad [.ref (ad 0), .int a0] M (some (.int q.1)) q.2)  {rc6 : Int32 → Int32 → ph_Mem → Option (Int32 × ph_Mem)} (hrc6 : ∀ (x1 : Int32) (x2 : Int32) (M : ph_Mem), ph_J X ph_kdM ph_NM ad o 6 [(0, .ref (ad 0)), (1, .int x1), (2, .int x2)] [] M (rc6 x1 x2 M)) : ∀ (x1 : Int32) (x2 : Int32) (M : ph_Mem), ph_J X ph_kdM ph_NM ad o 27 [(0, .ref (ad 0)), (1, .int x1), (2, .int x2)] [.ref (ad 0)] M (f12_testOf_j27 rs rc6 x1 x2 M) := by
  intro x1 x2 M
  unfold f12_testOf_j27
  refine j_iconst (v := (0 : Int32)) h dX12_testOf_27 (by decide) ?_
  refine j_sub [0, 1, 2] rfl ?_
  exact jb_f12_testOf_j28 h fin hB hrs hrc6 x1 x2 (0 : Int32) M
def f12_testOf_l6 (rs : ph_Mem → Int32 → Option (Int32 × ph_Mem)) : Nat → Int32 → Int32 → ph_Mem → Option (Int32 × ph_Mem)
  | 0, _, _, _ => none
  | n + 1, x1, x2, M => (f12_passes0 M (5 : Int32)).bind fun q2 => if q2.1 = 0 then (cond (ph_isz x2) (some (x2, q2.2)) none) else (if x1 = 0 then (f12_testOf_j27 rs (f12_testOf_l6 rs n) x1 x2 q2.2) else (if x2 = 0 then (f12_testOf_j28 rs (f12_testOf_l6 rs n) x1 x2 (1 : Int32) q2.2) else (f12_testOf_j27 rs (f12_testOf_l6 rs n) x1 x2 q2.2)))
set_option maxHeartbeats 4000000 in
theorem jb_f12_testOf_l6 {Z : (Nat → Prop) → State → Prop} {X : ph_X} {ad : Nat → Nat} {o : (Int32 × ph_Mem)} {rs : ph_Mem → Int32 → Option (Int32 × ph_Mem)} {dr : Nat} (h : ph_ok Z X cX12_testOf RX12 (some .boolean) 4 (dr + 4) ph_NM ad) (fin : ph_fin X ph_kdM ph_NM ad (some (.int o.1)) o.2) (hB : 62 ≤ dr) (hrs : ∀ (M : ph_Mem) (a0 : Int32) (q : (Int32 × ph_Mem)), rs M a0 = some q → ph_CX Z X dr yX12_testOf cX12_testOf 4 (some .boolean) ph_kdM ph_NM ad [.ref (ad 0), .int a0] M (some (.int q.1)) q.2)  : ∀ (n : Nat) (x1 : Int32) (x2 : Int32) (M : ph_Mem), ph_J X ph_kdM ph_NM ad o 6 [(0, .ref (ad 0)), (1, .int x1), (2, .int x2)] [] M (f12_testOf_l6 rs n x1 x2 M) := by
  intro n
  induction n with
  | zero => intro x1 x2 M; exact j_none
  | succ n hrc6 =>
    intro x1 x2 M
    unfold f12_testOf_l6
    refine j_aload_n h dX12_testOf_6 rfl 0 rfl ?_
    refine j_iconst (v := (5 : Int32)) h dX12_testOf_7 (by decide) ?_
    refine j_callVi (n := 1) (As := [.int (5 : Int32)]) (rest := []) h 0 tw_1464 tw_1466 tp_65 tw_14 tw_1467 ydf12_passes0 (by omega) (by decide) (by decide) rfl rfl (fun q hq => cf12_passes0 (ph_okZ h) (ph_okI h) hq) rfl (Nat.le_of_ble_eq_true rfl) rfl dX12_testOf_8 (fun q2 => ?_)
    refine j_if_eq h 49 dX12_testOf_11 (by decide) ?_ ?_
    · refine j_iload_n h dX12_testOf_49 rfl 2 rfl ?_
      exact j_zret h rfl fin dX12_testOf_50
    · refine j_aload_n h dX12_testOf_14 rfl 0 rfl ?_
      refine j_iload_n h dX12_testOf_15 rfl 1 rfl ?_
      refine j_if_eq h 27 dX12_testOf_16 (by decide) ?_ ?_
      · refine j_sub [0, 1, 2] rfl ?_
        exact jb_f12_testOf_j27 h fin hB hrs hrc6 x1 x2 q2.2
      · refine j_iload_n h dX12_testOf_19 rfl 2 rfl ?_
        refine j_if_ne h 27 dX12_testOf_20 (by decide) ?_ ?_
        · refine j_sub [0, 1, 2] rfl ?_
          exact jb_f12_testOf_j27 h fin hB hrs hrc6 x1 x2 q2.2
        · refine j_iconst (v := (1 : Int32)) h dX12_testOf_23 (by decide) ?_
          refine j_goto h 28 dX12_testOf_24 (by decide) ?_
          refine j_sub [0, 1, 2] rfl ?_
          exact jb_f12_testOf_j28 h fin hB hrs hrc6 x1 x2 (1 : Int32) q2.2
def f12_testOf_b (rs : ph_Mem → Int32 → Option (Int32 × ph_Mem)) (M : ph_Mem) (p0 : Int32) : Option (Int32 × ph_Mem) :=
  (f12_bothOf rs M p0).bind fun q1 => f12_testOf_l6 rs 10000 p0 q1.1 q1.2
set_option maxHeartbeats 4000000 in
theorem cf12_testOf_b {Z : (Nat → Prop) → State → Prop} (hZ : ph_Zok Z) {l : Launch} {D : va_G} {cA : Nat → ClassId} {ad : Nat → Nat} (hinj : ∀ i j, i < ph_NM → j < ph_NM → ad i = ad j → i = j) {rs : ph_Mem → Int32 → Option (Int32 × ph_Mem)} {dr : Nat} (hB : 62 ≤ dr) (hrs : ∀ (M : ph_Mem) (a0 : Int32) (q : (Int32 × ph_Mem)), rs M a0 = some q → ph_C Z l dr yX12_testOf cX12_testOf 4 (some .boolean) D cA ph_kdM ph_NM ad [.ref (ad 0), .int a0] M (some (.int q.1)) q.2) {M : ph_Mem} {p0 : Int32} {r : Int32} {M' : ph_Mem} (hf : f12_testOf_b rs M p0 = some (r, M')) : ph_C Z l (dr + 4) yX12_testOf cX12_testOf 4 (some .boolean) D cA ph_kdM ph_NM ad [.ref (ad 0), .int p0] M (some (.int r)) M' := by
  refine ph_mk hZ hinj (by decide) (Nat.le_of_ble_eq_true rfl) fun X h fin hE => ?_
  obtain ⟨rfl, rfl, rfl⟩ := hE
  refine (?_ : ph_J X ph_kdM ph_NM ad ((r, M') : (Int32 × ph_Mem)) 0 [(0, .ref (ad 0)), (1, .int p0)] [] M (f12_testOf_b rs M p0)) hf
  unfold f12_testOf_b
  refine j_aload_n h dX12_testOf_0 rfl 0 rfl ?_
  refine j_iload_n h dX12_testOf_1 rfl 1 rfl ?_
  refine j_callVi (n := 1) (As := [.int p0]) (rest := []) h 0 tw_1487 tw_1489 tp_70 tw_14 tw_1490 ydf12_bothOf (by omega) (by decide) (by decide) rfl rfl (fun q hq => cf12_bothOf (ph_okZ h) (ph_okI h) (rs := rs) (dr := dr) (by omega) hrs hq) rfl (Nat.le_of_ble_eq_true rfl) rfl dX12_testOf_2 (fun q1 => ?_)
  refine j_istore_n h [(2, .int q1.1), (0, .ref (ad 0)), (1, .int p0)] dX12_testOf_5 rfl (by decide) rfl ?_
  refine j_sub [1, 2, 0] rfl ?_
  exact jb_f12_testOf_l6 h fin hB hrs 10000 p0 q1.1 q1.2
def f12_testOf_n : Nat → ph_Mem → Int32 → Option (Int32 × ph_Mem)
  | 0, _, _ => none
  | n + 1, M, p0 => f12_testOf_b (f12_testOf_n n) M p0
theorem cf12_testOf_n {Z : (Nat → Prop) → State → Prop} (hZ : ph_Zok Z) {l : Launch} {D : va_G} {cA : Nat → ClassId} {ad : Nat → Nat} (hinj : ∀ i j, i < ph_NM → j < ph_NM → ad i = ad j → i = j) : ∀ (n : Nat) {M : ph_Mem} {p0 : Int32} {r : Int32} {M' : ph_Mem} (_ : f12_testOf_n n M p0 = some (r, M')), ph_C Z l (62 + 4 * n) yX12_testOf cX12_testOf 4 (some .boolean) D cA ph_kdM ph_NM ad [.ref (ad 0), .int p0] M (some (.int r)) M'
  | 0, _, _, _, _, h => by cases h
  | n + 1, _, _, _, _, h => by
    rw [show 62 + 4 * (n + 1) = 62 + 4 * n + 4 by omega]
    exact cf12_testOf_b hZ hinj (rs := f12_testOf_n n) (dr := 62 + 4 * n) (Nat.le_add_right _ _) (fun _ _ q hq => cf12_testOf_n hZ hinj n hq) h
def f12_testOf (M : ph_Mem) (p0 : Int32) : Option (Int32 × ph_Mem) := f12_testOf_n 20 M p0
theorem cf12_testOf {Z : (Nat → Prop) → State → Prop} (hZ : ph_Zok Z) {l : Launch} {D : va_G} {cA : Nat → ClassId} {ad : Nat → Nat} (hinj : ∀ i j, i < ph_NM → j < ph_NM → ad i = ad j → i = j) {M : ph_Mem} {p0 : Int32} {r : Int32} {M' : ph_Mem} (hf : f12_testOf M p0 = some (r, M')) : ph_C Z l 142 yX12_testOf cX12_testOf 4 (some .boolean) D cA ph_kdM ph_NM ad [.ref (ad 0), .int p0] M (some (.int r)) M' := cf12_testOf_n hZ hinj 20 hf
theorem dX12_tells_0 : decode cX12_tells 0 = .ok (.aload_n 0, 1) := by decide +kernel
theorem dX12_tells_1 : decode cX12_tells 1 = .ok (.getfield 24, 3) := by decide +kernel
theorem dX12_tells_4 : decode cX12_tells 4 = .ok (.sipush 477, 3) := by decide +kernel
theorem dX12_tells_7 : decode cX12_tells 7 = .ok (.iaload, 1) := by decide +kernel
theorem dX12_tells_8 : decode cX12_tells 8 = .ok (.iconst (-1), 1) := by decide +kernel
theorem dX12_tells_9 : decode cX12_tells 9 = .ok (.if_icmp .ne 5, 3) := by decide +kernel
theorem dX12_tells_12 : decode cX12_tells 12 = .ok (.iload_n 3, 1) := by decide +kernel
theorem dX12_tells_13 : decode cX12_tells 13 = .ok (.ireturn, 1) := by decide +kernel
theorem dX12_tells_14 : decode cX12_tells 14 = .ok (.aload_n 0, 1) := by decide +kernel
theorem dX12_tells_15 : decode cX12_tells 15 = .ok (.bipush 8, 2) := by decide +kernel
theorem dX12_tells_17 : decode cX12_tells 17 = .ok (.putfield 252, 3) := by decide +kernel
theorem dX12_tells_20 : decode cX12_tells 20 = .ok (.iload_n 3, 1) := by decide +kernel
theorem dX12_tells_21 : decode cX12_tells 21 = .ok (.i2l, 1) := by decide +kernel
theorem dX12_tells_22 : decode cX12_tells 22 = .ok (.lstore 4, 2) := by decide +kernel
theorem dX12_tells_24 : decode cX12_tells 24 = .ok (.aload_n 0, 1) := by decide +kernel
theorem dX12_tells_25 : decode cX12_tells 25 = .ok (.sipush 400, 3) := by decide +kernel
theorem dX12_tells_28 : decode cX12_tells 28 = .ok (.aload_n 0, 1) := by decide +kernel
theorem dX12_tells_29 : decode cX12_tells 29 = .ok (.getfield 24, 3) := by decide +kernel
theorem dX12_tells_32 : decode cX12_tells 32 = .ok (.sipush 477, 3) := by decide +kernel
theorem dX12_tells_35 : decode cX12_tells 35 = .ok (.iaload, 1) := by decide +kernel
theorem dX12_tells_36 : decode cX12_tells 36 = .ok (.imul, 1) := by decide +kernel
theorem dX12_tells_37 : decode cX12_tells 37 = .ok (.putfield 280, 3) := by decide +kernel
theorem dX12_tells_40 : decode cX12_tells 40 = .ok (.aload_n 0, 1) := by decide +kernel
theorem dX12_tells_41 : decode cX12_tells 41 = .ok (.aload_n 0, 1) := by decide +kernel
theorem dX12_tells_42 : decode cX12_tells 42 = .ok (.getfield 280, 3) := by decide +kernel
theorem dX12_tells_45 : decode cX12_tells 45 = .ok (.aload_n 0, 1) := by decide +kernel
theorem dX12_tells_46 : decode cX12_tells 46 = .ok (.getfield 24, 3) := by decide +kernel
theorem dX12_tells_49 : decode cX12_tells 49 = .ok (.sipush 478, 3) := by decide +kernel
theorem dX12_tells_52 : decode cX12_tells 52 = .ok (.aload_n 0, 1) := by decide +kernel
theorem dX12_tells_53 : decode cX12_tells 53 = .ok (.getfield 24, 3) := by decide +kernel
theorem dX12_tells_56 : decode cX12_tells 56 = .ok (.sipush 477, 3) := by decide +kernel
theorem dX12_tells_59 : decode cX12_tells 59 = .ok (.iaload, 1) := by decide +kernel
theorem dX12_tells_60 : decode cX12_tells 60 = .ok (.iadd, 1) := by decide +kernel
theorem dX12_tells_61 : decode cX12_tells 61 = .ok (.iaload, 1) := by decide +kernel
theorem dX12_tells_62 : decode cX12_tells 62 = .ok (.iadd, 1) := by decide +kernel
theorem dX12_tells_63 : decode cX12_tells 63 = .ok (.putfield 277, 3) := by decide +kernel
theorem dX12_tells_66 : decode cX12_tells 66 = .ok (.aload_n 0, 1) := by decide +kernel
theorem dX12_tells_67 : decode cX12_tells 67 = .ok (.getfield 280, 3) := by decide +kernel
theorem dX12_tells_70 : decode cX12_tells 70 = .ok (.aload_n 0, 1) := by decide +kernel
theorem dX12_tells_71 : decode cX12_tells 71 = .ok (.getfield 277, 3) := by decide +kernel
theorem dX12_tells_74 : decode cX12_tells 74 = .ok (.if_icmp .ge 143, 3) := by decide +kernel
theorem dX12_tells_77 : decode cX12_tells 77 = .ok (.aload_n 0, 1) := by decide +kernel
theorem dX12_tells_78 : decode cX12_tells 78 = .ok (.aload_n 0, 1) := by decide +kernel
theorem dX12_tells_79 : decode cX12_tells 79 = .ok (.getfield 280, 3) := by decide +kernel
theorem dX12_tells_82 : decode cX12_tells 82 = .ok (.invokevirtual 283, 3) := by decide +kernel
theorem dX12_tells_85 : decode cX12_tells 85 = .ok (.istore 6, 2) := by decide +kernel
theorem dX12_tells_87 : decode cX12_tells 87 = .ok (.aload_n 0, 1) := by decide +kernel
theorem dX12_tells_88 : decode cX12_tells 88 = .ok (.iconst 0, 1) := by decide +kernel
theorem dX12_tells_89 : decode cX12_tells 89 = .ok (.putfield 290, 3) := by decide +kernel
theorem dX12_tells_92 : decode cX12_tells 92 = .ok (.aload_n 0, 1) := by decide +kernel
theorem dX12_tells_93 : decode cX12_tells 93 = .ok (.dup, 1) := by decide +kernel
theorem dX12_tells_94 : decode cX12_tells 94 = .ok (.getfield 280, 3) := by decide +kernel
theorem dX12_tells_97 : decode cX12_tells 97 = .ok (.iconst 1, 1) := by decide +kernel
theorem dX12_tells_98 : decode cX12_tells 98 = .ok (.iadd, 1) := by decide +kernel
theorem dX12_tells_99 : decode cX12_tells 99 = .ok (.putfield 280, 3) := by decide +kernel
theorem dX12_tells_102 : decode cX12_tells 102 = .ok (.iload 6, 2) := by decide +kernel
theorem dX12_tells_104 : decode cX12_tells 104 = .ok (.iconst 3, 1) := by decide +kernel
theorem dX12_tells_105 : decode cX12_tells 105 = .ok (.if_icmp .ne 7, 3) := by decide +kernel
theorem dX12_tells_108 : decode cX12_tells 108 = .ok (.lconst 1, 1) := by decide +kernel
theorem dX12_tells_109 : decode cX12_tells 109 = .ok (.goto 8, 3) := by decide +kernel
theorem dX12_tells_112 : decode cX12_tells 112 = .ok (.aload_n 0, 1) := by decide +kernel
theorem dX12_tells_113 : decode cX12_tells 113 = .ok (.iconst 1, 1) := by decide +kernel
theorem dX12_tells_114 : decode cX12_tells 114 = .ok (.invokevirtual 307, 3) := by decide +kernel
theorem dX12_tells_117 : decode cX12_tells 117 = .ok (.lstore 7, 2) := by decide +kernel
theorem dX12_tells_119 : decode cX12_tells 119 = .ok (.aload_n 0, 1) := by decide +kernel
theorem dX12_tells_120 : decode cX12_tells 120 = .ok (.getfield 290, 3) := by decide +kernel
theorem dX12_tells_123 : decode cX12_tells 123 = .ok (.istore 9, 2) := by decide +kernel
theorem dX12_tells_125 : decode cX12_tells 125 = .ok (.aload_n 0, 1) := by decide +kernel
theorem dX12_tells_126 : decode cX12_tells 126 = .ok (.iconst 0, 1) := by decide +kernel
theorem dX12_tells_127 : decode cX12_tells 127 = .ok (.putfield 290, 3) := by decide +kernel
theorem dX12_tells_130 : decode cX12_tells 130 = .ok (.aload_n 0, 1) := by decide +kernel
theorem dX12_tells_131 : decode cX12_tells 131 = .ok (.iconst 4, 1) := by decide +kernel
theorem dX12_tells_132 : decode cX12_tells 132 = .ok (.invokevirtual 304, 3) := by decide +kernel
theorem dX12_tells_135 : decode cX12_tells 135 = .ok (.ifCond .eq 11, 3) := by decide +kernel
theorem dX12_tells_138 : decode cX12_tells 138 = .ok (.aload_n 0, 1) := by decide +kernel
theorem dX12_tells_139 : decode cX12_tells 139 = .ok (.iconst 1, 1) := by decide +kernel
theorem dX12_tells_140 : decode cX12_tells 140 = .ok (.invokevirtual 321, 3) := by decide +kernel
theorem dX12_tells_143 : decode cX12_tells 143 = .ok (.ifCond .eq 7, 3) := by decide +kernel
theorem dX12_tells_146 : decode cX12_tells 146 = .ok (.iconst 1, 1) := by decide +kernel
theorem dX12_tells_147 : decode cX12_tells 147 = .ok (.goto 4, 3) := by decide +kernel
theorem dX12_tells_150 : decode cX12_tells 150 = .ok (.iconst 0, 1) := by decide +kernel
theorem dX12_tells_151 : decode cX12_tells 151 = .ok (.istore 10, 2) := by decide +kernel
theorem dX12_tells_153 : decode cX12_tells 153 = .ok (.iload 6, 2) := by decide +kernel
theorem dX12_tells_155 : decode cX12_tells 155 = .ok (.iload_n 1, 1) := by decide +kernel
theorem dX12_tells_156 : decode cX12_tells 156 = .ok (.if_icmp .ne 48, 3) := by decide +kernel
theorem dX12_tells_159 : decode cX12_tells 159 = .ok (.iload 10, 2) := by decide +kernel
theorem dX12_tells_161 : decode cX12_tells 161 = .ok (.ifCond .eq 43, 3) := by decide +kernel
theorem dX12_tells_164 : decode cX12_tells 164 = .ok (.aload_n 0, 1) := by decide +kernel
theorem dX12_tells_165 : decode cX12_tells 165 = .ok (.getfield 290, 3) := by decide +kernel
theorem dX12_tells_168 : decode cX12_tells 168 = .ok (.ifCond .ne 36, 3) := by decide +kernel
theorem dX12_tells_171 : decode cX12_tells 171 = .ok (.iload 9, 2) := by decide +kernel
theorem dX12_tells_173 : decode cX12_tells 173 = .ok (.ifCond .ne 31, 3) := by decide +kernel
theorem dX12_tells_176 : decode cX12_tells 176 = .ok (.lload 7, 2) := by decide +kernel
theorem dX12_tells_178 : decode cX12_tells 178 = .ok (.lconst 0, 1) := by decide +kernel
theorem dX12_tells_179 : decode cX12_tells 179 = .ok (.lcmp, 1) := by decide +kernel
theorem dX12_tells_180 : decode cX12_tells 180 = .ok (.ifCond .ge 7, 3) := by decide +kernel
theorem dX12_tells_183 : decode cX12_tells 183 = .ok (.lconst 0, 1) := by decide +kernel
theorem dX12_tells_184 : decode cX12_tells 184 = .ok (.goto 18, 3) := by decide +kernel
theorem dX12_tells_187 : decode cX12_tells 187 = .ok (.lload 7, 2) := by decide +kernel
theorem dX12_tells_189 : decode cX12_tells 189 = .ok (.iload_n 2, 1) := by decide +kernel
theorem dX12_tells_190 : decode cX12_tells 190 = .ok (.i2l, 1) := by decide +kernel
theorem dX12_tells_191 : decode cX12_tells 191 = .ok (.lcmp, 1) := by decide +kernel
theorem dX12_tells_192 : decode cX12_tells 192 = .ok (.ifCond .le 8, 3) := by decide +kernel
theorem dX12_tells_195 : decode cX12_tells 195 = .ok (.iload_n 2, 1) := by decide +kernel
theorem dX12_tells_196 : decode cX12_tells 196 = .ok (.i2l, 1) := by decide +kernel
theorem dX12_tells_197 : decode cX12_tells 197 = .ok (.goto 5, 3) := by decide +kernel
theorem dX12_tells_200 : decode cX12_tells 200 = .ok (.lload 7, 2) := by decide +kernel
theorem dX12_tells_202 : decode cX12_tells 202 = .ok (.lstore 4, 2) := by decide +kernel
theorem dX12_tells_204 : decode cX12_tells 204 = .ok (.aload_n 0, 1) := by decide +kernel
theorem dX12_tells_205 : decode cX12_tells 205 = .ok (.dup, 1) := by decide +kernel
theorem dX12_tells_206 : decode cX12_tells 206 = .ok (.getfield 280, 3) := by decide +kernel
theorem dX12_tells_209 : decode cX12_tells 209 = .ok (.iconst 1, 1) := by decide +kernel
theorem dX12_tells_210 : decode cX12_tells 210 = .ok (.iadd, 1) := by decide +kernel
theorem dX12_tells_211 : decode cX12_tells 211 = .ok (.putfield 280, 3) := by decide +kernel
theorem dX12_tells_214 : decode cX12_tells 214 = .ok (.goto (-148), 3) := by decide +kernel
theorem dX12_tells_217 : decode cX12_tells 217 = .ok (.lload 4, 2) := by decide +kernel
theorem dX12_tells_219 : decode cX12_tells 219 = .ok (.l2i, 1) := by decide +kernel
theorem dX12_tells_220 : decode cX12_tells 220 = .ok (.ireturn, 1) := by decide +kernel
def f12_tells_j204 (rc66 : Int32 → Int32 → Int64 → ph_Mem → Option (Int32 × ph_Mem)) (x1 : Int32) (x2 : Int32) (x4 : Int64) (M : ph_Mem) : Option (Int32 × ph_Mem) :=
  ph_let (ph_wi M 0 22 ((M.1 0 22) + (1 : Int32))) fun M11 => rc66 x1 x2 x4 M11
set_option maxHeartbeats 4000000 in
theorem jb_f12_tells_j204 {Z : (Nat → Prop) → State → Prop} {X : ph_X} {ad : Nat → Nat} {o : (Int32 × ph_Mem)} (h : ph_ok Z X cX12_tells RX12 (some .int) 11 143 ph_NM ad) (fin : ph_fin X ph_kdM ph_NM ad (some (.int o.1)) o.2) {rc66 : Int32 → Int32 → Int64 → ph_Mem → Option (Int32 × ph_Mem)} (hrc66 : ∀ (x1 : Int32) (x2 : Int32) (x4 : Int64) (M : ph_Mem), ph_J X ph_kdM ph_NM ad o 66 [(0, .ref (ad 0)), (1, .int x1), (2, .int x2), (4, .long x4)] [] M (rc66 x1 x2 x4 M)) : ∀ (x1 : Int32) (x2 : Int32) (x4 : Int64) (M : ph_Mem), ph_J X ph_kdM ph_NM ad o 204 [(0, .ref (ad 0)), (1, .int x1), (2, .int x2), (4, .long x4)] [] M (f12_tells_j204 rc66 x1 x2 x4 M) := by
  intro x1 x2 x4 M
  unfold f12_tells_j204
  refine j_aload_n h dX12_tells_204 rfl 0 rfl ?_
  refine j_dup h dX12_tells_205 rfl ?_
  refine j_get (c := 0) (j := 22) (v := .int (M.1 0 22)) h (by decide) rfl rfl ph_inX12 rfl (by decide) tw_1221 rfl rfl dX12_tells_206 ?_
  refine j_iconst (v := (1 : Int32)) h dX12_tells_209 (by decide) ?_
  refine j_iadd h dX12_tells_210 ?_
  refine j_puti (c := 0) (j := 22) (ty := .int) h (by decide) rfl rfl ph_inX12 tyX12 tyX12_ok nmX12 rfl (by decide) tw_1221 rfl rfl (tyX12_ok 22 (by decide)) rfl rfl dX12_tells_211 ?_
  refine j_letM (fun M11 => ?_)
  refine j_goto h 66 dX12_tells_214 (by decide) ?_
  refine j_sub [0, 1, 2, 3] rfl ?_
  exact hrc66 x1 x2 x4 M11
def f12_tells_j202 (rc66 : Int32 → Int32 → Int64 → ph_Mem → Option (Int32 × ph_Mem)) (x1 : Int32) (x2 : Int32) (s0 : Int64) (M : ph_Mem) : Option (Int32 × ph_Mem) :=
  f12_tells_j204 rc66 x1 x2 s0 M
set_option maxHeartbeats 4000000 in
theorem jb_f12_tells_j202 {Z : (Nat → Prop) → State → Prop} {X : ph_X} {ad : Nat → Nat} {o : (Int32 × ph_Mem)} (h : ph_ok Z X cX12_tells RX12 (some .int) 11 143 ph_NM ad) (fin : ph_fin X ph_kdM ph_NM ad (some (.int o.1)) o.2) {rc66 : Int32 → Int32 → Int64 → ph_Mem → Option (Int32 × ph_Mem)} (hrc66 : ∀ (x1 : Int32) (x2 : Int32) (x4 : Int64) (M : ph_Mem), ph_J X ph_kdM ph_NM ad o 66 [(0, .ref (ad 0)), (1, .int x1), (2, .int x2), (4, .long x4)] [] M (rc66 x1 x2 x4 M)) : ∀ (x1 : Int32) (x2 : Int32) (s0 : Int64) (M : ph_Mem), ph_J X ph_kdM ph_NM ad o 202 [(0, .ref (ad 0)), (1, .int x1), (2, .int x2)] [.long s0] M (f12_tells_j202 rc66 x1 x2 s0 M) := by
  intro x1 x2 s0 M
  unfold f12_tells_j202
  refine j_lstore h [(4, .long s0), (0, .ref (ad 0)), (1, .int x1), (2, .int x2)] dX12_tells_202 (by decide) rfl ?_
  refine j_sub [1, 2, 3, 0] rfl ?_
  exact jb_f12_tells_j204 h fin hrc66 x1 x2 s0 M
def f12_tells_j151 (rc66 : Int32 → Int32 → Int64 → ph_Mem → Option (Int32 × ph_Mem)) (x1 : Int32) (x2 : Int32) (x4 : Int64) (x6 : Int32) (x7 : Int64) (x9 : Int32) (s0 : Int32) (M : ph_Mem) : Option (Int32 × ph_Mem) :=
  if x6 = x1 then (if s0 = 0 then (f12_tells_j204 rc66 x1 x2 x4 M) else (if (M.1 0 24) = 0 then (if x9 = 0 then (if 0 ≤ (lg_cmp x7 (0 : Int64)) then (if (lg_cmp x7 x2.toInt64) ≤ 0 then (f12_tells_j202 rc66 x1 x2 x7 M) else (f12_tells_j202 rc66 x1 x2 x2.toInt64 M)) else (f12_tells_j202 rc66 x1 x2 (0 : Int64) M)) else (f12_tells_j204 rc66 x1 x2 x4 M)) else (f12_tells_j204 rc66 x1 x2 x4 M))) else (f12_tells_j204 rc66 x1 x2 x4 M)
set_option maxHeartbeats 4000000 in
theorem jb_f12_tells_j151 {Z : (Nat → Prop) → State → Prop} {X : ph_X} {ad : Nat → Nat} {o : (Int32 × ph_Mem)} (h : ph_ok Z X cX12_tells RX12 (some .int) 11 143 ph_NM ad) (fin : ph_fin X ph_kdM ph_NM ad (some (.int o.1)) o.2) {rc66 : Int32 → Int32 → Int64 → ph_Mem → Option (Int32 × ph_Mem)} (hrc66 : ∀ (x1 : Int32) (x2 : Int32) (x4 : Int64) (M : ph_Mem), ph_J X ph_kdM ph_NM ad o 66 [(0, .ref (ad 0)), (1, .int x1), (2, .int x2), (4, .long x4)] [] M (rc66 x1 x2 x4 M)) : ∀ (x1 : Int32) (x2 : Int32) (x4 : Int64) (x6 : Int32) (x7 : Int64) (x9 : Int32) (s0 : Int32) (M : ph_Mem), ph_J X ph_kdM ph_NM ad o 151 [(0, .ref (ad 0)), (1, .int x1), (2, .int x2), (4, .long x4), (6, .int x6), (7, .long x7), (9, .int x9)] [.int s0] M (f12_tells_j151 rc66 x1 x2 x4 x6 x7 x9 s0 M) := by
  intro x1 x2 x4 x6 x7 x9 s0 M
  unfold f12_tells_j151
  refine j_istore h [(10, .int s0), (0, .ref (ad 0)), (1, .int x1), (2, .int x2), (4, .long x4), (6, .int x6), (7, .long x7), (9, .int x9)] dX12_tells_151 (by decide) rfl ?_
  refine j_iload h dX12_tells_153 5 rfl ?_
  refine j_iload_n h dX12_tells_155 rfl 2 rfl ?_
  refine j_icmp_ne h 204 dX12_tells_156 (by decide) ?_ ?_
  · refine j_sub [1, 2, 3, 4] rfl ?_
    exact jb_f12_tells_j204 h fin hrc66 x1 x2 x4 M
  · refine j_iload h dX12_tells_159 0 rfl ?_
    refine j_if_eq h 204 dX12_tells_161 (by decide) ?_ ?_
    · refine j_sub [1, 2, 3, 4] rfl ?_
      exact jb_f12_tells_j204 h fin hrc66 x1 x2 x4 M
    · refine j_aload_n h dX12_tells_164 rfl 1 rfl ?_
      refine j_get (c := 0) (j := 24) (v := .int (M.1 0 24)) h (by decide) rfl rfl ph_inX12 rfl (by decide) tw_1223 rfl rfl dX12_tells_165 ?_
      refine j_if_ne h 204 dX12_tells_168 (by decide) ?_ ?_
      · refine j_sub [1, 2, 3, 4] rfl ?_
        exact jb_f12_tells_j204 h fin hrc66 x1 x2 x4 M
      · refine j_iload h dX12_tells_171 7 rfl ?_
        refine j_if_ne h 204 dX12_tells_173 (by decide) ?_ ?_
        · refine j_sub [1, 2, 3, 4] rfl ?_
          exact jb_f12_tells_j204 h fin hrc66 x1 x2 x4 M
        · refine j_lload h dX12_tells_176 6 rfl ?_
          refine j_lconst (v := (0 : Int64)) h dX12_tells_178 (by decide) ?_
          refine j_lcmp h dX12_tells_179 ?_
          refine j_if_ge h 187 dX12_tells_180 (by decide) ?_ ?_
          · refine j_lload h dX12_tells_187 6 rfl ?_
            refine j_iload_n h dX12_tells_189 rfl 3 rfl ?_
            refine j_i2l h dX12_tells_190 ?_
            refine j_lcmp h dX12_tells_191 ?_
            refine j_if_le h 200 dX12_tells_192 (by decide) ?_ ?_
            · refine j_lload h dX12_tells_200 6 rfl ?_
              refine j_sub [1, 2, 3] rfl ?_
              exact jb_f12_tells_j202 h fin hrc66 x1 x2 x7 M
            · refine j_iload_n h dX12_tells_195 rfl 3 rfl ?_
              refine j_i2l h dX12_tells_196 ?_
              refine j_goto h 202 dX12_tells_197 (by decide) ?_
              refine j_sub [1, 2, 3] rfl ?_
              exact jb_f12_tells_j202 h fin hrc66 x1 x2 x2.toInt64 M
          · refine j_lconst (v := (0 : Int64)) h dX12_tells_183 (by decide) ?_
            refine j_goto h 202 dX12_tells_184 (by decide) ?_
            refine j_sub [1, 2, 3] rfl ?_
            exact jb_f12_tells_j202 h fin hrc66 x1 x2 (0 : Int64) M
def f12_tells_j146 (rc66 : Int32 → Int32 → Int64 → ph_Mem → Option (Int32 × ph_Mem)) (x1 : Int32) (x2 : Int32) (x4 : Int64) (x6 : Int32) (x7 : Int64) (x9 : Int32) (M : ph_Mem) : Option (Int32 × ph_Mem) :=
  f12_tells_j151 rc66 x1 x2 x4 x6 x7 x9 (1 : Int32) M
set_option maxHeartbeats 4000000 in
theorem jb_f12_tells_j146 {Z : (Nat → Prop) → State → Prop} {X : ph_X} {ad : Nat → Nat} {o : (Int32 × ph_Mem)} (h : ph_ok Z X cX12_tells RX12 (some .int) 11 143 ph_NM ad) (fin : ph_fin X ph_kdM ph_NM ad (some (.int o.1)) o.2) {rc66 : Int32 → Int32 → Int64 → ph_Mem → Option (Int32 × ph_Mem)} (hrc66 : ∀ (x1 : Int32) (x2 : Int32) (x4 : Int64) (M : ph_Mem), ph_J X ph_kdM ph_NM ad o 66 [(0, .ref (ad 0)), (1, .int x1), (2, .int x2), (4, .long x4)] [] M (rc66 x1 x2 x4 M)) : ∀ (x1 : Int32) (x2 : Int32) (x4 : Int64) (x6 : Int32) (x7 : Int64) (x9 : Int32) (M : ph_Mem), ph_J X ph_kdM ph_NM ad o 146 [(0, .ref (ad 0)), (1, .int x1), (2, .int x2), (4, .long x4), (6, .int x6), (7, .long x7), (9, .int x9)] [] M (f12_tells_j146 rc66 x1 x2 x4 x6 x7 x9 M) := by
  intro x1 x2 x4 x6 x7 x9 M
  unfold f12_tells_j146
  refine j_iconst (v := (1 : Int32)) h dX12_tells_146 (by decide) ?_
  refine j_goto h 151 dX12_tells_147 (by decide) ?_
  refine j_sub [0, 1, 2, 3, 4, 5, 6] rfl ?_
  exact jb_f12_tells_j151 h fin hrc66 x1 x2 x4 x6 x7 x9 (1 : Int32) M
def f12_tells_j117 (rc66 : Int32 → Int32 → Int64 → ph_Mem → Option (Int32 × ph_Mem)) (x1 : Int32) (x2 : Int32) (x4 : Int64) (x6 : Int32) (s0 : Int64) (M : ph_Mem) : Option (Int32 × ph_Mem) :=
  ph_let (ph_wi M 0 24 (0 : Int32)) fun M8 => (f12_passes0 M8 (4 : Int32)).bind fun q9 => if q9.1 = 0 then (f12_tells_j146 rc66 x1 x2 x4 x6 s0 (M.1 0 24) q9.2) else ((f12_testOf q9.2 (1 : Int32)).bind fun q10 => if q10.1 = 0 then (f12_tells_j151 rc66 x1 x2 x4 x6 s0 (M.1 0 24) (0 : Int32) q10.2) else (f12_tells_j146 rc66 x1 x2 x4 x6 s0 (M.1 0 24) q10.2))
set_option maxHeartbeats 4000000 in
theorem jb_f12_tells_j117 {Z : (Nat → Prop) → State → Prop} {X : ph_X} {ad : Nat → Nat} {o : (Int32 × ph_Mem)} (h : ph_ok Z X cX12_tells RX12 (some .int) 11 143 ph_NM ad) (fin : ph_fin X ph_kdM ph_NM ad (some (.int o.1)) o.2) {rc66 : Int32 → Int32 → Int64 → ph_Mem → Option (Int32 × ph_Mem)} (hrc66 : ∀ (x1 : Int32) (x2 : Int32) (x4 : Int64) (M : ph_Mem), ph_J X ph_kdM ph_NM ad o 66 [(0, .ref (ad 0)), (1, .int x1), (2, .int x2), (4, .long x4)] [] M (rc66 x1 x2 x4 M)) : ∀ (x1 : Int32) (x2 : Int32) (x4 : Int64) (x6 : Int32) (s0 : Int64) (M : ph_Mem), ph_J X ph_kdM ph_NM ad o 117 [(0, .ref (ad 0)), (1, .int x1), (2, .int x2), (4, .long x4), (6, .int x6)] [.long s0] M (f12_tells_j117 rc66 x1 x2 x4 x6 s0 M) := by
  intro x1 x2 x4 x6 s0 M
  unfold f12_tells_j117
  refine j_lstore h [(7, .long s0), (0, .ref (ad 0)), (1, .int x1), (2, .int x2), (4, .long x4), (6, .int x6)] dX12_tells_117 (by decide) rfl ?_
  refine j_aload_n h dX12_tells_119 rfl 1 rfl ?_
  refine j_get (c := 0) (j := 24) (v := .int (M.1 0 24)) h (by decide) rfl rfl ph_inX12 rfl (by decide) tw_1223 rfl rfl dX12_tells_120 ?_
  refine j_istore h [(9, .int (M.1 0 24)), (7, .long s0), (0, .ref (ad 0)), (1, .int x1), (2, .int x2), (4, .long x4), (6, .int x6)] dX12_tells_123 (by decide) rfl ?_
  refine j_aload_n h dX12_tells_125 rfl 2 rfl ?_
  refine j_iconst (v := (0 : Int32)) h dX12_tells_126 (by decide) ?_
  refine j_puti (c := 0) (j := 24) (ty := .boolean) h (by decide) rfl rfl ph_inX12 tyX12 tyX12_ok nmX12 rfl (by decide) tw_1223 rfl rfl (tyX12_ok 24 (by decide)) rfl rfl dX12_tells_127 ?_
  refine j_letM (fun M8 => ?_)
  refine j_aload_n h dX12_tells_130 rfl 2 rfl ?_
  refine j_iconst (v := (4 : Int32)) h dX12_tells_131 (by decide) ?_
  refine j_callVi (n := 1) (As := [.int (4 : Int32)]) (rest := []) h 0 tw_1464 tw_1466 tp_65 tw_14 tw_1467 ydf12_passes0 (by decide) (by decide) (by decide) rfl rfl (fun q hq => cf12_passes0 (ph_okZ h) (ph_okI h) hq) rfl (Nat.le_of_ble_eq_true rfl) rfl dX12_tells_132 (fun q9 => ?_)
  refine j_if_eq h 146 dX12_tells_135 (by decide) ?_ ?_
  · refine j_sub [2, 3, 4, 5, 6, 1, 0] rfl ?_
    exact jb_f12_tells_j146 h fin hrc66 x1 x2 x4 x6 s0 (M.1 0 24) q9.2
  · refine j_aload_n h dX12_tells_138 rfl 2 rfl ?_
    refine j_iconst (v := (1 : Int32)) h dX12_tells_139 (by decide) ?_
    refine j_callVi (n := 1) (As := [.int (1 : Int32)]) (rest := []) h 0 tw_1483 tw_1485 tp_69 tw_14 tw_1486 ydf12_testOf (by decide) (by decide) (by decide) rfl rfl (fun q hq => cf12_testOf (ph_okZ h) (ph_okI h) hq) rfl (Nat.le_of_ble_eq_true rfl) rfl dX12_tells_140 (fun q10 => ?_)
    refine j_if_eq h 150 dX12_tells_143 (by decide) ?_ ?_
    · refine j_iconst (v := (0 : Int32)) h dX12_tells_150 (by decide) ?_
      refine j_sub [2, 3, 4, 5, 6, 1, 0] rfl ?_
      exact jb_f12_tells_j151 h fin hrc66 x1 x2 x4 x6 s0 (M.1 0 24) (0 : Int32) q10.2
    · refine j_sub [2, 3, 4, 5, 6, 1, 0] rfl ?_
      exact jb_f12_tells_j146 h fin hrc66 x1 x2 x4 x6 s0 (M.1 0 24) q10.2
def f12_tells_l66 : Nat → Int32 → Int32 → Int64 → ph_Mem → Option (Int32 × ph_Mem)
  | 0, _, _, _, _ => none
  | n + 1, x1, x2, x4, M => if (M.1 0 23) ≤ (M.1 0 22) then (some (x4.toInt32, M)) else ((f12_codeAt M (M.1 0 22)).bind fun q4 => ph_let (ph_wi M 0 24 (0 : Int32)) fun M5 => ph_let (ph_wi M5 0 22 ((M5.1 0 22) + (1 : Int32))) fun M6 => if q4 = (3 : Int32) then (f12_tells_j117 (f12_tells_l66 n) x1 x2 x4 q4 (1 : Int64) M6) else ((f12_sumOf M6 (1 : Int32)).bind fun q7 => f12_tells_j117 (f12_tells_l66 n) x1 x2 x4 q4 q7.1 q7.2))
set_option maxHeartbeats 4000000 in
theorem jb_f12_tells_l66 {Z : (Nat → Prop) → State → Prop} {X : ph_X} {ad : Nat → Nat} {o : (Int32 × ph_Mem)} (h : ph_ok Z X cX12_tells RX12 (some .int) 11 143 ph_NM ad) (fin : ph_fin X ph_kdM ph_NM ad (some (.int o.1)) o.2) : ∀ (n : Nat) (x1 : Int32) (x2 : Int32) (x4 : Int64) (M : ph_Mem), ph_J X ph_kdM ph_NM ad o 66 [(0, .ref (ad 0)), (1, .int x1), (2, .int x2), (4, .long x4)] [] M (f12_tells_l66 n x1 x2 x4 M) := by
  intro n
  induction n with
  | zero => intro x1 x2 x4 M; exact j_none
  | succ n hrc66 =>
    intro x1 x2 x4 M
    unfold f12_tells_l66
    refine j_aload_n h dX12_tells_66 rfl 0 rfl ?_
    refine j_get (c := 0) (j := 22) (v := .int (M.1 0 22)) h (by decide) rfl rfl ph_inX12 rfl (by decide) tw_1221 rfl rfl dX12_tells_67 ?_
    refine j_aload_n h dX12_tells_70 rfl 0 rfl ?_
    refine j_get (c := 0) (j := 23) (v := .int (M.1 0 23)) h (by decide) rfl rfl ph_inX12 rfl (by decide) tw_1222 rfl rfl dX12_tells_71 ?_
    refine j_icmp_ge h 217 dX12_tells_74 (by decide) ?_ ?_
    · refine j_lload h dX12_tells_217 3 rfl ?_
      refine j_l2i h dX12_tells_219 ?_
      exact j_iret h rfl fin dX12_tells_220
    · refine j_aload_n h dX12_tells_77 rfl 0 rfl ?_
      refine j_aload_n h dX12_tells_78 rfl 0 rfl ?_
      refine j_get (c := 0) (j := 22) (v := .int (M.1 0 22)) h (by decide) rfl rfl ph_inX12 rfl (by decide) tw_1221 rfl rfl dX12_tells_79 ?_
      refine j_callViP (n := 1) (As := [.int (M.1 0 22)]) (rest := []) h 0 tw_1445 tw_1447 tp_61 tw_14 tw_1448 ydf12_codeAt (by decide) (by decide) (by decide) rfl rfl (fun q hq => cf12_codeAt (ph_okZ h) (ph_okI h) hq) rfl (Nat.le_of_ble_eq_true rfl) rfl dX12_tells_82 (fun q4 => ?_)
      refine j_istore h [(6, .int q4), (0, .ref (ad 0)), (1, .int x1), (2, .int x2), (4, .long x4)] dX12_tells_85 (by decide) rfl ?_
      refine j_aload_n h dX12_tells_87 rfl 1 rfl ?_
      refine j_iconst (v := (0 : Int32)) h dX12_tells_88 (by decide) ?_
      refine j_puti (c := 0) (j := 24) (ty := .boolean) h (by decide) rfl rfl ph_inX12 tyX12 tyX12_ok nmX12 rfl (by decide) tw_1223 rfl rfl (tyX12_ok 24 (by decide)) rfl rfl dX12_tells_89 ?_
      refine j_letM (fun M5 => ?_)
      refine j_aload_n h dX12_tells_92 rfl 1 rfl ?_
      refine j_dup h dX12_tells_93 rfl ?_
      refine j_get (c := 0) (j := 22) (v := .int (M5.1 0 22)) h (by decide) rfl rfl ph_inX12 rfl (by decide) tw_1221 rfl rfl dX12_tells_94 ?_
      refine j_iconst (v := (1 : Int32)) h dX12_tells_97 (by decide) ?_
      refine j_iadd h dX12_tells_98 ?_
      refine j_puti (c := 0) (j := 22) (ty := .int) h (by decide) rfl rfl ph_inX12 tyX12 tyX12_ok nmX12 rfl (by decide) tw_1221 rfl rfl (tyX12_ok 22 (by decide)) rfl rfl dX12_tells_99 ?_
      refine j_letM (fun M6 => ?_)
      refine j_iload h dX12_tells_102 0 rfl ?_
      refine j_iconst (v := (3 : Int32)) h dX12_tells_104 (by decide) ?_
      refine j_icmp_ne h 112 dX12_tells_105 (by decide) ?_ ?_
      · refine j_aload_n h dX12_tells_112 rfl 1 rfl ?_
        refine j_iconst (v := (1 : Int32)) h dX12_tells_113 (by decide) ?_
        refine j_callVl (n := 1) (As := [.int (1 : Int32)]) (rest := []) h 0 tw_1449 tw_1451 tp_62 tw_14 tw_1452 ydf12_sumOf (by decide) (by decide) (by decide) rfl rfl (fun q hq => cf12_sumOf (ph_okZ h) (ph_okI h) hq) rfl (Nat.le_of_ble_eq_true rfl) rfl dX12_tells_114 (fun q7 => ?_)
        refine j_sub [1, 2, 3, 4, 0] rfl ?_
        exact jb_f12_tells_j117 h fin hrc66 x1 x2 x4 q4 q7.1 q7.2
      · refine j_lconst (v := (1 : Int64)) h dX12_tells_108 (by decide) ?_
        refine j_goto h 117 dX12_tells_109 (by decide) ?_
        refine j_sub [1, 2, 3, 4, 0] rfl ?_
        exact jb_f12_tells_j117 h fin hrc66 x1 x2 x4 q4 (1 : Int64) M6
theorem ydf12_tells : ph_yd yX12_tells 3 := ⟨by decide, by decide, by decide +kernel⟩
def f12_tells (M : ph_Mem) (p0 : Int32) (p1 : Int32) (p2 : Int32) : Option (Int32 × ph_Mem) :=
  if (M.1 2 477) = (-1 : Int32) then (some (p2, M)) else (ph_let (ph_wi M 0 8 (8 : Int32)) fun M1 => ph_let (ph_wi M1 0 22 ((400 : Int32) * (M1.1 2 477))) fun M2 => cond (ph_ib ((478 : Int32) + (M2.1 2 477)) 6085) (ph_let (ph_wi M2 0 23 ((M2.1 0 22) + (M2.1 2 ((478 : Int32) + (M2.1 2 477)).toNatClampNeg))) fun M3 => f12_tells_l66 10000 p0 p1 p2.toInt64 M3) none)
set_option maxHeartbeats 4000000 in
theorem cf12_tells {Z : (Nat → Prop) → State → Prop} (hZ : ph_Zok Z) {l : Launch} {D : va_G} {cA : Nat → ClassId} {ad : Nat → Nat} (hinj : ∀ i j, i < ph_NM → j < ph_NM → ad i = ad j → i = j) {M : ph_Mem} {p0 : Int32} {p1 : Int32} {p2 : Int32} {r : Int32} {M' : ph_Mem} (hf : f12_tells M p0 p1 p2 = some (r, M')) : ph_C Z l 143 yX12_tells cX12_tells 11 (some .int) D cA ph_kdM ph_NM ad [.ref (ad 0), .int p0, .int p1, .int p2] M (some (.int r)) M' := by
  refine ph_mk hZ hinj (by decide) (Nat.le_of_ble_eq_true rfl) fun X h fin hE => ?_
  refine (?_ : ph_J X ph_kdM ph_NM ad ((r, M') : (Int32 × ph_Mem)) 0 [(0, .ref (ad 0)), (1, .int p0), (2, .int p1), (3, .int p2)] [] M (f12_tells M p0 p1 p2)) hf
  unfold f12_tells
  refine j_aload_n h dX12_tells_0 rfl 0 rfl ?_
  refine j_get (c := 0) (j := 2) (v := .ref (ad 2)) h (by decide) rfl rfl ph_inX12 rfl (by decide) tw_1201 rfl rfl dX12_tells_1 ?_
  refine j_sipush (v := (477 : Int32)) h dX12_tells_4 (by decide) ?_
  refine j_ialdK (c := 2) (n := 6085) (kn := 477) h (by decide) rfl rfl (by decide) dX12_tells_7 ?_
  refine j_iconst (v := (-1 : Int32)) h dX12_tells_8 (by decide) ?_
  refine j_icmp_ne h 14 dX12_tells_9 (by decide) ?_ ?_
  · refine j_aload_n h dX12_tells_14 rfl 0 rfl ?_
    refine j_bipush (v := (8 : Int32)) h dX12_tells_15 (by decide) ?_
    refine j_puti (c := 0) (j := 8) (ty := .int) h (by decide) rfl rfl ph_inX12 tyX12 tyX12_ok nmX12 rfl (by decide) tw_1207 rfl rfl (tyX12_ok 8 (by decide)) rfl rfl dX12_tells_17 ?_
    refine j_letM (fun M1 => ?_)
    refine j_iload_n h dX12_tells_20 rfl 3 rfl ?_
    refine j_i2l h dX12_tells_21 ?_
    refine j_lstore h [(4, .long p2.toInt64), (0, .ref (ad 0)), (1, .int p0), (2, .int p1), (3, .int p2)] dX12_tells_22 (by decide) rfl ?_
    refine j_aload_n h dX12_tells_24 rfl 1 rfl ?_
    refine j_sipush (v := (400 : Int32)) h dX12_tells_25 (by decide) ?_
    refine j_aload_n h dX12_tells_28 rfl 1 rfl ?_
    refine j_get (c := 0) (j := 2) (v := .ref (ad 2)) h (by decide) rfl rfl ph_inX12 rfl (by decide) tw_1201 rfl rfl dX12_tells_29 ?_
    refine j_sipush (v := (477 : Int32)) h dX12_tells_32 (by decide) ?_
    refine j_ialdK (c := 2) (n := 6085) (kn := 477) h (by decide) rfl rfl (by decide) dX12_tells_35 ?_
    refine j_imul h dX12_tells_36 ?_
    refine j_puti (c := 0) (j := 22) (ty := .int) h (by decide) rfl rfl ph_inX12 tyX12 tyX12_ok nmX12 rfl (by decide) tw_1221 rfl rfl (tyX12_ok 22 (by decide)) rfl rfl dX12_tells_37 ?_
    refine j_letM (fun M2 => ?_)
    refine j_aload_n h dX12_tells_40 rfl 1 rfl ?_
    refine j_aload_n h dX12_tells_41 rfl 1 rfl ?_
    refine j_get (c := 0) (j := 22) (v := .int (M2.1 0 22)) h (by decide) rfl rfl ph_inX12 rfl (by decide) tw_1221 rfl rfl dX12_tells_42 ?_
    refine j_aload_n h dX12_tells_45 rfl 1 rfl ?_
    refine j_get (c := 0) (j := 2) (v := .ref (ad 2)) h (by decide) rfl rfl ph_inX12 rfl (by decide) tw_1201 rfl rfl dX12_tells_46 ?_
    refine j_sipush (v := (478 : Int32)) h dX12_tells_49 (by decide) ?_
    refine j_aload_n h dX12_tells_52 rfl 1 rfl ?_
    refine j_get (c := 0) (j := 2) (v := .ref (ad 2)) h (by decide) rfl rfl ph_inX12 rfl (by decide) tw_1201 rfl rfl dX12_tells_53 ?_
    refine j_sipush (v := (477 : Int32)) h dX12_tells_56 (by decide) ?_
    refine j_ialdK (c := 2) (n := 6085) (kn := 477) h (by decide) rfl rfl (by decide) dX12_tells_59 ?_
    refine j_iadd h dX12_tells_60 ?_
    refine j_iald (c := 2) (n := 6085) h (by decide) rfl dX12_tells_61 ?_
    refine j_iadd h dX12_tells_62 ?_
    refine j_puti (c := 0) (j := 23) (ty := .int) h (by decide) rfl rfl ph_inX12 tyX12 tyX12_ok nmX12 rfl (by decide) tw_1222 rfl rfl (tyX12_ok 23 (by decide)) rfl rfl dX12_tells_63 ?_
    refine j_letM (fun M3 => ?_)
    refine j_sub [1, 2, 3, 0] rfl ?_
    exact jb_f12_tells_l66 h fin 10000 p0 p1 p2.toInt64 M3
  · refine j_iload_n h dX12_tells_12 rfl 3 rfl ?_
    exact j_iret h rfl fin dX12_tells_13
