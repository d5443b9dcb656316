theorem dX7_search_0 : decode cX7_search 0 = .ok (.iload 4, 2) := by decide +kernel
theorem dX7_search_2 : decode cX7_search 2 = .ok (.aload_n 0, 1) := by decide +kernel
theorem dX7_search_3 : decode cX7_search 3 = .ok (.getfield 61, 3) := by decide +kernel
theorem dX7_search_6 : decode cX7_search 6 = .ok (.if_icmp .lt 4, 3) := by decide +kernel
theorem dX7_search_9 : decode cX7_search 9 = .ok (.return_, 1) := by decide +kernel
theorem dX7_search_10 : decode cX7_search 10 = .ok (.iload_n 1, 1) := by decide +kernel
theorem dX7_search_11 : decode cX7_search 11 = .ok (.aload_n 0, 1) := by decide +kernel
theorem dX7_search_12 : decode cX7_search 12 = .ok (.getfield 35, 3) := by decide +kernel
theorem dX7_search_15 : decode cX7_search 15 = .ok (.if_icmp .lt 27, 3) := by decide +kernel
theorem dX7_search_18 : decode cX7_search 18 = .ok (.aload_n 0, 1) := by decide +kernel
theorem dX7_search_19 : decode cX7_search 19 = .ok (.iload 4, 2) := by decide +kernel
theorem dX7_search_21 : decode cX7_search 21 = .ok (.putfield 61, 3) := by decide +kernel
theorem dX7_search_24 : decode cX7_search 24 = .ok (.aload_n 0, 1) := by decide +kernel
theorem dX7_search_25 : decode cX7_search 25 = .ok (.getfield 15, 3) := by decide +kernel
theorem dX7_search_28 : decode cX7_search 28 = .ok (.iconst 0, 1) := by decide +kernel
theorem dX7_search_29 : decode cX7_search 29 = .ok (.aload_n 0, 1) := by decide +kernel
theorem dX7_search_30 : decode cX7_search 30 = .ok (.getfield 18, 3) := by decide +kernel
theorem dX7_search_33 : decode cX7_search 33 = .ok (.iconst 0, 1) := by decide +kernel
theorem dX7_search_34 : decode cX7_search 34 = .ok (.aload_n 0, 1) := by decide +kernel
theorem dX7_search_35 : decode cX7_search 35 = .ok (.getfield 35, 3) := by decide +kernel
theorem dX7_search_38 : decode cX7_search 38 = .ok (.invokestatic 71, 3) := by decide +kernel
theorem dX7_search_41 : decode cX7_search 41 = .ok (.return_, 1) := by decide +kernel
theorem dX7_search_42 : decode cX7_search 42 = .ok (.iconst 0, 1) := by decide +kernel
theorem dX7_search_43 : decode cX7_search 43 = .ok (.istore 5, 2) := by decide +kernel
theorem dX7_search_45 : decode cX7_search 45 = .ok (.iload 5, 2) := by decide +kernel
theorem dX7_search_47 : decode cX7_search 47 = .ok (.aload_n 0, 1) := by decide +kernel
theorem dX7_search_48 : decode cX7_search 48 = .ok (.getfield 35, 3) := by decide +kernel
theorem dX7_search_51 : decode cX7_search 51 = .ok (.if_icmp .ge 122, 3) := by decide +kernel
theorem dX7_search_54 : decode cX7_search 54 = .ok (.aload_n 0, 1) := by decide +kernel
theorem dX7_search_55 : decode cX7_search 55 = .ok (.getfield 32, 3) := by decide +kernel
theorem dX7_search_58 : decode cX7_search 58 = .ok (.iload 5, 2) := by decide +kernel
theorem dX7_search_60 : decode cX7_search 60 = .ok (.invokestatic 50, 3) := by decide +kernel
theorem dX7_search_63 : decode cX7_search 63 = .ok (.ifCond .eq 7, 3) := by decide +kernel
theorem dX7_search_66 : decode cX7_search 66 = .ok (.iconst (-1), 1) := by decide +kernel
theorem dX7_search_67 : decode cX7_search 67 = .ok (.goto 11, 3) := by decide +kernel
theorem dX7_search_70 : decode cX7_search 70 = .ok (.aload_n 0, 1) := by decide +kernel
theorem dX7_search_71 : decode cX7_search 71 = .ok (.iload 5, 2) := by decide +kernel
theorem dX7_search_73 : decode cX7_search 73 = .ok (.iload_n 2, 1) := by decide +kernel
theorem dX7_search_74 : decode cX7_search 74 = .ok (.iload_n 3, 1) := by decide +kernel
theorem dX7_search_75 : decode cX7_search 75 = .ok (.invokevirtual 77, 3) := by decide +kernel
theorem dX7_search_78 : decode cX7_search 78 = .ok (.istore 6, 2) := by decide +kernel
theorem dX7_search_80 : decode cX7_search 80 = .ok (.iload 6, 2) := by decide +kernel
theorem dX7_search_82 : decode cX7_search 82 = .ok (.iconst (-1), 1) := by decide +kernel
theorem dX7_search_83 : decode cX7_search 83 = .ok (.if_icmp .eq 84, 3) := by decide +kernel
theorem dX7_search_86 : decode cX7_search 86 = .ok (.aload_n 0, 1) := by decide +kernel
theorem dX7_search_87 : decode cX7_search 87 = .ok (.getfield 21, 3) := by decide +kernel
theorem dX7_search_90 : decode cX7_search 90 = .ok (.iload 5, 2) := by decide +kernel
theorem dX7_search_92 : decode cX7_search 92 = .ok (.bipush 61, 2) := by decide +kernel
theorem dX7_search_94 : decode cX7_search 94 = .ok (.imul, 1) := by decide +kernel
theorem dX7_search_95 : decode cX7_search 95 = .ok (.iload 6, 2) := by decide +kernel
theorem dX7_search_97 : decode cX7_search 97 = .ok (.iadd, 1) := by decide +kernel
theorem dX7_search_98 : decode cX7_search 98 = .ok (.iaload, 1) := by decide +kernel
theorem dX7_search_99 : decode cX7_search 99 = .ok (.istore 7, 2) := by decide +kernel
theorem dX7_search_101 : decode cX7_search 101 = .ok (.aload_n 0, 1) := by decide +kernel
theorem dX7_search_102 : decode cX7_search 102 = .ok (.getfield 15, 3) := by decide +kernel
theorem dX7_search_105 : decode cX7_search 105 = .ok (.iload_n 1, 1) := by decide +kernel
theorem dX7_search_106 : decode cX7_search 106 = .ok (.aload_n 0, 1) := by decide +kernel
theorem dX7_search_107 : decode cX7_search 107 = .ok (.getfield 11, 3) := by decide +kernel
theorem dX7_search_110 : decode cX7_search 110 = .ok (.iload 5, 2) := by decide +kernel
theorem dX7_search_112 : decode cX7_search 112 = .ok (.iaload, 1) := by decide +kernel
theorem dX7_search_113 : decode cX7_search 113 = .ok (.iastore, 1) := by decide +kernel
theorem dX7_search_114 : decode cX7_search 114 = .ok (.aload_n 0, 1) := by decide +kernel
theorem dX7_search_115 : decode cX7_search 115 = .ok (.dup, 1) := by decide +kernel
theorem dX7_search_116 : decode cX7_search 116 = .ok (.getfield 32, 3) := by decide +kernel
theorem dX7_search_119 : decode cX7_search 119 = .ok (.iconst 1, 1) := by decide +kernel
theorem dX7_search_120 : decode cX7_search 120 = .ok (.iload 5, 2) := by decide +kernel
theorem dX7_search_122 : decode cX7_search 122 = .ok (.ishl, 1) := by decide +kernel
theorem dX7_search_123 : decode cX7_search 123 = .ok (.ior, 1) := by decide +kernel
theorem dX7_search_124 : decode cX7_search 124 = .ok (.putfield 32, 3) := by decide +kernel
theorem dX7_search_127 : decode cX7_search 127 = .ok (.aload_n 0, 1) := by decide +kernel
theorem dX7_search_128 : decode cX7_search 128 = .ok (.iload_n 1, 1) := by decide +kernel
theorem dX7_search_129 : decode cX7_search 129 = .ok (.iconst 1, 1) := by decide +kernel
theorem dX7_search_130 : decode cX7_search 130 = .ok (.iadd, 1) := by decide +kernel
theorem dX7_search_131 : decode cX7_search 131 = .ok (.iload 6, 2) := by decide +kernel
theorem dX7_search_133 : decode cX7_search 133 = .ok (.aload_n 0, 1) := by decide +kernel
theorem dX7_search_134 : decode cX7_search 134 = .ok (.iload_n 2, 1) := by decide +kernel
theorem dX7_search_135 : decode cX7_search 135 = .ok (.iload_n 3, 1) := by decide +kernel
theorem dX7_search_136 : decode cX7_search 136 = .ok (.iload 6, 2) := by decide +kernel
theorem dX7_search_138 : decode cX7_search 138 = .ok (.invokevirtual 81, 3) := by decide +kernel
theorem dX7_search_141 : decode cX7_search 141 = .ok (.iload 7, 2) := by decide +kernel
theorem dX7_search_143 : decode cX7_search 143 = .ok (.isub, 1) := by decide +kernel
theorem dX7_search_144 : decode cX7_search 144 = .ok (.iload 4, 2) := by decide +kernel
theorem dX7_search_146 : decode cX7_search 146 = .ok (.iload 7, 2) := by decide +kernel
theorem dX7_search_148 : decode cX7_search 148 = .ok (.iadd, 1) := by decide +kernel
theorem dX7_search_149 : decode cX7_search 149 = .ok (.invokevirtual 67, 3) := by decide +kernel
theorem dX7_search_152 : decode cX7_search 152 = .ok (.aload_n 0, 1) := by decide +kernel
theorem dX7_search_153 : decode cX7_search 153 = .ok (.dup, 1) := by decide +kernel
theorem dX7_search_154 : decode cX7_search 154 = .ok (.getfield 32, 3) := by decide +kernel
theorem dX7_search_157 : decode cX7_search 157 = .ok (.iconst 1, 1) := by decide +kernel
theorem dX7_search_158 : decode cX7_search 158 = .ok (.iload 5, 2) := by decide +kernel
theorem dX7_search_160 : decode cX7_search 160 = .ok (.ishl, 1) := by decide +kernel
theorem dX7_search_161 : decode cX7_search 161 = .ok (.iconst (-1), 1) := by decide +kernel
theorem dX7_search_162 : decode cX7_search 162 = .ok (.ixor, 1) := by decide +kernel
theorem dX7_search_163 : decode cX7_search 163 = .ok (.iand, 1) := by decide +kernel
theorem dX7_search_164 : decode cX7_search 164 = .ok (.putfield 32, 3) := by decide +kernel
theorem dX7_search_167 : decode cX7_search 167 = .ok (.iinc 5 1, 3) := by decide +kernel
theorem dX7_search_170 : decode cX7_search 170 = .ok (.goto (-125), 3) := by decide +kernel
theorem dX7_search_173 : decode cX7_search 173 = .ok (.return_, 1) := by decide +kernel
def f7_search_j167 (S : ph_Sh) (rs : ph_Mem → Int32 → Int32 → Int32 → Int32 → Option ph_Mem) (rc45 : Int32 → Int32 → Int32 → Int32 → Int32 → ph_Mem → Option ph_Mem) (x1 : Int32) (x2 : Int32) (x3 : Int32) (x4 : Int32) (x5 : Int32) (M : ph_Mem) : Option ph_Mem :=
  rc45 x1 x2 x3 x4 (x5 + (1 : Int32)) M
set_option maxHeartbeats 4000000 in
theorem jb_f7_search_j167 {tb adK adV : Nat → Nat} {S : ph_Sh} {X : ph_X} {ad : Nat → Nat} {o : ph_Mem} {rs : ph_Mem → Int32 → Int32 → Int32 → Int32 → Option ph_Mem} {dr : Nat} (h : ph_ok (ph_ZX tb adK adV) X cX7_search RX7 none 8 (dr + 1) S.2 ad) (fin : ph_fin X S.1 S.2 ad none o) (hS : ph_SX S) (hB : 3 ≤ dr) (hrs : ∀ (M : ph_Mem) (a0 : Int32) (a1 : Int32) (a2 : Int32) (a3 : Int32) (q : ph_Mem), rs M a0 a1 a2 a3 = some q → ph_CX (ph_ZX tb adK adV) X dr yX7_search cX7_search 8 none  S.1 S.2 ad [.ref (ad 76), .int a0, .int a1, .int a2, .int a3] M none q) {rc45 : Int32 → Int32 → Int32 → Int32 → Int32 → ph_Mem → Option ph_Mem} (hrc45 : ∀ (x1 : Int32) (x2 : Int32) (x3 : Int32) (x4 : Int32) (x5 : Int32) (M : ph_Mem), ph_J X S.1 S.2 ad o 45 [(0, .ref (ad 76)), (1, .int x1), (2, .int x2), (3, .int x3), (4, .int x4), (5, .int x5)] [] M (rc45 x1 x2 x3 x4 x5 M)) : ∀ (x1 : Int32) (x2 : Int32) (x3 : Int32) (x4 : Int32) (x5 : Int32) (M : ph_Mem), ph_J X S.1 S.2 ad o 167 [(0, .ref (ad 76)), (1, .int x1), (2, .int x2), (3, .int x3), (4, .int x4), (5, .int x5)] [] M (f7_search_j167 S rs rc45 x1 x2 x3 x4 x5 M) := by
  intro x1 x2 x3 x4 x5 M
  unfold f7_search_j167
  refine j_iinc h [(5, .int (x5 + (1 : Int32))), (0, .ref (ad 76)), (1, .int x1), (2, .int x2), (3, .int x3), (4, .int x4)] dX7_search_167 5 rfl rfl (by decide) rfl ?_
  refine j_goto h 45 dX7_search_170 (by decide) ?_
  refine j_sub [1, 2, 3, 4, 5, 0] rfl ?_
  exact hrc45 x1 x2 x3 x4 (x5 + (1 : Int32)) M
def f7_search_j78 (S : ph_Sh) (rs : ph_Mem → Int32 → Int32 → Int32 → Int32 → Option ph_Mem) (rc45 : Int32 → Int32 → Int32 → Int32 → Int32 → ph_Mem → Option ph_Mem) (x1 : Int32) (x2 : Int32) (x3 : Int32) (x4 : Int32) (x5 : Int32) (s0 : Int32) (M : ph_Mem) : Option ph_Mem :=
  if s0 = (-1 : Int32) then (f7_search_j167 S rs rc45 x1 x2 x3 x4 x5 M) else (cond (ph_ib ((x5 * (61 : Int32)) + s0) 366) (ph_let (M.1 80 ((x5 * (61 : Int32)) + s0).toNatClampNeg) fun z5 => cond (ph_ib x5 6) (cond (ph_ib x1 6) (ph_let (ph_wi M 78 x1.toNatClampNeg (M.1 77 x5.toNatClampNeg)) fun M6 => ph_let (ph_wi M6 76 7 ((M6.1 76 7) ||| ((1 : Int32) <<< (x5 &&& 31)))) fun M7 => (f7_purseOn S M7 x2 x3 s0).bind fun q8 => (rs M7 (x1 + (1 : Int32)) s0 (q8 - z5) (x4 + z5)).bind fun q9 => ph_let (ph_wi q9 76 7 ((q9.1 76 7) &&& (((1 : Int32) <<< (x5 &&& 31)) ^^^ (-1 : Int32)))) fun M10 => f7_search_j167 S rs rc45 x1 x2 x3 x4 x5 M10) none) none) none)
set_option maxHeartbeats 4000000 in
theorem jb_f7_search_j78 {tb adK adV : Nat → Nat} {S : ph_Sh} {X : ph_X} {ad : Nat → Nat} {o : ph_Mem} {rs : ph_Mem → Int32 → Int32 → Int32 → Int32 → Option ph_Mem} {dr : Nat} (h : ph_ok (ph_ZX tb adK adV) X cX7_search RX7 none 8 (dr + 1) S.2 ad) (fin : ph_fin X S.1 S.2 ad none o) (hS : ph_SX S) (hB : 3 ≤ dr) (hrs : ∀ (M : ph_Mem) (a0 : Int32) (a1 : Int32) (a2 : Int32) (a3 : Int32) (q : ph_Mem), rs M a0 a1 a2 a3 = some q → ph_CX (ph_ZX tb adK adV) X dr yX7_search cX7_search 8 none  S.1 S.2 ad [.ref (ad 76), .int a0, .int a1, .int a2, .int a3] M none q) {rc45 : Int32 → Int32 → Int32 → Int32 → Int32 → ph_Mem → Option ph_Mem} (hrc45 : ∀ (x1 : Int32) (x2 : Int32) (x3 : Int32) (x4 : Int32) (x5 : Int32) (M : ph_Mem), ph_J X S.1 S.2 ad o 45 [(0, .ref (ad 76)), (1, .int x1), (2, .int x2), (3, .int x3), (4, .int x4), (5, .int x5)] [] M (rc45 x1 x2 x3 x4 x5 M)) : ∀ (x1 : Int32) (x2 : Int32) (x3 : Int32) (x4 : Int32) (x5 : Int32) (s0 : Int32) (M : ph_Mem), ph_J X S.1 S.2 ad o 78 [(0, .ref (ad 76)), (1, .int x1), (2, .int x2), (3, .int x3), (4, .int x4), (5, .int x5)] [.int s0] M (f7_search_j78 S rs rc45 x1 x2 x3 x4 x5 s0 M) := by
  intro x1 x2 x3 x4 x5 s0 M
  unfold f7_search_j78
  refine j_istore h [(6, .int s0), (0, .ref (ad 76)), (1, .int x1), (2, .int x2), (3, .int x3), (4, .int x4), (5, .int x5)] dX7_search_78 (by decide) rfl ?_
  refine j_iload h dX7_search_80 0 rfl ?_
  refine j_iconst (v := (-1 : Int32)) h dX7_search_82 (by decide) ?_
  refine j_icmp_eq h 167 dX7_search_83 (by decide) ?_ ?_
  · refine j_sub [1, 2, 3, 4, 5, 6] rfl ?_
    exact jb_f7_search_j167 h fin hS hB hrs hrc45 x1 x2 x3 x4 x5 M
  · refine j_aload_n h dX7_search_86 rfl 1 rfl ?_
    refine j_get (c := 76) (j := 4) (v := .ref (ad 80)) h (ph_xlt hS (by decide)) (ph_kc76 hS) rfl ph_inX7 rfl (by decide) tw_294 rfl rfl dX7_search_87 ?_
    refine j_iload h dX7_search_90 6 rfl ?_
    refine j_bipush (v := (61 : Int32)) h dX7_search_92 (by decide) ?_
    refine j_imul h dX7_search_94 ?_
    refine j_iload h dX7_search_95 0 rfl ?_
    refine j_iadd h dX7_search_97 ?_
    refine j_iald (c := 80) (n := 366) h (ph_xlt hS (by decide)) (ph_kc80 hS) dX7_search_98 ?_
    refine j_istore h [(7, .int (M.1 80 ((x5 * (61 : Int32)) + s0).toNatClampNeg)), (6, .int s0), (0, .ref (ad 76)), (1, .int x1), (2, .int x2), (3, .int x3), (4, .int x4), (5, .int x5)] dX7_search_99 (by decide) rfl ?_
    refine j_letI (lvf := fun z5 => [(7, .int z5), (6, .int s0), (0, .ref (ad 76)), (1, .int x1), (2, .int x2), (3, .int x3), (4, .int x4), (5, .int x5)]) (fun z5 => ?_)
    refine j_aload_n h dX7_search_101 rfl 2 rfl ?_
    refine j_get (c := 76) (j := 2) (v := .ref (ad 78)) h (ph_xlt hS (by decide)) (ph_kc76 hS) rfl ph_inX7 rfl (by decide) tw_292 rfl rfl dX7_search_102 ?_
    refine j_iload_n h dX7_search_105 rfl 3 rfl ?_
    refine j_aload_n h dX7_search_106 rfl 2 rfl ?_
    refine j_get (c := 76) (j := 1) (v := .ref (ad 77)) h (ph_xlt hS (by decide)) (ph_kc76 hS) rfl ph_inX7 rfl (by decide) tw_291 rfl rfl dX7_search_107 ?_
    refine j_iload h dX7_search_110 7 rfl ?_
    refine j_iald (c := 77) (n := 6) h (ph_xlt hS (by decide)) (ph_kc77 hS) dX7_search_112 ?_
    refine j_iast (c := 78) (n := 6) h (ph_xlt hS (by decide)) (ph_kc78 hS) dX7_search_113 ?_
    refine j_letM (fun M6 => ?_)
    refine j_aload_n h dX7_search_114 rfl 2 rfl ?_
    refine j_dup h dX7_search_115 rfl ?_
    refine j_get (c := 76) (j := 7) (v := .int (M6.1 76 7)) h (ph_xlt hS (by decide)) (ph_kc76 hS) rfl ph_inX7 rfl (by decide) tw_297 rfl rfl dX7_search_116 ?_
    refine j_iconst (v := (1 : Int32)) h dX7_search_119 (by decide) ?_
    refine j_iload h dX7_search_120 7 rfl ?_
    refine j_ishl h dX7_search_122 ?_
    refine j_ior h dX7_search_123 ?_
    refine j_puti (c := 76) (j := 7) (ty := .int) h (ph_xlt hS (by decide)) (ph_kc76 hS) rfl ph_inX7 tyX7 tyX7_ok nmX7 rfl (by decide) tw_297 rfl rfl (tyX7_ok 7 (by decide)) rfl rfl dX7_search_124 ?_
    refine j_letM (fun M7 => ?_)
    refine j_aload_n h dX7_search_127 rfl 2 rfl ?_
    refine j_iload_n h dX7_search_128 rfl 3 rfl ?_
    refine j_iconst (v := (1 : Int32)) h dX7_search_129 (by decide) ?_
    refine j_iadd h dX7_search_130 ?_
    refine j_iload h dX7_search_131 1 rfl ?_
    refine j_aload_n h dX7_search_133 rfl 2 rfl ?_
    refine j_iload_n h dX7_search_134 rfl 4 rfl ?_
    refine j_iload_n h dX7_search_135 rfl 5 rfl ?_
    refine j_iload h dX7_search_136 1 rfl ?_
    refine j_callViP (n := 3) (As := [.int x2, .int x3, .int s0]) (rest := [.int s0, .int (x1 + (1 : Int32)), .ref (ad 76)]) h 76 tw_1082 tw_1084 tp_42 tw_11 tw_1085 ydf7_purseOn (by omega) (by decide) (ph_xlt hS (by decide)) (ph_kc76 hS) rfl (fun q hq => cf7_purseOn (ph_okI h) hS hq) rfl (Nat.le_of_ble_eq_true rfl) rfl dX7_search_138 (fun q8 => ?_)
    refine j_iload h dX7_search_141 0 rfl ?_
    refine j_isub h dX7_search_143 ?_
    refine j_iload h dX7_search_144 6 rfl ?_
    refine j_iload h dX7_search_146 0 rfl ?_
    refine j_iadd h dX7_search_148 ?_
    refine j_callVv (n := 4) (As := [.int (x1 + (1 : Int32)), .int s0, .int (q8 - z5), .int (x4 + z5)]) (rest := []) h 76 tw_1072 tw_1074 tp_40 tw_11 tw_1075 ydf7_search (by omega) (by decide) (ph_xlt hS (by decide)) (ph_kc76 hS) rfl (fun q hq => hrs _ _ _ _ _ q hq) rfl (Nat.le_of_ble_eq_true rfl) rfl dX7_search_149 (fun q9 => ?_)
    refine j_aload_n h dX7_search_152 rfl 2 rfl ?_
    refine j_dup h dX7_search_153 rfl ?_
    refine j_get (c := 76) (j := 7) (v := .int (q9.1 76 7)) h (ph_xlt hS (by decide)) (ph_kc76 hS) rfl ph_inX7 rfl (by decide) tw_297 rfl rfl dX7_search_154 ?_
    refine j_iconst (v := (1 : Int32)) h dX7_search_157 (by decide) ?_
    refine j_iload h dX7_search_158 7 rfl ?_
    refine j_ishl h dX7_search_160 ?_
    refine j_iconst (v := (-1 : Int32)) h dX7_search_161 (by decide) ?_
    refine j_ixor h dX7_search_162 ?_
    refine j_iand h dX7_search_163 ?_
    refine j_puti (c := 76) (j := 7) (ty := .int) h (ph_xlt hS (by decide)) (ph_kc76 hS) rfl ph_inX7 tyX7 tyX7_ok nmX7 rfl (by decide) tw_297 rfl rfl (tyX7_ok 7 (by decide)) rfl rfl dX7_search_164 ?_
    refine j_letM (fun M10 => ?_)
    refine j_sub [2, 3, 4, 5, 6, 7] rfl ?_
    exact jb_f7_search_j167 h fin hS hB hrs hrc45 x1 x2 x3 x4 x5 M10
def f7_search_l45 (S : ph_Sh) (rs : ph_Mem → Int32 → Int32 → Int32 → Int32 → Option ph_Mem) : Nat → Int32 → Int32 → Int32 → Int32 → Int32 → ph_Mem → Option ph_Mem
  | 0, _, _, _, _, _, _ => none
  | n + 1, x1, x2, x3, x4, x5, M => if (M.1 76 6) ≤ x5 then (some M) else ((f9_hasBit S M (M.1 76 7) x5).bind fun q3 => if q3 = 0 then ((f7_firstDayFor S M x5 x2 x3).bind fun q4 => f7_search_j78 S rs (f7_search_l45 S rs n) x1 x2 x3 x4 x5 q4.1 q4.2) else (f7_search_j78 S rs (f7_search_l45 S rs n) x1 x2 x3 x4 x5 (-1 : Int32) M))
set_option maxHeartbeats 4000000 in
theorem jb_f7_search_l45 {tb adK adV : Nat → Nat} {S : ph_Sh} {X : ph_X} {ad : Nat → Nat} {o : ph_Mem} {rs : ph_Mem → Int32 → Int32 → Int32 → Int32 → Option ph_Mem} {dr : Nat} (h : ph_ok (ph_ZX tb adK adV) X cX7_search RX7 none 8 (dr + 1) S.2 ad) (fin : ph_fin X S.1 S.2 ad none o) (hS : ph_SX S) (hB : 3 ≤ dr) (hrs : ∀ (M : ph_Mem) (a0 : Int32) (a1 : Int32) (a2 : Int32) (a3 : Int32) (q : ph_Mem), rs M a0 a1 a2 a3 = some q → ph_CX (ph_ZX tb adK adV) X dr yX7_search cX7_search 8 none  S.1 S.2 ad [.ref (ad 76), .int a0, .int a1, .int a2, .int a3] M none q) : ∀ (n : Nat) (x1 : Int32) (x2 : Int32) (x3 : Int32) (x4 : Int32) (x5 : Int32) (M : ph_Mem), ph_J X S.1 S.2 ad o 45 [(0, .ref (ad 76)), (1, .int x1), (2, .int x2), (3, .int x3), (4, .int x4), (5, .int x5)] [] M (f7_search_l45 S rs n x1 x2 x3 x4 x5 M) := by
  intro n
  induction n with
  | zero => intro x1 x2 x3 x4 x5 M; exact j_none
  | succ n hrc45 =>
    intro x1 x2 x3 x4 x5 M
    unfold f7_search_l45
    refine j_iload h dX7_search_45 5 rfl ?_
    refine j_aload_n h dX7_search_47 rfl 0 rfl ?_
    refine j_get (c := 76) (j := 6) (v := .int (M.1 76 6)) h (ph_xlt hS (by decide)) (ph_kc76 hS) rfl ph_inX7 rfl (by decide) tw_296 rfl rfl dX7_search_48 ?_
    refine j_icmp_ge h 173 dX7_search_51 (by decide) ?_ ?_
    · exact j_vret h rfl fin dX7_search_173
    · refine j_aload_n h dX7_search_54 rfl 0 rfl ?_
      refine j_get (c := 76) (j := 7) (v := .int (M.1 76 7)) h (ph_xlt hS (by decide)) (ph_kc76 hS) rfl ph_inX7 rfl (by decide) tw_297 rfl rfl dX7_search_55 ?_
      refine j_iload h dX7_search_58 5 rfl ?_
      refine j_callSiP (n := 2) (As := [.int (M.1 76 7), .int x5]) (rest := []) h tw_1069 tw_454 tw_3 tw_455 ydf9_hasBit (by omega) (by decide) (fun q hq => cf9_hasBit (ph_okI h) hS hq) rfl (Nat.le_of_ble_eq_true rfl) rfl dX7_search_60 (fun q3 => ?_)
      refine j_if_eq h 70 dX7_search_63 (by decide) ?_ ?_
      · refine j_aload_n h dX7_search_70 rfl 0 rfl ?_
        refine j_iload h dX7_search_71 5 rfl ?_
        refine j_iload_n h dX7_search_73 rfl 2 rfl ?_
        refine j_iload_n h dX7_search_74 rfl 3 rfl ?_
        refine j_callVi (n := 3) (As := [.int x5, .int x2, .int x3]) (rest := []) h 76 tw_1077 tw_1079 tp_41 tw_11 tw_1080 ydf7_firstDayFor (by omega) (by decide) (ph_xlt hS (by decide)) (ph_kc76 hS) rfl (fun q hq => cf7_firstDayFor (ph_okI h) hS hq) rfl (Nat.le_of_ble_eq_true rfl) rfl dX7_search_75 (fun q4 => ?_)
        refine j_sub [0, 1, 2, 3, 4, 5] rfl ?_
        exact jb_f7_search_j78 h fin hS hB hrs hrc45 x1 x2 x3 x4 x5 q4.1 q4.2
      · refine j_iconst (v := (-1 : Int32)) h dX7_search_66 (by decide) ?_
        refine j_goto h 78 dX7_search_67 (by decide) ?_
        refine j_sub [0, 1, 2, 3, 4, 5] rfl ?_
        exact jb_f7_search_j78 h fin hS hB hrs hrc45 x1 x2 x3 x4 x5 (-1 : Int32) M
def f7_search_b (S : ph_Sh) (rs : ph_Mem → Int32 → Int32 → Int32 → Int32 → Option ph_Mem) (M : ph_Mem) (p0 : Int32) (p1 : Int32) (p2 : Int32) (p3 : Int32) : Option ph_Mem :=
  if p3 < (M.1 76 8) then (if p0 < (M.1 76 6) then (f7_search_l45 S rs 10000 p0 p1 p2 p3 (0 : Int32) M) else (ph_let (ph_wi M 76 8 p3) fun M1 => cond (ph_cpk (0 : Int32) (0 : Int32) (M1.1 76 6) 6 6) (ph_let (ph_cp M1 78 (0 : Int32).toNatClampNeg 79 (0 : Int32).toNatClampNeg (M1.1 76 6).toNatClampNeg) fun M2 => some M2) none)) else (some M)
set_option maxHeartbeats 4000000 in
theorem cf7_search_b {tb adK adV : Nat → Nat} {S : ph_Sh} {l : Launch} {D : va_G} {cA : Nat → ClassId} {ad : Nat → Nat} (hinj : ∀ i j, i < S.2 → j < S.2 → ad i = ad j → i = j) (hS : ph_SX S) {rs : ph_Mem → Int32 → Int32 → Int32 → Int32 → Option ph_Mem} {dr : Nat} (hB : 3 ≤ dr) (hrs : ∀ (M : ph_Mem) (a0 : Int32) (a1 : Int32) (a2 : Int32) (a3 : Int32) (q : ph_Mem), rs M a0 a1 a2 a3 = some q → ph_C (ph_ZX tb adK adV) l dr yX7_search cX7_search 8 none D cA S.1 S.2 ad [.ref (ad 76), .int a0, .int a1, .int a2, .int a3] M none q) {M : ph_Mem} {p0 : Int32} {p1 : Int32} {p2 : Int32} {p3 : Int32} {M' : ph_Mem} (hf : f7_search_b S rs M p0 p1 p2 p3 = some M') : ph_C (ph_ZX tb adK adV) l (dr + 1) yX7_search cX7_search 8 none D cA S.1 S.2 ad [.ref (ad 76), .int p0, .int p1, .int p2, .int p3] M none M' := by
  refine ph_mk ph_ZX_ok hinj (by decide) (Nat.le_of_ble_eq_true rfl) fun X h fin hE => ?_
  obtain ⟨rfl, rfl, rfl⟩ := hE
  refine (?_ : ph_J X S.1 S.2 ad (M' : ph_Mem) 0 [(0, .ref (ad 76)), (1, .int p0), (2, .int p1), (3, .int p2), (4, .int p3)] [] M (f7_search_b S rs M p0 p1 p2 p3)) hf
  unfold f7_search_b
  refine j_iload h dX7_search_0 4 rfl ?_
  refine j_aload_n h dX7_search_2 rfl 0 rfl ?_
  refine j_get (c := 76) (j := 8) (v := .int (M.1 76 8)) h (ph_xlt hS (by decide)) (ph_kc76 hS) rfl ph_inX7 rfl (by decide) tw_298 rfl rfl dX7_search_3 ?_
  refine j_icmp_lt h 10 dX7_search_6 (by decide) ?_ ?_
  · refine j_iload_n h dX7_search_10 rfl 1 rfl ?_
    refine j_aload_n h dX7_search_11 rfl 0 rfl ?_
    refine j_get (c := 76) (j := 6) (v := .int (M.1 76 6)) h (ph_xlt hS (by decide)) (ph_kc76 hS) rfl ph_inX7 rfl (by decide) tw_296 rfl rfl dX7_search_12 ?_
    refine j_icmp_lt h 42 dX7_search_15 (by decide) ?_ ?_
    · refine j_iconst (v := (0 : Int32)) h dX7_search_42 (by decide) ?_
      refine j_istore h [(5, .int (0 : Int32)), (0, .ref (ad 76)), (1, .int p0), (2, .int p1), (3, .int p2), (4, .int p3)] dX7_search_43 (by decide) rfl ?_
      refine j_sub [1, 2, 3, 4, 5, 0] rfl ?_
      exact jb_f7_search_l45 h fin hS hB hrs 10000 p0 p1 p2 p3 (0 : Int32) M
    · refine j_aload_n h dX7_search_18 rfl 0 rfl ?_
      refine j_iload h dX7_search_19 4 rfl ?_
      refine j_puti (c := 76) (j := 8) (ty := .int) h (ph_xlt hS (by decide)) (ph_kc76 hS) rfl ph_inX7 tyX7 tyX7_ok nmX7 rfl (by decide) tw_298 rfl rfl (tyX7_ok 8 (by decide)) rfl rfl dX7_search_21 ?_
      refine j_letM (fun M1 => ?_)
      refine j_aload_n h dX7_search_24 rfl 0 rfl ?_
      refine j_get (c := 76) (j := 2) (v := .ref (ad 78)) h (ph_xlt hS (by decide)) (ph_kc76 hS) rfl ph_inX7 rfl (by decide) tw_292 rfl rfl dX7_search_25 ?_
      refine j_iconst (v := (0 : Int32)) h dX7_search_28 (by decide) ?_
      refine j_aload_n h dX7_search_29 rfl 0 rfl ?_
      refine j_get (c := 76) (j := 3) (v := .ref (ad 79)) h (ph_xlt hS (by decide)) (ph_kc76 hS) rfl ph_inX7 rfl (by decide) tw_293 rfl rfl dX7_search_30 ?_
      refine j_iconst (v := (0 : Int32)) h dX7_search_33 (by decide) ?_
      refine j_aload_n h dX7_search_34 rfl 0 rfl ?_
      refine j_get (c := 76) (j := 6) (v := .int (M1.1 76 6)) h (ph_xlt hS (by decide)) (ph_kc76 hS) rfl ph_inX7 rfl (by decide) tw_296 rfl rfl dX7_search_35 ?_
      refine j_copy (a0 := 78) (a1 := 79) (n0 := 6) (n1 := 6) h (by omega) tw_1076 tw_62 tw_61 tw_5 (ph_xlt hS (by decide)) (ph_kc78 hS) (ph_xlt hS (by decide)) (ph_kc79 hS) (Nat.le_of_ble_eq_true rfl) dX7_search_38 ?_
      refine j_letM (fun M2 => ?_)
      exact j_vret h rfl fin dX7_search_41
  · exact j_vret h rfl fin dX7_search_9
def f7_search_n (S : ph_Sh) : Nat → ph_Mem → Int32 → Int32 → Int32 → Int32 → Option ph_Mem
  | 0, _, _, _, _, _ => none
  | n + 1, M, p0, p1, p2, p3 => f7_search_b S (f7_search_n S n) M p0 p1 p2 p3
theorem cf7_search_n {tb adK adV : Nat → Nat} {S : ph_Sh} {l : Launch} {D : va_G} {cA : Nat → ClassId} {ad : Nat → Nat} (hinj : ∀ i j, i < S.2 → j < S.2 → ad i = ad j → i = j) (hS : ph_SX S) : ∀ (n : Nat) {M : ph_Mem} {p0 : Int32} {p1 : Int32} {p2 : Int32} {p3 : Int32} {M' : ph_Mem} (_ : f7_search_n S n M p0 p1 p2 p3 = some M'), ph_C (ph_ZX tb adK adV) l (3 + 1 * n) yX7_search cX7_search 8 none D cA S.1 S.2 ad [.ref (ad 76), .int p0, .int p1, .int p2, .int p3] M none M'
  | 0, _, _, _, _, _, _, h => by cases h
  | n + 1, _, _, _, _, _, _, h => by
    rw [show 3 + 1 * (n + 1) = 3 + 1 * n + 1 by omega]
    exact cf7_search_b hinj hS (rs := f7_search_n S n) (dr := 3 + 1 * n) (Nat.le_add_right _ _) (fun _ _ _ _ _ q hq => cf7_search_n hinj hS n hq) h
def f7_search (S : ph_Sh) (M : ph_Mem) (p0 : Int32) (p1 : Int32) (p2 : Int32) (p3 : Int32) : Option ph_Mem := f7_search_n S 20 M p0 p1 p2 p3
theorem cf7_search {tb adK adV : Nat → Nat} {S : ph_Sh} {l : Launch} {D : va_G} {cA : Nat → ClassId} {ad : Nat → Nat} (hinj : ∀ i j, i < S.2 → j < S.2 → ad i = ad j → i = j) (hS : ph_SX S) {M : ph_Mem} {p0 : Int32} {p1 : Int32} {p2 : Int32} {p3 : Int32} {M' : ph_Mem} (hf : f7_search S M p0 p1 p2 p3 = some M') : ph_C (ph_ZX tb adK adV) l 23 yX7_search cX7_search 8 none D cA S.1 S.2 ad [.ref (ad 76), .int p0, .int p1, .int p2, .int p3] M none M' := cf7_search_n hinj hS 20 hf
theorem dX7_plan_0 : decode cX7_plan 0 = .ok (.aload_n 0, 1) := by decide +kernel
theorem dX7_plan_1 : decode cX7_plan 1 = .ok (.iload_n 1, 1) := by decide +kernel
theorem dX7_plan_2 : decode cX7_plan 2 = .ok (.putfield 28, 3) := by decide +kernel
theorem dX7_plan_5 : decode cX7_plan 5 = .ok (.aload_n 0, 1) := by decide +kernel
theorem dX7_plan_6 : decode cX7_plan 6 = .ok (.iconst 0, 1) := by decide +kernel
theorem dX7_plan_7 : decode cX7_plan 7 = .ok (.putfield 32, 3) := by decide +kernel
theorem dX7_plan_10 : decode cX7_plan 10 = .ok (.aload_n 0, 1) := by decide +kernel
theorem dX7_plan_11 : decode cX7_plan 11 = .ok (.iconst 0, 1) := by decide +kernel
theorem dX7_plan_12 : decode cX7_plan 12 = .ok (.putfield 35, 3) := by decide +kernel
theorem dX7_plan_15 : decode cX7_plan 15 = .ok (.aload_n 0, 1) := by decide +kernel
theorem dX7_plan_16 : decode cX7_plan 16 = .ok (.getfield 24, 3) := by decide +kernel
theorem dX7_plan_19 : decode cX7_plan 19 = .ok (.iconst 1, 1) := by decide +kernel
theorem dX7_plan_20 : decode cX7_plan 20 = .ok (.aload_n 0, 1) := by decide +kernel
theorem dX7_plan_21 : decode cX7_plan 21 = .ok (.getfield 28, 3) := by decide +kernel
theorem dX7_plan_24 : decode cX7_plan 24 = .ok (.invokevirtual 38, 3) := by decide +kernel
theorem dX7_plan_27 : decode cX7_plan 27 = .ok (.istore_n 2, 1) := by decide +kernel
theorem dX7_plan_28 : decode cX7_plan 28 = .ok (.iload_n 2, 1) := by decide +kernel
theorem dX7_plan_29 : decode cX7_plan 29 = .ok (.invokestatic 44, 3) := by decide +kernel
theorem dX7_plan_32 : decode cX7_plan 32 = .ok (.bipush 6, 2) := by decide +kernel
theorem dX7_plan_34 : decode cX7_plan 34 = .ok (.if_icmp .le 5, 3) := by decide +kernel
theorem dX7_plan_37 : decode cX7_plan 37 = .ok (.iconst 0, 1) := by decide +kernel
theorem dX7_plan_38 : decode cX7_plan 38 = .ok (.ireturn, 1) := by decide +kernel
theorem dX7_plan_39 : decode cX7_plan 39 = .ok (.iconst 0, 1) := by decide +kernel
theorem dX7_plan_40 : decode cX7_plan 40 = .ok (.istore_n 3, 1) := by decide +kernel
theorem dX7_plan_41 : decode cX7_plan 41 = .ok (.iload_n 3, 1) := by decide +kernel
theorem dX7_plan_42 : decode cX7_plan 42 = .ok (.bipush 12, 2) := by decide +kernel
theorem dX7_plan_44 : decode cX7_plan 44 = .ok (.if_icmp .ge 46, 3) := by decide +kernel
theorem dX7_plan_47 : decode cX7_plan 47 = .ok (.iload_n 2, 1) := by decide +kernel
theorem dX7_plan_48 : decode cX7_plan 48 = .ok (.iload_n 3, 1) := by decide +kernel
theorem dX7_plan_49 : decode cX7_plan 49 = .ok (.invokestatic 50, 3) := by decide +kernel
theorem dX7_plan_52 : decode cX7_plan 52 = .ok (.ifCond .eq 32, 3) := by decide +kernel
theorem dX7_plan_55 : decode cX7_plan 55 = .ok (.aload_n 0, 1) := by decide +kernel
theorem dX7_plan_56 : decode cX7_plan 56 = .ok (.getfield 35, 3) := by decide +kernel
theorem dX7_plan_59 : decode cX7_plan 59 = .ok (.bipush 6, 2) := by decide +kernel
theorem dX7_plan_61 : decode cX7_plan 61 = .ok (.if_icmp .ge 23, 3) := by decide +kernel
theorem dX7_plan_64 : decode cX7_plan 64 = .ok (.aload_n 0, 1) := by decide +kernel
theorem dX7_plan_65 : decode cX7_plan 65 = .ok (.getfield 11, 3) := by decide +kernel
theorem dX7_plan_68 : decode cX7_plan 68 = .ok (.aload_n 0, 1) := by decide +kernel
theorem dX7_plan_69 : decode cX7_plan 69 = .ok (.getfield 35, 3) := by decide +kernel
theorem dX7_plan_72 : decode cX7_plan 72 = .ok (.iload_n 3, 1) := by decide +kernel
theorem dX7_plan_73 : decode cX7_plan 73 = .ok (.iastore, 1) := by decide +kernel
theorem dX7_plan_74 : decode cX7_plan 74 = .ok (.aload_n 0, 1) := by decide +kernel
theorem dX7_plan_75 : decode cX7_plan 75 = .ok (.dup, 1) := by decide +kernel
theorem dX7_plan_76 : decode cX7_plan 76 = .ok (.getfield 35, 3) := by decide +kernel
theorem dX7_plan_79 : decode cX7_plan 79 = .ok (.iconst 1, 1) := by decide +kernel
theorem dX7_plan_80 : decode cX7_plan 80 = .ok (.iadd, 1) := by decide +kernel
theorem dX7_plan_81 : decode cX7_plan 81 = .ok (.putfield 35, 3) := by decide +kernel
theorem dX7_plan_84 : decode cX7_plan 84 = .ok (.iinc 3 1, 3) := by decide +kernel
theorem dX7_plan_87 : decode cX7_plan 87 = .ok (.goto (-46), 3) := by decide +kernel
theorem dX7_plan_90 : decode cX7_plan 90 = .ok (.aload_n 0, 1) := by decide +kernel
theorem dX7_plan_91 : decode cX7_plan 91 = .ok (.getfield 21, 3) := by decide +kernel
theorem dX7_plan_94 : decode cX7_plan 94 = .ok (.iconst (-1), 1) := by decide +kernel
theorem dX7_plan_95 : decode cX7_plan 95 = .ok (.invokestatic 54, 3) := by decide +kernel
theorem dX7_plan_98 : decode cX7_plan 98 = .ok (.aload_n 0, 1) := by decide +kernel
theorem dX7_plan_99 : decode cX7_plan 99 = .ok (.ldc 60, 2) := by decide +kernel
theorem dX7_plan_101 : decode cX7_plan 101 = .ok (.putfield 61, 3) := by decide +kernel
theorem dX7_plan_104 : decode cX7_plan 104 = .ok (.aload_n 0, 1) := by decide +kernel
theorem dX7_plan_105 : decode cX7_plan 105 = .ok (.iconst 0, 1) := by decide +kernel
theorem dX7_plan_106 : decode cX7_plan 106 = .ok (.iconst 0, 1) := by decide +kernel
theorem dX7_plan_107 : decode cX7_plan 107 = .ok (.aload_n 0, 1) := by decide +kernel
theorem dX7_plan_108 : decode cX7_plan 108 = .ok (.getfield 24, 3) := by decide +kernel
theorem dX7_plan_111 : decode cX7_plan 111 = .ok (.getfield 64, 3) := by decide +kernel
theorem dX7_plan_114 : decode cX7_plan 114 = .ok (.aload_n 0, 1) := by decide +kernel
theorem dX7_plan_115 : decode cX7_plan 115 = .ok (.getfield 28, 3) := by decide +kernel
theorem dX7_plan_118 : decode cX7_plan 118 = .ok (.iaload, 1) := by decide +kernel
theorem dX7_plan_119 : decode cX7_plan 119 = .ok (.iconst 0, 1) := by decide +kernel
theorem dX7_plan_120 : decode cX7_plan 120 = .ok (.invokevirtual 67, 3) := by decide +kernel
theorem dX7_plan_123 : decode cX7_plan 123 = .ok (.aload_n 0, 1) := by decide +kernel
theorem dX7_plan_124 : decode cX7_plan 124 = .ok (.getfield 61, 3) := by decide +kernel
theorem dX7_plan_127 : decode cX7_plan 127 = .ok (.ldc 60, 2) := by decide +kernel
theorem dX7_plan_129 : decode cX7_plan 129 = .ok (.if_icmp .eq 7, 3) := by decide +kernel
theorem dX7_plan_132 : decode cX7_plan 132 = .ok (.iconst 1, 1) := by decide +kernel
theorem dX7_plan_133 : decode cX7_plan 133 = .ok (.goto 4, 3) := by decide +kernel
theorem dX7_plan_136 : decode cX7_plan 136 = .ok (.iconst 0, 1) := by decide +kernel
theorem dX7_plan_137 : decode cX7_plan 137 = .ok (.ireturn, 1) := by decide +kernel
def f7_plan_j84 (S : ph_Sh) (rc41 : Int32 → Int32 → ph_Mem → Option (Int32 × ph_Mem)) (x2 : Int32) (x3 : Int32) (M : ph_Mem) : Option (Int32 × ph_Mem) :=
  rc41 x2 (x3 + (1 : Int32)) M
set_option maxHeartbeats 4000000 in
theorem jb_f7_plan_j84 {tb adK adV : Nat → Nat} {S : ph_Sh} {X : ph_X} {ad : Nat → Nat} {o : (Int32 × ph_Mem)} (h : ph_ok (ph_ZX tb adK adV) X cX7_plan RX7 (some .boolean) 4 24 S.2 ad) (fin : ph_fin X S.1 S.2 ad (some (.int o.1)) o.2) (hS : ph_SX S) {rc41 : Int32 → Int32 → ph_Mem → Option (Int32 × ph_Mem)} (hrc41 : ∀ (x2 : Int32) (x3 : Int32) (M : ph_Mem), ph_J X S.1 S.2 ad o 41 [(0, .ref (ad 76)), (2, .int x2), (3, .int x3)] [] M (rc41 x2 x3 M)) : ∀ (x2 : Int32) (x3 : Int32) (M : ph_Mem), ph_J X S.1 S.2 ad o 84 [(0, .ref (ad 76)), (2, .int x2), (3, .int x3)] [] M (f7_plan_j84 S rc41 x2 x3 M) := by
  intro x2 x3 M
  unfold f7_plan_j84
  refine j_iinc h [(3, .int (x3 + (1 : Int32))), (0, .ref (ad 76)), (2, .int x2)] dX7_plan_84 2 rfl rfl (by decide) rfl ?_
  refine j_goto h 41 dX7_plan_87 (by decide) ?_
  refine j_sub [1, 2, 0] rfl ?_
  exact hrc41 x2 (x3 + (1 : Int32)) M
def f7_plan_j90 (S : ph_Sh) (M : ph_Mem) : Option (Int32 × ph_Mem) :=
  (f7_fill_53178 S M 80 (-1 : Int32)).bind fun q9 => ph_let (ph_wi q9 76 8 (1000000 : Int32)) fun M10 => cond (ph_ib (M10.1 76 5) 6) ((f7_search S M10 (0 : Int32) (0 : Int32) (M10.1 12 (M10.1 76 5).toNatClampNeg) (0 : Int32)).bind fun q11 => if (q11.1 76 8) = (1000000 : Int32) then (some ((0 : Int32), q11)) else (some ((1 : Int32), q11))) none
set_option maxHeartbeats 4000000 in
theorem jb_f7_plan_j90 {tb adK adV : Nat → Nat} {S : ph_Sh} {X : ph_X} {ad : Nat → Nat} {o : (Int32 × ph_Mem)} (h : ph_ok (ph_ZX tb adK adV) X cX7_plan RX7 (some .boolean) 4 24 S.2 ad) (fin : ph_fin X S.1 S.2 ad (some (.int o.1)) o.2) (hS : ph_SX S) : ∀ (M : ph_Mem), ph_J X S.1 S.2 ad o 90 [(0, .ref (ad 76))] [] M (f7_plan_j90 S M) := by
  intro M
  unfold f7_plan_j90
  refine j_aload_n h dX7_plan_90 rfl 0 rfl ?_
  refine j_get (c := 76) (j := 4) (v := .ref (ad 80)) h (ph_xlt hS (by decide)) (ph_kc76 hS) rfl ph_inX7 rfl (by decide) tw_294 rfl rfl dX7_plan_91 ?_
  refine j_iconst (v := (-1 : Int32)) h dX7_plan_94 (by decide) ?_
  refine j_callSv (n := 2) (As := [.ref (ad 80), .int (-1 : Int32)]) (rest := []) h tw_1070 tw_56 tw_4 tw_57 ydf7_fill_53178 (by decide) (by decide) (fun q hq => cf7_fill_53178 (ph_okI h) trivial ⟨(ph_xlt hS (by decide)), (ph_kl80 hS)⟩ hq) rfl (Nat.le_of_ble_eq_true rfl) rfl dX7_plan_95 (fun q9 => ?_)
  refine j_aload_n h dX7_plan_98 rfl 0 rfl ?_
  refine j_ldc (v := (1000000 : Int32)) h dX7_plan_99 tw_1071 ?_
  refine j_puti (c := 76) (j := 8) (ty := .int) h (ph_xlt hS (by decide)) (ph_kc76 hS) rfl ph_inX7 tyX7 tyX7_ok nmX7 rfl (by decide) tw_298 rfl rfl (tyX7_ok 8 (by decide)) rfl rfl dX7_plan_101 ?_
  refine j_letM (fun M10 => ?_)
  refine j_aload_n h dX7_plan_104 rfl 0 rfl ?_
  refine j_iconst (v := (0 : Int32)) h dX7_plan_105 (by decide) ?_
  refine j_iconst (v := (0 : Int32)) h dX7_plan_106 (by decide) ?_
  refine j_aload_n h dX7_plan_107 rfl 0 rfl ?_
  refine j_get (c := 76) (j := 0) (v := .ref (ad 11)) h (ph_xlt hS (by decide)) (ph_kc76 hS) rfl ph_inX7 rfl (by decide) tw_290 rfl rfl dX7_plan_108 ?_
  refine j_get (c := 11) (j := 2) (v := .ref (ad 12)) h (ph_xlt hS (by decide)) (ph_kc11 hS) rfl ph_inX9 rfl (by decide) tw_72 rfl rfl dX7_plan_111 ?_
  refine j_aload_n h dX7_plan_114 rfl 0 rfl ?_
  refine j_get (c := 76) (j := 5) (v := .int (M10.1 76 5)) h (ph_xlt hS (by decide)) (ph_kc76 hS) rfl ph_inX7 rfl (by decide) tw_295 rfl rfl dX7_plan_115 ?_
  refine j_iald (c := 12) (n := 6) h (ph_xlt hS (by decide)) (ph_kc12 hS) dX7_plan_118 ?_
  refine j_iconst (v := (0 : Int32)) h dX7_plan_119 (by decide) ?_
  refine j_callVv (n := 4) (As := [.int (0 : Int32), .int (0 : Int32), .int (M10.1 12 (M10.1 76 5).toNatClampNeg), .int (0 : Int32)]) (rest := []) h 76 tw_1072 tw_1074 tp_40 tw_11 tw_1075 ydf7_search (by decide) (by decide) (ph_xlt hS (by decide)) (ph_kc76 hS) rfl (fun q hq => cf7_search (ph_okI h) hS hq) rfl (Nat.le_of_ble_eq_true rfl) rfl dX7_plan_120 (fun q11 => ?_)
  refine j_aload_n h dX7_plan_123 rfl 0 rfl ?_
  refine j_get (c := 76) (j := 8) (v := .int (q11.1 76 8)) h (ph_xlt hS (by decide)) (ph_kc76 hS) rfl ph_inX7 rfl (by decide) tw_298 rfl rfl dX7_plan_124 ?_
  refine j_ldc (v := (1000000 : Int32)) h dX7_plan_127 tw_1071 ?_
  refine j_icmp_eq h 136 dX7_plan_129 (by decide) ?_ ?_
  · refine j_iconst (v := (0 : Int32)) h dX7_plan_136 (by decide) ?_
    exact j_zretC h rfl (by decide) fin dX7_plan_137
  · refine j_iconst (v := (1 : Int32)) h dX7_plan_132 (by decide) ?_
    refine j_goto h 137 dX7_plan_133 (by decide) ?_
    exact j_zretC h rfl (by decide) fin dX7_plan_137
def f7_plan_l41 (S : ph_Sh) : Nat → Int32 → Int32 → ph_Mem → Option (Int32 × ph_Mem)
  | 0, _, _, _ => none
  | n + 1, x2, x3, M => if (12 : Int32) ≤ x3 then (f7_plan_j90 S  M) else ((f9_hasBit S M x2 x3).bind fun q6 => if q6 = 0 then (f7_plan_j84 S (f7_plan_l41 S n) x2 x3 M) else (if (6 : Int32) ≤ (M.1 76 6) then (f7_plan_j84 S (f7_plan_l41 S n) x2 x3 M) else (cond (ph_ib (M.1 76 6) 6) (ph_let (ph_wi M 77 (M.1 76 6).toNatClampNeg x3) fun M7 => ph_let (ph_wi M7 76 6 ((M7.1 76 6) + (1 : Int32))) fun M8 => f7_plan_j84 S (f7_plan_l41 S n) x2 x3 M8) none)))
set_option maxHeartbeats 4000000 in
theorem jb_f7_plan_l41 {tb adK adV : Nat → Nat} {S : ph_Sh} {X : ph_X} {ad : Nat → Nat} {o : (Int32 × ph_Mem)} (h : ph_ok (ph_ZX tb adK adV) X cX7_plan RX7 (some .boolean) 4 24 S.2 ad) (fin : ph_fin X S.1 S.2 ad (some (.int o.1)) o.2) (hS : ph_SX S) : ∀ (n : Nat) (x2 : Int32) (x3 : Int32) (M : ph_Mem), ph_J X S.1 S.2 ad o 41 [(0, .ref (ad 76)), (2, .int x2), (3, .int x3)] [] M (f7_plan_l41 S n x2 x3 M) := by
  intro n
  induction n with
  | zero => intro x2 x3 M; exact j_none
  | succ n hrc41 =>
    intro x2 x3 M
    unfold f7_plan_l41
    refine j_iload_n h dX7_plan_41 rfl 2 rfl ?_
    refine j_bipush (v := (12 : Int32)) h dX7_plan_42 (by decide) ?_
    refine j_icmp_ge h 90 dX7_plan_44 (by decide) ?_ ?_
    · refine j_sub [0] rfl ?_
      exact jb_f7_plan_j90 h fin hS  M
    · refine j_iload_n h dX7_plan_47 rfl 1 rfl ?_
      refine j_iload_n h dX7_plan_48 rfl 2 rfl ?_
      refine j_callSiP (n := 2) (As := [.int x2, .int x3]) (rest := []) h tw_1069 tw_454 tw_3 tw_455 ydf9_hasBit (by decide) (by decide) (fun q hq => cf9_hasBit (ph_okI h) hS hq) rfl (Nat.le_of_ble_eq_true rfl) rfl dX7_plan_49 (fun q6 => ?_)
      refine j_if_eq h 84 dX7_plan_52 (by decide) ?_ ?_
      · refine j_sub [0, 1, 2] rfl ?_
        exact jb_f7_plan_j84 h fin hS hrc41 x2 x3 M
      · refine j_aload_n h dX7_plan_55 rfl 0 rfl ?_
        refine j_get (c := 76) (j := 6) (v := .int (M.1 76 6)) h (ph_xlt hS (by decide)) (ph_kc76 hS) rfl ph_inX7 rfl (by decide) tw_296 rfl rfl dX7_plan_56 ?_
        refine j_bipush (v := (6 : Int32)) h dX7_plan_59 (by decide) ?_
        refine j_icmp_ge h 84 dX7_plan_61 (by decide) ?_ ?_
        · refine j_sub [0, 1, 2] rfl ?_
          exact jb_f7_plan_j84 h fin hS hrc41 x2 x3 M
        · refine j_aload_n h dX7_plan_64 rfl 0 rfl ?_
          refine j_get (c := 76) (j := 1) (v := .ref (ad 77)) h (ph_xlt hS (by decide)) (ph_kc76 hS) rfl ph_inX7 rfl (by decide) tw_291 rfl rfl dX7_plan_65 ?_
          refine j_aload_n h dX7_plan_68 rfl 0 rfl ?_
          refine j_get (c := 76) (j := 6) (v := .int (M.1 76 6)) h (ph_xlt hS (by decide)) (ph_kc76 hS) rfl ph_inX7 rfl (by decide) tw_296 rfl rfl dX7_plan_69 ?_
          refine j_iload_n h dX7_plan_72 rfl 2 rfl ?_
          refine j_iast (c := 77) (n := 6) h (ph_xlt hS (by decide)) (ph_kc77 hS) dX7_plan_73 ?_
          refine j_letM (fun M7 => ?_)
          refine j_aload_n h dX7_plan_74 rfl 0 rfl ?_
          refine j_dup h dX7_plan_75 rfl ?_
          refine j_get (c := 76) (j := 6) (v := .int (M7.1 76 6)) h (ph_xlt hS (by decide)) (ph_kc76 hS) rfl ph_inX7 rfl (by decide) tw_296 rfl rfl dX7_plan_76 ?_
          refine j_iconst (v := (1 : Int32)) h dX7_plan_79 (by decide) ?_
          refine j_iadd h dX7_plan_80 ?_
          refine j_puti (c := 76) (j := 6) (ty := .int) h (ph_xlt hS (by decide)) (ph_kc76 hS) rfl ph_inX7 tyX7 tyX7_ok nmX7 rfl (by decide) tw_296 rfl rfl (tyX7_ok 6 (by decide)) rfl rfl dX7_plan_81 ?_
          refine j_letM (fun M8 => ?_)
          refine j_sub [0, 1, 2] rfl ?_
          exact jb_f7_plan_j84 h fin hS hrc41 x2 x3 M8
theorem ydf7_plan : ph_yd yX7_plan 1 := ⟨by decide, by decide, by decide +kernel⟩
def f7_plan (S : ph_Sh) (M : ph_Mem) (p0 : Int32) : Option (Int32 × ph_Mem) :=
  ph_let (ph_wi M 76 5 p0) fun M1 => ph_let (ph_wi M1 76 7 (0 : Int32)) fun M2 => ph_let (ph_wi M2 76 6 (0 : Int32)) fun M3 => (f9_hoursThatAre S M3 11 (1 : Int32) (M3.1 76 5)).bind fun q4 => (f6_bitCount_0f7a4 S M3 q4).bind fun q5 => if q5 ≤ (6 : Int32) then (f7_plan_l41 S 10000 q4 (0 : Int32) M3) else (some ((0 : Int32), M3))
set_option maxHeartbeats 4000000 in
theorem cf7_plan {tb adK adV : Nat → Nat} {S : ph_Sh} {l : Launch} {D : va_G} {cA : Nat → ClassId} {ad : Nat → Nat} (hinj : ∀ i j, i < S.2 → j < S.2 → ad i = ad j → i = j) (hS : ph_SX S) {M : ph_Mem} {p0 : Int32} {r : Int32} {M' : ph_Mem} (hf : f7_plan S M p0 = some (r, M')) : ph_C (ph_ZX tb adK adV) l 24 yX7_plan cX7_plan 4 (some .boolean) D cA S.1 S.2 ad [.ref (ad 76), .int p0] M (some (.int r)) M' := by
  refine ph_mk ph_ZX_ok hinj (by decide) (Nat.le_of_ble_eq_true rfl) fun X h fin hE => ?_
  refine (?_ : ph_J X S.1 S.2 ad ((r, M') : (Int32 × ph_Mem)) 0 [(0, .ref (ad 76)), (1, .int p0)] [] M (f7_plan S M p0)) hf
  unfold f7_plan
  refine j_aload_n h dX7_plan_0 rfl 0 rfl ?_
  refine j_iload_n h dX7_plan_1 rfl 1 rfl ?_
  refine j_puti (c := 76) (j := 5) (ty := .int) h (ph_xlt hS (by decide)) (ph_kc76 hS) rfl ph_inX7 tyX7 tyX7_ok nmX7 rfl (by decide) tw_295 rfl rfl (tyX7_ok 5 (by decide)) rfl rfl dX7_plan_2 ?_
  refine j_letM (fun M1 => ?_)
  refine j_aload_n h dX7_plan_5 rfl 0 rfl ?_
  refine j_iconst (v := (0 : Int32)) h dX7_plan_6 (by decide) ?_
  refine j_puti (c := 76) (j := 7) (ty := .int) h (ph_xlt hS (by decide)) (ph_kc76 hS) rfl ph_inX7 tyX7 tyX7_ok nmX7 rfl (by decide) tw_297 rfl rfl (tyX7_ok 7 (by decide)) rfl rfl dX7_plan_7 ?_
  refine j_letM (fun M2 => ?_)
  refine j_aload_n h dX7_plan_10 rfl 0 rfl ?_
  refine j_iconst (v := (0 : Int32)) h dX7_plan_11 (by decide) ?_
  refine j_puti (c := 76) (j := 6) (ty := .int) h (ph_xlt hS (by decide)) (ph_kc76 hS) rfl ph_inX7 tyX7 tyX7_ok nmX7 rfl (by decide) tw_296 rfl rfl (tyX7_ok 6 (by decide)) rfl rfl dX7_plan_12 ?_
  refine j_letM (fun M3 => ?_)
  refine j_aload_n h dX7_plan_15 rfl 0 rfl ?_
  refine j_get (c := 76) (j := 0) (v := .ref (ad 11)) h (ph_xlt hS (by decide)) (ph_kc76 hS) rfl ph_inX7 rfl (by decide) tw_290 rfl rfl dX7_plan_16 ?_
  refine j_iconst (v := (1 : Int32)) h dX7_plan_19 (by decide) ?_
  refine j_aload_n h dX7_plan_20 rfl 0 rfl ?_
  refine j_get (c := 76) (j := 5) (v := .int (M3.1 76 5)) h (ph_xlt hS (by decide)) (ph_kc76 hS) rfl ph_inX7 rfl (by decide) tw_295 rfl rfl dX7_plan_21 ?_
  refine j_callViP (n := 2) (As := [.int (1 : Int32), .int (M3.1 76 5)]) (rest := []) h 11 tw_1067 tw_543 tw_544 tw_3 tw_545 ydf9_hoursThatAre (by decide) (by decide) (ph_xlt hS (by decide)) (ph_kc11 hS) rfl (fun q hq => cf9_hoursThatAre (ph_okI h) hS (by decide) hq) rfl (Nat.le_of_ble_eq_true rfl) rfl dX7_plan_24 (fun q4 => ?_)
  refine j_istore_n h [(2, .int q4), (0, .ref (ad 76)), (1, .int p0)] dX7_plan_27 rfl (by decide) rfl ?_
  refine j_iload_n h dX7_plan_28 rfl 0 rfl ?_
  refine j_callSiP (n := 1) (As := [.int q4]) (rest := []) h tw_1068 tw_481 tw_15 tw_482 ydf6_bitCount_0f7a4 (by decide) (by decide) (fun q hq => cf6_bitCount_0f7a4 (ph_okI h) trivial hq) rfl (Nat.le_of_ble_eq_true rfl) rfl dX7_plan_29 (fun q5 => ?_)
  refine j_bipush (v := (6 : Int32)) h dX7_plan_32 (by decide) ?_
  refine j_icmp_le h 39 dX7_plan_34 (by decide) ?_ ?_
  · refine j_iconst (v := (0 : Int32)) h dX7_plan_39 (by decide) ?_
    refine j_istore_n h [(3, .int (0 : Int32)), (2, .int q4), (0, .ref (ad 76)), (1, .int p0)] dX7_plan_40 rfl (by decide) rfl ?_
    refine j_sub [2, 1, 0] rfl ?_
    exact jb_f7_plan_l41 h fin hS 10000 q4 (0 : Int32) M3
  · refine j_iconst (v := (0 : Int32)) h dX7_plan_37 (by decide) ?_
    exact j_zretC h rfl (by decide) fin dX7_plan_38
theorem dX7_hourAt_0 : decode cX7_hourAt 0 = .ok (.iload_n 1, 1) := by decide +kernel
theorem dX7_hourAt_1 : decode cX7_hourAt 1 = .ok (.ifCond .lt 20, 3) := by decide +kernel
theorem dX7_hourAt_4 : decode cX7_hourAt 4 = .ok (.iload_n 1, 1) := by decide +kernel
theorem dX7_hourAt_5 : decode cX7_hourAt 5 = .ok (.aload_n 0, 1) := by decide +kernel
theorem dX7_hourAt_6 : decode cX7_hourAt 6 = .ok (.getfield 35, 3) := by decide +kernel
theorem dX7_hourAt_9 : decode cX7_hourAt 9 = .ok (.if_icmp .ge 12, 3) := by decide +kernel
theorem dX7_hourAt_12 : decode cX7_hourAt 12 = .ok (.aload_n 0, 1) := by decide +kernel
theorem dX7_hourAt_13 : decode cX7_hourAt 13 = .ok (.getfield 18, 3) := by decide +kernel
theorem dX7_hourAt_16 : decode cX7_hourAt 16 = .ok (.iload_n 1, 1) := by decide +kernel
theorem dX7_hourAt_17 : decode cX7_hourAt 17 = .ok (.iaload, 1) := by decide +kernel
theorem dX7_hourAt_18 : decode cX7_hourAt 18 = .ok (.goto 4, 3) := by decide +kernel
theorem dX7_hourAt_21 : decode cX7_hourAt 21 = .ok (.iconst (-1), 1) := by decide +kernel
theorem dX7_hourAt_22 : decode cX7_hourAt 22 = .ok (.ireturn, 1) := by decide +kernel
theorem ydf7_hourAt : ph_yd yX7_hourAt 1 := ⟨by decide, by decide, by decide +kernel⟩
def f7_hourAt (S : ph_Sh) (M : ph_Mem) (p0 : Int32) : Option Int32 :=
  if p0 < 0 then (some (-1 : Int32)) else (if (M.1 76 6) ≤ p0 then (some (-1 : Int32)) else (cond (ph_ib p0 6) (some (M.1 79 p0.toNatClampNeg)) none))
set_option maxHeartbeats 4000000 in
theorem cf7_hourAt {tb adK adV : Nat → Nat} {S : ph_Sh} {l : Launch} {D : va_G} {cA : Nat → ClassId} {ad : Nat → Nat} (hinj : ∀ i j, i < S.2 → j < S.2 → ad i = ad j → i = j) (hS : ph_SX S) {M : ph_Mem} {p0 : Int32} {r : Int32} (hf : f7_hourAt S M p0 = some r) : ph_C (ph_ZX tb adK adV) l 0 yX7_hourAt cX7_hourAt 2 (some .int) D cA S.1 S.2 ad [.ref (ad 76), .int p0] M (some (.int r)) M := by
  refine ph_mk ph_ZX_ok hinj (by decide) (Nat.le_of_ble_eq_true rfl) fun X h fin hE => ?_
  refine (?_ : ph_J X S.1 S.2 ad (r : Int32) 0 [(0, .ref (ad 76)), (1, .int p0)] [] M (f7_hourAt S M p0)) hf
  unfold f7_hourAt
  refine j_iload_n h dX7_hourAt_0 rfl 1 rfl ?_
  refine j_if_lt h 21 dX7_hourAt_1 (by decide) ?_ ?_
  · refine j_iconst (v := (-1 : Int32)) h dX7_hourAt_21 (by decide) ?_
    exact j_iretP h rfl fin dX7_hourAt_22
  · refine j_iload_n h dX7_hourAt_4 rfl 1 rfl ?_
    refine j_aload_n h dX7_hourAt_5 rfl 0 rfl ?_
    refine j_get (c := 76) (j := 6) (v := .int (M.1 76 6)) h (ph_xlt hS (by decide)) (ph_kc76 hS) rfl ph_inX7 rfl (by decide) tw_296 rfl rfl dX7_hourAt_6 ?_
    refine j_icmp_ge h 21 dX7_hourAt_9 (by decide) ?_ ?_
    · refine j_iconst (v := (-1 : Int32)) h dX7_hourAt_21 (by decide) ?_
      exact j_iretP h rfl fin dX7_hourAt_22
    · refine j_aload_n h dX7_hourAt_12 rfl 0 rfl ?_
      refine j_get (c := 76) (j := 3) (v := .ref (ad 79)) h (ph_xlt hS (by decide)) (ph_kc76 hS) rfl ph_inX7 rfl (by decide) tw_293 rfl rfl dX7_hourAt_13 ?_
      refine j_iload_n h dX7_hourAt_16 rfl 1 rfl ?_
      refine j_iald (c := 79) (n := 6) h (ph_xlt hS (by decide)) (ph_kc79 hS) dX7_hourAt_17 ?_
      refine j_goto h 22 dX7_hourAt_18 (by decide) ?_
      exact j_iretP h rfl fin dX7_hourAt_22
theorem dX8_look_0 : decode cX8_look 0 = .ok (.aload_n 1, 1) := by decide +kernel
theorem dX8_look_1 : decode cX8_look 1 = .ok (.iload_n 2, 1) := by decide +kernel
theorem dX8_look_2 : decode cX8_look 2 = .ok (.invokevirtual 84, 3) := by decide +kernel
theorem dX8_look_5 : decode cX8_look 5 = .ok (.istore_n 3, 1) := by decide +kernel
theorem dX8_look_6 : decode cX8_look 6 = .ok (.aload_n 0, 1) := by decide +kernel
theorem dX8_look_7 : decode cX8_look 7 = .ok (.getfield 14, 3) := by decide +kernel
theorem dX8_look_10 : decode cX8_look 10 = .ok (.getfield 22, 3) := by decide +kernel
theorem dX8_look_13 : decode cX8_look 13 = .ok (.iconst 3, 1) := by decide +kernel
theorem dX8_look_14 : decode cX8_look 14 = .ok (.iload_n 2, 1) := by decide +kernel
theorem dX8_look_15 : decode cX8_look 15 = .ok (.iadd, 1) := by decide +kernel
theorem dX8_look_16 : decode cX8_look 16 = .ok (.iload_n 3, 1) := by decide +kernel
theorem dX8_look_17 : decode cX8_look 17 = .ok (.ifCond .eq 12, 3) := by decide +kernel
theorem dX8_look_20 : decode cX8_look 20 = .ok (.aload_n 1, 1) := by decide +kernel
theorem dX8_look_21 : decode cX8_look 21 = .ok (.getfield 63, 3) := by decide +kernel
theorem dX8_look_24 : decode cX8_look 24 = .ok (.iload_n 2, 1) := by decide +kernel
theorem dX8_look_25 : decode cX8_look 25 = .ok (.iaload, 1) := by decide +kernel
theorem dX8_look_26 : decode cX8_look 26 = .ok (.goto 4, 3) := by decide +kernel
theorem dX8_look_29 : decode cX8_look 29 = .ok (.iconst (-1), 1) := by decide +kernel
theorem dX8_look_30 : decode cX8_look 30 = .ok (.iastore, 1) := by decide +kernel
theorem dX8_look_31 : decode cX8_look 31 = .ok (.aload_n 0, 1) := by decide +kernel
theorem dX8_look_32 : decode cX8_look 32 = .ok (.getfield 14, 3) := by decide +kernel
theorem dX8_look_35 : decode cX8_look 35 = .ok (.getfield 22, 3) := by decide +kernel
theorem dX8_look_38 : decode cX8_look 38 = .ok (.bipush 9, 2) := by decide +kernel
theorem dX8_look_40 : decode cX8_look 40 = .ok (.iload_n 2, 1) := by decide +kernel
theorem dX8_look_41 : decode cX8_look 41 = .ok (.iadd, 1) := by decide +kernel
theorem dX8_look_42 : decode cX8_look 42 = .ok (.iload_n 3, 1) := by decide +kernel
theorem dX8_look_43 : decode cX8_look 43 = .ok (.ifCond .eq 15, 3) := by decide +kernel
theorem dX8_look_46 : decode cX8_look 46 = .ok (.aload_n 1, 1) := by decide +kernel
theorem dX8_look_47 : decode cX8_look 47 = .ok (.iconst 0, 1) := by decide +kernel
theorem dX8_look_48 : decode cX8_look 48 = .ok (.iload_n 2, 1) := by decide +kernel
theorem dX8_look_49 : decode cX8_look 49 = .ok (.invokevirtual 88, 3) := by decide +kernel
theorem dX8_look_52 : decode cX8_look 52 = .ok (.invokestatic 92, 3) := by decide +kernel
theorem dX8_look_55 : decode cX8_look 55 = .ok (.goto 4, 3) := by decide +kernel
theorem dX8_look_58 : decode cX8_look 58 = .ok (.iconst (-1), 1) := by decide +kernel
theorem dX8_look_59 : decode cX8_look 59 = .ok (.iastore, 1) := by decide +kernel
theorem dX8_look_60 : decode cX8_look 60 = .ok (.aload_n 0, 1) := by decide +kernel
theorem dX8_look_61 : decode cX8_look 61 = .ok (.getfield 14, 3) := by decide +kernel
theorem dX8_look_64 : decode cX8_look 64 = .ok (.getfield 22, 3) := by decide +kernel
theorem dX8_look_67 : decode cX8_look 67 = .ok (.bipush 15, 2) := by decide +kernel
theorem dX8_look_69 : decode cX8_look 69 = .ok (.iload_n 2, 1) := by decide +kernel
theorem dX8_look_70 : decode cX8_look 70 = .ok (.iadd, 1) := by decide +kernel
theorem dX8_look_71 : decode cX8_look 71 = .ok (.iload_n 3, 1) := by decide +kernel
theorem dX8_look_72 : decode cX8_look 72 = .ok (.ifCond .eq 12, 3) := by decide +kernel
theorem dX8_look_75 : decode cX8_look 75 = .ok (.aload_n 1, 1) := by decide +kernel
theorem dX8_look_76 : decode cX8_look 76 = .ok (.iload_n 2, 1) := by decide +kernel
theorem dX8_look_77 : decode cX8_look 77 = .ok (.iconst 0, 1) := by decide +kernel
theorem dX8_look_78 : decode cX8_look 78 = .ok (.invokevirtual 97, 3) := by decide +kernel
theorem dX8_look_81 : decode cX8_look 81 = .ok (.goto 4, 3) := by decide +kernel
theorem dX8_look_84 : decode cX8_look 84 = .ok (.iconst (-1), 1) := by decide +kernel
theorem dX8_look_85 : decode cX8_look 85 = .ok (.iastore, 1) := by decide +kernel
theorem dX8_look_86 : decode cX8_look 86 = .ok (.return_, 1) := by decide +kernel
def f8_look_j59 (S : ph_Sh) (p0 : Nat) (x2 : Int32) (x3 : Int32) (s0 : Int32) (s1 : Int32) (M : ph_Mem) : Option ph_Mem :=
  cond (ph_ib s1 21) (ph_let (ph_wi M 9 s1.toNatClampNeg s0) fun M5 => if x3 = 0 then (cond (ph_ib ((15 : Int32) + x2) 21) (ph_let (ph_wi M5 9 ((15 : Int32) + x2).toNatClampNeg (-1 : Int32)) fun M6 => some M6) none) else ((f9_knownWithout S M5 p0 x2 (0 : Int32)).bind fun q7 => cond (ph_ib ((15 : Int32) + x2) 21) (ph_let (ph_wi M5 9 ((15 : Int32) + x2).toNatClampNeg q7) fun M8 => some M8) none)) none
set_option maxHeartbeats 4000000 in
theorem jb_f8_look_j59 {tb adK adV : Nat → Nat} {S : ph_Sh} {p0 : Nat} {X : ph_X} {ad : Nat → Nat} {o : ph_Mem} (h : ph_ok (ph_ZX tb adK adV) X cX8_look RX8 none 4 3 S.2 ad) (fin : ph_fin X S.1 S.2 ad none o) (hS : ph_SX S) (hp0 : ph_isS p0) : ∀ (x2 : Int32) (x3 : Int32) (s0 : Int32) (s1 : Int32) (M : ph_Mem), ph_J X S.1 S.2 ad o 59 [(0, .ref (ad 70)), (1, .ref (ad p0)), (2, .int x2), (3, .int x3)] [.int s0, .int s1, .ref (ad 9)] M (f8_look_j59 S p0 x2 x3 s0 s1 M) := by
  intro x2 x3 s0 s1 M
  unfold f8_look_j59
  refine j_iast (c := 9) (n := 21) h (ph_xlt hS (by decide)) (ph_kc9 hS) dX8_look_59 ?_
  refine j_letM (fun M5 => ?_)
  refine j_aload_n h dX8_look_60 rfl 0 rfl ?_
  refine j_get (c := 70) (j := 0) (v := .ref (ad 8)) h (ph_xlt hS (by decide)) (ph_kc70 hS) rfl ph_inX8 rfl (by decide) tw_223 rfl rfl dX8_look_61 ?_
  refine j_get (c := 8) (j := 0) (v := .ref (ad 9)) h (ph_xlt hS (by decide)) (ph_kc8 hS) rfl ph_inX2 rfl (by decide) tw_37 rfl rfl dX8_look_64 ?_
  refine j_bipush (v := (15 : Int32)) h dX8_look_67 (by decide) ?_
  refine j_iload_n h dX8_look_69 rfl 2 rfl ?_
  refine j_iadd h dX8_look_70 ?_
  refine j_iload_n h dX8_look_71 rfl 3 rfl ?_
  refine j_if_eq h 84 dX8_look_72 (by decide) ?_ ?_
  · refine j_iconst (v := (-1 : Int32)) h dX8_look_84 (by decide) ?_
    refine j_iast (c := 9) (n := 21) h (ph_xlt hS (by decide)) (ph_kc9 hS) dX8_look_85 ?_
    refine j_letM (fun M6 => ?_)
    exact j_vret h rfl fin dX8_look_86
  · refine j_aload_n h dX8_look_75 rfl 1 rfl ?_
    refine j_iload_n h dX8_look_76 rfl 2 rfl ?_
    refine j_iconst (v := (0 : Int32)) h dX8_look_77 (by decide) ?_
    refine j_callViP (n := 2) (As := [.int x2, .int (0 : Int32)]) (rest := [.int ((15 : Int32) + x2), .ref (ad 9)]) h p0 tw_849 tw_548 tw_549 tw_3 tw_550 ydf9_knownWithout (by decide) (by decide) (ph_S0n hS hp0) (ph_S0 hS hp0) rfl (fun q hq => cf9_knownWithout (ph_okI h) hS hp0 hq) rfl (Nat.le_of_ble_eq_true rfl) rfl dX8_look_78 (fun q7 => ?_)
    refine j_goto h 85 dX8_look_81 (by decide) ?_
    refine j_iast (c := 9) (n := 21) h (ph_xlt hS (by decide)) (ph_kc9 hS) dX8_look_85 ?_
    refine j_letM (fun M8 => ?_)
    exact j_vret h rfl fin dX8_look_86
def f8_look_j30 (S : ph_Sh) (p0 : Nat) (x2 : Int32) (x3 : Int32) (s0 : Int32) (s1 : Int32) (M : ph_Mem) : Option ph_Mem :=
  cond (ph_ib s1 21) (ph_let (ph_wi M 9 s1.toNatClampNeg s0) fun M2 => if x3 = 0 then (f8_look_j59 S p0 x2 x3 (-1 : Int32) ((9 : Int32) + x2) M2) else ((f9_hoursThatAre S M2 p0 (0 : Int32) x2).bind fun q3 => (f6_bitCount_0f7a4 S M2 q3).bind fun q4 => f8_look_j59 S p0 x2 x3 q4 ((9 : Int32) + x2) M2)) none
set_option maxHeartbeats 4000000 in
theorem jb_f8_look_j30 {tb adK adV : Nat → Nat} {S : ph_Sh} {p0 : Nat} {X : ph_X} {ad : Nat → Nat} {o : ph_Mem} (h : ph_ok (ph_ZX tb adK adV) X cX8_look RX8 none 4 3 S.2 ad) (fin : ph_fin X S.1 S.2 ad none o) (hS : ph_SX S) (hp0 : ph_isS p0) : ∀ (x2 : Int32) (x3 : Int32) (s0 : Int32) (s1 : Int32) (M : ph_Mem), ph_J X S.1 S.2 ad o 30 [(0, .ref (ad 70)), (1, .ref (ad p0)), (2, .int x2), (3, .int x3)] [.int s0, .int s1, .ref (ad 9)] M (f8_look_j30 S p0 x2 x3 s0 s1 M) := by
  intro x2 x3 s0 s1 M
  unfold f8_look_j30
  refine j_iast (c := 9) (n := 21) h (ph_xlt hS (by decide)) (ph_kc9 hS) dX8_look_30 ?_
  refine j_letM (fun M2 => ?_)
  refine j_aload_n h dX8_look_31 rfl 0 rfl ?_
  refine j_get (c := 70) (j := 0) (v := .ref (ad 8)) h (ph_xlt hS (by decide)) (ph_kc70 hS) rfl ph_inX8 rfl (by decide) tw_223 rfl rfl dX8_look_32 ?_
  refine j_get (c := 8) (j := 0) (v := .ref (ad 9)) h (ph_xlt hS (by decide)) (ph_kc8 hS) rfl ph_inX2 rfl (by decide) tw_37 rfl rfl dX8_look_35 ?_
  refine j_bipush (v := (9 : Int32)) h dX8_look_38 (by decide) ?_
  refine j_iload_n h dX8_look_40 rfl 2 rfl ?_
  refine j_iadd h dX8_look_41 ?_
  refine j_iload_n h dX8_look_42 rfl 3 rfl ?_
  refine j_if_eq h 58 dX8_look_43 (by decide) ?_ ?_
  · refine j_iconst (v := (-1 : Int32)) h dX8_look_58 (by decide) ?_
    refine j_sub [0, 1, 2, 3] rfl ?_
    exact jb_f8_look_j59 h fin hS hp0 x2 x3 (-1 : Int32) ((9 : Int32) + x2) M2
  · refine j_aload_n h dX8_look_46 rfl 1 rfl ?_
    refine j_iconst (v := (0 : Int32)) h dX8_look_47 (by decide) ?_
    refine j_iload_n h dX8_look_48 rfl 2 rfl ?_
    refine j_callViP (n := 2) (As := [.int (0 : Int32), .int x2]) (rest := [.int ((9 : Int32) + x2), .ref (ad 9)]) h p0 tw_847 tw_543 tw_544 tw_3 tw_545 ydf9_hoursThatAre (by decide) (by decide) (ph_S0n hS hp0) (ph_S0 hS hp0) rfl (fun q hq => cf9_hoursThatAre (ph_okI h) hS hp0 hq) rfl (Nat.le_of_ble_eq_true rfl) rfl dX8_look_49 (fun q3 => ?_)
    refine j_callSiP (n := 1) (As := [.int q3]) (rest := [.int ((9 : Int32) + x2), .ref (ad 9)]) h tw_848 tw_481 tw_15 tw_482 ydf6_bitCount_0f7a4 (by decide) (by decide) (fun q hq => cf6_bitCount_0f7a4 (ph_okI h) trivial hq) rfl (Nat.le_of_ble_eq_true rfl) rfl dX8_look_52 (fun q4 => ?_)
    refine j_goto h 59 dX8_look_55 (by decide) ?_
    refine j_sub [0, 1, 2, 3] rfl ?_
    exact jb_f8_look_j59 h fin hS hp0 x2 x3 q4 ((9 : Int32) + x2) M2
theorem ydf8_look : ph_yd yX8_look 2 := ⟨by decide, by decide, by decide +kernel⟩
def f8_look (S : ph_Sh) (M : ph_Mem) (p0 : Nat) (p1 : Int32) : Option ph_Mem :=
  (f9_isPerson S M p0 p1).bind fun q1 => if q1 = 0 then (f8_look_j30 S p0 p1 q1 (-1 : Int32) ((3 : Int32) + p1) M) else (cond (ph_ib p1 6) (f8_look_j30 S p0 p1 q1 (M.1 (p0 + 1) p1.toNatClampNeg) ((3 : Int32) + p1) M) none)
set_option maxHeartbeats 4000000 in
theorem cf8_look {tb adK adV : Nat → Nat} {S : ph_Sh} {p0 : Nat} {l : Launch} {D : va_G} {cA : Nat → ClassId} {ad : Nat → Nat} (hinj : ∀ i j, i < S.2 → j < S.2 → ad i = ad j → i = j) (hS : ph_SX S) (hp0 : ph_isS p0) {M : ph_Mem} {p1 : Int32} {M' : ph_Mem} (hf : f8_look S M p0 p1 = some M') : ph_C (ph_ZX tb adK adV) l 3 yX8_look cX8_look 4 none D cA S.1 S.2 ad [.ref (ad 70), .ref (ad p0), .int p1] M none M' := by
  refine ph_mk ph_ZX_ok hinj (by decide) (Nat.le_of_ble_eq_true rfl) fun X h fin hE => ?_
  refine (?_ : ph_J X S.1 S.2 ad (M' : ph_Mem) 0 [(0, .ref (ad 70)), (1, .ref (ad p0)), (2, .int p1)] [] M (f8_look S M p0 p1)) hf
  unfold f8_look
  refine j_aload_n h dX8_look_0 rfl 1 rfl ?_
  refine j_iload_n h dX8_look_1 rfl 2 rfl ?_
  refine j_callViP (n := 1) (As := [.int p1]) (rest := []) h p0 tw_846 tw_457 tw_458 tw_3 tw_459 ydf9_isPerson (by decide) (by decide) (ph_S0n hS hp0) (ph_S0 hS hp0) rfl (fun q hq => cf9_isPerson (ph_okI h) hS hp0 hq) rfl (Nat.le_of_ble_eq_true rfl) rfl dX8_look_2 (fun q1 => ?_)
  refine j_istore_n h [(3, .int q1), (0, .ref (ad 70)), (1, .ref (ad p0)), (2, .int p1)] dX8_look_5 rfl (by decide) rfl ?_
  refine j_aload_n h dX8_look_6 rfl 1 rfl ?_
  refine j_get (c := 70) (j := 0) (v := .ref (ad 8)) h (ph_xlt hS (by decide)) (ph_kc70 hS) rfl ph_inX8 rfl (by decide) tw_223 rfl rfl dX8_look_7 ?_
  refine j_get (c := 8) (j := 0) (v := .ref (ad 9)) h (ph_xlt hS (by decide)) (ph_kc8 hS) rfl ph_inX2 rfl (by decide) tw_37 rfl rfl dX8_look_10 ?_
  refine j_iconst (v := (3 : Int32)) h dX8_look_13 (by decide) ?_
  refine j_iload_n h dX8_look_14 rfl 3 rfl ?_
  refine j_iadd h dX8_look_15 ?_
  refine j_iload_n h dX8_look_16 rfl 0 rfl ?_
  refine j_if_eq h 29 dX8_look_17 (by decide) ?_ ?_
  · refine j_iconst (v := (-1 : Int32)) h dX8_look_29 (by decide) ?_
    refine j_sub [1, 2, 3, 0] rfl ?_
    exact jb_f8_look_j30 h fin hS hp0 p1 q1 (-1 : Int32) ((3 : Int32) + p1) M
  · refine j_aload_n h dX8_look_20 rfl 2 rfl ?_
    refine j_get (c := p0) (j := 2) (v := .ref (ad (p0 + 1))) h (ph_S0n hS hp0) (ph_S0 hS hp0) rfl ph_inX9 rfl (by decide) tw_73 rfl rfl dX8_look_21 ?_
    refine j_iload_n h dX8_look_24 rfl 3 rfl ?_
    refine j_iald (c := (p0 + 1)) (n := 6) h (ph_S1n hS hp0) (ph_S1 hS hp0) dX8_look_25 ?_
    refine j_goto h 30 dX8_look_26 (by decide) ?_
    refine j_sub [1, 2, 3, 0] rfl ?_
    exact jb_f8_look_j30 h fin hS hp0 p1 q1 (M.1 (p0 + 1) p1.toNatClampNeg) ((3 : Int32) + p1) M
theorem dX9_tryNextDay_0 : decode cX9_tryNextDay 0 = .ok (.aload_n 0, 1) := by decide +kernel
theorem dX9_tryNextDay_1 : decode cX9_tryNextDay 1 = .ok (.getfield 39, 3) := by decide +kernel
theorem dX9_tryNextDay_4 : decode cX9_tryNextDay 4 = .ok (.iconst 0, 1) := by decide +kernel
theorem dX9_tryNextDay_5 : decode cX9_tryNextDay 5 = .ok (.iaload, 1) := by decide +kernel
theorem dX9_tryNextDay_6 : decode cX9_tryNextDay 6 = .ok (.sipush 999, 3) := by decide +kernel
theorem dX9_tryNextDay_9 : decode cX9_tryNextDay 9 = .ok (.if_icmp .lt 6, 3) := by decide +kernel
theorem dX9_tryNextDay_12 : decode cX9_tryNextDay 12 = .ok (.bipush (-3), 2) := by decide +kernel
theorem dX9_tryNextDay_14 : decode cX9_tryNextDay 14 = .ok (.ireturn, 1) := by decide +kernel
theorem dX9_tryNextDay_15 : decode cX9_tryNextDay 15 = .ok (.aload_n 1, 1) := by decide +kernel
theorem dX9_tryNextDay_16 : decode cX9_tryNextDay 16 = .ok (.iconst 2, 1) := by decide +kernel
theorem dX9_tryNextDay_17 : decode cX9_tryNextDay 17 = .ok (.iconst 0, 1) := by decide +kernel
theorem dX9_tryNextDay_18 : decode cX9_tryNextDay 18 = .ok (.aload_n 0, 1) := by decide +kernel
theorem dX9_tryNextDay_19 : decode cX9_tryNextDay 19 = .ok (.invokevirtual 153, 3) := by decide +kernel
theorem dX9_tryNextDay_22 : decode cX9_tryNextDay 22 = .ok (.aload_n 0, 1) := by decide +kernel
theorem dX9_tryNextDay_23 : decode cX9_tryNextDay 23 = .ok (.getfield 39, 3) := by decide +kernel
theorem dX9_tryNextDay_26 : decode cX9_tryNextDay 26 = .ok (.iconst 0, 1) := by decide +kernel
theorem dX9_tryNextDay_27 : decode cX9_tryNextDay 27 = .ok (.dup2, 1) := by decide +kernel
theorem dX9_tryNextDay_28 : decode cX9_tryNextDay 28 = .ok (.iaload, 1) := by decide +kernel
theorem dX9_tryNextDay_29 : decode cX9_tryNextDay 29 = .ok (.iconst 1, 1) := by decide +kernel
theorem dX9_tryNextDay_30 : decode cX9_tryNextDay 30 = .ok (.iadd, 1) := by decide +kernel
theorem dX9_tryNextDay_31 : decode cX9_tryNextDay 31 = .ok (.iastore, 1) := by decide +kernel
theorem dX9_tryNextDay_32 : decode cX9_tryNextDay 32 = .ok (.iconst 0, 1) := by decide +kernel
theorem dX9_tryNextDay_33 : decode cX9_tryNextDay 33 = .ok (.istore_n 2, 1) := by decide +kernel
theorem dX9_tryNextDay_34 : decode cX9_tryNextDay 34 = .ok (.iload_n 2, 1) := by decide +kernel
theorem dX9_tryNextDay_35 : decode cX9_tryNextDay 35 = .ok (.aload_n 0, 1) := by decide +kernel
theorem dX9_tryNextDay_36 : decode cX9_tryNextDay 36 = .ok (.getfield 71, 3) := by decide +kernel
theorem dX9_tryNextDay_39 : decode cX9_tryNextDay 39 = .ok (.if_icmp .ge 33, 3) := by decide +kernel
theorem dX9_tryNextDay_42 : decode cX9_tryNextDay 42 = .ok (.aload_n 0, 1) := by decide +kernel
theorem dX9_tryNextDay_43 : decode cX9_tryNextDay 43 = .ok (.getfield 9, 3) := by decide +kernel
theorem dX9_tryNextDay_46 : decode cX9_tryNextDay 46 = .ok (.iload_n 2, 1) := by decide +kernel
theorem dX9_tryNextDay_47 : decode cX9_tryNextDay 47 = .ok (.ldc 159, 2) := by decide +kernel
theorem dX9_tryNextDay_49 : decode cX9_tryNextDay 49 = .ok (.aload_n 0, 1) := by decide +kernel
theorem dX9_tryNextDay_50 : decode cX9_tryNextDay 50 = .ok (.getfield 9, 3) := by decide +kernel
theorem dX9_tryNextDay_53 : decode cX9_tryNextDay 53 = .ok (.iload_n 2, 1) := by decide +kernel
theorem dX9_tryNextDay_54 : decode cX9_tryNextDay 54 = .ok (.iaload, 1) := by decide +kernel
theorem dX9_tryNextDay_55 : decode cX9_tryNextDay 55 = .ok (.aload_n 0, 1) := by decide +kernel
theorem dX9_tryNextDay_56 : decode cX9_tryNextDay 56 = .ok (.getfield 39, 3) := by decide +kernel
theorem dX9_tryNextDay_59 : decode cX9_tryNextDay 59 = .ok (.iconst 1, 1) := by decide +kernel
theorem dX9_tryNextDay_60 : decode cX9_tryNextDay 60 = .ok (.iaload, 1) := by decide +kernel
theorem dX9_tryNextDay_61 : decode cX9_tryNextDay 61 = .ok (.iadd, 1) := by decide +kernel
theorem dX9_tryNextDay_62 : decode cX9_tryNextDay 62 = .ok (.invokestatic 160, 3) := by decide +kernel
theorem dX9_tryNextDay_65 : decode cX9_tryNextDay 65 = .ok (.iastore, 1) := by decide +kernel
theorem dX9_tryNextDay_66 : decode cX9_tryNextDay 66 = .ok (.iinc 2 1, 3) := by decide +kernel
theorem dX9_tryNextDay_69 : decode cX9_tryNextDay 69 = .ok (.goto (-35), 3) := by decide +kernel
theorem dX9_tryNextDay_72 : decode cX9_tryNextDay 72 = .ok (.aload_n 0, 1) := by decide +kernel
theorem dX9_tryNextDay_73 : decode cX9_tryNextDay 73 = .ok (.getfield 39, 3) := by decide +kernel
theorem dX9_tryNextDay_76 : decode cX9_tryNextDay 76 = .ok (.iconst 0, 1) := by decide +kernel
theorem dX9_tryNextDay_77 : decode cX9_tryNextDay 77 = .ok (.iaload, 1) := by decide +kernel
theorem dX9_tryNextDay_78 : decode cX9_tryNextDay 78 = .ok (.ireturn, 1) := by decide +kernel
def f9_tryNextDay_l34 (S : ph_Sh) (c : Nat) (p0 : Nat) : Nat → Int32 → ph_Mem → Option (Int32 × ph_Mem)
  | 0, _, _ => none
  | n + 1, x2, M => if (M.1 c 1) ≤ x2 then (some ((M.1 (c + 10) 0), M)) else (cond (ph_ib x2 6) ((f9_min_7cf53 S M (99999 : Int32) ((M.1 (c + 1) x2.toNatClampNeg) + (M.1 (c + 10) 1))).bind fun q3 => cond (ph_ib x2 6) (ph_let (ph_wi M (c + 1) x2.toNatClampNeg q3) fun M4 => (f9_tryNextDay_l34 S c p0 n) (x2 + (1 : Int32)) M4) none) none)
set_option maxHeartbeats 4000000 in
theorem jb_f9_tryNextDay_l34 {tb adK adV : Nat → Nat} {S : ph_Sh} {c : Nat} {p0 : Nat} {X : ph_X} {ad : Nat → Nat} {o : (Int32 × ph_Mem)} (h : ph_ok (ph_ZX tb adK adV) X cX9_tryNextDay RX9 (some .int) 3 2 S.2 ad) (fin : ph_fin X S.1 S.2 ad (some (.int o.1)) o.2) (hS : ph_SX S) (hc : ph_isS c) (hp0 : ph_isL p0) : ∀ (n : Nat) (x2 : Int32) (M : ph_Mem), ph_J X S.1 S.2 ad o 34 [(0, .ref (ad c)), (2, .int x2)] [] M (f9_tryNextDay_l34 S c p0 n x2 M) := by
  intro n
  induction n with
  | zero => intro x2 M; exact j_none
  | succ n hrc34 =>
    intro x2 M
    unfold f9_tryNextDay_l34
    refine j_iload_n h dX9_tryNextDay_34 rfl 1 rfl ?_
    refine j_aload_n h dX9_tryNextDay_35 rfl 0 rfl ?_
    refine j_get (c := c) (j := 1) (v := .int (M.1 c 1)) h (ph_S0n hS hc) (ph_S0 hS hc) rfl ph_inX9 rfl (by decide) tw_64 rfl rfl dX9_tryNextDay_36 ?_
    refine j_icmp_ge h 72 dX9_tryNextDay_39 (by decide) ?_ ?_
    · refine j_aload_n h dX9_tryNextDay_72 rfl 0 rfl ?_
      refine j_get (c := c) (j := 11) (v := .ref (ad (c + 10))) h (ph_S0n hS hc) (ph_S0 hS hc) rfl ph_inX9 rfl (by decide) tw_98 rfl rfl dX9_tryNextDay_73 ?_
      refine j_iconst (v := (0 : Int32)) h dX9_tryNextDay_76 (by decide) ?_
      refine j_ialdK (c := (c + 10)) (n := 5) (kn := 0) h (ph_S10n hS hc) (ph_S10 hS hc) rfl (by decide) dX9_tryNextDay_77 ?_
      exact j_iret h rfl fin dX9_tryNextDay_78
    · refine j_aload_n h dX9_tryNextDay_42 rfl 0 rfl ?_
      refine j_get (c := c) (j := 2) (v := .ref (ad (c + 1))) h (ph_S0n hS hc) (ph_S0 hS hc) rfl ph_inX9 rfl (by decide) tw_70 rfl rfl dX9_tryNextDay_43 ?_
      refine j_iload_n h dX9_tryNextDay_46 rfl 1 rfl ?_
      refine j_ldc (v := (99999 : Int32)) h dX9_tryNextDay_47 tw_870 ?_
      refine j_aload_n h dX9_tryNextDay_49 rfl 0 rfl ?_
      refine j_get (c := c) (j := 2) (v := .ref (ad (c + 1))) h (ph_S0n hS hc) (ph_S0 hS hc) rfl ph_inX9 rfl (by decide) tw_70 rfl rfl dX9_tryNextDay_50 ?_
      refine j_iload_n h dX9_tryNextDay_53 rfl 1 rfl ?_
      refine j_iald (c := (c + 1)) (n := 6) h (ph_S1n hS hc) (ph_S1 hS hc) dX9_tryNextDay_54 ?_
      refine j_aload_n h dX9_tryNextDay_55 rfl 0 rfl ?_
      refine j_get (c := c) (j := 11) (v := .ref (ad (c + 10))) h (ph_S0n hS hc) (ph_S0 hS hc) rfl ph_inX9 rfl (by decide) tw_98 rfl rfl dX9_tryNextDay_56 ?_
      refine j_iconst (v := (1 : Int32)) h dX9_tryNextDay_59 (by decide) ?_
      refine j_ialdK (c := (c + 10)) (n := 5) (kn := 1) h (ph_S10n hS hc) (ph_S10 hS hc) rfl (by decide) dX9_tryNextDay_60 ?_
      refine j_iadd h dX9_tryNextDay_61 ?_
      refine j_callSiP (n := 2) (As := [.int (99999 : Int32), .int ((M.1 (c + 1) x2.toNatClampNeg) + (M.1 (c + 10) 1))]) (rest := [.int x2, .ref (ad (c + 1))]) h tw_871 tw_508 tw_16 tw_509 ydf9_min_7cf53 (by decide) (by decide) (fun q hq => cf9_min_7cf53 (ph_okI h) trivial hq) rfl (Nat.le_of_ble_eq_true rfl) rfl dX9_tryNextDay_62 (fun q3 => ?_)
      refine j_iast (c := (c + 1)) (n := 6) h (ph_S1n hS hc) (ph_S1 hS hc) dX9_tryNextDay_65 ?_
      refine j_letM (fun M4 => ?_)
      refine j_iinc h [(2, .int (x2 + (1 : Int32))), (0, .ref (ad c))] dX9_tryNextDay_66 1 rfl rfl (by decide) rfl ?_
      refine j_goto h 34 dX9_tryNextDay_69 (by decide) ?_
      refine j_sub [1, 0] rfl ?_
      exact hrc34 (x2 + (1 : Int32)) M4
theorem ydf9_tryNextDay : ph_yd yX9_tryNextDay 1 := ⟨by decide, by decide, by decide +kernel⟩
def f9_tryNextDay (S : ph_Sh) (M : ph_Mem) (c : Nat) (p0 : Nat) : Option (Int32 × ph_Mem) :=
  if (M.1 (c + 10) 0) < (999 : Int32) then ((f1_add S M p0 (2 : Int32) (0 : Int32) c).bind fun q1 => ph_let (ph_wi q1 (c + 10) 0 ((q1.1 (c + 10) 0) + (1 : Int32))) fun M2 => f9_tryNextDay_l34 S c p0 10000 (0 : Int32) M2) else (some ((-3 : Int32), M))
set_option maxHeartbeats 4000000 in
theorem cf9_tryNextDay {tb adK adV : Nat → Nat} {S : ph_Sh} {c : Nat} {p0 : Nat} {l : Launch} {D : va_G} {cA : Nat → ClassId} {ad : Nat → Nat} (hinj : ∀ i j, i < S.2 → j < S.2 → ad i = ad j → i = j) (hS : ph_SX S) (hc : ph_isS c) (hp0 : ph_isL p0) {M : ph_Mem} {r : Int32} {M' : ph_Mem} (hf : f9_tryNextDay S M c p0 = some (r, M')) : ph_C (ph_ZX tb adK adV) l 2 yX9_tryNextDay cX9_tryNextDay 3 (some .int) D cA S.1 S.2 ad [.ref (ad c), .ref (ad p0)] M (some (.int r)) M' := by
  refine ph_mk ph_ZX_ok hinj (by decide) (Nat.le_of_ble_eq_true rfl) fun X h fin hE => ?_
  refine (?_ : ph_J X S.1 S.2 ad ((r, M') : (Int32 × ph_Mem)) 0 [(0, .ref (ad c)), (1, .ref (ad p0))] [] M (f9_tryNextDay S M c p0)) hf
  unfold f9_tryNextDay
  refine j_aload_n h dX9_tryNextDay_0 rfl 0 rfl ?_
  refine j_get (c := c) (j := 11) (v := .ref (ad (c + 10))) h (ph_S0n hS hc) (ph_S0 hS hc) rfl ph_inX9 rfl (by decide) tw_98 rfl rfl dX9_tryNextDay_1 ?_
  refine j_iconst (v := (0 : Int32)) h dX9_tryNextDay_4 (by decide) ?_
  refine j_ialdK (c := (c + 10)) (n := 5) (kn := 0) h (ph_S10n hS hc) (ph_S10 hS hc) rfl (by decide) dX9_tryNextDay_5 ?_
  refine j_sipush (v := (999 : Int32)) h dX9_tryNextDay_6 (by decide) ?_
  refine j_icmp_lt h 15 dX9_tryNextDay_9 (by decide) ?_ ?_
  · refine j_aload_n h dX9_tryNextDay_15 rfl 1 rfl ?_
    refine j_iconst (v := (2 : Int32)) h dX9_tryNextDay_16 (by decide) ?_
    refine j_iconst (v := (0 : Int32)) h dX9_tryNextDay_17 (by decide) ?_
    refine j_aload_n h dX9_tryNextDay_18 rfl 0 rfl ?_
    refine j_callVv (n := 3) (As := [.int (2 : Int32), .int (0 : Int32), .ref (ad c)]) (rest := []) h p0 tw_865 tw_866 tw_867 tw_6 tw_868 ydf1_add (by decide) (by decide) (ph_L0n hS hp0) (ph_L0 hS hp0) rfl (fun q hq => cf1_add (ph_okI h) hS hp0 hc hq) rfl (Nat.le_of_ble_eq_true rfl) rfl dX9_tryNextDay_19 (fun q1 => ?_)
    refine j_aload_n h dX9_tryNextDay_22 rfl 0 rfl ?_
    refine j_get (c := c) (j := 11) (v := .ref (ad (c + 10))) h (ph_S0n hS hc) (ph_S0 hS hc) rfl ph_inX9 rfl (by decide) tw_98 rfl rfl dX9_tryNextDay_23 ?_
    refine j_iconst (v := (0 : Int32)) h dX9_tryNextDay_26 (by decide) ?_
    refine j_dup2 h dX9_tryNextDay_27 rfl rfl ?_
    refine j_ialdK (c := (c + 10)) (n := 5) (kn := 0) h (ph_S10n hS hc) (ph_S10 hS hc) rfl (by decide) dX9_tryNextDay_28 ?_
    refine j_iconst (v := (1 : Int32)) h dX9_tryNextDay_29 (by decide) ?_
    refine j_iadd h dX9_tryNextDay_30 ?_
    refine j_iastK (c := (c + 10)) (n := 5) (kn := 0) h (ph_S10n hS hc) (ph_S10 hS hc) rfl (by decide) dX9_tryNextDay_31 ?_
    refine j_letM (fun M2 => ?_)
    refine j_iconst (v := (0 : Int32)) h dX9_tryNextDay_32 (by decide) ?_
    refine j_istore_n h [(2, .int (0 : Int32)), (0, .ref (ad c)), (1, .ref (ad p0))] dX9_tryNextDay_33 rfl (by decide) rfl ?_
    refine j_sub [1, 0] rfl ?_
    exact jb_f9_tryNextDay_l34 h fin hS hc hp0 10000 (0 : Int32) M2
  · refine j_bipush (v := (-3 : Int32)) h dX9_tryNextDay_12 (by decide) ?_
    exact j_iret h rfl fin dX9_tryNextDay_14
theorem dX9_tryPawn_0 : decode cX9_tryPawn 0 = .ok (.iload_n 1, 1) := by decide +kernel
theorem dX9_tryPawn_1 : decode cX9_tryPawn 1 = .ok (.iload_n 2, 1) := by decide +kernel
theorem dX9_tryPawn_2 : decode cX9_tryPawn 2 = .ok (.invokestatic 88, 3) := by decide +kernel
theorem dX9_tryPawn_5 : decode cX9_tryPawn 5 = .ok (.istore 4, 2) := by decide +kernel
theorem dX9_tryPawn_7 : decode cX9_tryPawn 7 = .ok (.aload_n 0, 1) := by decide +kernel
theorem dX9_tryPawn_8 : decode cX9_tryPawn 8 = .ok (.getfield 24, 3) := by decide +kernel
theorem dX9_tryPawn_11 : decode cX9_tryPawn 11 = .ok (.iload 4, 2) := by decide +kernel
theorem dX9_tryPawn_13 : decode cX9_tryPawn 13 = .ok (.iaload, 1) := by decide +kernel
theorem dX9_tryPawn_14 : decode cX9_tryPawn 14 = .ok (.ifCond .ne 20, 3) := by decide +kernel
theorem dX9_tryPawn_17 : decode cX9_tryPawn 17 = .ok (.aload_n 0, 1) := by decide +kernel
theorem dX9_tryPawn_18 : decode cX9_tryPawn 18 = .ok (.iconst 2, 1) := by decide +kernel
theorem dX9_tryPawn_19 : decode cX9_tryPawn 19 = .ok (.iload_n 1, 1) := by decide +kernel
theorem dX9_tryPawn_20 : decode cX9_tryPawn 20 = .ok (.iload_n 2, 1) := by decide +kernel
theorem dX9_tryPawn_21 : decode cX9_tryPawn 21 = .ok (.aload_n 0, 1) := by decide +kernel
theorem dX9_tryPawn_22 : decode cX9_tryPawn 22 = .ok (.getfield 39, 3) := by decide +kernel
theorem dX9_tryPawn_25 : decode cX9_tryPawn 25 = .ok (.iconst 0, 1) := by decide +kernel
theorem dX9_tryPawn_26 : decode cX9_tryPawn 26 = .ok (.iaload, 1) := by decide +kernel
theorem dX9_tryPawn_27 : decode cX9_tryPawn 27 = .ok (.invokevirtual 149, 3) := by decide +kernel
theorem dX9_tryPawn_30 : decode cX9_tryPawn 30 = .ok (.iconst 1, 1) := by decide +kernel
theorem dX9_tryPawn_31 : decode cX9_tryPawn 31 = .ok (.if_icmp .ne 6, 3) := by decide +kernel
theorem dX9_tryPawn_34 : decode cX9_tryPawn 34 = .ok (.bipush (-3), 2) := by decide +kernel
theorem dX9_tryPawn_36 : decode cX9_tryPawn 36 = .ok (.ireturn, 1) := by decide +kernel
theorem dX9_tryPawn_37 : decode cX9_tryPawn 37 = .ok (.aload_n 0, 1) := by decide +kernel
theorem dX9_tryPawn_38 : decode cX9_tryPawn 38 = .ok (.iconst 0, 1) := by decide +kernel
theorem dX9_tryPawn_39 : decode cX9_tryPawn 39 = .ok (.iload_n 1, 1) := by decide +kernel
theorem dX9_tryPawn_40 : decode cX9_tryPawn 40 = .ok (.iload_n 2, 1) := by decide +kernel
theorem dX9_tryPawn_41 : decode cX9_tryPawn 41 = .ok (.aload_n 0, 1) := by decide +kernel
theorem dX9_tryPawn_42 : decode cX9_tryPawn 42 = .ok (.getfield 39, 3) := by decide +kernel
theorem dX9_tryPawn_45 : decode cX9_tryPawn 45 = .ok (.iconst 0, 1) := by decide +kernel
theorem dX9_tryPawn_46 : decode cX9_tryPawn 46 = .ok (.iaload, 1) := by decide +kernel
theorem dX9_tryPawn_47 : decode cX9_tryPawn 47 = .ok (.invokevirtual 149, 3) := by decide +kernel
theorem dX9_tryPawn_50 : decode cX9_tryPawn 50 = .ok (.istore 5, 2) := by decide +kernel
theorem dX9_tryPawn_52 : decode cX9_tryPawn 52 = .ok (.aload_n 3, 1) := by decide +kernel
theorem dX9_tryPawn_53 : decode cX9_tryPawn 53 = .ok (.iconst 0, 1) := by decide +kernel
theorem dX9_tryPawn_54 : decode cX9_tryPawn 54 = .ok (.iload 4, 2) := by decide +kernel
theorem dX9_tryPawn_56 : decode cX9_tryPawn 56 = .ok (.aload_n 0, 1) := by decide +kernel
theorem dX9_tryPawn_57 : decode cX9_tryPawn 57 = .ok (.invokevirtual 153, 3) := by decide +kernel
theorem dX9_tryPawn_60 : decode cX9_tryPawn 60 = .ok (.aload_n 0, 1) := by decide +kernel
theorem dX9_tryPawn_61 : decode cX9_tryPawn 61 = .ok (.getfield 9, 3) := by decide +kernel
theorem dX9_tryPawn_64 : decode cX9_tryPawn 64 = .ok (.iload_n 1, 1) := by decide +kernel
theorem dX9_tryPawn_65 : decode cX9_tryPawn 65 = .ok (.ldc 159, 2) := by decide +kernel
theorem dX9_tryPawn_67 : decode cX9_tryPawn 67 = .ok (.aload_n 0, 1) := by decide +kernel
theorem dX9_tryPawn_68 : decode cX9_tryPawn 68 = .ok (.getfield 9, 3) := by decide +kernel
theorem dX9_tryPawn_71 : decode cX9_tryPawn 71 = .ok (.iload_n 1, 1) := by decide +kernel
theorem dX9_tryPawn_72 : decode cX9_tryPawn 72 = .ok (.iaload, 1) := by decide +kernel
theorem dX9_tryPawn_73 : decode cX9_tryPawn 73 = .ok (.iload 5, 2) := by decide +kernel
theorem dX9_tryPawn_75 : decode cX9_tryPawn 75 = .ok (.iadd, 1) := by decide +kernel
theorem dX9_tryPawn_76 : decode cX9_tryPawn 76 = .ok (.invokestatic 160, 3) := by decide +kernel
theorem dX9_tryPawn_79 : decode cX9_tryPawn 79 = .ok (.iastore, 1) := by decide +kernel
theorem dX9_tryPawn_80 : decode cX9_tryPawn 80 = .ok (.aload_n 0, 1) := by decide +kernel
theorem dX9_tryPawn_81 : decode cX9_tryPawn 81 = .ok (.iload 4, 2) := by decide +kernel
theorem dX9_tryPawn_83 : decode cX9_tryPawn 83 = .ok (.iconst 1, 1) := by decide +kernel
theorem dX9_tryPawn_84 : decode cX9_tryPawn 84 = .ok (.iload 5, 2) := by decide +kernel
theorem dX9_tryPawn_86 : decode cX9_tryPawn 86 = .ok (.aload_n 0, 1) := by decide +kernel
theorem dX9_tryPawn_87 : decode cX9_tryPawn 87 = .ok (.getfield 39, 3) := by decide +kernel
theorem dX9_tryPawn_90 : decode cX9_tryPawn 90 = .ok (.iconst 0, 1) := by decide +kernel
theorem dX9_tryPawn_91 : decode cX9_tryPawn 91 = .ok (.iaload, 1) := by decide +kernel
theorem dX9_tryPawn_92 : decode cX9_tryPawn 92 = .ok (.invokevirtual 162, 3) := by decide +kernel
theorem dX9_tryPawn_95 : decode cX9_tryPawn 95 = .ok (.iload 5, 2) := by decide +kernel
theorem dX9_tryPawn_97 : decode cX9_tryPawn 97 = .ok (.ireturn, 1) := by decide +kernel
theorem ydf9_tryPawn : ph_yd yX9_tryPawn 3 := ⟨by decide, by decide, by decide +kernel⟩
def f9_tryPawn (S : ph_Sh) (M : ph_Mem) (c : Nat) (p0 : Int32) (p1 : Int32) (p2 : Nat) : Option (Int32 × ph_Mem) :=
  (f11_placeOf S M p0 p1).bind fun q1 => cond (ph_ib q1 72) (if (M.1 (c + 5) q1.toNatClampNeg) = 0 then ((f9_ruled S M c (2 : Int32) p0 p1 (M.1 (c + 10) 0)).bind fun q2 => if q2.1 = (1 : Int32) then (some ((-3 : Int32), q2.2)) else ((f9_ruled S q2.2 c (0 : Int32) p0 p1 (q2.2.1 (c + 10) 0)).bind fun q3 => (f1_add S q3.2 p2 (0 : Int32) q1 c).bind fun q4 => cond (ph_ib p0 6) ((f9_min_7cf53 S q4 (99999 : Int32) ((q4.1 (c + 1) p0.toNatClampNeg) + q3.1)).bind fun q5 => cond (ph_ib p0 6) (ph_let (ph_wi q4 (c + 1) p0.toNatClampNeg q5) fun M6 => (f9_setState S M6 c q1 (1 : Int32) q3.1 (M6.1 (c + 10) 0)).bind fun q7 => some (q3.1, q7)) none) none)) else (some ((-3 : Int32), M))) none
set_option maxHeartbeats 4000000 in
theorem cf9_tryPawn {tb adK adV : Nat → Nat} {S : ph_Sh} {c : Nat} {p2 : Nat} {l : Launch} {D : va_G} {cA : Nat → ClassId} {ad : Nat → Nat} (hinj : ∀ i j, i < S.2 → j < S.2 → ad i = ad j → i = j) (hS : ph_SX S) (hc : ph_isS c) (hp2 : ph_isL p2) {M : ph_Mem} {p0 : Int32} {p1 : Int32} {r : Int32} {M' : ph_Mem} (hf : f9_tryPawn S M c p0 p1 p2 = some (r, M')) : ph_C (ph_ZX tb adK adV) l 3 yX9_tryPawn cX9_tryPawn 6 (some .int) D cA S.1 S.2 ad [.ref (ad c), .int p0, .int p1, .ref (ad p2)] M (some (.int r)) M' := by
  refine ph_mk ph_ZX_ok hinj (by decide) (Nat.le_of_ble_eq_true rfl) fun X h fin hE => ?_
  refine (?_ : ph_J X S.1 S.2 ad ((r, M') : (Int32 × ph_Mem)) 0 [(0, .ref (ad c)), (1, .int p0), (2, .int p1), (3, .ref (ad p2))] [] M (f9_tryPawn S M c p0 p1 p2)) hf
  unfold f9_tryPawn
  refine j_iload_n h dX9_tryPawn_0 rfl 1 rfl ?_
  refine j_iload_n h dX9_tryPawn_1 rfl 2 rfl ?_
  refine j_callNiP (n := 2) (As := [.int p0, .int p1]) (rest := []) h (by decide +kernel) tw_461 tw_1 tw_462 ydf11_placeOf (by decide) (by decide) (fun q hq => cf11_placeOf (ph_okI h) hS hq) rfl (Nat.le_of_ble_eq_true rfl) rfl dX9_tryPawn_2 (fun q1 => ?_)
  refine j_istore h [(4, .int q1), (0, .ref (ad c)), (1, .int p0), (2, .int p1), (3, .ref (ad p2))] dX9_tryPawn_5 (by decide) rfl ?_
  refine j_aload_n h dX9_tryPawn_7 rfl 1 rfl ?_
  refine j_get (c := c) (j := 6) (v := .ref (ad (c + 5))) h (ph_S0n hS hc) (ph_S0 hS hc) rfl ph_inX9 rfl (by decide) tw_84 rfl rfl dX9_tryPawn_8 ?_
  refine j_iload h dX9_tryPawn_11 0 rfl ?_
  refine j_iald (c := (c + 5)) (n := 72) h (ph_S5n hS hc) (ph_S5 hS hc) dX9_tryPawn_13 ?_
  refine j_if_ne h 34 dX9_tryPawn_14 (by decide) ?_ ?_
  · refine j_bipush (v := (-3 : Int32)) h dX9_tryPawn_34 (by decide) ?_
    exact j_iret h rfl fin dX9_tryPawn_36
  · refine j_aload_n h dX9_tryPawn_17 rfl 1 rfl ?_
    refine j_iconst (v := (2 : Int32)) h dX9_tryPawn_18 (by decide) ?_
    refine j_iload_n h dX9_tryPawn_19 rfl 2 rfl ?_
    refine j_iload_n h dX9_tryPawn_20 rfl 3 rfl ?_
    refine j_aload_n h dX9_tryPawn_21 rfl 1 rfl ?_
    refine j_get (c := c) (j := 11) (v := .ref (ad (c + 10))) h (ph_S0n hS hc) (ph_S0 hS hc) rfl ph_inX9 rfl (by decide) tw_98 rfl rfl dX9_tryPawn_22 ?_
    refine j_iconst (v := (0 : Int32)) h dX9_tryPawn_25 (by decide) ?_
    refine j_ialdK (c := (c + 10)) (n := 5) (kn := 0) h (ph_S10n hS hc) (ph_S10 hS hc) rfl (by decide) dX9_tryPawn_26 ?_
    refine j_callVi (n := 4) (As := [.int (2 : Int32), .int p0, .int p1, .int (M.1 (c + 10) 0)]) (rest := []) h c tw_878 tw_472 tw_473 tw_3 tw_474 ydf9_ruled (by decide) (by decide) (ph_S0n hS hc) (ph_S0 hS hc) rfl (fun q hq => cf9_ruled (ph_okI h) hS hc hq) rfl (Nat.le_of_ble_eq_true rfl) rfl dX9_tryPawn_27 (fun q2 => ?_)
    refine j_iconst (v := (1 : Int32)) h dX9_tryPawn_30 (by decide) ?_
    refine j_icmp_ne h 37 dX9_tryPawn_31 (by decide) ?_ ?_
    · refine j_aload_n h dX9_tryPawn_37 rfl 1 rfl ?_
      refine j_iconst (v := (0 : Int32)) h dX9_tryPawn_38 (by decide) ?_
      refine j_iload_n h dX9_tryPawn_39 rfl 2 rfl ?_
      refine j_iload_n h dX9_tryPawn_40 rfl 3 rfl ?_
      refine j_aload_n h dX9_tryPawn_41 rfl 1 rfl ?_
      refine j_get (c := c) (j := 11) (v := .ref (ad (c + 10))) h (ph_S0n hS hc) (ph_S0 hS hc) rfl ph_inX9 rfl (by decide) tw_98 rfl rfl dX9_tryPawn_42 ?_
      refine j_iconst (v := (0 : Int32)) h dX9_tryPawn_45 (by decide) ?_
      refine j_ialdK (c := (c + 10)) (n := 5) (kn := 0) h (ph_S10n hS hc) (ph_S10 hS hc) rfl (by decide) dX9_tryPawn_46 ?_
      refine j_callVi (n := 4) (As := [.int (0 : Int32), .int p0, .int p1, .int (q2.2.1 (c + 10) 0)]) (rest := []) h c tw_878 tw_472 tw_473 tw_3 tw_474 ydf9_ruled (by decide) (by decide) (ph_S0n hS hc) (ph_S0 hS hc) rfl (fun q hq => cf9_ruled (ph_okI h) hS hc hq) rfl (Nat.le_of_ble_eq_true rfl) rfl dX9_tryPawn_47 (fun q3 => ?_)
      refine j_istore h [(5, .int q3.1), (4, .int q1), (0, .ref (ad c)), (1, .int p0), (2, .int p1), (3, .ref (ad p2))] dX9_tryPawn_50 (by decide) rfl ?_
      refine j_aload_n h dX9_tryPawn_52 rfl 5 rfl ?_
      refine j_iconst (v := (0 : Int32)) h dX9_tryPawn_53 (by decide) ?_
      refine j_iload h dX9_tryPawn_54 1 rfl ?_
      refine j_aload_n h dX9_tryPawn_56 rfl 2 rfl ?_
      refine j_callVv (n := 3) (As := [.int (0 : Int32), .int q1, .ref (ad c)]) (rest := []) h p2 tw_865 tw_866 tw_867 tw_6 tw_868 ydf1_add (by decide) (by decide) (ph_L0n hS hp2) (ph_L0 hS hp2) rfl (fun q hq => cf1_add (ph_okI h) hS hp2 hc hq) rfl (Nat.le_of_ble_eq_true rfl) rfl dX9_tryPawn_57 (fun q4 => ?_)
      refine j_aload_n h dX9_tryPawn_60 rfl 2 rfl ?_
      refine j_get (c := c) (j := 2) (v := .ref (ad (c + 1))) h (ph_S0n hS hc) (ph_S0 hS hc) rfl ph_inX9 rfl (by decide) tw_70 rfl rfl dX9_tryPawn_61 ?_
      refine j_iload_n h dX9_tryPawn_64 rfl 3 rfl ?_
      refine j_ldc (v := (99999 : Int32)) h dX9_tryPawn_65 tw_870 ?_
      refine j_aload_n h dX9_tryPawn_67 rfl 2 rfl ?_
      refine j_get (c := c) (j := 2) (v := .ref (ad (c + 1))) h (ph_S0n hS hc) (ph_S0 hS hc) rfl ph_inX9 rfl (by decide) tw_70 rfl rfl dX9_tryPawn_68 ?_
      refine j_iload_n h dX9_tryPawn_71 rfl 3 rfl ?_
      refine j_iald (c := (c + 1)) (n := 6) h (ph_S1n hS hc) (ph_S1 hS hc) dX9_tryPawn_72 ?_
      refine j_iload h dX9_tryPawn_73 0 rfl ?_
      refine j_iadd h dX9_tryPawn_75 ?_
      refine j_callSiP (n := 2) (As := [.int (99999 : Int32), .int ((q4.1 (c + 1) p0.toNatClampNeg) + q3.1)]) (rest := [.int p0, .ref (ad (c + 1))]) h tw_871 tw_508 tw_16 tw_509 ydf9_min_7cf53 (by decide) (by decide) (fun q hq => cf9_min_7cf53 (ph_okI h) trivial hq) rfl (Nat.le_of_ble_eq_true rfl) rfl dX9_tryPawn_76 (fun q5 => ?_)
      refine j_iast (c := (c + 1)) (n := 6) h (ph_S1n hS hc) (ph_S1 hS hc) dX9_tryPawn_79 ?_
      refine j_letM (fun M6 => ?_)
      refine j_aload_n h dX9_tryPawn_80 rfl 2 rfl ?_
      refine j_iload h dX9_tryPawn_81 1 rfl ?_
      refine j_iconst (v := (1 : Int32)) h dX9_tryPawn_83 (by decide) ?_
      refine j_iload h dX9_tryPawn_84 0 rfl ?_
      refine j_aload_n h dX9_tryPawn_86 rfl 2 rfl ?_
      refine j_get (c := c) (j := 11) (v := .ref (ad (c + 10))) h (ph_S0n hS hc) (ph_S0 hS hc) rfl ph_inX9 rfl (by decide) tw_98 rfl rfl dX9_tryPawn_87 ?_
      refine j_iconst (v := (0 : Int32)) h dX9_tryPawn_90 (by decide) ?_
      refine j_ialdK (c := (c + 10)) (n := 5) (kn := 0) h (ph_S10n hS hc) (ph_S10 hS hc) rfl (by decide) dX9_tryPawn_91 ?_
      refine j_callVv (n := 4) (As := [.int q1, .int (1 : Int32), .int q3.1, .int (M6.1 (c + 10) 0)]) (rest := []) h c tw_879 tw_880 tw_881 tw_3 tw_882 ydf9_setState (by decide) (by decide) (ph_S0n hS hc) (ph_S0 hS hc) rfl (fun q hq => cf9_setState (ph_okI h) hS hc hq) rfl (Nat.le_of_ble_eq_true rfl) rfl dX9_tryPawn_92 (fun q7 => ?_)
      refine j_iload h dX9_tryPawn_95 0 rfl ?_
      exact j_iret h rfl fin dX9_tryPawn_97
    · refine j_bipush (v := (-3 : Int32)) h dX9_tryPawn_34 (by decide) ?_
      exact j_iret h rfl fin dX9_tryPawn_36
theorem dX9_tryRedeem_0 : decode cX9_tryRedeem 0 = .ok (.iload_n 1, 1) := by decide +kernel
theorem dX9_tryRedeem_1 : decode cX9_tryRedeem 1 = .ok (.iload_n 2, 1) := by decide +kernel
theorem dX9_tryRedeem_2 : decode cX9_tryRedeem 2 = .ok (.invokestatic 88, 3) := by decide +kernel
theorem dX9_tryRedeem_5 : decode cX9_tryRedeem 5 = .ok (.istore 4, 2) := by decide +kernel
theorem dX9_tryRedeem_7 : decode cX9_tryRedeem 7 = .ok (.aload_n 0, 1) := by decide +kernel
theorem dX9_tryRedeem_8 : decode cX9_tryRedeem 8 = .ok (.getfield 24, 3) := by decide +kernel
theorem dX9_tryRedeem_11 : decode cX9_tryRedeem 11 = .ok (.iload 4, 2) := by decide +kernel
theorem dX9_tryRedeem_13 : decode cX9_tryRedeem 13 = .ok (.iaload, 1) := by decide +kernel
theorem dX9_tryRedeem_14 : decode cX9_tryRedeem 14 = .ok (.iconst 1, 1) := by decide +kernel
theorem dX9_tryRedeem_15 : decode cX9_tryRedeem 15 = .ok (.if_icmp .eq 6, 3) := by decide +kernel
theorem dX9_tryRedeem_18 : decode cX9_tryRedeem 18 = .ok (.bipush (-3), 2) := by decide +kernel
theorem dX9_tryRedeem_20 : decode cX9_tryRedeem 20 = .ok (.ireturn, 1) := by decide +kernel
theorem dX9_tryRedeem_21 : decode cX9_tryRedeem 21 = .ok (.aload_n 0, 1) := by decide +kernel
theorem dX9_tryRedeem_22 : decode cX9_tryRedeem 22 = .ok (.iconst 1, 1) := by decide +kernel
theorem dX9_tryRedeem_23 : decode cX9_tryRedeem 23 = .ok (.iload_n 1, 1) := by decide +kernel
theorem dX9_tryRedeem_24 : decode cX9_tryRedeem 24 = .ok (.iload_n 2, 1) := by decide +kernel
theorem dX9_tryRedeem_25 : decode cX9_tryRedeem 25 = .ok (.aload_n 0, 1) := by decide +kernel
theorem dX9_tryRedeem_26 : decode cX9_tryRedeem 26 = .ok (.getfield 39, 3) := by decide +kernel
theorem dX9_tryRedeem_29 : decode cX9_tryRedeem 29 = .ok (.iconst 0, 1) := by decide +kernel
theorem dX9_tryRedeem_30 : decode cX9_tryRedeem 30 = .ok (.iaload, 1) := by decide +kernel
theorem dX9_tryRedeem_31 : decode cX9_tryRedeem 31 = .ok (.invokevirtual 149, 3) := by decide +kernel
theorem dX9_tryRedeem_34 : decode cX9_tryRedeem 34 = .ok (.istore 5, 2) := by decide +kernel
theorem dX9_tryRedeem_36 : decode cX9_tryRedeem 36 = .ok (.aload_n 0, 1) := by decide +kernel
theorem dX9_tryRedeem_37 : decode cX9_tryRedeem 37 = .ok (.getfield 9, 3) := by decide +kernel
theorem dX9_tryRedeem_40 : decode cX9_tryRedeem 40 = .ok (.iload_n 1, 1) := by decide +kernel
theorem dX9_tryRedeem_41 : decode cX9_tryRedeem 41 = .ok (.iaload, 1) := by decide +kernel
theorem dX9_tryRedeem_42 : decode cX9_tryRedeem 42 = .ok (.iload 5, 2) := by decide +kernel
theorem dX9_tryRedeem_44 : decode cX9_tryRedeem 44 = .ok (.if_icmp .ge 6, 3) := by decide +kernel
theorem dX9_tryRedeem_47 : decode cX9_tryRedeem 47 = .ok (.bipush (-3), 2) := by decide +kernel
theorem dX9_tryRedeem_49 : decode cX9_tryRedeem 49 = .ok (.ireturn, 1) := by decide +kernel
theorem dX9_tryRedeem_50 : decode cX9_tryRedeem 50 = .ok (.aload_n 3, 1) := by decide +kernel
theorem dX9_tryRedeem_51 : decode cX9_tryRedeem 51 = .ok (.iconst 1, 1) := by decide +kernel
theorem dX9_tryRedeem_52 : decode cX9_tryRedeem 52 = .ok (.iload 4, 2) := by decide +kernel
theorem dX9_tryRedeem_54 : decode cX9_tryRedeem 54 = .ok (.aload_n 0, 1) := by decide +kernel
theorem dX9_tryRedeem_55 : decode cX9_tryRedeem 55 = .ok (.invokevirtual 153, 3) := by decide +kernel
theorem dX9_tryRedeem_58 : decode cX9_tryRedeem 58 = .ok (.aload_n 0, 1) := by decide +kernel
theorem dX9_tryRedeem_59 : decode cX9_tryRedeem 59 = .ok (.getfield 9, 3) := by decide +kernel
theorem dX9_tryRedeem_62 : decode cX9_tryRedeem 62 = .ok (.iload_n 1, 1) := by decide +kernel
theorem dX9_tryRedeem_63 : decode cX9_tryRedeem 63 = .ok (.dup2, 1) := by decide +kernel
theorem dX9_tryRedeem_64 : decode cX9_tryRedeem 64 = .ok (.iaload, 1) := by decide +kernel
theorem dX9_tryRedeem_65 : decode cX9_tryRedeem 65 = .ok (.iload 5, 2) := by decide +kernel
theorem dX9_tryRedeem_67 : decode cX9_tryRedeem 67 = .ok (.isub, 1) := by decide +kernel
theorem dX9_tryRedeem_68 : decode cX9_tryRedeem 68 = .ok (.iastore, 1) := by decide +kernel
theorem dX9_tryRedeem_69 : decode cX9_tryRedeem 69 = .ok (.aload_n 0, 1) := by decide +kernel
theorem dX9_tryRedeem_70 : decode cX9_tryRedeem 70 = .ok (.iload 4, 2) := by decide +kernel
theorem dX9_tryRedeem_72 : decode cX9_tryRedeem 72 = .ok (.iconst 0, 1) := by decide +kernel
theorem dX9_tryRedeem_73 : decode cX9_tryRedeem 73 = .ok (.iconst (-1), 1) := by decide +kernel
theorem dX9_tryRedeem_74 : decode cX9_tryRedeem 74 = .ok (.iconst (-1), 1) := by decide +kernel
theorem dX9_tryRedeem_75 : decode cX9_tryRedeem 75 = .ok (.invokevirtual 162, 3) := by decide +kernel
theorem dX9_tryRedeem_78 : decode cX9_tryRedeem 78 = .ok (.iload 5, 2) := by decide +kernel
theorem dX9_tryRedeem_80 : decode cX9_tryRedeem 80 = .ok (.ireturn, 1) := by decide +kernel
theorem ydf9_tryRedeem : ph_yd yX9_tryRedeem 3 := ⟨by decide, by decide, by decide +kernel⟩
def f9_tryRedeem (S : ph_Sh) (M : ph_Mem) (c : Nat) (p0 : Int32) (p1 : Int32) (p2 : Nat) : Option (Int32 × ph_Mem) :=
  (f11_placeOf S M p0 p1).bind fun q1 => cond (ph_ib q1 72) (if (M.1 (c + 5) q1.toNatClampNeg) = (1 : Int32) then ((f9_ruled S M c (1 : Int32) p0 p1 (M.1 (c + 10) 0)).bind fun q2 => cond (ph_ib p0 6) (if q2.1 ≤ (q2.2.1 (c + 1) p0.toNatClampNeg) then ((f1_add S q2.2 p2 (1 : Int32) q1 c).bind fun q3 => cond (ph_ib p0 6) (cond (ph_ib p0 6) (ph_let (ph_wi q3 (c + 1) p0.toNatClampNeg ((q3.1 (c + 1) p0.toNatClampNeg) - q2.1)) fun M4 => (f9_setState S M4 c q1 (0 : Int32) (-1 : Int32) (-1 : Int32)).bind fun q5 => some (q2.1, q5)) none) none) else (some ((-3 : Int32), q2.2))) none) else (some ((-3 : Int32), M))) none
set_option maxHeartbeats 4000000 in
theorem cf9_tryRedeem {tb adK adV : Nat → Nat} {S : ph_Sh} {c : Nat} {p2 : Nat} {l : Launch} {D : va_G} {cA : Nat → ClassId} {ad : Nat → Nat} (hinj : ∀ i j, i < S.2 → j < S.2 → ad i = ad j → i = j) (hS : ph_SX S) (hc : ph_isS c) (hp2 : ph_isL p2) {M : ph_Mem} {p0 : Int32} {p1 : Int32} {r : Int32} {M' : ph_Mem} (hf : f9_tryRedeem S M c p0 p1 p2 = some (r, M')) : ph_C (ph_ZX tb adK adV) l 3 yX9_tryRedeem cX9_tryRedeem 6 (some .int) D cA S.1 S.2 ad [.ref (ad c), .int p0, .int p1, .ref (ad p2)] M (some (.int r)) M' := by
  refine ph_mk ph_ZX_ok hinj (by decide) (Nat.le_of_ble_eq_true rfl) fun X h fin hE => ?_
  refine (?_ : ph_J X S.1 S.2 ad ((r, M') : (Int32 × ph_Mem)) 0 [(0, .ref (ad c)), (1, .int p0), (2, .int p1), (3, .ref (ad p2))] [] M (f9_tryRedeem S M c p0 p1 p2)) hf
  unfold f9_tryRedeem
  refine j_iload_n h dX9_tryRedeem_0 rfl 1 rfl ?_
  refine j_iload_n h dX9_tryRedeem_1 rfl 2 rfl ?_
  refine j_callNiP (n := 2) (As := [.int p0, .int p1]) (rest := []) h (by decide +kernel) tw_461 tw_1 tw_462 ydf11_placeOf (by decide) (by decide) (fun q hq => cf11_placeOf (ph_okI h) hS hq) rfl (Nat.le_of_ble_eq_true rfl) rfl dX9_tryRedeem_2 (fun q1 => ?_)
  refine j_istore h [(4, .int q1), (0, .ref (ad c)), (1, .int p0), (2, .int p1), (3, .ref (ad p2))] dX9_tryRedeem_5 (by decide) rfl ?_
  refine j_aload_n h dX9_tryRedeem_7 rfl 1 rfl ?_
  refine j_get (c := c) (j := 6) (v := .ref (ad (c + 5))) h (ph_S0n hS hc) (ph_S0 hS hc) rfl ph_inX9 rfl (by decide) tw_84 rfl rfl dX9_tryRedeem_8 ?_
  refine j_iload h dX9_tryRedeem_11 0 rfl ?_
  refine j_iald (c := (c + 5)) (n := 72) h (ph_S5n hS hc) (ph_S5 hS hc) dX9_tryRedeem_13 ?_
  refine j_iconst (v := (1 : Int32)) h dX9_tryRedeem_14 (by decide) ?_
  refine j_icmp_eq h 21 dX9_tryRedeem_15 (by decide) ?_ ?_
  · refine j_aload_n h dX9_tryRedeem_21 rfl 1 rfl ?_
    refine j_iconst (v := (1 : Int32)) h dX9_tryRedeem_22 (by decide) ?_
    refine j_iload_n h dX9_tryRedeem_23 rfl 2 rfl ?_
    refine j_iload_n h dX9_tryRedeem_24 rfl 3 rfl ?_
    refine j_aload_n h dX9_tryRedeem_25 rfl 1 rfl ?_
    refine j_get (c := c) (j := 11) (v := .ref (ad (c + 10))) h (ph_S0n hS hc) (ph_S0 hS hc) rfl ph_inX9 rfl (by decide) tw_98 rfl rfl dX9_tryRedeem_26 ?_
    refine j_iconst (v := (0 : Int32)) h dX9_tryRedeem_29 (by decide) ?_
    refine j_ialdK (c := (c + 10)) (n := 5) (kn := 0) h (ph_S10n hS hc) (ph_S10 hS hc) rfl (by decide) dX9_tryRedeem_30 ?_
    refine j_callVi (n := 4) (As := [.int (1 : Int32), .int p0, .int p1, .int (M.1 (c + 10) 0)]) (rest := []) h c tw_878 tw_472 tw_473 tw_3 tw_474 ydf9_ruled (by decide) (by decide) (ph_S0n hS hc) (ph_S0 hS hc) rfl (fun q hq => cf9_ruled (ph_okI h) hS hc hq) rfl (Nat.le_of_ble_eq_true rfl) rfl dX9_tryRedeem_31 (fun q2 => ?_)
    refine j_istore h [(5, .int q2.1), (4, .int q1), (0, .ref (ad c)), (1, .int p0), (2, .int p1), (3, .ref (ad p2))] dX9_tryRedeem_34 (by decide) rfl ?_
    refine j_aload_n h dX9_tryRedeem_36 rfl 2 rfl ?_
    refine j_get (c := c) (j := 2) (v := .ref (ad (c + 1))) h (ph_S0n hS hc) (ph_S0 hS hc) rfl ph_inX9 rfl (by decide) tw_70 rfl rfl dX9_tryRedeem_37 ?_
    refine j_iload_n h dX9_tryRedeem_40 rfl 3 rfl ?_
    refine j_iald (c := (c + 1)) (n := 6) h (ph_S1n hS hc) (ph_S1 hS hc) dX9_tryRedeem_41 ?_
    refine j_iload h dX9_tryRedeem_42 0 rfl ?_
    refine j_icmp_ge h 50 dX9_tryRedeem_44 (by decide) ?_ ?_
    · refine j_aload_n h dX9_tryRedeem_50 rfl 5 rfl ?_
      refine j_iconst (v := (1 : Int32)) h dX9_tryRedeem_51 (by decide) ?_
      refine j_iload h dX9_tryRedeem_52 1 rfl ?_
      refine j_aload_n h dX9_tryRedeem_54 rfl 2 rfl ?_
      refine j_callVv (n := 3) (As := [.int (1 : Int32), .int q1, .ref (ad c)]) (rest := []) h p2 tw_865 tw_866 tw_867 tw_6 tw_868 ydf1_add (by decide) (by decide) (ph_L0n hS hp2) (ph_L0 hS hp2) rfl (fun q hq => cf1_add (ph_okI h) hS hp2 hc hq) rfl (Nat.le_of_ble_eq_true rfl) rfl dX9_tryRedeem_55 (fun q3 => ?_)
      refine j_aload_n h dX9_tryRedeem_58 rfl 2 rfl ?_
      refine j_get (c := c) (j := 2) (v := .ref (ad (c + 1))) h (ph_S0n hS hc) (ph_S0 hS hc) rfl ph_inX9 rfl (by decide) tw_70 rfl rfl dX9_tryRedeem_59 ?_
      refine j_iload_n h dX9_tryRedeem_62 rfl 3 rfl ?_
      refine j_dup2 h dX9_tryRedeem_63 rfl rfl ?_
      refine j_iald (c := (c + 1)) (n := 6) h (ph_S1n hS hc) (ph_S1 hS hc) dX9_tryRedeem_64 ?_
      refine j_iload h dX9_tryRedeem_65 0 rfl ?_
      refine j_isub h dX9_tryRedeem_67 ?_
      refine j_iast (c := (c + 1)) (n := 6) h (ph_S1n hS hc) (ph_S1 hS hc) dX9_tryRedeem_68 ?_
      refine j_letM (fun M4 => ?_)
      refine j_aload_n h dX9_tryRedeem_69 rfl 2 rfl ?_
      refine j_iload h dX9_tryRedeem_70 1 rfl ?_
      refine j_iconst (v := (0 : Int32)) h dX9_tryRedeem_72 (by decide) ?_
      refine j_iconst (v := (-1 : Int32)) h dX9_tryRedeem_73 (by decide) ?_
      refine j_iconst (v := (-1 : Int32)) h dX9_tryRedeem_74 (by decide) ?_
      refine j_callVv (n := 4) (As := [.int q1, .int (0 : Int32), .int (-1 : Int32), .int (-1 : Int32)]) (rest := []) h c tw_879 tw_880 tw_881 tw_3 tw_882 ydf9_setState (by decide) (by decide) (ph_S0n hS hc) (ph_S0 hS hc) rfl (fun q hq => cf9_setState (ph_okI h) hS hc hq) rfl (Nat.le_of_ble_eq_true rfl) rfl dX9_tryRedeem_75 (fun q5 => ?_)
      refine j_iload h dX9_tryRedeem_78 0 rfl ?_
      exact j_iret h rfl fin dX9_tryRedeem_80
    · refine j_bipush (v := (-3 : Int32)) h dX9_tryRedeem_47 (by decide) ?_
      exact j_iret h rfl fin dX9_tryRedeem_49
  · refine j_bipush (v := (-3 : Int32)) h dX9_tryRedeem_18 (by decide) ?_
    exact j_iret h rfl fin dX9_tryRedeem_20
