theorem dX12_row_0 : decode cX12_row 0 = .ok (.aload_n 0, 1) := by decide +kernel
theorem dX12_row_1 : decode cX12_row 1 = .ok (.iload_n 1, 1) := by decide +kernel
theorem dX12_row_2 : decode cX12_row 2 = .ok (.invokevirtual 146, 3) := by decide +kernel
theorem dX12_row_5 : decode cX12_row 5 = .ok (.ifCond .ne 10, 3) := by decide +kernel
theorem dX12_row_8 : decode cX12_row 8 = .ok (.aload_n 0, 1) := by decide +kernel
theorem dX12_row_9 : decode cX12_row 9 = .ok (.bipush (-2), 2) := by decide +kernel
theorem dX12_row_11 : decode cX12_row 11 = .ok (.invokevirtual 112, 3) := by decide +kernel
theorem dX12_row_14 : decode cX12_row 14 = .ok (.ireturn, 1) := by decide +kernel
theorem dX12_row_15 : decode cX12_row 15 = .ok (.aload_n 0, 1) := by decide +kernel
theorem dX12_row_16 : decode cX12_row 16 = .ok (.getfield 174, 3) := by decide +kernel
theorem dX12_row_19 : decode cX12_row 19 = .ok (.istore_n 2, 1) := by decide +kernel
theorem dX12_row_20 : decode cX12_row 20 = .ok (.aload_n 0, 1) := by decide +kernel
theorem dX12_row_21 : decode cX12_row 21 = .ok (.iconst 0, 1) := by decide +kernel
theorem dX12_row_22 : decode cX12_row 22 = .ok (.putfield 174, 3) := by decide +kernel
theorem dX12_row_25 : decode cX12_row 25 = .ok (.iload_n 2, 1) := by decide +kernel
theorem dX12_row_26 : decode cX12_row 26 = .ok (.ifCond .ne 10, 3) := by decide +kernel
theorem dX12_row_29 : decode cX12_row 29 = .ok (.aload_n 0, 1) := by decide +kernel
theorem dX12_row_30 : decode cX12_row 30 = .ok (.bipush (-6), 2) := by decide +kernel
theorem dX12_row_32 : decode cX12_row 32 = .ok (.invokevirtual 112, 3) := by decide +kernel
theorem dX12_row_35 : decode cX12_row 35 = .ok (.ireturn, 1) := by decide +kernel
theorem dX12_row_36 : decode cX12_row 36 = .ok (.iconst 0, 1) := by decide +kernel
theorem dX12_row_37 : decode cX12_row 37 = .ok (.istore_n 3, 1) := by decide +kernel
theorem dX12_row_38 : decode cX12_row 38 = .ok (.aload_n 0, 1) := by decide +kernel
theorem dX12_row_39 : decode cX12_row 39 = .ok (.iload_n 2, 1) := by decide +kernel
theorem dX12_row_40 : decode cX12_row 40 = .ok (.iconst 3, 1) := by decide +kernel
theorem dX12_row_41 : decode cX12_row 41 = .ok (.irem, 1) := by decide +kernel
theorem dX12_row_42 : decode cX12_row 42 = .ok (.ifCond .ne 7, 3) := by decide +kernel
theorem dX12_row_45 : decode cX12_row 45 = .ok (.iconst 0, 1) := by decide +kernel
theorem dX12_row_46 : decode cX12_row 46 = .ok (.goto 4, 3) := by decide +kernel
theorem dX12_row_49 : decode cX12_row 49 = .ok (.iconst 1, 1) := by decide +kernel
theorem dX12_row_50 : decode cX12_row 50 = .ok (.putfield 177, 3) := by decide +kernel
theorem dX12_row_53 : decode cX12_row 53 = .ok (.iconst 0, 1) := by decide +kernel
theorem dX12_row_54 : decode cX12_row 54 = .ok (.istore 4, 2) := by decide +kernel
theorem dX12_row_56 : decode cX12_row 56 = .ok (.iconst 3, 1) := by decide +kernel
theorem dX12_row_57 : decode cX12_row 57 = .ok (.iload 4, 2) := by decide +kernel
theorem dX12_row_59 : decode cX12_row 59 = .ok (.imul, 1) := by decide +kernel
theorem dX12_row_60 : decode cX12_row 60 = .ok (.iconst 3, 1) := by decide +kernel
theorem dX12_row_61 : decode cX12_row 61 = .ok (.iadd, 1) := by decide +kernel
theorem dX12_row_62 : decode cX12_row 62 = .ok (.iload_n 2, 1) := by decide +kernel
theorem dX12_row_63 : decode cX12_row 63 = .ok (.if_icmp .gt 197, 3) := by decide +kernel
theorem dX12_row_66 : decode cX12_row 66 = .ok (.aload_n 0, 1) := by decide +kernel
theorem dX12_row_67 : decode cX12_row 67 = .ok (.getfield 41, 3) := by decide +kernel
theorem dX12_row_70 : decode cX12_row 70 = .ok (.iconst 3, 1) := by decide +kernel
theorem dX12_row_71 : decode cX12_row 71 = .ok (.iload 4, 2) := by decide +kernel
theorem dX12_row_73 : decode cX12_row 73 = .ok (.imul, 1) := by decide +kernel
theorem dX12_row_74 : decode cX12_row 74 = .ok (.baload, 1) := by decide +kernel
theorem dX12_row_75 : decode cX12_row 75 = .ok (.iconst 1, 1) := by decide +kernel
theorem dX12_row_76 : decode cX12_row 76 = .ok (.isub, 1) := by decide +kernel
theorem dX12_row_77 : decode cX12_row 77 = .ok (.istore 5, 2) := by decide +kernel
theorem dX12_row_79 : decode cX12_row 79 = .ok (.iload 4, 2) := by decide +kernel
theorem dX12_row_81 : decode cX12_row 81 = .ok (.invokestatic 140, 3) := by decide +kernel
theorem dX12_row_84 : decode cX12_row 84 = .ok (.ifCond .eq 58, 3) := by decide +kernel
theorem dX12_row_87 : decode cX12_row 87 = .ok (.aload_n 0, 1) := by decide +kernel
theorem dX12_row_88 : decode cX12_row 88 = .ok (.iload_n 1, 1) := by decide +kernel
theorem dX12_row_89 : decode cX12_row 89 = .ok (.iconst 0, 1) := by decide +kernel
theorem dX12_row_90 : decode cX12_row 90 = .ok (.iload 5, 2) := by decide +kernel
theorem dX12_row_92 : decode cX12_row 92 = .ok (.invokevirtual 143, 3) := by decide +kernel
theorem dX12_row_95 : decode cX12_row 95 = .ok (.ifCond .eq 47, 3) := by decide +kernel
theorem dX12_row_98 : decode cX12_row 98 = .ok (.aload_n 0, 1) := by decide +kernel
theorem dX12_row_99 : decode cX12_row 99 = .ok (.iload_n 1, 1) := by decide +kernel
theorem dX12_row_100 : decode cX12_row 100 = .ok (.iconst 1, 1) := by decide +kernel
theorem dX12_row_101 : decode cX12_row 101 = .ok (.aload_n 0, 1) := by decide +kernel
theorem dX12_row_102 : decode cX12_row 102 = .ok (.getfield 41, 3) := by decide +kernel
theorem dX12_row_105 : decode cX12_row 105 = .ok (.iconst 3, 1) := by decide +kernel
theorem dX12_row_106 : decode cX12_row 106 = .ok (.iload 4, 2) := by decide +kernel
theorem dX12_row_108 : decode cX12_row 108 = .ok (.imul, 1) := by decide +kernel
theorem dX12_row_109 : decode cX12_row 109 = .ok (.iconst 1, 1) := by decide +kernel
theorem dX12_row_110 : decode cX12_row 110 = .ok (.iadd, 1) := by decide +kernel
theorem dX12_row_111 : decode cX12_row 111 = .ok (.baload, 1) := by decide +kernel
theorem dX12_row_112 : decode cX12_row 112 = .ok (.invokevirtual 143, 3) := by decide +kernel
theorem dX12_row_115 : decode cX12_row 115 = .ok (.ifCond .eq 27, 3) := by decide +kernel
theorem dX12_row_118 : decode cX12_row 118 = .ok (.aload_n 0, 1) := by decide +kernel
theorem dX12_row_119 : decode cX12_row 119 = .ok (.iload_n 1, 1) := by decide +kernel
theorem dX12_row_120 : decode cX12_row 120 = .ok (.iconst 2, 1) := by decide +kernel
theorem dX12_row_121 : decode cX12_row 121 = .ok (.aload_n 0, 1) := by decide +kernel
theorem dX12_row_122 : decode cX12_row 122 = .ok (.getfield 41, 3) := by decide +kernel
theorem dX12_row_125 : decode cX12_row 125 = .ok (.iconst 3, 1) := by decide +kernel
theorem dX12_row_126 : decode cX12_row 126 = .ok (.iload 4, 2) := by decide +kernel
theorem dX12_row_128 : decode cX12_row 128 = .ok (.imul, 1) := by decide +kernel
theorem dX12_row_129 : decode cX12_row 129 = .ok (.iconst 2, 1) := by decide +kernel
theorem dX12_row_130 : decode cX12_row 130 = .ok (.iadd, 1) := by decide +kernel
theorem dX12_row_131 : decode cX12_row 131 = .ok (.baload, 1) := by decide +kernel
theorem dX12_row_132 : decode cX12_row 132 = .ok (.invokevirtual 143, 3) := by decide +kernel
theorem dX12_row_135 : decode cX12_row 135 = .ok (.ifCond .eq 7, 3) := by decide +kernel
theorem dX12_row_138 : decode cX12_row 138 = .ok (.iconst 1, 1) := by decide +kernel
theorem dX12_row_139 : decode cX12_row 139 = .ok (.goto 4, 3) := by decide +kernel
theorem dX12_row_142 : decode cX12_row 142 = .ok (.iconst 0, 1) := by decide +kernel
theorem dX12_row_143 : decode cX12_row 143 = .ok (.istore 6, 2) := by decide +kernel
theorem dX12_row_145 : decode cX12_row 145 = .ok (.iload_n 3, 1) := by decide +kernel
theorem dX12_row_146 : decode cX12_row 146 = .ok (.iload 6, 2) := by decide +kernel
theorem dX12_row_148 : decode cX12_row 148 = .ok (.ifCond .eq 7, 3) := by decide +kernel
theorem dX12_row_151 : decode cX12_row 151 = .ok (.iconst 1, 1) := by decide +kernel
theorem dX12_row_152 : decode cX12_row 152 = .ok (.goto 4, 3) := by decide +kernel
theorem dX12_row_155 : decode cX12_row 155 = .ok (.iconst 0, 1) := by decide +kernel
theorem dX12_row_156 : decode cX12_row 156 = .ok (.iadd, 1) := by decide +kernel
theorem dX12_row_157 : decode cX12_row 157 = .ok (.istore_n 3, 1) := by decide +kernel
theorem dX12_row_158 : decode cX12_row 158 = .ok (.aload_n 0, 1) := by decide +kernel
theorem dX12_row_159 : decode cX12_row 159 = .ok (.dup, 1) := by decide +kernel
theorem dX12_row_160 : decode cX12_row 160 = .ok (.getfield 177, 3) := by decide +kernel
theorem dX12_row_163 : decode cX12_row 163 = .ok (.iload 6, 2) := by decide +kernel
theorem dX12_row_165 : decode cX12_row 165 = .ok (.ifCond .eq 7, 3) := by decide +kernel
theorem dX12_row_168 : decode cX12_row 168 = .ok (.iconst 0, 1) := by decide +kernel
theorem dX12_row_169 : decode cX12_row 169 = .ok (.goto 4, 3) := by decide +kernel
theorem dX12_row_172 : decode cX12_row 172 = .ok (.iconst 1, 1) := by decide +kernel
theorem dX12_row_173 : decode cX12_row 173 = .ok (.iadd, 1) := by decide +kernel
theorem dX12_row_174 : decode cX12_row 174 = .ok (.putfield 177, 3) := by decide +kernel
theorem dX12_row_177 : decode cX12_row 177 = .ok (.iload 6, 2) := by decide +kernel
theorem dX12_row_179 : decode cX12_row 179 = .ok (.ifCond .ne 6, 3) := by decide +kernel
theorem dX12_row_182 : decode cX12_row 182 = .ok (.goto 72, 3) := by decide +kernel
theorem dX12_row_185 : decode cX12_row 185 = .ok (.aload_n 0, 1) := by decide +kernel
theorem dX12_row_186 : decode cX12_row 186 = .ok (.getfield 24, 3) := by decide +kernel
theorem dX12_row_189 : decode cX12_row 189 = .ok (.sipush 223, 3) := by decide +kernel
theorem dX12_row_192 : decode cX12_row 192 = .ok (.iload_n 1, 1) := by decide +kernel
theorem dX12_row_193 : decode cX12_row 193 = .ok (.iload 4, 2) := by decide +kernel
theorem dX12_row_195 : decode cX12_row 195 = .ok (.invokestatic 122, 3) := by decide +kernel
theorem dX12_row_198 : decode cX12_row 198 = .ok (.iadd, 1) := by decide +kernel
theorem dX12_row_199 : decode cX12_row 199 = .ok (.iload 5, 2) := by decide +kernel
theorem dX12_row_201 : decode cX12_row 201 = .ok (.iastore, 1) := by decide +kernel
theorem dX12_row_202 : decode cX12_row 202 = .ok (.aload_n 0, 1) := by decide +kernel
theorem dX12_row_203 : decode cX12_row 203 = .ok (.getfield 24, 3) := by decide +kernel
theorem dX12_row_206 : decode cX12_row 206 = .ok (.sipush 295, 3) := by decide +kernel
theorem dX12_row_209 : decode cX12_row 209 = .ok (.iload_n 1, 1) := by decide +kernel
theorem dX12_row_210 : decode cX12_row 210 = .ok (.iload 4, 2) := by decide +kernel
theorem dX12_row_212 : decode cX12_row 212 = .ok (.invokestatic 122, 3) := by decide +kernel
theorem dX12_row_215 : decode cX12_row 215 = .ok (.iadd, 1) := by decide +kernel
theorem dX12_row_216 : decode cX12_row 216 = .ok (.aload_n 0, 1) := by decide +kernel
theorem dX12_row_217 : decode cX12_row 217 = .ok (.getfield 41, 3) := by decide +kernel
theorem dX12_row_220 : decode cX12_row 220 = .ok (.iconst 3, 1) := by decide +kernel
theorem dX12_row_221 : decode cX12_row 221 = .ok (.iload 4, 2) := by decide +kernel
theorem dX12_row_223 : decode cX12_row 223 = .ok (.imul, 1) := by decide +kernel
theorem dX12_row_224 : decode cX12_row 224 = .ok (.iconst 1, 1) := by decide +kernel
theorem dX12_row_225 : decode cX12_row 225 = .ok (.iadd, 1) := by decide +kernel
theorem dX12_row_226 : decode cX12_row 226 = .ok (.baload, 1) := by decide +kernel
theorem dX12_row_227 : decode cX12_row 227 = .ok (.iastore, 1) := by decide +kernel
theorem dX12_row_228 : decode cX12_row 228 = .ok (.aload_n 0, 1) := by decide +kernel
theorem dX12_row_229 : decode cX12_row 229 = .ok (.getfield 24, 3) := by decide +kernel
theorem dX12_row_232 : decode cX12_row 232 = .ok (.sipush 367, 3) := by decide +kernel
theorem dX12_row_235 : decode cX12_row 235 = .ok (.iload_n 1, 1) := by decide +kernel
theorem dX12_row_236 : decode cX12_row 236 = .ok (.iload 4, 2) := by decide +kernel
theorem dX12_row_238 : decode cX12_row 238 = .ok (.invokestatic 122, 3) := by decide +kernel
theorem dX12_row_241 : decode cX12_row 241 = .ok (.iadd, 1) := by decide +kernel
theorem dX12_row_242 : decode cX12_row 242 = .ok (.aload_n 0, 1) := by decide +kernel
theorem dX12_row_243 : decode cX12_row 243 = .ok (.getfield 41, 3) := by decide +kernel
theorem dX12_row_246 : decode cX12_row 246 = .ok (.iconst 3, 1) := by decide +kernel
theorem dX12_row_247 : decode cX12_row 247 = .ok (.iload 4, 2) := by decide +kernel
theorem dX12_row_249 : decode cX12_row 249 = .ok (.imul, 1) := by decide +kernel
theorem dX12_row_250 : decode cX12_row 250 = .ok (.iconst 2, 1) := by decide +kernel
theorem dX12_row_251 : decode cX12_row 251 = .ok (.iadd, 1) := by decide +kernel
theorem dX12_row_252 : decode cX12_row 252 = .ok (.baload, 1) := by decide +kernel
theorem dX12_row_253 : decode cX12_row 253 = .ok (.iastore, 1) := by decide +kernel
theorem dX12_row_254 : decode cX12_row 254 = .ok (.iinc 4 1, 3) := by decide +kernel
theorem dX12_row_257 : decode cX12_row 257 = .ok (.goto (-201), 3) := by decide +kernel
theorem dX12_row_260 : decode cX12_row 260 = .ok (.aload_n 0, 1) := by decide +kernel
theorem dX12_row_261 : decode cX12_row 261 = .ok (.iload_n 3, 1) := by decide +kernel
theorem dX12_row_262 : decode cX12_row 262 = .ok (.invokevirtual 115, 3) := by decide +kernel
theorem dX12_row_265 : decode cX12_row 265 = .ok (.ireturn, 1) := by decide +kernel
def f12_row_j254 (rc56 : Int32 → Int32 → Int32 → Int32 → ph_Mem → Option (Int32 × ph_Mem)) (x1 : Int32) (x2 : Int32) (x3 : Int32) (x4 : Int32) (M : ph_Mem) : Option (Int32 × ph_Mem) :=
  rc56 x1 x2 x3 (x4 + (1 : Int32)) M
set_option maxHeartbeats 4000000 in
theorem jb_f12_row_j254 {Z : (Nat → Prop) → State → Prop} {X : ph_X} {ad : Nat → Nat} {o : (Int32 × ph_Mem)} (h : ph_ok Z X cX12_row RX12 (some .int) 7 4 ph_NM ad) (fin : ph_fin X ph_kdM ph_NM ad (some (.int o.1)) o.2) {rc56 : Int32 → Int32 → Int32 → Int32 → ph_Mem → Option (Int32 × ph_Mem)} (hrc56 : ∀ (x1 : Int32) (x2 : Int32) (x3 : Int32) (x4 : Int32) (M : ph_Mem), ph_J X ph_kdM ph_NM ad o 56 [(0, .ref (ad 0)), (1, .int x1), (2, .int x2), (3, .int x3), (4, .int x4)] [] M (rc56 x1 x2 x3 x4 M)) : ∀ (x1 : Int32) (x2 : Int32) (x3 : Int32) (x4 : Int32) (M : ph_Mem), ph_J X ph_kdM ph_NM ad o 254 [(0, .ref (ad 0)), (1, .int x1), (2, .int x2), (3, .int x3), (4, .int x4)] [] M (f12_row_j254 rc56 x1 x2 x3 x4 M) := by
  intro x1 x2 x3 x4 M
  unfold f12_row_j254
  refine j_iinc h [(4, .int (x4 + (1 : Int32))), (0, .ref (ad 0)), (1, .int x1), (2, .int x2), (3, .int x3)] dX12_row_254 4 rfl rfl (by decide) rfl ?_
  refine j_goto h 56 dX12_row_257 (by decide) ?_
  refine j_sub [1, 2, 3, 4, 0] rfl ?_
  exact hrc56 x1 x2 x3 (x4 + (1 : Int32)) M
def f12_row_j173 (rc56 : Int32 → Int32 → Int32 → Int32 → ph_Mem → Option (Int32 × ph_Mem)) (x1 : Int32) (x2 : Int32) (x3 : Int32) (x4 : Int32) (x5 : Int32) (x6 : Int32) (s0 : Int32) (s1 : Int32) (M : ph_Mem) : Option (Int32 × ph_Mem) :=
  ph_let (ph_wi M 0 6 (s1 + s0)) fun M11 => if x6 = 0 then (f12_row_j254 rc56 x1 x2 x3 x4 M11) else ((f12_placeOf M11 x1 x4).bind fun q12 => cond (ph_ib ((223 : Int32) + q12) 6085) (ph_let (ph_wi M11 2 ((223 : Int32) + q12).toNatClampNeg x5) fun M13 => (f12_placeOf M13 x1 x4).bind fun q14 => cond (ph_ib (((3 : Int32) * x4) + (1 : Int32)) 400) (cond (ph_ib ((295 : Int32) + q14) 6085) (ph_let (ph_wi M13 2 ((295 : Int32) + q14).toNatClampNeg (M13.1 7 (((3 : Int32) * x4) + (1 : Int32)).toNatClampNeg)) fun M15 => (f12_placeOf M15 x1 x4).bind fun q16 => cond (ph_ib (((3 : Int32) * x4) + (2 : Int32)) 400) (cond (ph_ib ((367 : Int32) + q16) 6085) (ph_let (ph_wi M15 2 ((367 : Int32) + q16).toNatClampNeg (M15.1 7 (((3 : Int32) * x4) + (2 : Int32)).toNatClampNeg)) fun M17 => f12_row_j254 rc56 x1 x2 x3 x4 M17) none) none) none) none) none)
set_option maxHeartbeats 4000000 in
theorem jb_f12_row_j173 {Z : (Nat → Prop) → State → Prop} {X : ph_X} {ad : Nat → Nat} {o : (Int32 × ph_Mem)} (h : ph_ok Z X cX12_row RX12 (some .int) 7 4 ph_NM ad) (fin : ph_fin X ph_kdM ph_NM ad (some (.int o.1)) o.2) {rc56 : Int32 → Int32 → Int32 → Int32 → ph_Mem → Option (Int32 × ph_Mem)} (hrc56 : ∀ (x1 : Int32) (x2 : Int32) (x3 : Int32) (x4 : Int32) (M : ph_Mem), ph_J X ph_kdM ph_NM ad o 56 [(0, .ref (ad 0)), (1, .int x1), (2, .int x2), (3, .int x3), (4, .int x4)] [] M (rc56 x1 x2 x3 x4 M)) : ∀ (x1 : Int32) (x2 : Int32) (x3 : Int32) (x4 : Int32) (x5 : Int32) (x6 : Int32) (s0 : Int32) (s1 : Int32) (M : ph_Mem), ph_J X ph_kdM ph_NM ad o 173 [(0, .ref (ad 0)), (1, .int x1), (2, .int x2), (3, .int x3), (4, .int x4), (5, .int x5), (6, .int x6)] [.int s0, .int s1, .ref (ad 0)] M (f12_row_j173 rc56 x1 x2 x3 x4 x5 x6 s0 s1 M) := by
  intro x1 x2 x3 x4 x5 x6 s0 s1 M
  unfold f12_row_j173
  refine j_iadd h dX12_row_173 ?_
  refine j_puti (c := 0) (j := 6) (ty := .int) h (by decide) rfl rfl ph_inX12 tyX12 tyX12_ok nmX12 rfl (by decide) tw_1205 rfl rfl (tyX12_ok 6 (by decide)) rfl rfl dX12_row_174 ?_
  refine j_letM (fun M11 => ?_)
  refine j_iload h dX12_row_177 6 rfl ?_
  refine j_if_ne h 185 dX12_row_179 (by decide) ?_ ?_
  · refine j_aload_n h dX12_row_185 rfl 0 rfl ?_
    refine j_get (c := 0) (j := 2) (v := .ref (ad 2)) h (by decide) rfl rfl ph_inX12 rfl (by decide) tw_1201 rfl rfl dX12_row_186 ?_
    refine j_sipush (v := (223 : Int32)) h dX12_row_189 (by decide) ?_
    refine j_iload_n h dX12_row_192 rfl 1 rfl ?_
    refine j_iload h dX12_row_193 4 rfl ?_
    refine j_callSiP (n := 2) (As := [.int x1, .int x4]) (rest := [.int (223 : Int32), .ref (ad 2)]) h tw_1393 tw_1394 tw_14 tw_1395 ydf12_placeOf (by decide) (by decide) (fun q hq => cf12_placeOf (ph_okZ h) (ph_okI h) hq) rfl (Nat.le_of_ble_eq_true rfl) rfl dX12_row_195 (fun q12 => ?_)
    refine j_iadd h dX12_row_198 ?_
    refine j_iload h dX12_row_199 5 rfl ?_
    refine j_iast (c := 2) (n := 6085) h (by decide) rfl dX12_row_201 ?_
    refine j_letM (fun M13 => ?_)
    refine j_aload_n h dX12_row_202 rfl 0 rfl ?_
    refine j_get (c := 0) (j := 2) (v := .ref (ad 2)) h (by decide) rfl rfl ph_inX12 rfl (by decide) tw_1201 rfl rfl dX12_row_203 ?_
    refine j_sipush (v := (295 : Int32)) h dX12_row_206 (by decide) ?_
    refine j_iload_n h dX12_row_209 rfl 1 rfl ?_
    refine j_iload h dX12_row_210 4 rfl ?_
    refine j_callSiP (n := 2) (As := [.int x1, .int x4]) (rest := [.int (295 : Int32), .ref (ad 2)]) h tw_1393 tw_1394 tw_14 tw_1395 ydf12_placeOf (by decide) (by decide) (fun q hq => cf12_placeOf (ph_okZ h) (ph_okI h) hq) rfl (Nat.le_of_ble_eq_true rfl) rfl dX12_row_212 (fun q14 => ?_)
    refine j_iadd h dX12_row_215 ?_
    refine j_aload_n h dX12_row_216 rfl 0 rfl ?_
    refine j_get (c := 0) (j := 11) (v := .ref (ad 7)) h (by decide) rfl rfl ph_inX12 rfl (by decide) tw_1210 rfl rfl dX12_row_217 ?_
    refine j_iconst (v := (3 : Int32)) h dX12_row_220 (by decide) ?_
    refine j_iload h dX12_row_221 4 rfl ?_
    refine j_imul h dX12_row_223 ?_
    refine j_iconst (v := (1 : Int32)) h dX12_row_224 (by decide) ?_
    refine j_iadd h dX12_row_225 ?_
    refine j_bald (c := 7) (n := 400) h (by decide) rfl dX12_row_226 ?_
    refine j_iast (c := 2) (n := 6085) h (by decide) rfl dX12_row_227 ?_
    refine j_letM (fun M15 => ?_)
    refine j_aload_n h dX12_row_228 rfl 0 rfl ?_
    refine j_get (c := 0) (j := 2) (v := .ref (ad 2)) h (by decide) rfl rfl ph_inX12 rfl (by decide) tw_1201 rfl rfl dX12_row_229 ?_
    refine j_sipush (v := (367 : Int32)) h dX12_row_232 (by decide) ?_
    refine j_iload_n h dX12_row_235 rfl 1 rfl ?_
    refine j_iload h dX12_row_236 4 rfl ?_
    refine j_callSiP (n := 2) (As := [.int x1, .int x4]) (rest := [.int (367 : Int32), .ref (ad 2)]) h tw_1393 tw_1394 tw_14 tw_1395 ydf12_placeOf (by decide) (by decide) (fun q hq => cf12_placeOf (ph_okZ h) (ph_okI h) hq) rfl (Nat.le_of_ble_eq_true rfl) rfl dX12_row_238 (fun q16 => ?_)
    refine j_iadd h dX12_row_241 ?_
    refine j_aload_n h dX12_row_242 rfl 0 rfl ?_
    refine j_get (c := 0) (j := 11) (v := .ref (ad 7)) h (by decide) rfl rfl ph_inX12 rfl (by decide) tw_1210 rfl rfl dX12_row_243 ?_
    refine j_iconst (v := (3 : Int32)) h dX12_row_246 (by decide) ?_
    refine j_iload h dX12_row_247 4 rfl ?_
    refine j_imul h dX12_row_249 ?_
    refine j_iconst (v := (2 : Int32)) h dX12_row_250 (by decide) ?_
    refine j_iadd h dX12_row_251 ?_
    refine j_bald (c := 7) (n := 400) h (by decide) rfl dX12_row_252 ?_
    refine j_iast (c := 2) (n := 6085) h (by decide) rfl dX12_row_253 ?_
    refine j_letM (fun M17 => ?_)
    refine j_sub [0, 1, 2, 3, 4] rfl ?_
    exact jb_f12_row_j254 h fin hrc56 x1 x2 x3 x4 M17
  · refine j_goto h 254 dX12_row_182 (by decide) ?_
    refine j_sub [0, 1, 2, 3, 4] rfl ?_
    exact jb_f12_row_j254 h fin hrc56 x1 x2 x3 x4 M11
def f12_row_j156 (rc56 : Int32 → Int32 → Int32 → Int32 → ph_Mem → Option (Int32 × ph_Mem)) (x1 : Int32) (x2 : Int32) (x4 : Int32) (x5 : Int32) (x6 : Int32) (s0 : Int32) (s1 : Int32) (M : ph_Mem) : Option (Int32 × ph_Mem) :=
  if x6 = 0 then (f12_row_j173 rc56 x1 x2 (s1 + s0) x4 x5 x6 (1 : Int32) (M.1 0 6) M) else (f12_row_j173 rc56 x1 x2 (s1 + s0) x4 x5 x6 (0 : Int32) (M.1 0 6) M)
set_option maxHeartbeats 4000000 in
theorem jb_f12_row_j156 {Z : (Nat → Prop) → State → Prop} {X : ph_X} {ad : Nat → Nat} {o : (Int32 × ph_Mem)} (h : ph_ok Z X cX12_row RX12 (some .int) 7 4 ph_NM ad) (fin : ph_fin X ph_kdM ph_NM ad (some (.int o.1)) o.2) {rc56 : Int32 → Int32 → Int32 → Int32 → ph_Mem → Option (Int32 × ph_Mem)} (hrc56 : ∀ (x1 : Int32) (x2 : Int32) (x3 : Int32) (x4 : Int32) (M : ph_Mem), ph_J X ph_kdM ph_NM ad o 56 [(0, .ref (ad 0)), (1, .int x1), (2, .int x2), (3, .int x3), (4, .int x4)] [] M (rc56 x1 x2 x3 x4 M)) : ∀ (x1 : Int32) (x2 : Int32) (x4 : Int32) (x5 : Int32) (x6 : Int32) (s0 : Int32) (s1 : Int32) (M : ph_Mem), ph_J X ph_kdM ph_NM ad o 156 [(0, .ref (ad 0)), (1, .int x1), (2, .int x2), (4, .int x4), (5, .int x5), (6, .int x6)] [.int s0, .int s1] M (f12_row_j156 rc56 x1 x2 x4 x5 x6 s0 s1 M) := by
  intro x1 x2 x4 x5 x6 s0 s1 M
  unfold f12_row_j156
  refine j_iadd h dX12_row_156 ?_
  refine j_istore_n h [(3, .int (s1 + s0)), (0, .ref (ad 0)), (1, .int x1), (2, .int x2), (4, .int x4), (5, .int x5), (6, .int x6)] dX12_row_157 rfl (by decide) rfl ?_
  refine j_aload_n h dX12_row_158 rfl 1 rfl ?_
  refine j_dup h dX12_row_159 rfl ?_
  refine j_get (c := 0) (j := 6) (v := .int (M.1 0 6)) h (by decide) rfl rfl ph_inX12 rfl (by decide) tw_1205 rfl rfl dX12_row_160 ?_
  refine j_iload h dX12_row_163 6 rfl ?_
  refine j_if_eq h 172 dX12_row_165 (by decide) ?_ ?_
  · refine j_iconst (v := (1 : Int32)) h dX12_row_172 (by decide) ?_
    refine j_sub [1, 2, 3, 0, 4, 5, 6] rfl ?_
    exact jb_f12_row_j173 h fin hrc56 x1 x2 (s1 + s0) x4 x5 x6 (1 : Int32) (M.1 0 6) M
  · refine j_iconst (v := (0 : Int32)) h dX12_row_168 (by decide) ?_
    refine j_goto h 173 dX12_row_169 (by decide) ?_
    refine j_sub [1, 2, 3, 0, 4, 5, 6] rfl ?_
    exact jb_f12_row_j173 h fin hrc56 x1 x2 (s1 + s0) x4 x5 x6 (0 : Int32) (M.1 0 6) M
def f12_row_j143 (rc56 : Int32 → Int32 → Int32 → Int32 → ph_Mem → Option (Int32 × ph_Mem)) (x1 : Int32) (x2 : Int32) (x3 : Int32) (x4 : Int32) (x5 : Int32) (s0 : Int32) (M : ph_Mem) : Option (Int32 × ph_Mem) :=
  if s0 = 0 then (f12_row_j156 rc56 x1 x2 x4 x5 s0 (0 : Int32) x3 M) else (f12_row_j156 rc56 x1 x2 x4 x5 s0 (1 : Int32) x3 M)
set_option maxHeartbeats 4000000 in
theorem jb_f12_row_j143 {Z : (Nat → Prop) → State → Prop} {X : ph_X} {ad : Nat → Nat} {o : (Int32 × ph_Mem)} (h : ph_ok Z X cX12_row RX12 (some .int) 7 4 ph_NM ad) (fin : ph_fin X ph_kdM ph_NM ad (some (.int o.1)) o.2) {rc56 : Int32 → Int32 → Int32 → Int32 → ph_Mem → Option (Int32 × ph_Mem)} (hrc56 : ∀ (x1 : Int32) (x2 : Int32) (x3 : Int32) (x4 : Int32) (M : ph_Mem), ph_J X ph_kdM ph_NM ad o 56 [(0, .ref (ad 0)), (1, .int x1), (2, .int x2), (3, .int x3), (4, .int x4)] [] M (rc56 x1 x2 x3 x4 M)) : ∀ (x1 : Int32) (x2 : Int32) (x3 : Int32) (x4 : Int32) (x5 : Int32) (s0 : Int32) (M : ph_Mem), ph_J X ph_kdM ph_NM ad o 143 [(0, .ref (ad 0)), (1, .int x1), (2, .int x2), (3, .int x3), (4, .int x4), (5, .int x5)] [.int s0] M (f12_row_j143 rc56 x1 x2 x3 x4 x5 s0 M) := by
  intro x1 x2 x3 x4 x5 s0 M
  unfold f12_row_j143
  refine j_istore h [(6, .int s0), (0, .ref (ad 0)), (1, .int x1), (2, .int x2), (3, .int x3), (4, .int x4), (5, .int x5)] dX12_row_143 (by decide) rfl ?_
  refine j_iload_n h dX12_row_145 rfl 4 rfl ?_
  refine j_iload h dX12_row_146 0 rfl ?_
  refine j_if_eq h 155 dX12_row_148 (by decide) ?_ ?_
  · refine j_iconst (v := (0 : Int32)) h dX12_row_155 (by decide) ?_
    refine j_sub [1, 2, 3, 5, 6, 0] rfl ?_
    exact jb_f12_row_j156 h fin hrc56 x1 x2 x4 x5 s0 (0 : Int32) x3 M
  · refine j_iconst (v := (1 : Int32)) h dX12_row_151 (by decide) ?_
    refine j_goto h 156 dX12_row_152 (by decide) ?_
    refine j_sub [1, 2, 3, 5, 6, 0] rfl ?_
    exact jb_f12_row_j156 h fin hrc56 x1 x2 x4 x5 s0 (1 : Int32) x3 M
def f12_row_j142 (rc56 : Int32 → Int32 → Int32 → Int32 → ph_Mem → Option (Int32 × ph_Mem)) (x1 : Int32) (x2 : Int32) (x3 : Int32) (x4 : Int32) (x5 : Int32) (M : ph_Mem) : Option (Int32 × ph_Mem) :=
  f12_row_j143 rc56 x1 x2 x3 x4 x5 (0 : Int32) M
set_option maxHeartbeats 4000000 in
theorem jb_f12_row_j142 {Z : (Nat → Prop) → State → Prop} {X : ph_X} {ad : Nat → Nat} {o : (Int32 × ph_Mem)} (h : ph_ok Z X cX12_row RX12 (some .int) 7 4 ph_NM ad) (fin : ph_fin X ph_kdM ph_NM ad (some (.int o.1)) o.2) {rc56 : Int32 → Int32 → Int32 → Int32 → ph_Mem → Option (Int32 × ph_Mem)} (hrc56 : ∀ (x1 : Int32) (x2 : Int32) (x3 : Int32) (x4 : Int32) (M : ph_Mem), ph_J X ph_kdM ph_NM ad o 56 [(0, .ref (ad 0)), (1, .int x1), (2, .int x2), (3, .int x3), (4, .int x4)] [] M (rc56 x1 x2 x3 x4 M)) : ∀ (x1 : Int32) (x2 : Int32) (x3 : Int32) (x4 : Int32) (x5 : Int32) (M : ph_Mem), ph_J X ph_kdM ph_NM ad o 142 [(0, .ref (ad 0)), (1, .int x1), (2, .int x2), (3, .int x3), (4, .int x4), (5, .int x5)] [] M (f12_row_j142 rc56 x1 x2 x3 x4 x5 M) := by
  intro x1 x2 x3 x4 x5 M
  unfold f12_row_j142
  refine j_iconst (v := (0 : Int32)) h dX12_row_142 (by decide) ?_
  refine j_sub [0, 1, 2, 3, 4, 5] rfl ?_
  exact jb_f12_row_j143 h fin hrc56 x1 x2 x3 x4 x5 (0 : Int32) M
def f12_row_j260 (x3 : Int32) (M : ph_Mem) : Option (Int32 × ph_Mem) :=
  (f12_settled M x3).bind fun q18 => some (q18.1, q18.2)
set_option maxHeartbeats 4000000 in
theorem jb_f12_row_j260 {Z : (Nat → Prop) → State → Prop} {X : ph_X} {ad : Nat → Nat} {o : (Int32 × ph_Mem)} (h : ph_ok Z X cX12_row RX12 (some .int) 7 4 ph_NM ad) (fin : ph_fin X ph_kdM ph_NM ad (some (.int o.1)) o.2) : ∀ (x3 : Int32) (M : ph_Mem), ph_J X ph_kdM ph_NM ad o 260 [(0, .ref (ad 0)), (3, .int x3)] [] M (f12_row_j260 x3 M) := by
  intro x3 M
  unfold f12_row_j260
  refine j_aload_n h dX12_row_260 rfl 0 rfl ?_
  refine j_iload_n h dX12_row_261 rfl 1 rfl ?_
  refine j_callVi (n := 1) (As := [.int x3]) (rest := []) h 0 tw_1381 tw_1383 tp_51 tw_14 tw_1384 ydf12_settled (by decide) (by decide) (by decide) rfl rfl (fun q hq => cf12_settled (ph_okZ h) (ph_okI h) hq) rfl (Nat.le_of_ble_eq_true rfl) rfl dX12_row_262 (fun q18 => ?_)
  exact j_iret h rfl fin dX12_row_265
def f12_row_l56 : Nat → Int32 → Int32 → Int32 → Int32 → ph_Mem → Option (Int32 × ph_Mem)
  | 0, _, _, _, _, _ => none
  | n + 1, x1, x2, x3, x4, M => if x2 < (((3 : Int32) * x4) + (3 : Int32)) then (f12_row_j260 x3 M) else (cond (ph_ib ((3 : Int32) * x4) 400) (ph_let ((M.1 7 ((3 : Int32) * x4).toNatClampNeg) - (1 : Int32)) fun z6 => (f12_isHour M x4).bind fun q7 => if q7 = 0 then (f12_row_j142 (f12_row_l56 n) x1 x2 x3 x4 z6 M) else ((f12_isPut M x1 (0 : Int32) z6).bind fun q8 => if q8 = 0 then (f12_row_j142 (f12_row_l56 n) x1 x2 x3 x4 z6 M) else (cond (ph_ib (((3 : Int32) * x4) + (1 : Int32)) 400) ((f12_isPut M x1 (1 : Int32) (M.1 7 (((3 : Int32) * x4) + (1 : Int32)).toNatClampNeg)).bind fun q9 => if q9 = 0 then (f12_row_j142 (f12_row_l56 n) x1 x2 x3 x4 z6 M) else (cond (ph_ib (((3 : Int32) * x4) + (2 : Int32)) 400) ((f12_isPut M x1 (2 : Int32) (M.1 7 (((3 : Int32) * x4) + (2 : Int32)).toNatClampNeg)).bind fun q10 => if q10 = 0 then (f12_row_j142 (f12_row_l56 n) x1 x2 x3 x4 z6 M) else (f12_row_j143 (f12_row_l56 n) x1 x2 x3 x4 z6 (1 : Int32) M)) none)) none))) none)
set_option maxHeartbeats 4000000 in
theorem jb_f12_row_l56 {Z : (Nat → Prop) → State → Prop} {X : ph_X} {ad : Nat → Nat} {o : (Int32 × ph_Mem)} (h : ph_ok Z X cX12_row RX12 (some .int) 7 4 ph_NM ad) (fin : ph_fin X ph_kdM ph_NM ad (some (.int o.1)) o.2) : ∀ (n : Nat) (x1 : Int32) (x2 : Int32) (x3 : Int32) (x4 : Int32) (M : ph_Mem), ph_J X ph_kdM ph_NM ad o 56 [(0, .ref (ad 0)), (1, .int x1), (2, .int x2), (3, .int x3), (4, .int x4)] [] M (f12_row_l56 n x1 x2 x3 x4 M) := by
  intro n
  induction n with
  | zero => intro x1 x2 x3 x4 M; exact j_none
  | succ n hrc56 =>
    intro x1 x2 x3 x4 M
    unfold f12_row_l56
    refine j_iconst (v := (3 : Int32)) h dX12_row_56 (by decide) ?_
    refine j_iload h dX12_row_57 4 rfl ?_
    refine j_imul h dX12_row_59 ?_
    refine j_iconst (v := (3 : Int32)) h dX12_row_60 (by decide) ?_
    refine j_iadd h dX12_row_61 ?_
    refine j_iload_n h dX12_row_62 rfl 2 rfl ?_
    refine j_icmp_gt h 260 dX12_row_63 (by decide) ?_ ?_
    · refine j_sub [0, 3] rfl ?_
      exact jb_f12_row_j260 h fin x3 M
    · refine j_aload_n h dX12_row_66 rfl 0 rfl ?_
      refine j_get (c := 0) (j := 11) (v := .ref (ad 7)) h (by decide) rfl rfl ph_inX12 rfl (by decide) tw_1210 rfl rfl dX12_row_67 ?_
      refine j_iconst (v := (3 : Int32)) h dX12_row_70 (by decide) ?_
      refine j_iload h dX12_row_71 4 rfl ?_
      refine j_imul h dX12_row_73 ?_
      refine j_bald (c := 7) (n := 400) h (by decide) rfl dX12_row_74 ?_
      refine j_iconst (v := (1 : Int32)) h dX12_row_75 (by decide) ?_
      refine j_isub h dX12_row_76 ?_
      refine j_istore h [(5, .int ((M.1 7 ((3 : Int32) * x4).toNatClampNeg) - (1 : Int32))), (0, .ref (ad 0)), (1, .int x1), (2, .int x2), (3, .int x3), (4, .int x4)] dX12_row_77 (by decide) rfl ?_
      refine j_letI (lvf := fun z6 => [(5, .int z6), (0, .ref (ad 0)), (1, .int x1), (2, .int x2), (3, .int x3), (4, .int x4)]) (fun z6 => ?_)
      refine j_iload h dX12_row_79 5 rfl ?_
      refine j_callSiP (n := 1) (As := [.int x4]) (rest := []) h tw_1400 tw_1401 tw_14 tw_1402 ydf12_isHour (by decide) (by decide) (fun q hq => cf12_isHour (ph_okZ h) (ph_okI h) hq) rfl (Nat.le_of_ble_eq_true rfl) rfl dX12_row_81 (fun q7 => ?_)
      refine j_if_eq h 142 dX12_row_84 (by decide) ?_ ?_
      · refine j_sub [1, 2, 3, 4, 5, 0] rfl ?_
        exact jb_f12_row_j142 h fin hrc56 x1 x2 x3 x4 z6 M
      · refine j_aload_n h dX12_row_87 rfl 1 rfl ?_
        refine j_iload_n h dX12_row_88 rfl 2 rfl ?_
        refine j_iconst (v := (0 : Int32)) h dX12_row_89 (by decide) ?_
        refine j_iload h dX12_row_90 0 rfl ?_
        refine j_callViP (n := 3) (As := [.int x1, .int (0 : Int32), .int z6]) (rest := []) h 0 tw_1403 tw_1405 tp_53 tw_14 tw_1406 ydf12_isPut (by decide) (by decide) (by decide) rfl rfl (fun q hq => cf12_isPut (ph_okZ h) (ph_okI h) hq) rfl (Nat.le_of_ble_eq_true rfl) rfl dX12_row_92 (fun q8 => ?_)
        refine j_if_eq h 142 dX12_row_95 (by decide) ?_ ?_
        · refine j_sub [1, 2, 3, 4, 5, 0] rfl ?_
          exact jb_f12_row_j142 h fin hrc56 x1 x2 x3 x4 z6 M
        · refine j_aload_n h dX12_row_98 rfl 1 rfl ?_
          refine j_iload_n h dX12_row_99 rfl 2 rfl ?_
          refine j_iconst (v := (1 : Int32)) h dX12_row_100 (by decide) ?_
          refine j_aload_n h dX12_row_101 rfl 1 rfl ?_
          refine j_get (c := 0) (j := 11) (v := .ref (ad 7)) h (by decide) rfl rfl ph_inX12 rfl (by decide) tw_1210 rfl rfl dX12_row_102 ?_
          refine j_iconst (v := (3 : Int32)) h dX12_row_105 (by decide) ?_
          refine j_iload h dX12_row_106 5 rfl ?_
          refine j_imul h dX12_row_108 ?_
          refine j_iconst (v := (1 : Int32)) h dX12_row_109 (by decide) ?_
          refine j_iadd h dX12_row_110 ?_
          refine j_bald (c := 7) (n := 400) h (by decide) rfl dX12_row_111 ?_
          refine j_callViP (n := 3) (As := [.int x1, .int (1 : Int32), .int (M.1 7 (((3 : Int32) * x4) + (1 : Int32)).toNatClampNeg)]) (rest := []) h 0 tw_1403 tw_1405 tp_53 tw_14 tw_1406 ydf12_isPut (by decide) (by decide) (by decide) rfl rfl (fun q hq => cf12_isPut (ph_okZ h) (ph_okI h) hq) rfl (Nat.le_of_ble_eq_true rfl) rfl dX12_row_112 (fun q9 => ?_)
          refine j_if_eq h 142 dX12_row_115 (by decide) ?_ ?_
          · refine j_sub [1, 2, 3, 4, 5, 0] rfl ?_
            exact jb_f12_row_j142 h fin hrc56 x1 x2 x3 x4 z6 M
          · refine j_aload_n h dX12_row_118 rfl 1 rfl ?_
            refine j_iload_n h dX12_row_119 rfl 2 rfl ?_
            refine j_iconst (v := (2 : Int32)) h dX12_row_120 (by decide) ?_
            refine j_aload_n h dX12_row_121 rfl 1 rfl ?_
            refine j_get (c := 0) (j := 11) (v := .ref (ad 7)) h (by decide) rfl rfl ph_inX12 rfl (by decide) tw_1210 rfl rfl dX12_row_122 ?_
            refine j_iconst (v := (3 : Int32)) h dX12_row_125 (by decide) ?_
            refine j_iload h dX12_row_126 5 rfl ?_
            refine j_imul h dX12_row_128 ?_
            refine j_iconst (v := (2 : Int32)) h dX12_row_129 (by decide) ?_
            refine j_iadd h dX12_row_130 ?_
            refine j_bald (c := 7) (n := 400) h (by decide) rfl dX12_row_131 ?_
            refine j_callViP (n := 3) (As := [.int x1, .int (2 : Int32), .int (M.1 7 (((3 : Int32) * x4) + (2 : Int32)).toNatClampNeg)]) (rest := []) h 0 tw_1403 tw_1405 tp_53 tw_14 tw_1406 ydf12_isPut (by decide) (by decide) (by decide) rfl rfl (fun q hq => cf12_isPut (ph_okZ h) (ph_okI h) hq) rfl (Nat.le_of_ble_eq_true rfl) rfl dX12_row_132 (fun q10 => ?_)
            refine j_if_eq h 142 dX12_row_135 (by decide) ?_ ?_
            · refine j_sub [1, 2, 3, 4, 5, 0] rfl ?_
              exact jb_f12_row_j142 h fin hrc56 x1 x2 x3 x4 z6 M
            · refine j_iconst (v := (1 : Int32)) h dX12_row_138 (by decide) ?_
              refine j_goto h 143 dX12_row_139 (by decide) ?_
              refine j_sub [1, 2, 3, 4, 5, 0] rfl ?_
              exact jb_f12_row_j143 h fin hrc56 x1 x2 x3 x4 z6 (1 : Int32) M
def f12_row_j50 (x1 : Int32) (x2 : Int32) (x3 : Int32) (s0 : Int32) (M : ph_Mem) : Option (Int32 × ph_Mem) :=
  ph_let (ph_wi M 0 6 s0) fun M5 => f12_row_l56 10000 x1 x2 x3 (0 : Int32) M5
set_option maxHeartbeats 4000000 in
theorem jb_f12_row_j50 {Z : (Nat → Prop) → State → Prop} {X : ph_X} {ad : Nat → Nat} {o : (Int32 × ph_Mem)} (h : ph_ok Z X cX12_row RX12 (some .int) 7 4 ph_NM ad) (fin : ph_fin X ph_kdM ph_NM ad (some (.int o.1)) o.2) : ∀ (x1 : Int32) (x2 : Int32) (x3 : Int32) (s0 : Int32) (M : ph_Mem), ph_J X ph_kdM ph_NM ad o 50 [(0, .ref (ad 0)), (1, .int x1), (2, .int x2), (3, .int x3)] [.int s0, .ref (ad 0)] M (f12_row_j50 x1 x2 x3 s0 M) := by
  intro x1 x2 x3 s0 M
  unfold f12_row_j50
  refine j_puti (c := 0) (j := 6) (ty := .int) h (by decide) rfl rfl ph_inX12 tyX12 tyX12_ok nmX12 rfl (by decide) tw_1205 rfl rfl (tyX12_ok 6 (by decide)) rfl rfl dX12_row_50 ?_
  refine j_letM (fun M5 => ?_)
  refine j_iconst (v := (0 : Int32)) h dX12_row_53 (by decide) ?_
  refine j_istore h [(4, .int (0 : Int32)), (0, .ref (ad 0)), (1, .int x1), (2, .int x2), (3, .int x3)] dX12_row_54 (by decide) rfl ?_
  refine j_sub [1, 2, 3, 4, 0] rfl ?_
  exact jb_f12_row_l56 h fin 10000 x1 x2 x3 (0 : Int32) M5
theorem ydf12_row : ph_yd yX12_row 1 := ⟨by decide, by decide, by decide +kernel⟩
def f12_row (M : ph_Mem) (p0 : Int32) : Option (Int32 × ph_Mem) :=
  (f12_isPerson M p0).bind fun q1 => if q1 = 0 then ((f12_refuses M (-2 : Int32)).bind fun q4 => some (q4.1, q4.2)) else (ph_let (ph_wi M 0 13 (0 : Int32)) fun M2 => if (M.1 0 13) = 0 then ((f12_refuses M2 (-6 : Int32)).bind fun q3 => some (q3.1, q3.2)) else (if ((M.1 0 13) - (M.1 0 13) / (3 : Int32) * (3 : Int32)) = 0 then (f12_row_j50 p0 (M.1 0 13) (0 : Int32) (0 : Int32) M2) else (f12_row_j50 p0 (M.1 0 13) (0 : Int32) (1 : Int32) M2)))
set_option maxHeartbeats 4000000 in
theorem cf12_row {Z : (Nat → Prop) → State → Prop} (hZ : ph_Zok Z) {l : Launch} {D : va_G} {cA : Nat → ClassId} {ad : Nat → Nat} (hinj : ∀ i j, i < ph_NM → j < ph_NM → ad i = ad j → i = j) {M : ph_Mem} {p0 : Int32} {r : Int32} {M' : ph_Mem} (hf : f12_row M p0 = some (r, M')) : ph_C Z l 4 yX12_row cX12_row 7 (some .int) D cA ph_kdM ph_NM ad [.ref (ad 0), .int p0] M (some (.int r)) M' := by
  refine ph_mk hZ hinj (by decide) (Nat.le_of_ble_eq_true rfl) fun X h fin hE => ?_
  refine (?_ : ph_J X ph_kdM ph_NM ad ((r, M') : (Int32 × ph_Mem)) 0 [(0, .ref (ad 0)), (1, .int p0)] [] M (f12_row M p0)) hf
  unfold f12_row
  refine j_aload_n h dX12_row_0 rfl 0 rfl ?_
  refine j_iload_n h dX12_row_1 rfl 1 rfl ?_
  refine j_callViP (n := 1) (As := [.int p0]) (rest := []) h 0 tw_1418 tw_1420 tp_56 tw_14 tw_1421 ydf12_isPerson (by decide) (by decide) (by decide) rfl rfl (fun q hq => cf12_isPerson (ph_okZ h) (ph_okI h) hq) rfl (Nat.le_of_ble_eq_true rfl) rfl dX12_row_2 (fun q1 => ?_)
  refine j_if_ne h 15 dX12_row_5 (by decide) ?_ ?_
  · refine j_aload_n h dX12_row_15 rfl 0 rfl ?_
    refine j_get (c := 0) (j := 13) (v := .int (M.1 0 13)) h (by decide) rfl rfl ph_inX12 rfl (by decide) tw_1212 rfl rfl dX12_row_16 ?_
    refine j_istore_n h [(2, .int (M.1 0 13)), (0, .ref (ad 0)), (1, .int p0)] dX12_row_19 rfl (by decide) rfl ?_
    refine j_aload_n h dX12_row_20 rfl 1 rfl ?_
    refine j_iconst (v := (0 : Int32)) h dX12_row_21 (by decide) ?_
    refine j_puti (c := 0) (j := 13) (ty := .int) h (by decide) rfl rfl ph_inX12 tyX12 tyX12_ok nmX12 rfl (by decide) tw_1212 rfl rfl (tyX12_ok 13 (by decide)) rfl rfl dX12_row_22 ?_
    refine j_letM (fun M2 => ?_)
    refine j_iload_n h dX12_row_25 rfl 0 rfl ?_
    refine j_if_ne h 36 dX12_row_26 (by decide) ?_ ?_
    · refine j_iconst (v := (0 : Int32)) h dX12_row_36 (by decide) ?_
      refine j_istore_n h [(3, .int (0 : Int32)), (2, .int (M.1 0 13)), (0, .ref (ad 0)), (1, .int p0)] dX12_row_37 rfl (by decide) rfl ?_
      refine j_aload_n h dX12_row_38 rfl 2 rfl ?_
      refine j_iload_n h dX12_row_39 rfl 1 rfl ?_
      refine j_iconst (v := (3 : Int32)) h dX12_row_40 (by decide) ?_
      refine j_iremK h dX12_row_41 (by decide) ?_
      refine j_if_ne h 49 dX12_row_42 (by decide) ?_ ?_
      · refine j_iconst (v := (1 : Int32)) h dX12_row_49 (by decide) ?_
        refine j_sub [2, 3, 1, 0] rfl ?_
        exact jb_f12_row_j50 h fin p0 (M.1 0 13) (0 : Int32) (1 : Int32) M2
      · refine j_iconst (v := (0 : Int32)) h dX12_row_45 (by decide) ?_
        refine j_goto h 50 dX12_row_46 (by decide) ?_
        refine j_sub [2, 3, 1, 0] rfl ?_
        exact jb_f12_row_j50 h fin p0 (M.1 0 13) (0 : Int32) (0 : Int32) M2
    · refine j_aload_n h dX12_row_29 rfl 1 rfl ?_
      refine j_bipush (v := (-6 : Int32)) h dX12_row_30 (by decide) ?_
      refine j_callVi (n := 1) (As := [.int (-6 : Int32)]) (rest := []) h 0 tw_1369 tw_1371 tp_49 tw_14 tw_1372 ydf12_refuses (by decide) (by decide) (by decide) rfl rfl (fun q hq => cf12_refuses (ph_okZ h) (ph_okI h) hq) rfl (Nat.le_of_ble_eq_true rfl) rfl dX12_row_32 (fun q3 => ?_)
      exact j_iret h rfl fin dX12_row_35
  · refine j_aload_n h dX12_row_8 rfl 0 rfl ?_
    refine j_bipush (v := (-2 : Int32)) h dX12_row_9 (by decide) ?_
    refine j_callVi (n := 1) (As := [.int (-2 : Int32)]) (rest := []) h 0 tw_1369 tw_1371 tp_49 tw_14 tw_1372 ydf12_refuses (by decide) (by decide) (by decide) rfl rfl (fun q hq => cf12_refuses (ph_okZ h) (ph_okI h) hq) rfl (Nat.le_of_ble_eq_true rfl) rfl dX12_row_11 (fun q4 => ?_)
    exact j_iret h rfl fin dX12_row_14
theorem dX12_rain_0 : decode cX12_rain 0 = .ok (.aload_n 0, 1) := by decide +kernel
theorem dX12_rain_1 : decode cX12_rain 1 = .ok (.getfield 177, 3) := by decide +kernel
theorem dX12_rain_4 : decode cX12_rain 4 = .ok (.ireturn, 1) := by decide +kernel
theorem ydf12_rain : ph_yd yX12_rain 0 := ⟨by decide, by decide, by decide +kernel⟩
def f12_rain (M : ph_Mem) : Option Int32 :=
  some (M.1 0 6)
set_option maxHeartbeats 4000000 in
theorem cf12_rain {Z : (Nat → Prop) → State → Prop} (hZ : ph_Zok Z) {l : Launch} {D : va_G} {cA : Nat → ClassId} {ad : Nat → Nat} (hinj : ∀ i j, i < ph_NM → j < ph_NM → ad i = ad j → i = j) {M : ph_Mem} {r : Int32} (hf : f12_rain M  = some r) : ph_C Z l 0 yX12_rain cX12_rain 1 (some .int) D cA ph_kdM ph_NM ad [.ref (ad 0)] M (some (.int r)) M := by
  refine ph_mk hZ hinj (by decide) (Nat.le_of_ble_eq_true rfl) fun X h fin hE => ?_
  refine (?_ : ph_J X ph_kdM ph_NM ad (r : Int32) 0 [(0, .ref (ad 0))] [] M (f12_rain M )) hf
  unfold f12_rain
  refine j_aload_n h dX12_rain_0 rfl 0 rfl ?_
  refine j_get (c := 0) (j := 6) (v := .int (M.1 0 6)) h (by decide) rfl rfl ph_inX12 rfl (by decide) tw_1205 rfl rfl dX12_rain_1 ?_
  exact j_iretP h rfl fin dX12_rain_4
theorem dX12_feed_0 : decode cX12_feed 0 = .ok (.aload_n 0, 1) := by decide +kernel
theorem dX12_feed_1 : decode cX12_feed 1 = .ok (.getfield 174, 3) := by decide +kernel
theorem dX12_feed_4 : decode cX12_feed 4 = .ok (.bipush 20, 2) := by decide +kernel
theorem dX12_feed_6 : decode cX12_feed 6 = .ok (.iadd, 1) := by decide +kernel
theorem dX12_feed_7 : decode cX12_feed 7 = .ok (.sipush 400, 3) := by decide +kernel
theorem dX12_feed_10 : decode cX12_feed 10 = .ok (.if_icmp .le 5, 3) := by decide +kernel
theorem dX12_feed_13 : decode cX12_feed 13 = .ok (.iconst (-1), 1) := by decide +kernel
theorem dX12_feed_14 : decode cX12_feed 14 = .ok (.ireturn, 1) := by decide +kernel
theorem dX12_feed_15 : decode cX12_feed 15 = .ok (.aload_n 0, 1) := by decide +kernel
theorem dX12_feed_16 : decode cX12_feed 16 = .ok (.getfield 44, 3) := by decide +kernel
theorem dX12_feed_19 : decode cX12_feed 19 = .ok (.iconst 0, 1) := by decide +kernel
theorem dX12_feed_20 : decode cX12_feed 20 = .ok (.iload_n 1, 1) := by decide +kernel
theorem dX12_feed_21 : decode cX12_feed 21 = .ok (.iastore, 1) := by decide +kernel
theorem dX12_feed_22 : decode cX12_feed 22 = .ok (.aload_n 0, 1) := by decide +kernel
theorem dX12_feed_23 : decode cX12_feed 23 = .ok (.getfield 44, 3) := by decide +kernel
theorem dX12_feed_26 : decode cX12_feed 26 = .ok (.iconst 1, 1) := by decide +kernel
theorem dX12_feed_27 : decode cX12_feed 27 = .ok (.iload_n 2, 1) := by decide +kernel
theorem dX12_feed_28 : decode cX12_feed 28 = .ok (.iastore, 1) := by decide +kernel
theorem dX12_feed_29 : decode cX12_feed 29 = .ok (.aload_n 0, 1) := by decide +kernel
theorem dX12_feed_30 : decode cX12_feed 30 = .ok (.getfield 44, 3) := by decide +kernel
theorem dX12_feed_33 : decode cX12_feed 33 = .ok (.iconst 2, 1) := by decide +kernel
theorem dX12_feed_34 : decode cX12_feed 34 = .ok (.iload_n 3, 1) := by decide +kernel
theorem dX12_feed_35 : decode cX12_feed 35 = .ok (.iastore, 1) := by decide +kernel
theorem dX12_feed_36 : decode cX12_feed 36 = .ok (.aload_n 0, 1) := by decide +kernel
theorem dX12_feed_37 : decode cX12_feed 37 = .ok (.getfield 44, 3) := by decide +kernel
theorem dX12_feed_40 : decode cX12_feed 40 = .ok (.iconst 3, 1) := by decide +kernel
theorem dX12_feed_41 : decode cX12_feed 41 = .ok (.iload 4, 2) := by decide +kernel
theorem dX12_feed_43 : decode cX12_feed 43 = .ok (.iastore, 1) := by decide +kernel
theorem dX12_feed_44 : decode cX12_feed 44 = .ok (.aload_n 0, 1) := by decide +kernel
theorem dX12_feed_45 : decode cX12_feed 45 = .ok (.getfield 44, 3) := by decide +kernel
theorem dX12_feed_48 : decode cX12_feed 48 = .ok (.iconst 4, 1) := by decide +kernel
theorem dX12_feed_49 : decode cX12_feed 49 = .ok (.iload 5, 2) := by decide +kernel
theorem dX12_feed_51 : decode cX12_feed 51 = .ok (.iastore, 1) := by decide +kernel
theorem dX12_feed_52 : decode cX12_feed 52 = .ok (.iconst 0, 1) := by decide +kernel
theorem dX12_feed_53 : decode cX12_feed 53 = .ok (.istore 6, 2) := by decide +kernel
theorem dX12_feed_55 : decode cX12_feed 55 = .ok (.iload 6, 2) := by decide +kernel
theorem dX12_feed_57 : decode cX12_feed 57 = .ok (.bipush 20, 2) := by decide +kernel
theorem dX12_feed_59 : decode cX12_feed 59 = .ok (.if_icmp .ge 42, 3) := by decide +kernel
theorem dX12_feed_62 : decode cX12_feed 62 = .ok (.aload_n 0, 1) := by decide +kernel
theorem dX12_feed_63 : decode cX12_feed 63 = .ok (.getfield 41, 3) := by decide +kernel
theorem dX12_feed_66 : decode cX12_feed 66 = .ok (.aload_n 0, 1) := by decide +kernel
theorem dX12_feed_67 : decode cX12_feed 67 = .ok (.getfield 174, 3) := by decide +kernel
theorem dX12_feed_70 : decode cX12_feed 70 = .ok (.iload 6, 2) := by decide +kernel
theorem dX12_feed_72 : decode cX12_feed 72 = .ok (.iadd, 1) := by decide +kernel
theorem dX12_feed_73 : decode cX12_feed 73 = .ok (.aload_n 0, 1) := by decide +kernel
theorem dX12_feed_74 : decode cX12_feed 74 = .ok (.getfield 44, 3) := by decide +kernel
theorem dX12_feed_77 : decode cX12_feed 77 = .ok (.iload 6, 2) := by decide +kernel
theorem dX12_feed_79 : decode cX12_feed 79 = .ok (.iconst 4, 1) := by decide +kernel
theorem dX12_feed_80 : decode cX12_feed 80 = .ok (.idiv, 1) := by decide +kernel
theorem dX12_feed_81 : decode cX12_feed 81 = .ok (.iaload, 1) := by decide +kernel
theorem dX12_feed_82 : decode cX12_feed 82 = .ok (.bipush 24, 2) := by decide +kernel
theorem dX12_feed_84 : decode cX12_feed 84 = .ok (.bipush 8, 2) := by decide +kernel
theorem dX12_feed_86 : decode cX12_feed 86 = .ok (.iload 6, 2) := by decide +kernel
theorem dX12_feed_88 : decode cX12_feed 88 = .ok (.iconst 4, 1) := by decide +kernel
theorem dX12_feed_89 : decode cX12_feed 89 = .ok (.irem, 1) := by decide +kernel
theorem dX12_feed_90 : decode cX12_feed 90 = .ok (.imul, 1) := by decide +kernel
theorem dX12_feed_91 : decode cX12_feed 91 = .ok (.isub, 1) := by decide +kernel
theorem dX12_feed_92 : decode cX12_feed 92 = .ok (.ishr, 1) := by decide +kernel
theorem dX12_feed_93 : decode cX12_feed 93 = .ok (.i2b, 1) := by decide +kernel
theorem dX12_feed_94 : decode cX12_feed 94 = .ok (.bastore, 1) := by decide +kernel
theorem dX12_feed_95 : decode cX12_feed 95 = .ok (.iinc 6 1, 3) := by decide +kernel
theorem dX12_feed_98 : decode cX12_feed 98 = .ok (.goto (-43), 3) := by decide +kernel
theorem dX12_feed_101 : decode cX12_feed 101 = .ok (.aload_n 0, 1) := by decide +kernel
theorem dX12_feed_102 : decode cX12_feed 102 = .ok (.dup, 1) := by decide +kernel
theorem dX12_feed_103 : decode cX12_feed 103 = .ok (.getfield 174, 3) := by decide +kernel
theorem dX12_feed_106 : decode cX12_feed 106 = .ok (.bipush 20, 2) := by decide +kernel
theorem dX12_feed_108 : decode cX12_feed 108 = .ok (.iadd, 1) := by decide +kernel
theorem dX12_feed_109 : decode cX12_feed 109 = .ok (.putfield 174, 3) := by decide +kernel
theorem dX12_feed_112 : decode cX12_feed 112 = .ok (.aload_n 0, 1) := by decide +kernel
theorem dX12_feed_113 : decode cX12_feed 113 = .ok (.getfield 174, 3) := by decide +kernel
theorem dX12_feed_116 : decode cX12_feed 116 = .ok (.ireturn, 1) := by decide +kernel
def f12_feed_j101 (M : ph_Mem) : Option (Int32 × ph_Mem) :=
  ph_let (ph_wi M 0 13 ((M.1 0 13) + (20 : Int32))) fun M7 => some ((M7.1 0 13), M7)
set_option maxHeartbeats 4000000 in
theorem jb_f12_feed_j101 {Z : (Nat → Prop) → State → Prop} {X : ph_X} {ad : Nat → Nat} {o : (Int32 × ph_Mem)} (h : ph_ok Z X cX12_feed RX12 (some .int) 7 0 ph_NM ad) (fin : ph_fin X ph_kdM ph_NM ad (some (.int o.1)) o.2) : ∀ (M : ph_Mem), ph_J X ph_kdM ph_NM ad o 101 [(0, .ref (ad 0))] [] M (f12_feed_j101 M) := by
  intro M
  unfold f12_feed_j101
  refine j_aload_n h dX12_feed_101 rfl 0 rfl ?_
  refine j_dup h dX12_feed_102 rfl ?_
  refine j_get (c := 0) (j := 13) (v := .int (M.1 0 13)) h (by decide) rfl rfl ph_inX12 rfl (by decide) tw_1212 rfl rfl dX12_feed_103 ?_
  refine j_bipush (v := (20 : Int32)) h dX12_feed_106 (by decide) ?_
  refine j_iadd h dX12_feed_108 ?_
  refine j_puti (c := 0) (j := 13) (ty := .int) h (by decide) rfl rfl ph_inX12 tyX12 tyX12_ok nmX12 rfl (by decide) tw_1212 rfl rfl (tyX12_ok 13 (by decide)) rfl rfl dX12_feed_109 ?_
  refine j_letM (fun M7 => ?_)
  refine j_aload_n h dX12_feed_112 rfl 0 rfl ?_
  refine j_get (c := 0) (j := 13) (v := .int (M7.1 0 13)) h (by decide) rfl rfl ph_inX12 rfl (by decide) tw_1212 rfl rfl dX12_feed_113 ?_
  exact j_iret h rfl fin dX12_feed_116
def f12_feed_l55 : Nat → Int32 → ph_Mem → Option (Int32 × ph_Mem)
  | 0, _, _ => none
  | n + 1, x6, M => if (20 : Int32) ≤ x6 then (f12_feed_j101  M) else (cond (ph_ib (x6 / (4 : Int32)) 5) (cond (ph_ib ((M.1 0 13) + x6) 400) (ph_let (ph_wi M 7 ((M.1 0 13) + x6).toNatClampNeg (vp_nar .byte ((M.1 8 (x6 / (4 : Int32)).toNatClampNeg) >>> (((24 : Int32) - ((8 : Int32) * (x6 - x6 / (4 : Int32) * (4 : Int32)))) &&& 31)).toInt8.toInt32)) fun M6 => (f12_feed_l55 n) (x6 + (1 : Int32)) M6) none) none)
set_option maxHeartbeats 4000000 in
theorem jb_f12_feed_l55 {Z : (Nat → Prop) → State → Prop} {X : ph_X} {ad : Nat → Nat} {o : (Int32 × ph_Mem)} (h : ph_ok Z X cX12_feed RX12 (some .int) 7 0 ph_NM ad) (fin : ph_fin X ph_kdM ph_NM ad (some (.int o.1)) o.2) : ∀ (n : Nat) (x6 : Int32) (M : ph_Mem), ph_J X ph_kdM ph_NM ad o 55 [(0, .ref (ad 0)), (6, .int x6)] [] M (f12_feed_l55 n x6 M) := by
  intro n
  induction n with
  | zero => intro x6 M; exact j_none
  | succ n hrc55 =>
    intro x6 M
    unfold f12_feed_l55
    refine j_iload h dX12_feed_55 1 rfl ?_
    refine j_bipush (v := (20 : Int32)) h dX12_feed_57 (by decide) ?_
    refine j_icmp_ge h 101 dX12_feed_59 (by decide) ?_ ?_
    · refine j_sub [0] rfl ?_
      exact jb_f12_feed_j101 h fin  M
    · refine j_aload_n h dX12_feed_62 rfl 0 rfl ?_
      refine j_get (c := 0) (j := 11) (v := .ref (ad 7)) h (by decide) rfl rfl ph_inX12 rfl (by decide) tw_1210 rfl rfl dX12_feed_63 ?_
      refine j_aload_n h dX12_feed_66 rfl 0 rfl ?_
      refine j_get (c := 0) (j := 13) (v := .int (M.1 0 13)) h (by decide) rfl rfl ph_inX12 rfl (by decide) tw_1212 rfl rfl dX12_feed_67 ?_
      refine j_iload h dX12_feed_70 1 rfl ?_
      refine j_iadd h dX12_feed_72 ?_
      refine j_aload_n h dX12_feed_73 rfl 0 rfl ?_
      refine j_get (c := 0) (j := 12) (v := .ref (ad 8)) h (by decide) rfl rfl ph_inX12 rfl (by decide) tw_1211 rfl rfl dX12_feed_74 ?_
      refine j_iload h dX12_feed_77 1 rfl ?_
      refine j_iconst (v := (4 : Int32)) h dX12_feed_79 (by decide) ?_
      refine j_idivK h dX12_feed_80 (by decide) ?_
      refine j_iald (c := 8) (n := 5) h (by decide) rfl dX12_feed_81 ?_
      refine j_bipush (v := (24 : Int32)) h dX12_feed_82 (by decide) ?_
      refine j_bipush (v := (8 : Int32)) h dX12_feed_84 (by decide) ?_
      refine j_iload h dX12_feed_86 1 rfl ?_
      refine j_iconst (v := (4 : Int32)) h dX12_feed_88 (by decide) ?_
      refine j_iremK h dX12_feed_89 (by decide) ?_
      refine j_imul h dX12_feed_90 ?_
      refine j_isub h dX12_feed_91 ?_
      refine j_ishr h dX12_feed_92 ?_
      refine j_i2b h dX12_feed_93 ?_
      refine j_bast (c := 7) (n := 400) h (by decide) rfl dX12_feed_94 ?_
      refine j_letM (fun M6 => ?_)
      refine j_iinc h [(6, .int (x6 + (1 : Int32))), (0, .ref (ad 0))] dX12_feed_95 1 rfl rfl (by decide) rfl ?_
      refine j_goto h 55 dX12_feed_98 (by decide) ?_
      refine j_sub [1, 0] rfl ?_
      exact hrc55 (x6 + (1 : Int32)) M6
theorem ydf12_feed : ph_yd yX12_feed 5 := ⟨by decide, by decide, by decide +kernel⟩
def f12_feed (M : ph_Mem) (p0 : Int32) (p1 : Int32) (p2 : Int32) (p3 : Int32) (p4 : Int32) : Option (Int32 × ph_Mem) :=
  if ((M.1 0 13) + (20 : Int32)) ≤ (400 : Int32) then (ph_let (ph_wi M 8 0 p0) fun M1 => ph_let (ph_wi M1 8 1 p1) fun M2 => ph_let (ph_wi M2 8 2 p2) fun M3 => ph_let (ph_wi M3 8 3 p3) fun M4 => ph_let (ph_wi M4 8 4 p4) fun M5 => f12_feed_l55 10000 (0 : Int32) M5) else (some ((-1 : Int32), M))
set_option maxHeartbeats 4000000 in
theorem cf12_feed {Z : (Nat → Prop) → State → Prop} (hZ : ph_Zok Z) {l : Launch} {D : va_G} {cA : Nat → ClassId} {ad : Nat → Nat} (hinj : ∀ i j, i < ph_NM → j < ph_NM → ad i = ad j → i = j) {M : ph_Mem} {p0 : Int32} {p1 : Int32} {p2 : Int32} {p3 : Int32} {p4 : Int32} {r : Int32} {M' : ph_Mem} (hf : f12_feed M p0 p1 p2 p3 p4 = some (r, M')) : ph_C Z l 0 yX12_feed cX12_feed 7 (some .int) D cA ph_kdM ph_NM ad [.ref (ad 0), .int p0, .int p1, .int p2, .int p3, .int p4] M (some (.int r)) M' := by
  refine ph_mk hZ hinj (by decide) (Nat.le_of_ble_eq_true rfl) fun X h fin hE => ?_
  refine (?_ : ph_J X ph_kdM ph_NM ad ((r, M') : (Int32 × ph_Mem)) 0 [(0, .ref (ad 0)), (1, .int p0), (2, .int p1), (3, .int p2), (4, .int p3), (5, .int p4)] [] M (f12_feed M p0 p1 p2 p3 p4)) hf
  unfold f12_feed
  refine j_aload_n h dX12_feed_0 rfl 0 rfl ?_
  refine j_get (c := 0) (j := 13) (v := .int (M.1 0 13)) h (by decide) rfl rfl ph_inX12 rfl (by decide) tw_1212 rfl rfl dX12_feed_1 ?_
  refine j_bipush (v := (20 : Int32)) h dX12_feed_4 (by decide) ?_
  refine j_iadd h dX12_feed_6 ?_
  refine j_sipush (v := (400 : Int32)) h dX12_feed_7 (by decide) ?_
  refine j_icmp_le h 15 dX12_feed_10 (by decide) ?_ ?_
  · refine j_aload_n h dX12_feed_15 rfl 0 rfl ?_
    refine j_get (c := 0) (j := 12) (v := .ref (ad 8)) h (by decide) rfl rfl ph_inX12 rfl (by decide) tw_1211 rfl rfl dX12_feed_16 ?_
    refine j_iconst (v := (0 : Int32)) h dX12_feed_19 (by decide) ?_
    refine j_iload_n h dX12_feed_20 rfl 1 rfl ?_
    refine j_iastK (c := 8) (n := 5) (kn := 0) h (by decide) rfl rfl (by decide) dX12_feed_21 ?_
    refine j_letM (fun M1 => ?_)
    refine j_aload_n h dX12_feed_22 rfl 0 rfl ?_
    refine j_get (c := 0) (j := 12) (v := .ref (ad 8)) h (by decide) rfl rfl ph_inX12 rfl (by decide) tw_1211 rfl rfl dX12_feed_23 ?_
    refine j_iconst (v := (1 : Int32)) h dX12_feed_26 (by decide) ?_
    refine j_iload_n h dX12_feed_27 rfl 2 rfl ?_
    refine j_iastK (c := 8) (n := 5) (kn := 1) h (by decide) rfl rfl (by decide) dX12_feed_28 ?_
    refine j_letM (fun M2 => ?_)
    refine j_aload_n h dX12_feed_29 rfl 0 rfl ?_
    refine j_get (c := 0) (j := 12) (v := .ref (ad 8)) h (by decide) rfl rfl ph_inX12 rfl (by decide) tw_1211 rfl rfl dX12_feed_30 ?_
    refine j_iconst (v := (2 : Int32)) h dX12_feed_33 (by decide) ?_
    refine j_iload_n h dX12_feed_34 rfl 3 rfl ?_
    refine j_iastK (c := 8) (n := 5) (kn := 2) h (by decide) rfl rfl (by decide) dX12_feed_35 ?_
    refine j_letM (fun M3 => ?_)
    refine j_aload_n h dX12_feed_36 rfl 0 rfl ?_
    refine j_get (c := 0) (j := 12) (v := .ref (ad 8)) h (by decide) rfl rfl ph_inX12 rfl (by decide) tw_1211 rfl rfl dX12_feed_37 ?_
    refine j_iconst (v := (3 : Int32)) h dX12_feed_40 (by decide) ?_
    refine j_iload h dX12_feed_41 4 rfl ?_
    refine j_iastK (c := 8) (n := 5) (kn := 3) h (by decide) rfl rfl (by decide) dX12_feed_43 ?_
    refine j_letM (fun M4 => ?_)
    refine j_aload_n h dX12_feed_44 rfl 0 rfl ?_
    refine j_get (c := 0) (j := 12) (v := .ref (ad 8)) h (by decide) rfl rfl ph_inX12 rfl (by decide) tw_1211 rfl rfl dX12_feed_45 ?_
    refine j_iconst (v := (4 : Int32)) h dX12_feed_48 (by decide) ?_
    refine j_iload h dX12_feed_49 5 rfl ?_
    refine j_iastK (c := 8) (n := 5) (kn := 4) h (by decide) rfl rfl (by decide) dX12_feed_51 ?_
    refine j_letM (fun M5 => ?_)
    refine j_iconst (v := (0 : Int32)) h dX12_feed_52 (by decide) ?_
    refine j_istore h [(6, .int (0 : Int32)), (0, .ref (ad 0)), (1, .int p0), (2, .int p1), (3, .int p2), (4, .int p3), (5, .int p4)] dX12_feed_53 (by decide) rfl ?_
    refine j_sub [1, 0] rfl ?_
    exact jb_f12_feed_l55 h fin 10000 (0 : Int32) M5
  · refine j_iconst (v := (-1 : Int32)) h dX12_feed_13 (by decide) ?_
    exact j_iret h rfl fin dX12_feed_14
theorem dX12_end_0 : decode cX12_end 0 = .ok (.iload_n 1, 1) := by decide +kernel
theorem dX12_end_1 : decode cX12_end 1 = .ok (.iconst 0, 1) := by decide +kernel
theorem dX12_end_2 : decode cX12_end 2 = .ok (.aload_n 0, 1) := by decide +kernel
theorem dX12_end_3 : decode cX12_end 3 = .ok (.getfield 174, 3) := by decide +kernel
theorem dX12_end_6 : decode cX12_end 6 = .ok (.invokestatic 108, 3) := by decide +kernel
theorem dX12_end_9 : decode cX12_end 9 = .ok (.ifCond .ne 5, 3) := by decide +kernel
theorem dX12_end_12 : decode cX12_end 12 = .ok (.iconst (-1), 1) := by decide +kernel
theorem dX12_end_13 : decode cX12_end 13 = .ok (.ireturn, 1) := by decide +kernel
theorem dX12_end_14 : decode cX12_end 14 = .ok (.aload_n 0, 1) := by decide +kernel
theorem dX12_end_15 : decode cX12_end 15 = .ok (.iload_n 1, 1) := by decide +kernel
theorem dX12_end_16 : decode cX12_end 16 = .ok (.putfield 174, 3) := by decide +kernel
theorem dX12_end_19 : decode cX12_end 19 = .ok (.iload_n 1, 1) := by decide +kernel
theorem dX12_end_20 : decode cX12_end 20 = .ok (.ireturn, 1) := by decide +kernel
theorem ydf12_end : ph_yd yX12_end 1 := ⟨by decide, by decide, by decide +kernel⟩
def f12_end (M : ph_Mem) (p0 : Int32) : Option (Int32 × ph_Mem) :=
  (f12_within M p0 (0 : Int32) (M.1 0 13)).bind fun q1 => if q1 = 0 then (some ((-1 : Int32), M)) else (ph_let (ph_wi M 0 13 p0) fun M2 => some (p0, M2))
set_option maxHeartbeats 4000000 in
theorem cf12_end {Z : (Nat → Prop) → State → Prop} (hZ : ph_Zok Z) {l : Launch} {D : va_G} {cA : Nat → ClassId} {ad : Nat → Nat} (hinj : ∀ i j, i < ph_NM → j < ph_NM → ad i = ad j → i = j) {M : ph_Mem} {p0 : Int32} {r : Int32} {M' : ph_Mem} (hf : f12_end M p0 = some (r, M')) : ph_C Z l 1 yX12_end cX12_end 2 (some .int) D cA ph_kdM ph_NM ad [.ref (ad 0), .int p0] M (some (.int r)) M' := by
  refine ph_mk hZ hinj (by decide) (Nat.le_of_ble_eq_true rfl) fun X h fin hE => ?_
  refine (?_ : ph_J X ph_kdM ph_NM ad ((r, M') : (Int32 × ph_Mem)) 0 [(0, .ref (ad 0)), (1, .int p0)] [] M (f12_end M p0)) hf
  unfold f12_end
  refine j_iload_n h dX12_end_0 rfl 1 rfl ?_
  refine j_iconst (v := (0 : Int32)) h dX12_end_1 (by decide) ?_
  refine j_aload_n h dX12_end_2 rfl 0 rfl ?_
  refine j_get (c := 0) (j := 13) (v := .int (M.1 0 13)) h (by decide) rfl rfl ph_inX12 rfl (by decide) tw_1212 rfl rfl dX12_end_3 ?_
  refine j_callSiP (n := 3) (As := [.int p0, .int (0 : Int32), .int (M.1 0 13)]) (rest := []) h tw_1366 tw_1367 tw_14 tw_1368 ydf12_within (by decide) (by decide) (fun q hq => cf12_within (ph_okZ h) (ph_okI h) hq) rfl (Nat.le_of_ble_eq_true rfl) rfl dX12_end_6 (fun q1 => ?_)
  refine j_if_ne h 14 dX12_end_9 (by decide) ?_ ?_
  · refine j_aload_n h dX12_end_14 rfl 0 rfl ?_
    refine j_iload_n h dX12_end_15 rfl 1 rfl ?_
    refine j_puti (c := 0) (j := 13) (ty := .int) h (by decide) rfl rfl ph_inX12 tyX12 tyX12_ok nmX12 rfl (by decide) tw_1212 rfl rfl (tyX12_ok 13 (by decide)) rfl rfl dX12_end_16 ?_
    refine j_letM (fun M2 => ?_)
    refine j_iload_n h dX12_end_19 rfl 1 rfl ?_
    exact j_iret h rfl fin dX12_end_20
  · refine j_iconst (v := (-1 : Int32)) h dX12_end_12 (by decide) ?_
    exact j_iret h rfl fin dX12_end_13
theorem dX12_isSmall_0 : decode cX12_isSmall 0 = .ok (.iload_n 0, 1) := by decide +kernel
theorem dX12_isSmall_1 : decode cX12_isSmall 1 = .ok (.bipush 97, 2) := by decide +kernel
theorem dX12_isSmall_3 : decode cX12_isSmall 3 = .ok (.if_icmp .lt 13, 3) := by decide +kernel
theorem dX12_isSmall_6 : decode cX12_isSmall 6 = .ok (.iload_n 0, 1) := by decide +kernel
theorem dX12_isSmall_7 : decode cX12_isSmall 7 = .ok (.bipush 122, 2) := by decide +kernel
theorem dX12_isSmall_9 : decode cX12_isSmall 9 = .ok (.if_icmp .gt 7, 3) := by decide +kernel
theorem dX12_isSmall_12 : decode cX12_isSmall 12 = .ok (.iconst 1, 1) := by decide +kernel
theorem dX12_isSmall_13 : decode cX12_isSmall 13 = .ok (.goto 4, 3) := by decide +kernel
theorem dX12_isSmall_16 : decode cX12_isSmall 16 = .ok (.iconst 0, 1) := by decide +kernel
theorem dX12_isSmall_17 : decode cX12_isSmall 17 = .ok (.ireturn, 1) := by decide +kernel
theorem ydf12_isSmall : ph_yd yX12_isSmall 1 := ⟨by decide, by decide, by decide +kernel⟩
def f12_isSmall (M : ph_Mem) (p0 : Int32) : Option Int32 :=
  if p0 < (97 : Int32) then (some (0 : Int32)) else (if (122 : Int32) < p0 then (some (0 : Int32)) else (some (1 : Int32)))
set_option maxHeartbeats 4000000 in
theorem cf12_isSmall {Z : (Nat → Prop) → State → Prop} (hZ : ph_Zok Z) {l : Launch} {D : va_G} {cA : Nat → ClassId} {ad : Nat → Nat} (hinj : ∀ i j, i < ph_NM → j < ph_NM → ad i = ad j → i = j) {M : ph_Mem} {p0 : Int32} {r : Int32} (hf : f12_isSmall M p0 = some r) : ph_C Z l 0 yX12_isSmall cX12_isSmall 1 (some .boolean) D cA ph_kdM ph_NM ad [.int p0] M (some (.int r)) M := by
  refine ph_mk hZ hinj (by decide) (Nat.le_of_ble_eq_true rfl) fun X h fin hE => ?_
  refine (?_ : ph_J X ph_kdM ph_NM ad (r : Int32) 0 [(0, .int p0)] [] M (f12_isSmall M p0)) hf
  unfold f12_isSmall
  refine j_iload_n h dX12_isSmall_0 rfl 0 rfl ?_
  refine j_bipush (v := (97 : Int32)) h dX12_isSmall_1 (by decide) ?_
  refine j_icmp_lt h 16 dX12_isSmall_3 (by decide) ?_ ?_
  · refine j_iconst (v := (0 : Int32)) h dX12_isSmall_16 (by decide) ?_
    exact j_zretPC h rfl (by decide) fin dX12_isSmall_17
  · refine j_iload_n h dX12_isSmall_6 rfl 0 rfl ?_
    refine j_bipush (v := (122 : Int32)) h dX12_isSmall_7 (by decide) ?_
    refine j_icmp_gt h 16 dX12_isSmall_9 (by decide) ?_ ?_
    · refine j_iconst (v := (0 : Int32)) h dX12_isSmall_16 (by decide) ?_
      exact j_zretPC h rfl (by decide) fin dX12_isSmall_17
    · refine j_iconst (v := (1 : Int32)) h dX12_isSmall_12 (by decide) ?_
      refine j_goto h 17 dX12_isSmall_13 (by decide) ?_
      exact j_zretPC h rfl (by decide) fin dX12_isSmall_17
theorem dX12_isDigit_0 : decode cX12_isDigit 0 = .ok (.iload_n 0, 1) := by decide +kernel
theorem dX12_isDigit_1 : decode cX12_isDigit 1 = .ok (.bipush 48, 2) := by decide +kernel
theorem dX12_isDigit_3 : decode cX12_isDigit 3 = .ok (.if_icmp .lt 13, 3) := by decide +kernel
theorem dX12_isDigit_6 : decode cX12_isDigit 6 = .ok (.iload_n 0, 1) := by decide +kernel
theorem dX12_isDigit_7 : decode cX12_isDigit 7 = .ok (.bipush 57, 2) := by decide +kernel
theorem dX12_isDigit_9 : decode cX12_isDigit 9 = .ok (.if_icmp .gt 7, 3) := by decide +kernel
theorem dX12_isDigit_12 : decode cX12_isDigit 12 = .ok (.iconst 1, 1) := by decide +kernel
theorem dX12_isDigit_13 : decode cX12_isDigit 13 = .ok (.goto 4, 3) := by decide +kernel
theorem dX12_isDigit_16 : decode cX12_isDigit 16 = .ok (.iconst 0, 1) := by decide +kernel
theorem dX12_isDigit_17 : decode cX12_isDigit 17 = .ok (.ireturn, 1) := by decide +kernel
theorem ydf12_isDigit : ph_yd yX12_isDigit 1 := ⟨by decide, by decide, by decide +kernel⟩
def f12_isDigit (M : ph_Mem) (p0 : Int32) : Option Int32 :=
  if p0 < (48 : Int32) then (some (0 : Int32)) else (if (57 : Int32) < p0 then (some (0 : Int32)) else (some (1 : Int32)))
set_option maxHeartbeats 4000000 in
theorem cf12_isDigit {Z : (Nat → Prop) → State → Prop} (hZ : ph_Zok Z) {l : Launch} {D : va_G} {cA : Nat → ClassId} {ad : Nat → Nat} (hinj : ∀ i j, i < ph_NM → j < ph_NM → ad i = ad j → i = j) {M : ph_Mem} {p0 : Int32} {r : Int32} (hf : f12_isDigit M p0 = some r) : ph_C Z l 0 yX12_isDigit cX12_isDigit 1 (some .boolean) D cA ph_kdM ph_NM ad [.int p0] M (some (.int r)) M := by
  refine ph_mk hZ hinj (by decide) (Nat.le_of_ble_eq_true rfl) fun X h fin hE => ?_
  refine (?_ : ph_J X ph_kdM ph_NM ad (r : Int32) 0 [(0, .int p0)] [] M (f12_isDigit M p0)) hf
  unfold f12_isDigit
  refine j_iload_n h dX12_isDigit_0 rfl 0 rfl ?_
  refine j_bipush (v := (48 : Int32)) h dX12_isDigit_1 (by decide) ?_
  refine j_icmp_lt h 16 dX12_isDigit_3 (by decide) ?_ ?_
  · refine j_iconst (v := (0 : Int32)) h dX12_isDigit_16 (by decide) ?_
    exact j_zretPC h rfl (by decide) fin dX12_isDigit_17
  · refine j_iload_n h dX12_isDigit_6 rfl 0 rfl ?_
    refine j_bipush (v := (57 : Int32)) h dX12_isDigit_7 (by decide) ?_
    refine j_icmp_gt h 16 dX12_isDigit_9 (by decide) ?_ ?_
    · refine j_iconst (v := (0 : Int32)) h dX12_isDigit_16 (by decide) ?_
      exact j_zretPC h rfl (by decide) fin dX12_isDigit_17
    · refine j_iconst (v := (1 : Int32)) h dX12_isDigit_12 (by decide) ?_
      refine j_goto h 17 dX12_isDigit_13 (by decide) ?_
      exact j_zretPC h rfl (by decide) fin dX12_isDigit_17
theorem dX12_wordOf_0 : decode cX12_wordOf 0 = .ok (.iconst 1, 1) := by decide +kernel
theorem dX12_wordOf_1 : decode cX12_wordOf 1 = .ok (.istore_n 3, 1) := by decide +kernel
theorem dX12_wordOf_2 : decode cX12_wordOf 2 = .ok (.iconst 0, 1) := by decide +kernel
theorem dX12_wordOf_3 : decode cX12_wordOf 3 = .ok (.istore 4, 2) := by decide +kernel
theorem dX12_wordOf_5 : decode cX12_wordOf 5 = .ok (.iload 4, 2) := by decide +kernel
theorem dX12_wordOf_7 : decode cX12_wordOf 7 = .ok (.aload_n 0, 1) := by decide +kernel
theorem dX12_wordOf_8 : decode cX12_wordOf 8 = .ok (.getfield 37, 3) := by decide +kernel
theorem dX12_wordOf_11 : decode cX12_wordOf 11 = .ok (.arraylength, 1) := by decide +kernel
theorem dX12_wordOf_12 : decode cX12_wordOf 12 = .ok (.if_icmp .ge 114, 3) := by decide +kernel
theorem dX12_wordOf_15 : decode cX12_wordOf 15 = .ok (.iconst 0, 1) := by decide +kernel
theorem dX12_wordOf_16 : decode cX12_wordOf 16 = .ok (.istore 5, 2) := by decide +kernel
theorem dX12_wordOf_18 : decode cX12_wordOf 18 = .ok (.aload_n 0, 1) := by decide +kernel
theorem dX12_wordOf_19 : decode cX12_wordOf 19 = .ok (.getfield 37, 3) := by decide +kernel
theorem dX12_wordOf_22 : decode cX12_wordOf 22 = .ok (.iload 4, 2) := by decide +kernel
theorem dX12_wordOf_24 : decode cX12_wordOf 24 = .ok (.iload 5, 2) := by decide +kernel
theorem dX12_wordOf_26 : decode cX12_wordOf 26 = .ok (.iadd, 1) := by decide +kernel
theorem dX12_wordOf_27 : decode cX12_wordOf 27 = .ok (.baload, 1) := by decide +kernel
theorem dX12_wordOf_28 : decode cX12_wordOf 28 = .ok (.bipush 32, 2) := by decide +kernel
theorem dX12_wordOf_30 : decode cX12_wordOf 30 = .ok (.if_icmp .eq 9, 3) := by decide +kernel
theorem dX12_wordOf_33 : decode cX12_wordOf 33 = .ok (.iinc 5 1, 3) := by decide +kernel
theorem dX12_wordOf_36 : decode cX12_wordOf 36 = .ok (.goto (-18), 3) := by decide +kernel
theorem dX12_wordOf_39 : decode cX12_wordOf 39 = .ok (.iload 5, 2) := by decide +kernel
theorem dX12_wordOf_41 : decode cX12_wordOf 41 = .ok (.iload_n 2, 1) := by decide +kernel
theorem dX12_wordOf_42 : decode cX12_wordOf 42 = .ok (.iload_n 1, 1) := by decide +kernel
theorem dX12_wordOf_43 : decode cX12_wordOf 43 = .ok (.isub, 1) := by decide +kernel
theorem dX12_wordOf_44 : decode cX12_wordOf 44 = .ok (.if_icmp .ne 7, 3) := by decide +kernel
theorem dX12_wordOf_47 : decode cX12_wordOf 47 = .ok (.iconst 1, 1) := by decide +kernel
theorem dX12_wordOf_48 : decode cX12_wordOf 48 = .ok (.goto 4, 3) := by decide +kernel
theorem dX12_wordOf_51 : decode cX12_wordOf 51 = .ok (.iconst 0, 1) := by decide +kernel
theorem dX12_wordOf_52 : decode cX12_wordOf 52 = .ok (.istore 6, 2) := by decide +kernel
theorem dX12_wordOf_54 : decode cX12_wordOf 54 = .ok (.iconst 0, 1) := by decide +kernel
theorem dX12_wordOf_55 : decode cX12_wordOf 55 = .ok (.istore 7, 2) := by decide +kernel
theorem dX12_wordOf_57 : decode cX12_wordOf 57 = .ok (.iload 7, 2) := by decide +kernel
theorem dX12_wordOf_59 : decode cX12_wordOf 59 = .ok (.iload 5, 2) := by decide +kernel
theorem dX12_wordOf_61 : decode cX12_wordOf 61 = .ok (.if_icmp .ge 43, 3) := by decide +kernel
theorem dX12_wordOf_64 : decode cX12_wordOf 64 = .ok (.iload 6, 2) := by decide +kernel
theorem dX12_wordOf_66 : decode cX12_wordOf 66 = .ok (.ifCond .eq 38, 3) := by decide +kernel
theorem dX12_wordOf_69 : decode cX12_wordOf 69 = .ok (.aload_n 0, 1) := by decide +kernel
theorem dX12_wordOf_70 : decode cX12_wordOf 70 = .ok (.getfield 37, 3) := by decide +kernel
theorem dX12_wordOf_73 : decode cX12_wordOf 73 = .ok (.iload 4, 2) := by decide +kernel
theorem dX12_wordOf_75 : decode cX12_wordOf 75 = .ok (.iload 7, 2) := by decide +kernel
theorem dX12_wordOf_77 : decode cX12_wordOf 77 = .ok (.iadd, 1) := by decide +kernel
theorem dX12_wordOf_78 : decode cX12_wordOf 78 = .ok (.baload, 1) := by decide +kernel
theorem dX12_wordOf_79 : decode cX12_wordOf 79 = .ok (.aload_n 0, 1) := by decide +kernel
theorem dX12_wordOf_80 : decode cX12_wordOf 80 = .ok (.getfield 41, 3) := by decide +kernel
theorem dX12_wordOf_83 : decode cX12_wordOf 83 = .ok (.iload_n 1, 1) := by decide +kernel
theorem dX12_wordOf_84 : decode cX12_wordOf 84 = .ok (.iload 7, 2) := by decide +kernel
theorem dX12_wordOf_86 : decode cX12_wordOf 86 = .ok (.iadd, 1) := by decide +kernel
theorem dX12_wordOf_87 : decode cX12_wordOf 87 = .ok (.baload, 1) := by decide +kernel
theorem dX12_wordOf_88 : decode cX12_wordOf 88 = .ok (.if_icmp .ne 7, 3) := by decide +kernel
theorem dX12_wordOf_91 : decode cX12_wordOf 91 = .ok (.iconst 1, 1) := by decide +kernel
theorem dX12_wordOf_92 : decode cX12_wordOf 92 = .ok (.goto 4, 3) := by decide +kernel
theorem dX12_wordOf_95 : decode cX12_wordOf 95 = .ok (.iconst 0, 1) := by decide +kernel
theorem dX12_wordOf_96 : decode cX12_wordOf 96 = .ok (.istore 6, 2) := by decide +kernel
theorem dX12_wordOf_98 : decode cX12_wordOf 98 = .ok (.iinc 7 1, 3) := by decide +kernel
theorem dX12_wordOf_101 : decode cX12_wordOf 101 = .ok (.goto (-44), 3) := by decide +kernel
theorem dX12_wordOf_104 : decode cX12_wordOf 104 = .ok (.iload 6, 2) := by decide +kernel
theorem dX12_wordOf_106 : decode cX12_wordOf 106 = .ok (.ifCond .eq 5, 3) := by decide +kernel
theorem dX12_wordOf_109 : decode cX12_wordOf 109 = .ok (.iload_n 3, 1) := by decide +kernel
theorem dX12_wordOf_110 : decode cX12_wordOf 110 = .ok (.ireturn, 1) := by decide +kernel
theorem dX12_wordOf_111 : decode cX12_wordOf 111 = .ok (.iload 4, 2) := by decide +kernel
theorem dX12_wordOf_113 : decode cX12_wordOf 113 = .ok (.iload 5, 2) := by decide +kernel
theorem dX12_wordOf_115 : decode cX12_wordOf 115 = .ok (.iconst 1, 1) := by decide +kernel
theorem dX12_wordOf_116 : decode cX12_wordOf 116 = .ok (.iadd, 1) := by decide +kernel
theorem dX12_wordOf_117 : decode cX12_wordOf 117 = .ok (.iadd, 1) := by decide +kernel
theorem dX12_wordOf_118 : decode cX12_wordOf 118 = .ok (.istore 4, 2) := by decide +kernel
theorem dX12_wordOf_120 : decode cX12_wordOf 120 = .ok (.iinc 3 1, 3) := by decide +kernel
theorem dX12_wordOf_123 : decode cX12_wordOf 123 = .ok (.goto (-118), 3) := by decide +kernel
theorem dX12_wordOf_126 : decode cX12_wordOf 126 = .ok (.iconst 0, 1) := by decide +kernel
theorem dX12_wordOf_127 : decode cX12_wordOf 127 = .ok (.ireturn, 1) := by decide +kernel
def f12_wordOf_j96 (M : ph_Mem) (rc5 : Int32 → Int32 → Int32 → Int32 → Option Int32) (rc57 : Int32 → Int32 → Int32 → Int32 → Int32 → Int32 → Int32 → Option Int32) (x1 : Int32) (x2 : Int32) (x3 : Int32) (x4 : Int32) (x5 : Int32) (x7 : Int32) (s0 : Int32) : Option Int32 :=
  rc57 x1 x2 x3 x4 x5 s0 (x7 + (1 : Int32))
set_option maxHeartbeats 4000000 in
theorem jb_f12_wordOf_j96 {Z : (Nat → Prop) → State → Prop} {X : ph_X} {ad : Nat → Nat} {o : Int32} {M : ph_Mem} (h : ph_ok Z X cX12_wordOf RX12 (some .int) 8 0 ph_NM ad) (fin : ph_fin X ph_kdM ph_NM ad (some (.int o)) M) {rc5 : Int32 → Int32 → Int32 → Int32 → Option Int32} (hrc5 : ∀ (x1 : Int32) (x2 : Int32) (x3 : Int32) (x4 : Int32), ph_J X ph_kdM ph_NM ad o 5 [(0, .ref (ad 0)), (1, .int x1), (2, .int x2), (3, .int x3), (4, .int x4)] [] M (rc5 x1 x2 x3 x4)) {rc57 : Int32 → Int32 → Int32 → Int32 → Int32 → Int32 → Int32 → Option Int32} (hrc57 : ∀ (x1 : Int32) (x2 : Int32) (x3 : Int32) (x4 : Int32) (x5 : Int32) (x6 : Int32) (x7 : Int32), ph_J X ph_kdM ph_NM ad o 57 [(0, .ref (ad 0)), (1, .int x1), (2, .int x2), (3, .int x3), (4, .int x4), (5, .int x5), (6, .int x6), (7, .int x7)] [] M (rc57 x1 x2 x3 x4 x5 x6 x7)) : ∀ (x1 : Int32) (x2 : Int32) (x3 : Int32) (x4 : Int32) (x5 : Int32) (x7 : Int32) (s0 : Int32), ph_J X ph_kdM ph_NM ad o 96 [(0, .ref (ad 0)), (1, .int x1), (2, .int x2), (3, .int x3), (4, .int x4), (5, .int x5), (7, .int x7)] [.int s0] M (f12_wordOf_j96 M rc5 rc57 x1 x2 x3 x4 x5 x7 s0) := by
  intro x1 x2 x3 x4 x5 x7 s0
  unfold f12_wordOf_j96
  refine j_istore h [(6, .int s0), (0, .ref (ad 0)), (1, .int x1), (2, .int x2), (3, .int x3), (4, .int x4), (5, .int x5), (7, .int x7)] dX12_wordOf_96 (by decide) rfl ?_
  refine j_iinc h [(7, .int (x7 + (1 : Int32))), (6, .int s0), (0, .ref (ad 0)), (1, .int x1), (2, .int x2), (3, .int x3), (4, .int x4), (5, .int x5)] dX12_wordOf_98 7 rfl rfl (by decide) rfl ?_
  refine j_goto h 57 dX12_wordOf_101 (by decide) ?_
  refine j_sub [2, 3, 4, 5, 6, 7, 1, 0] rfl ?_
  exact hrc57 x1 x2 x3 x4 x5 s0 (x7 + (1 : Int32))
def f12_wordOf_j104 (M : ph_Mem) (rc5 : Int32 → Int32 → Int32 → Int32 → Option Int32) (x1 : Int32) (x2 : Int32) (x3 : Int32) (x4 : Int32) (x5 : Int32) (x6 : Int32) : Option Int32 :=
  if x6 = 0 then (ph_let (x4 + (x5 + (1 : Int32))) fun z1 => rc5 x1 x2 (x3 + (1 : Int32)) z1) else (some x3)
set_option maxHeartbeats 4000000 in
theorem jb_f12_wordOf_j104 {Z : (Nat → Prop) → State → Prop} {X : ph_X} {ad : Nat → Nat} {o : Int32} {M : ph_Mem} (h : ph_ok Z X cX12_wordOf RX12 (some .int) 8 0 ph_NM ad) (fin : ph_fin X ph_kdM ph_NM ad (some (.int o)) M) {rc5 : Int32 → Int32 → Int32 → Int32 → Option Int32} (hrc5 : ∀ (x1 : Int32) (x2 : Int32) (x3 : Int32) (x4 : Int32), ph_J X ph_kdM ph_NM ad o 5 [(0, .ref (ad 0)), (1, .int x1), (2, .int x2), (3, .int x3), (4, .int x4)] [] M (rc5 x1 x2 x3 x4)) : ∀ (x1 : Int32) (x2 : Int32) (x3 : Int32) (x4 : Int32) (x5 : Int32) (x6 : Int32), ph_J X ph_kdM ph_NM ad o 104 [(0, .ref (ad 0)), (1, .int x1), (2, .int x2), (3, .int x3), (4, .int x4), (5, .int x5), (6, .int x6)] [] M (f12_wordOf_j104 M rc5 x1 x2 x3 x4 x5 x6) := by
  intro x1 x2 x3 x4 x5 x6
  unfold f12_wordOf_j104
  refine j_iload h dX12_wordOf_104 6 rfl ?_
  refine j_if_eq h 111 dX12_wordOf_106 (by decide) ?_ ?_
  · refine j_iload h dX12_wordOf_111 4 rfl ?_
    refine j_iload h dX12_wordOf_113 5 rfl ?_
    refine j_iconst (v := (1 : Int32)) h dX12_wordOf_115 (by decide) ?_
    refine j_iadd h dX12_wordOf_116 ?_
    refine j_iadd h dX12_wordOf_117 ?_
    refine j_istore h [(4, .int (x4 + (x5 + (1 : Int32)))), (0, .ref (ad 0)), (1, .int x1), (2, .int x2), (3, .int x3), (5, .int x5), (6, .int x6)] dX12_wordOf_118 (by decide) rfl ?_
    refine j_letI (lvf := fun z1 => [(4, .int z1), (0, .ref (ad 0)), (1, .int x1), (2, .int x2), (3, .int x3), (5, .int x5), (6, .int x6)]) (fun z1 => ?_)
    refine j_iinc h [(3, .int (x3 + (1 : Int32))), (4, .int z1), (0, .ref (ad 0)), (1, .int x1), (2, .int x2), (5, .int x5), (6, .int x6)] dX12_wordOf_120 4 rfl rfl (by decide) rfl ?_
    refine j_goto h 5 dX12_wordOf_123 (by decide) ?_
    refine j_sub [2, 3, 4, 0, 1] rfl ?_
    exact hrc5 x1 x2 (x3 + (1 : Int32)) z1
  · refine j_iload_n h dX12_wordOf_109 rfl 3 rfl ?_
    exact j_iretP h rfl fin dX12_wordOf_110
def f12_wordOf_l57 (M : ph_Mem) (rc5 : Int32 → Int32 → Int32 → Int32 → Option Int32) : Nat → Int32 → Int32 → Int32 → Int32 → Int32 → Int32 → Int32 → Option Int32
  | 0, _, _, _, _, _, _, _ => none
  | n + 1, x1, x2, x3, x4, x5, x6, x7 => if x5 ≤ x7 then (f12_wordOf_j104 M rc5 x1 x2 x3 x4 x5 x6) else (if x6 = 0 then (f12_wordOf_j104 M rc5 x1 x2 x3 x4 x5 x6) else (cond (ph_ib (x4 + x7) 137) (cond (ph_ib (x1 + x7) 400) (if (M.1 6 (x4 + x7).toNatClampNeg) = (M.1 7 (x1 + x7).toNatClampNeg) then (f12_wordOf_j96 M rc5 (f12_wordOf_l57 M rc5 n) x1 x2 x3 x4 x5 x7 (1 : Int32)) else (f12_wordOf_j96 M rc5 (f12_wordOf_l57 M rc5 n) x1 x2 x3 x4 x5 x7 (0 : Int32))) none) none))
set_option maxHeartbeats 4000000 in
theorem jb_f12_wordOf_l57 {Z : (Nat → Prop) → State → Prop} {X : ph_X} {ad : Nat → Nat} {o : Int32} {M : ph_Mem} (h : ph_ok Z X cX12_wordOf RX12 (some .int) 8 0 ph_NM ad) (fin : ph_fin X ph_kdM ph_NM ad (some (.int o)) M) {rc5 : Int32 → Int32 → Int32 → Int32 → Option Int32} (hrc5 : ∀ (x1 : Int32) (x2 : Int32) (x3 : Int32) (x4 : Int32), ph_J X ph_kdM ph_NM ad o 5 [(0, .ref (ad 0)), (1, .int x1), (2, .int x2), (3, .int x3), (4, .int x4)] [] M (rc5 x1 x2 x3 x4)) : ∀ (n : Nat) (x1 : Int32) (x2 : Int32) (x3 : Int32) (x4 : Int32) (x5 : Int32) (x6 : Int32) (x7 : Int32), ph_J X ph_kdM ph_NM ad o 57 [(0, .ref (ad 0)), (1, .int x1), (2, .int x2), (3, .int x3), (4, .int x4), (5, .int x5), (6, .int x6), (7, .int x7)] [] M (f12_wordOf_l57 M rc5 n x1 x2 x3 x4 x5 x6 x7) := by
  intro n
  induction n with
  | zero => intro x1 x2 x3 x4 x5 x6 x7; exact j_none
  | succ n hrc57 =>
    intro x1 x2 x3 x4 x5 x6 x7
    unfold f12_wordOf_l57
    refine j_iload h dX12_wordOf_57 7 rfl ?_
    refine j_iload h dX12_wordOf_59 5 rfl ?_
    refine j_icmp_ge h 104 dX12_wordOf_61 (by decide) ?_ ?_
    · refine j_sub [0, 1, 2, 3, 4, 5, 6] rfl ?_
      exact jb_f12_wordOf_j104 h fin hrc5 x1 x2 x3 x4 x5 x6
    · refine j_iload h dX12_wordOf_64 6 rfl ?_
      refine j_if_eq h 104 dX12_wordOf_66 (by decide) ?_ ?_
      · refine j_sub [0, 1, 2, 3, 4, 5, 6] rfl ?_
        exact jb_f12_wordOf_j104 h fin hrc5 x1 x2 x3 x4 x5 x6
      · refine j_aload_n h dX12_wordOf_69 rfl 0 rfl ?_
        refine j_get (c := 0) (j := 7) (v := .ref (ad 6)) h (by decide) rfl rfl ph_inX12 rfl (by decide) tw_1206 rfl rfl dX12_wordOf_70 ?_
        refine j_iload h dX12_wordOf_73 4 rfl ?_
        refine j_iload h dX12_wordOf_75 7 rfl ?_
        refine j_iadd h dX12_wordOf_77 ?_
        refine j_bald (c := 6) (n := 137) h (by decide) rfl dX12_wordOf_78 ?_
        refine j_aload_n h dX12_wordOf_79 rfl 0 rfl ?_
        refine j_get (c := 0) (j := 11) (v := .ref (ad 7)) h (by decide) rfl rfl ph_inX12 rfl (by decide) tw_1210 rfl rfl dX12_wordOf_80 ?_
        refine j_iload_n h dX12_wordOf_83 rfl 1 rfl ?_
        refine j_iload h dX12_wordOf_84 7 rfl ?_
        refine j_iadd h dX12_wordOf_86 ?_
        refine j_bald (c := 7) (n := 400) h (by decide) rfl dX12_wordOf_87 ?_
        refine j_icmp_ne h 95 dX12_wordOf_88 (by decide) ?_ ?_
        · refine j_iconst (v := (0 : Int32)) h dX12_wordOf_95 (by decide) ?_
          refine j_sub [0, 1, 2, 3, 4, 5, 7] rfl ?_
          exact jb_f12_wordOf_j96 h fin hrc5 hrc57 x1 x2 x3 x4 x5 x7 (0 : Int32)
        · refine j_iconst (v := (1 : Int32)) h dX12_wordOf_91 (by decide) ?_
          refine j_goto h 96 dX12_wordOf_92 (by decide) ?_
          refine j_sub [0, 1, 2, 3, 4, 5, 7] rfl ?_
          exact jb_f12_wordOf_j96 h fin hrc5 hrc57 x1 x2 x3 x4 x5 x7 (1 : Int32)
def f12_wordOf_j52 (M : ph_Mem) (rc5 : Int32 → Int32 → Int32 → Int32 → Option Int32) (x1 : Int32) (x2 : Int32) (x3 : Int32) (x4 : Int32) (x5 : Int32) (s0 : Int32) : Option Int32 :=
  f12_wordOf_l57 M rc5 10000 x1 x2 x3 x4 x5 s0 (0 : Int32)
set_option maxHeartbeats 4000000 in
theorem jb_f12_wordOf_j52 {Z : (Nat → Prop) → State → Prop} {X : ph_X} {ad : Nat → Nat} {o : Int32} {M : ph_Mem} (h : ph_ok Z X cX12_wordOf RX12 (some .int) 8 0 ph_NM ad) (fin : ph_fin X ph_kdM ph_NM ad (some (.int o)) M) {rc5 : Int32 → Int32 → Int32 → Int32 → Option Int32} (hrc5 : ∀ (x1 : Int32) (x2 : Int32) (x3 : Int32) (x4 : Int32), ph_J X ph_kdM ph_NM ad o 5 [(0, .ref (ad 0)), (1, .int x1), (2, .int x2), (3, .int x3), (4, .int x4)] [] M (rc5 x1 x2 x3 x4)) : ∀ (x1 : Int32) (x2 : Int32) (x3 : Int32) (x4 : Int32) (x5 : Int32) (s0 : Int32), ph_J X ph_kdM ph_NM ad o 52 [(0, .ref (ad 0)), (1, .int x1), (2, .int x2), (3, .int x3), (4, .int x4), (5, .int x5)] [.int s0] M (f12_wordOf_j52 M rc5 x1 x2 x3 x4 x5 s0) := by
  intro x1 x2 x3 x4 x5 s0
  unfold f12_wordOf_j52
  refine j_istore h [(6, .int s0), (0, .ref (ad 0)), (1, .int x1), (2, .int x2), (3, .int x3), (4, .int x4), (5, .int x5)] dX12_wordOf_52 (by decide) rfl ?_
  refine j_iconst (v := (0 : Int32)) h dX12_wordOf_54 (by decide) ?_
  refine j_istore h [(7, .int (0 : Int32)), (6, .int s0), (0, .ref (ad 0)), (1, .int x1), (2, .int x2), (3, .int x3), (4, .int x4), (5, .int x5)] dX12_wordOf_55 (by decide) rfl ?_
  refine j_sub [2, 3, 4, 5, 6, 7, 1, 0] rfl ?_
  exact jb_f12_wordOf_l57 h fin hrc5 10000 x1 x2 x3 x4 x5 s0 (0 : Int32)
def f12_wordOf_j39 (M : ph_Mem) (rc5 : Int32 → Int32 → Int32 → Int32 → Option Int32) (x1 : Int32) (x2 : Int32) (x3 : Int32) (x4 : Int32) (x5 : Int32) : Option Int32 :=
  if x5 = (x2 - x1) then (f12_wordOf_j52 M rc5 x1 x2 x3 x4 x5 (1 : Int32)) else (f12_wordOf_j52 M rc5 x1 x2 x3 x4 x5 (0 : Int32))
set_option maxHeartbeats 4000000 in
theorem jb_f12_wordOf_j39 {Z : (Nat → Prop) → State → Prop} {X : ph_X} {ad : Nat → Nat} {o : Int32} {M : ph_Mem} (h : ph_ok Z X cX12_wordOf RX12 (some .int) 8 0 ph_NM ad) (fin : ph_fin X ph_kdM ph_NM ad (some (.int o)) M) {rc5 : Int32 → Int32 → Int32 → Int32 → Option Int32} (hrc5 : ∀ (x1 : Int32) (x2 : Int32) (x3 : Int32) (x4 : Int32), ph_J X ph_kdM ph_NM ad o 5 [(0, .ref (ad 0)), (1, .int x1), (2, .int x2), (3, .int x3), (4, .int x4)] [] M (rc5 x1 x2 x3 x4)) : ∀ (x1 : Int32) (x2 : Int32) (x3 : Int32) (x4 : Int32) (x5 : Int32), ph_J X ph_kdM ph_NM ad o 39 [(0, .ref (ad 0)), (1, .int x1), (2, .int x2), (3, .int x3), (4, .int x4), (5, .int x5)] [] M (f12_wordOf_j39 M rc5 x1 x2 x3 x4 x5) := by
  intro x1 x2 x3 x4 x5
  unfold f12_wordOf_j39
  refine j_iload h dX12_wordOf_39 5 rfl ?_
  refine j_iload_n h dX12_wordOf_41 rfl 2 rfl ?_
  refine j_iload_n h dX12_wordOf_42 rfl 1 rfl ?_
  refine j_isub h dX12_wordOf_43 ?_
  refine j_icmp_ne h 51 dX12_wordOf_44 (by decide) ?_ ?_
  · refine j_iconst (v := (0 : Int32)) h dX12_wordOf_51 (by decide) ?_
    refine j_sub [0, 1, 2, 3, 4, 5] rfl ?_
    exact jb_f12_wordOf_j52 h fin hrc5 x1 x2 x3 x4 x5 (0 : Int32)
  · refine j_iconst (v := (1 : Int32)) h dX12_wordOf_47 (by decide) ?_
    refine j_goto h 52 dX12_wordOf_48 (by decide) ?_
    refine j_sub [0, 1, 2, 3, 4, 5] rfl ?_
    exact jb_f12_wordOf_j52 h fin hrc5 x1 x2 x3 x4 x5 (1 : Int32)
def f12_wordOf_l18 (M : ph_Mem) (rc5 : Int32 → Int32 → Int32 → Int32 → Option Int32) : Nat → Int32 → Int32 → Int32 → Int32 → Int32 → Option Int32
  | 0, _, _, _, _, _ => none
  | n + 1, x1, x2, x3, x4, x5 => cond (ph_ib (x4 + x5) 137) (if (M.1 6 (x4 + x5).toNatClampNeg) = (32 : Int32) then (f12_wordOf_j39 M rc5 x1 x2 x3 x4 x5) else ((f12_wordOf_l18 M rc5 n) x1 x2 x3 x4 (x5 + (1 : Int32)))) none
set_option maxHeartbeats 4000000 in
theorem jb_f12_wordOf_l18 {Z : (Nat → Prop) → State → Prop} {X : ph_X} {ad : Nat → Nat} {o : Int32} {M : ph_Mem} (h : ph_ok Z X cX12_wordOf RX12 (some .int) 8 0 ph_NM ad) (fin : ph_fin X ph_kdM ph_NM ad (some (.int o)) M) {rc5 : Int32 → Int32 → Int32 → Int32 → Option Int32} (hrc5 : ∀ (x1 : Int32) (x2 : Int32) (x3 : Int32) (x4 : Int32), ph_J X ph_kdM ph_NM ad o 5 [(0, .ref (ad 0)), (1, .int x1), (2, .int x2), (3, .int x3), (4, .int x4)] [] M (rc5 x1 x2 x3 x4)) : ∀ (n : Nat) (x1 : Int32) (x2 : Int32) (x3 : Int32) (x4 : Int32) (x5 : Int32), ph_J X ph_kdM ph_NM ad o 18 [(0, .ref (ad 0)), (1, .int x1), (2, .int x2), (3, .int x3), (4, .int x4), (5, .int x5)] [] M (f12_wordOf_l18 M rc5 n x1 x2 x3 x4 x5) := by
  intro n
  induction n with
  | zero => intro x1 x2 x3 x4 x5; exact j_none
  | succ n hrc18 =>
    intro x1 x2 x3 x4 x5
    unfold f12_wordOf_l18
    refine j_aload_n h dX12_wordOf_18 rfl 0 rfl ?_
    refine j_get (c := 0) (j := 7) (v := .ref (ad 6)) h (by decide) rfl rfl ph_inX12 rfl (by decide) tw_1206 rfl rfl dX12_wordOf_19 ?_
    refine j_iload h dX12_wordOf_22 4 rfl ?_
    refine j_iload h dX12_wordOf_24 5 rfl ?_
    refine j_iadd h dX12_wordOf_26 ?_
    refine j_bald (c := 6) (n := 137) h (by decide) rfl dX12_wordOf_27 ?_
    refine j_bipush (v := (32 : Int32)) h dX12_wordOf_28 (by decide) ?_
    refine j_icmp_eq h 39 dX12_wordOf_30 (by decide) ?_ ?_
    · refine j_sub [0, 1, 2, 3, 4, 5] rfl ?_
      exact jb_f12_wordOf_j39 h fin hrc5 x1 x2 x3 x4 x5
    · refine j_iinc h [(5, .int (x5 + (1 : Int32))), (0, .ref (ad 0)), (1, .int x1), (2, .int x2), (3, .int x3), (4, .int x4)] dX12_wordOf_33 5 rfl rfl (by decide) rfl ?_
      refine j_goto h 18 dX12_wordOf_36 (by decide) ?_
      refine j_sub [1, 2, 3, 4, 5, 0] rfl ?_
      exact hrc18 x1 x2 x3 x4 (x5 + (1 : Int32))
def f12_wordOf_l5 (M : ph_Mem) : Nat → Int32 → Int32 → Int32 → Int32 → Option Int32
  | 0, _, _, _, _ => none
  | n + 1, x1, x2, x3, x4 => if (137 : Int32) ≤ x4 then (some (0 : Int32)) else (f12_wordOf_l18 M (f12_wordOf_l5 M n) 10000 x1 x2 x3 x4 (0 : Int32))
set_option maxHeartbeats 4000000 in
theorem jb_f12_wordOf_l5 {Z : (Nat → Prop) → State → Prop} {X : ph_X} {ad : Nat → Nat} {o : Int32} {M : ph_Mem} (h : ph_ok Z X cX12_wordOf RX12 (some .int) 8 0 ph_NM ad) (fin : ph_fin X ph_kdM ph_NM ad (some (.int o)) M) : ∀ (n : Nat) (x1 : Int32) (x2 : Int32) (x3 : Int32) (x4 : Int32), ph_J X ph_kdM ph_NM ad o 5 [(0, .ref (ad 0)), (1, .int x1), (2, .int x2), (3, .int x3), (4, .int x4)] [] M (f12_wordOf_l5 M n x1 x2 x3 x4) := by
  intro n
  induction n with
  | zero => intro x1 x2 x3 x4; exact j_none
  | succ n hrc5 =>
    intro x1 x2 x3 x4
    unfold f12_wordOf_l5
    refine j_iload h dX12_wordOf_5 4 rfl ?_
    refine j_aload_n h dX12_wordOf_7 rfl 0 rfl ?_
    refine j_get (c := 0) (j := 7) (v := .ref (ad 6)) h (by decide) rfl rfl ph_inX12 rfl (by decide) tw_1206 rfl rfl dX12_wordOf_8 ?_
    refine j_alen (c := 6) (tn := 1) (v := (137 : Int32)) h (by decide) rfl rfl (by decide) dX12_wordOf_11 ?_
    refine j_icmp_ge h 126 dX12_wordOf_12 (by decide) ?_ ?_
    · refine j_iconst (v := (0 : Int32)) h dX12_wordOf_126 (by decide) ?_
      exact j_iretP h rfl fin dX12_wordOf_127
    · refine j_iconst (v := (0 : Int32)) h dX12_wordOf_15 (by decide) ?_
      refine j_istore h [(5, .int (0 : Int32)), (0, .ref (ad 0)), (1, .int x1), (2, .int x2), (3, .int x3), (4, .int x4)] dX12_wordOf_16 (by decide) rfl ?_
      refine j_sub [1, 2, 3, 4, 5, 0] rfl ?_
      exact jb_f12_wordOf_l18 h fin hrc5 10000 x1 x2 x3 x4 (0 : Int32)
theorem ydf12_wordOf : ph_yd yX12_wordOf 2 := ⟨by decide, by decide, by decide +kernel⟩
def f12_wordOf (M : ph_Mem) (p0 : Int32) (p1 : Int32) : Option Int32 :=
  f12_wordOf_l5 M 10000 p0 p1 (1 : Int32) (0 : Int32)
set_option maxHeartbeats 4000000 in
theorem cf12_wordOf {Z : (Nat → Prop) → State → Prop} (hZ : ph_Zok Z) {l : Launch} {D : va_G} {cA : Nat → ClassId} {ad : Nat → Nat} (hinj : ∀ i j, i < ph_NM → j < ph_NM → ad i = ad j → i = j) {M : ph_Mem} {p0 : Int32} {p1 : Int32} {r : Int32} (hf : f12_wordOf M p0 p1 = some r) : ph_C Z l 0 yX12_wordOf cX12_wordOf 8 (some .int) D cA ph_kdM ph_NM ad [.ref (ad 0), .int p0, .int p1] M (some (.int r)) M := by
  refine ph_mk hZ hinj (by decide) (Nat.le_of_ble_eq_true rfl) fun X h fin hE => ?_
  refine (?_ : ph_J X ph_kdM ph_NM ad (r : Int32) 0 [(0, .ref (ad 0)), (1, .int p0), (2, .int p1)] [] M (f12_wordOf M p0 p1)) hf
  unfold f12_wordOf
  refine j_iconst (v := (1 : Int32)) h dX12_wordOf_0 (by decide) ?_
  refine j_istore_n h [(3, .int (1 : Int32)), (0, .ref (ad 0)), (1, .int p0), (2, .int p1)] dX12_wordOf_1 rfl (by decide) rfl ?_
  refine j_iconst (v := (0 : Int32)) h dX12_wordOf_2 (by decide) ?_
  refine j_istore h [(4, .int (0 : Int32)), (3, .int (1 : Int32)), (0, .ref (ad 0)), (1, .int p0), (2, .int p1)] dX12_wordOf_3 (by decide) rfl ?_
  refine j_sub [2, 3, 4, 1, 0] rfl ?_
  exact jb_f12_wordOf_l5 h fin 10000 p0 p1 (1 : Int32) (0 : Int32)
theorem dX12_splits_0 : decode cX12_splits 0 = .ok (.aload_n 0, 1) := by decide +kernel
theorem dX12_splits_1 : decode cX12_splits 1 = .ok (.iconst 0, 1) := by decide +kernel
theorem dX12_splits_2 : decode cX12_splits 2 = .ok (.putfield 180, 3) := by decide +kernel
theorem dX12_splits_5 : decode cX12_splits 5 = .ok (.iconst 0, 1) := by decide +kernel
theorem dX12_splits_6 : decode cX12_splits 6 = .ok (.istore_n 2, 1) := by decide +kernel
theorem dX12_splits_7 : decode cX12_splits 7 = .ok (.iload_n 2, 1) := by decide +kernel
theorem dX12_splits_8 : decode cX12_splits 8 = .ok (.iload_n 1, 1) := by decide +kernel
theorem dX12_splits_9 : decode cX12_splits 9 = .ok (.if_icmp .ge 254, 3) := by decide +kernel
theorem dX12_splits_12 : decode cX12_splits 12 = .ok (.aload_n 0, 1) := by decide +kernel
theorem dX12_splits_13 : decode cX12_splits 13 = .ok (.getfield 41, 3) := by decide +kernel
theorem dX12_splits_16 : decode cX12_splits 16 = .ok (.iload_n 2, 1) := by decide +kernel
theorem dX12_splits_17 : decode cX12_splits 17 = .ok (.baload, 1) := by decide +kernel
theorem dX12_splits_18 : decode cX12_splits 18 = .ok (.istore_n 3, 1) := by decide +kernel
theorem dX12_splits_19 : decode cX12_splits 19 = .ok (.iload_n 3, 1) := by decide +kernel
theorem dX12_splits_20 : decode cX12_splits 20 = .ok (.bipush 32, 2) := by decide +kernel
theorem dX12_splits_22 : decode cX12_splits 22 = .ok (.if_icmp .ne 9, 3) := by decide +kernel
theorem dX12_splits_25 : decode cX12_splits 25 = .ok (.iinc 2 1, 3) := by decide +kernel
theorem dX12_splits_28 : decode cX12_splits 28 = .ok (.goto (-21), 3) := by decide +kernel
theorem dX12_splits_31 : decode cX12_splits 31 = .ok (.iload_n 2, 1) := by decide +kernel
theorem dX12_splits_32 : decode cX12_splits 32 = .ok (.iconst 1, 1) := by decide +kernel
theorem dX12_splits_33 : decode cX12_splits 33 = .ok (.iadd, 1) := by decide +kernel
theorem dX12_splits_34 : decode cX12_splits 34 = .ok (.istore 4, 2) := by decide +kernel
theorem dX12_splits_36 : decode cX12_splits 36 = .ok (.iload_n 3, 1) := by decide +kernel
theorem dX12_splits_37 : decode cX12_splits 37 = .ok (.invokestatic 183, 3) := by decide +kernel
theorem dX12_splits_40 : decode cX12_splits 40 = .ok (.ifCond .eq 28, 3) := by decide +kernel
theorem dX12_splits_43 : decode cX12_splits 43 = .ok (.iload 4, 2) := by decide +kernel
theorem dX12_splits_45 : decode cX12_splits 45 = .ok (.iload_n 1, 1) := by decide +kernel
theorem dX12_splits_46 : decode cX12_splits 46 = .ok (.if_icmp .ge 22, 3) := by decide +kernel
theorem dX12_splits_49 : decode cX12_splits 49 = .ok (.aload_n 0, 1) := by decide +kernel
theorem dX12_splits_50 : decode cX12_splits 50 = .ok (.getfield 41, 3) := by decide +kernel
theorem dX12_splits_53 : decode cX12_splits 53 = .ok (.iload 4, 2) := by decide +kernel
theorem dX12_splits_55 : decode cX12_splits 55 = .ok (.baload, 1) := by decide +kernel
theorem dX12_splits_56 : decode cX12_splits 56 = .ok (.invokestatic 183, 3) := by decide +kernel
theorem dX12_splits_59 : decode cX12_splits 59 = .ok (.ifCond .eq 9, 3) := by decide +kernel
theorem dX12_splits_62 : decode cX12_splits 62 = .ok (.iinc 4 1, 3) := by decide +kernel
theorem dX12_splits_65 : decode cX12_splits 65 = .ok (.goto (-22), 3) := by decide +kernel
theorem dX12_splits_68 : decode cX12_splits 68 = .ok (.iload_n 3, 1) := by decide +kernel
theorem dX12_splits_69 : decode cX12_splits 69 = .ok (.invokestatic 186, 3) := by decide +kernel
theorem dX12_splits_72 : decode cX12_splits 72 = .ok (.ifCond .eq 28, 3) := by decide +kernel
theorem dX12_splits_75 : decode cX12_splits 75 = .ok (.iload 4, 2) := by decide +kernel
theorem dX12_splits_77 : decode cX12_splits 77 = .ok (.iload_n 1, 1) := by decide +kernel
theorem dX12_splits_78 : decode cX12_splits 78 = .ok (.if_icmp .ge 22, 3) := by decide +kernel
theorem dX12_splits_81 : decode cX12_splits 81 = .ok (.aload_n 0, 1) := by decide +kernel
theorem dX12_splits_82 : decode cX12_splits 82 = .ok (.getfield 41, 3) := by decide +kernel
theorem dX12_splits_85 : decode cX12_splits 85 = .ok (.iload 4, 2) := by decide +kernel
theorem dX12_splits_87 : decode cX12_splits 87 = .ok (.baload, 1) := by decide +kernel
theorem dX12_splits_88 : decode cX12_splits 88 = .ok (.invokestatic 186, 3) := by decide +kernel
theorem dX12_splits_91 : decode cX12_splits 91 = .ok (.ifCond .eq 9, 3) := by decide +kernel
theorem dX12_splits_94 : decode cX12_splits 94 = .ok (.iinc 4 1, 3) := by decide +kernel
theorem dX12_splits_97 : decode cX12_splits 97 = .ok (.goto (-22), 3) := by decide +kernel
theorem dX12_splits_100 : decode cX12_splits 100 = .ok (.aload_n 0, 1) := by decide +kernel
theorem dX12_splits_101 : decode cX12_splits 101 = .ok (.getfield 56, 3) := by decide +kernel
theorem dX12_splits_104 : decode cX12_splits 104 = .ok (.aload_n 0, 1) := by decide +kernel
theorem dX12_splits_105 : decode cX12_splits 105 = .ok (.getfield 180, 3) := by decide +kernel
theorem dX12_splits_108 : decode cX12_splits 108 = .ok (.iload_n 2, 1) := by decide +kernel
theorem dX12_splits_109 : decode cX12_splits 109 = .ok (.iastore, 1) := by decide +kernel
theorem dX12_splits_110 : decode cX12_splits 110 = .ok (.aload_n 0, 1) := by decide +kernel
theorem dX12_splits_111 : decode cX12_splits 111 = .ok (.getfield 53, 3) := by decide +kernel
theorem dX12_splits_114 : decode cX12_splits 114 = .ok (.aload_n 0, 1) := by decide +kernel
theorem dX12_splits_115 : decode cX12_splits 115 = .ok (.getfield 180, 3) := by decide +kernel
theorem dX12_splits_118 : decode cX12_splits 118 = .ok (.iconst 0, 1) := by decide +kernel
theorem dX12_splits_119 : decode cX12_splits 119 = .ok (.iastore, 1) := by decide +kernel
theorem dX12_splits_120 : decode cX12_splits 120 = .ok (.aload_n 0, 1) := by decide +kernel
theorem dX12_splits_121 : decode cX12_splits 121 = .ok (.getfield 50, 3) := by decide +kernel
theorem dX12_splits_124 : decode cX12_splits 124 = .ok (.aload_n 0, 1) := by decide +kernel
theorem dX12_splits_125 : decode cX12_splits 125 = .ok (.getfield 180, 3) := by decide +kernel
theorem dX12_splits_128 : decode cX12_splits 128 = .ok (.iload_n 3, 1) := by decide +kernel
theorem dX12_splits_129 : decode cX12_splits 129 = .ok (.invokestatic 183, 3) := by decide +kernel
theorem dX12_splits_132 : decode cX12_splits 132 = .ok (.ifCond .eq 13, 3) := by decide +kernel
theorem dX12_splits_135 : decode cX12_splits 135 = .ok (.aload_n 0, 1) := by decide +kernel
theorem dX12_splits_136 : decode cX12_splits 136 = .ok (.iload_n 2, 1) := by decide +kernel
theorem dX12_splits_137 : decode cX12_splits 137 = .ok (.iload 4, 2) := by decide +kernel
theorem dX12_splits_139 : decode cX12_splits 139 = .ok (.invokevirtual 189, 3) := by decide +kernel
theorem dX12_splits_142 : decode cX12_splits 142 = .ok (.goto 23, 3) := by decide +kernel
theorem dX12_splits_145 : decode cX12_splits 145 = .ok (.iload_n 3, 1) := by decide +kernel
theorem dX12_splits_146 : decode cX12_splits 146 = .ok (.invokestatic 186, 3) := by decide +kernel
theorem dX12_splits_149 : decode cX12_splits 149 = .ok (.ifCond .eq 8, 3) := by decide +kernel
theorem dX12_splits_152 : decode cX12_splits 152 = .ok (.bipush 50, 2) := by decide +kernel
theorem dX12_splits_154 : decode cX12_splits 154 = .ok (.goto 11, 3) := by decide +kernel
theorem dX12_splits_157 : decode cX12_splits 157 = .ok (.bipush 100, 2) := by decide +kernel
theorem dX12_splits_159 : decode cX12_splits 159 = .ok (.iload_n 3, 1) := by decide +kernel
theorem dX12_splits_160 : decode cX12_splits 160 = .ok (.sipush 255, 3) := by decide +kernel
theorem dX12_splits_163 : decode cX12_splits 163 = .ok (.iand, 1) := by decide +kernel
theorem dX12_splits_164 : decode cX12_splits 164 = .ok (.iadd, 1) := by decide +kernel
theorem dX12_splits_165 : decode cX12_splits 165 = .ok (.iastore, 1) := by decide +kernel
theorem dX12_splits_166 : decode cX12_splits 166 = .ok (.iload_n 2, 1) := by decide +kernel
theorem dX12_splits_167 : decode cX12_splits 167 = .ok (.istore 5, 2) := by decide +kernel
theorem dX12_splits_169 : decode cX12_splits 169 = .ok (.iload 5, 2) := by decide +kernel
theorem dX12_splits_171 : decode cX12_splits 171 = .ok (.iload 4, 2) := by decide +kernel
theorem dX12_splits_173 : decode cX12_splits 173 = .ok (.if_icmp .ge 74, 3) := by decide +kernel
theorem dX12_splits_176 : decode cX12_splits 176 = .ok (.iload_n 3, 1) := by decide +kernel
theorem dX12_splits_177 : decode cX12_splits 177 = .ok (.invokestatic 186, 3) := by decide +kernel
theorem dX12_splits_180 : decode cX12_splits 180 = .ok (.ifCond .eq 67, 3) := by decide +kernel
theorem dX12_splits_183 : decode cX12_splits 183 = .ok (.aload_n 0, 1) := by decide +kernel
theorem dX12_splits_184 : decode cX12_splits 184 = .ok (.getfield 53, 3) := by decide +kernel
theorem dX12_splits_187 : decode cX12_splits 187 = .ok (.aload_n 0, 1) := by decide +kernel
theorem dX12_splits_188 : decode cX12_splits 188 = .ok (.getfield 180, 3) := by decide +kernel
theorem dX12_splits_191 : decode cX12_splits 191 = .ok (.aload_n 0, 1) := by decide +kernel
theorem dX12_splits_192 : decode cX12_splits 192 = .ok (.getfield 53, 3) := by decide +kernel
theorem dX12_splits_195 : decode cX12_splits 195 = .ok (.aload_n 0, 1) := by decide +kernel
theorem dX12_splits_196 : decode cX12_splits 196 = .ok (.getfield 180, 3) := by decide +kernel
theorem dX12_splits_199 : decode cX12_splits 199 = .ok (.iaload, 1) := by decide +kernel
theorem dX12_splits_200 : decode cX12_splits 200 = .ok (.ldc 192, 2) := by decide +kernel
theorem dX12_splits_202 : decode cX12_splits 202 = .ok (.if_icmp .le 15, 3) := by decide +kernel
theorem dX12_splits_205 : decode cX12_splits 205 = .ok (.aload_n 0, 1) := by decide +kernel
theorem dX12_splits_206 : decode cX12_splits 206 = .ok (.getfield 53, 3) := by decide +kernel
theorem dX12_splits_209 : decode cX12_splits 209 = .ok (.aload_n 0, 1) := by decide +kernel
theorem dX12_splits_210 : decode cX12_splits 210 = .ok (.getfield 180, 3) := by decide +kernel
theorem dX12_splits_213 : decode cX12_splits 213 = .ok (.iaload, 1) := by decide +kernel
theorem dX12_splits_214 : decode cX12_splits 214 = .ok (.goto 26, 3) := by decide +kernel
theorem dX12_splits_217 : decode cX12_splits 217 = .ok (.bipush 10, 2) := by decide +kernel
theorem dX12_splits_219 : decode cX12_splits 219 = .ok (.aload_n 0, 1) := by decide +kernel
theorem dX12_splits_220 : decode cX12_splits 220 = .ok (.getfield 53, 3) := by decide +kernel
theorem dX12_splits_223 : decode cX12_splits 223 = .ok (.aload_n 0, 1) := by decide +kernel
theorem dX12_splits_224 : decode cX12_splits 224 = .ok (.getfield 180, 3) := by decide +kernel
theorem dX12_splits_227 : decode cX12_splits 227 = .ok (.iaload, 1) := by decide +kernel
theorem dX12_splits_228 : decode cX12_splits 228 = .ok (.imul, 1) := by decide +kernel
theorem dX12_splits_229 : decode cX12_splits 229 = .ok (.aload_n 0, 1) := by decide +kernel
theorem dX12_splits_230 : decode cX12_splits 230 = .ok (.getfield 41, 3) := by decide +kernel
theorem dX12_splits_233 : decode cX12_splits 233 = .ok (.iload 5, 2) := by decide +kernel
theorem dX12_splits_235 : decode cX12_splits 235 = .ok (.baload, 1) := by decide +kernel
theorem dX12_splits_236 : decode cX12_splits 236 = .ok (.iadd, 1) := by decide +kernel
theorem dX12_splits_237 : decode cX12_splits 237 = .ok (.bipush 48, 2) := by decide +kernel
theorem dX12_splits_239 : decode cX12_splits 239 = .ok (.isub, 1) := by decide +kernel
theorem dX12_splits_240 : decode cX12_splits 240 = .ok (.iastore, 1) := by decide +kernel
theorem dX12_splits_241 : decode cX12_splits 241 = .ok (.iinc 5 1, 3) := by decide +kernel
theorem dX12_splits_244 : decode cX12_splits 244 = .ok (.goto (-75), 3) := by decide +kernel
theorem dX12_splits_247 : decode cX12_splits 247 = .ok (.aload_n 0, 1) := by decide +kernel
theorem dX12_splits_248 : decode cX12_splits 248 = .ok (.dup, 1) := by decide +kernel
theorem dX12_splits_249 : decode cX12_splits 249 = .ok (.getfield 180, 3) := by decide +kernel
theorem dX12_splits_252 : decode cX12_splits 252 = .ok (.iconst 1, 1) := by decide +kernel
theorem dX12_splits_253 : decode cX12_splits 253 = .ok (.iadd, 1) := by decide +kernel
theorem dX12_splits_254 : decode cX12_splits 254 = .ok (.putfield 180, 3) := by decide +kernel
theorem dX12_splits_257 : decode cX12_splits 257 = .ok (.iload 4, 2) := by decide +kernel
theorem dX12_splits_259 : decode cX12_splits 259 = .ok (.istore_n 2, 1) := by decide +kernel
theorem dX12_splits_260 : decode cX12_splits 260 = .ok (.goto (-253), 3) := by decide +kernel
theorem dX12_splits_263 : decode cX12_splits 263 = .ok (.aload_n 0, 1) := by decide +kernel
theorem dX12_splits_264 : decode cX12_splits 264 = .ok (.getfield 56, 3) := by decide +kernel
theorem dX12_splits_267 : decode cX12_splits 267 = .ok (.aload_n 0, 1) := by decide +kernel
theorem dX12_splits_268 : decode cX12_splits 268 = .ok (.getfield 180, 3) := by decide +kernel
theorem dX12_splits_271 : decode cX12_splits 271 = .ok (.iload_n 1, 1) := by decide +kernel
theorem dX12_splits_272 : decode cX12_splits 272 = .ok (.iastore, 1) := by decide +kernel
theorem dX12_splits_273 : decode cX12_splits 273 = .ok (.aload_n 0, 1) := by decide +kernel
theorem dX12_splits_274 : decode cX12_splits 274 = .ok (.getfield 50, 3) := by decide +kernel
theorem dX12_splits_277 : decode cX12_splits 277 = .ok (.aload_n 0, 1) := by decide +kernel
theorem dX12_splits_278 : decode cX12_splits 278 = .ok (.getfield 180, 3) := by decide +kernel
theorem dX12_splits_281 : decode cX12_splits 281 = .ok (.iconst 0, 1) := by decide +kernel
theorem dX12_splits_282 : decode cX12_splits 282 = .ok (.iastore, 1) := by decide +kernel
theorem dX12_splits_283 : decode cX12_splits 283 = .ok (.aload_n 0, 1) := by decide +kernel
theorem dX12_splits_284 : decode cX12_splits 284 = .ok (.getfield 53, 3) := by decide +kernel
theorem dX12_splits_287 : decode cX12_splits 287 = .ok (.aload_n 0, 1) := by decide +kernel
theorem dX12_splits_288 : decode cX12_splits 288 = .ok (.getfield 180, 3) := by decide +kernel
theorem dX12_splits_291 : decode cX12_splits 291 = .ok (.iconst 0, 1) := by decide +kernel
theorem dX12_splits_292 : decode cX12_splits 292 = .ok (.iastore, 1) := by decide +kernel
theorem dX12_splits_293 : decode cX12_splits 293 = .ok (.return_, 1) := by decide +kernel
def f12_splits_j240 (rc7 : Int32 → Int32 → ph_Mem → Option ph_Mem) (rc169 : Int32 → Int32 → Int32 → Int32 → ph_Mem → Option ph_Mem) (x1 : Int32) (x3 : Int32) (x4 : Int32) (x5 : Int32) (s0 : Int32) (s1 : Int32) (M : ph_Mem) : Option ph_Mem :=
  cond (ph_ib s1 401) (ph_let (ph_wi M 10 s1.toNatClampNeg s0) fun M13 => rc169 x1 x3 x4 (x5 + (1 : Int32)) M13) none
set_option maxHeartbeats 4000000 in
theorem jb_f12_splits_j240 {Z : (Nat → Prop) → State → Prop} {X : ph_X} {ad : Nat → Nat} {o : ph_Mem} (h : ph_ok Z X cX12_splits RX12 none 6 1 ph_NM ad) (fin : ph_fin X ph_kdM ph_NM ad none o) {rc7 : Int32 → Int32 → ph_Mem → Option ph_Mem} (hrc7 : ∀ (x1 : Int32) (x2 : Int32) (M : ph_Mem), ph_J X ph_kdM ph_NM ad o 7 [(0, .ref (ad 0)), (1, .int x1), (2, .int x2)] [] M (rc7 x1 x2 M)) {rc169 : Int32 → Int32 → Int32 → Int32 → ph_Mem → Option ph_Mem} (hrc169 : ∀ (x1 : Int32) (x3 : Int32) (x4 : Int32) (x5 : Int32) (M : ph_Mem), ph_J X ph_kdM ph_NM ad o 169 [(0, .ref (ad 0)), (1, .int x1), (3, .int x3), (4, .int x4), (5, .int x5)] [] M (rc169 x1 x3 x4 x5 M)) : ∀ (x1 : Int32) (x3 : Int32) (x4 : Int32) (x5 : Int32) (s0 : Int32) (s1 : Int32) (M : ph_Mem), ph_J X ph_kdM ph_NM ad o 240 [(0, .ref (ad 0)), (1, .int x1), (3, .int x3), (4, .int x4), (5, .int x5)] [.int s0, .int s1, .ref (ad 10)] M (f12_splits_j240 rc7 rc169 x1 x3 x4 x5 s0 s1 M) := by
  intro x1 x3 x4 x5 s0 s1 M
  unfold f12_splits_j240
  refine j_iast (c := 10) (n := 401) h (by decide) rfl dX12_splits_240 ?_
  refine j_letM (fun M13 => ?_)
  refine j_iinc h [(5, .int (x5 + (1 : Int32))), (0, .ref (ad 0)), (1, .int x1), (3, .int x3), (4, .int x4)] dX12_splits_241 4 rfl rfl (by decide) rfl ?_
  refine j_goto h 169 dX12_splits_244 (by decide) ?_
  refine j_sub [1, 2, 3, 4, 0] rfl ?_
  exact hrc169 x1 x3 x4 (x5 + (1 : Int32)) M13
def f12_splits_j247 (rc7 : Int32 → Int32 → ph_Mem → Option ph_Mem) (x1 : Int32) (x4 : Int32) (M : ph_Mem) : Option ph_Mem :=
  ph_let (ph_wi M 0 18 ((M.1 0 18) + (1 : Int32))) fun M14 => rc7 x1 x4 M14
set_option maxHeartbeats 4000000 in
theorem jb_f12_splits_j247 {Z : (Nat → Prop) → State → Prop} {X : ph_X} {ad : Nat → Nat} {o : ph_Mem} (h : ph_ok Z X cX12_splits RX12 none 6 1 ph_NM ad) (fin : ph_fin X ph_kdM ph_NM ad none o) {rc7 : Int32 → Int32 → ph_Mem → Option ph_Mem} (hrc7 : ∀ (x1 : Int32) (x2 : Int32) (M : ph_Mem), ph_J X ph_kdM ph_NM ad o 7 [(0, .ref (ad 0)), (1, .int x1), (2, .int x2)] [] M (rc7 x1 x2 M)) : ∀ (x1 : Int32) (x4 : Int32) (M : ph_Mem), ph_J X ph_kdM ph_NM ad o 247 [(0, .ref (ad 0)), (1, .int x1), (4, .int x4)] [] M (f12_splits_j247 rc7 x1 x4 M) := by
  intro x1 x4 M
  unfold f12_splits_j247
  refine j_aload_n h dX12_splits_247 rfl 0 rfl ?_
  refine j_dup h dX12_splits_248 rfl ?_
  refine j_get (c := 0) (j := 18) (v := .int (M.1 0 18)) h (by decide) rfl rfl ph_inX12 rfl (by decide) tw_1217 rfl rfl dX12_splits_249 ?_
  refine j_iconst (v := (1 : Int32)) h dX12_splits_252 (by decide) ?_
  refine j_iadd h dX12_splits_253 ?_
  refine j_puti (c := 0) (j := 18) (ty := .int) h (by decide) rfl rfl ph_inX12 tyX12 tyX12_ok nmX12 rfl (by decide) tw_1217 rfl rfl (tyX12_ok 18 (by decide)) rfl rfl dX12_splits_254 ?_
  refine j_letM (fun M14 => ?_)
  refine j_iload h dX12_splits_257 2 rfl ?_
  refine j_istore_n h [(2, .int x4), (0, .ref (ad 0)), (1, .int x1), (4, .int x4)] dX12_splits_259 rfl (by decide) rfl ?_
  refine j_goto h 7 dX12_splits_260 (by decide) ?_
  refine j_sub [1, 2, 0] rfl ?_
  exact hrc7 x1 x4 M14
def f12_splits_l169 (rc7 : Int32 → Int32 → ph_Mem → Option ph_Mem) : Nat → Int32 → Int32 → Int32 → Int32 → ph_Mem → Option ph_Mem
  | 0, _, _, _, _, _ => none
  | n + 1, x1, x3, x4, x5, M => if x4 ≤ x5 then (f12_splits_j247 rc7 x1 x4 M) else ((f12_isDigit M x3).bind fun q12 => if q12 = 0 then (f12_splits_j247 rc7 x1 x4 M) else (cond (ph_ib (M.1 0 18) 401) (if (M.1 10 (M.1 0 18).toNatClampNeg) ≤ (1000000 : Int32) then (cond (ph_ib (M.1 0 18) 401) (cond (ph_ib x5 400) (f12_splits_j240 rc7 (f12_splits_l169 rc7 n) x1 x3 x4 x5 ((((10 : Int32) * (M.1 10 (M.1 0 18).toNatClampNeg)) + (M.1 7 x5.toNatClampNeg)) - (48 : Int32)) (M.1 0 18) M) none) none) else (cond (ph_ib (M.1 0 18) 401) (f12_splits_j240 rc7 (f12_splits_l169 rc7 n) x1 x3 x4 x5 (M.1 10 (M.1 0 18).toNatClampNeg) (M.1 0 18) M) none)) none))
set_option maxHeartbeats 4000000 in
theorem jb_f12_splits_l169 {Z : (Nat → Prop) → State → Prop} {X : ph_X} {ad : Nat → Nat} {o : ph_Mem} (h : ph_ok Z X cX12_splits RX12 none 6 1 ph_NM ad) (fin : ph_fin X ph_kdM ph_NM ad none o) {rc7 : Int32 → Int32 → ph_Mem → Option ph_Mem} (hrc7 : ∀ (x1 : Int32) (x2 : Int32) (M : ph_Mem), ph_J X ph_kdM ph_NM ad o 7 [(0, .ref (ad 0)), (1, .int x1), (2, .int x2)] [] M (rc7 x1 x2 M)) : ∀ (n : Nat) (x1 : Int32) (x3 : Int32) (x4 : Int32) (x5 : Int32) (M : ph_Mem), ph_J X ph_kdM ph_NM ad o 169 [(0, .ref (ad 0)), (1, .int x1), (3, .int x3), (4, .int x4), (5, .int x5)] [] M (f12_splits_l169 rc7 n x1 x3 x4 x5 M) := by
  intro n
  induction n with
  | zero => intro x1 x3 x4 x5 M; exact j_none
  | succ n hrc169 =>
    intro x1 x3 x4 x5 M
    unfold f12_splits_l169
    refine j_iload h dX12_splits_169 4 rfl ?_
    refine j_iload h dX12_splits_171 3 rfl ?_
    refine j_icmp_ge h 247 dX12_splits_173 (by decide) ?_ ?_
    · refine j_sub [0, 1, 3] rfl ?_
      exact jb_f12_splits_j247 h fin hrc7 x1 x4 M
    · refine j_iload_n h dX12_splits_176 rfl 2 rfl ?_
      refine j_callSiP (n := 1) (As := [.int x3]) (rest := []) h tw_1565 tw_1566 tw_14 tw_1567 ydf12_isDigit (by decide) (by decide) (fun q hq => cf12_isDigit (ph_okZ h) (ph_okI h) hq) rfl (Nat.le_of_ble_eq_true rfl) rfl dX12_splits_177 (fun q12 => ?_)
      refine j_if_eq h 247 dX12_splits_180 (by decide) ?_ ?_
      · refine j_sub [0, 1, 3] rfl ?_
        exact jb_f12_splits_j247 h fin hrc7 x1 x4 M
      · refine j_aload_n h dX12_splits_183 rfl 0 rfl ?_
        refine j_get (c := 0) (j := 16) (v := .ref (ad 10)) h (by decide) rfl rfl ph_inX12 rfl (by decide) tw_1215 rfl rfl dX12_splits_184 ?_
        refine j_aload_n h dX12_splits_187 rfl 0 rfl ?_
        refine j_get (c := 0) (j := 18) (v := .int (M.1 0 18)) h (by decide) rfl rfl ph_inX12 rfl (by decide) tw_1217 rfl rfl dX12_splits_188 ?_
        refine j_aload_n h dX12_splits_191 rfl 0 rfl ?_
        refine j_get (c := 0) (j := 16) (v := .ref (ad 10)) h (by decide) rfl rfl ph_inX12 rfl (by decide) tw_1215 rfl rfl dX12_splits_192 ?_
        refine j_aload_n h dX12_splits_195 rfl 0 rfl ?_
        refine j_get (c := 0) (j := 18) (v := .int (M.1 0 18)) h (by decide) rfl rfl ph_inX12 rfl (by decide) tw_1217 rfl rfl dX12_splits_196 ?_
        refine j_iald (c := 10) (n := 401) h (by decide) rfl dX12_splits_199 ?_
        refine j_ldc (v := (1000000 : Int32)) h dX12_splits_200 tw_1572 ?_
        refine j_icmp_le h 217 dX12_splits_202 (by decide) ?_ ?_
        · refine j_bipush (v := (10 : Int32)) h dX12_splits_217 (by decide) ?_
          refine j_aload_n h dX12_splits_219 rfl 0 rfl ?_
          refine j_get (c := 0) (j := 16) (v := .ref (ad 10)) h (by decide) rfl rfl ph_inX12 rfl (by decide) tw_1215 rfl rfl dX12_splits_220 ?_
          refine j_aload_n h dX12_splits_223 rfl 0 rfl ?_
          refine j_get (c := 0) (j := 18) (v := .int (M.1 0 18)) h (by decide) rfl rfl ph_inX12 rfl (by decide) tw_1217 rfl rfl dX12_splits_224 ?_
          refine j_iald (c := 10) (n := 401) h (by decide) rfl dX12_splits_227 ?_
          refine j_imul h dX12_splits_228 ?_
          refine j_aload_n h dX12_splits_229 rfl 0 rfl ?_
          refine j_get (c := 0) (j := 11) (v := .ref (ad 7)) h (by decide) rfl rfl ph_inX12 rfl (by decide) tw_1210 rfl rfl dX12_splits_230 ?_
          refine j_iload h dX12_splits_233 4 rfl ?_
          refine j_bald (c := 7) (n := 400) h (by decide) rfl dX12_splits_235 ?_
          refine j_iadd h dX12_splits_236 ?_
          refine j_bipush (v := (48 : Int32)) h dX12_splits_237 (by decide) ?_
          refine j_isub h dX12_splits_239 ?_
          refine j_sub [0, 1, 2, 3, 4] rfl ?_
          exact jb_f12_splits_j240 h fin hrc7 hrc169 x1 x3 x4 x5 ((((10 : Int32) * (M.1 10 (M.1 0 18).toNatClampNeg)) + (M.1 7 x5.toNatClampNeg)) - (48 : Int32)) (M.1 0 18) M
        · refine j_aload_n h dX12_splits_205 rfl 0 rfl ?_
          refine j_get (c := 0) (j := 16) (v := .ref (ad 10)) h (by decide) rfl rfl ph_inX12 rfl (by decide) tw_1215 rfl rfl dX12_splits_206 ?_
          refine j_aload_n h dX12_splits_209 rfl 0 rfl ?_
          refine j_get (c := 0) (j := 18) (v := .int (M.1 0 18)) h (by decide) rfl rfl ph_inX12 rfl (by decide) tw_1217 rfl rfl dX12_splits_210 ?_
          refine j_iald (c := 10) (n := 401) h (by decide) rfl dX12_splits_213 ?_
          refine j_goto h 240 dX12_splits_214 (by decide) ?_
          refine j_sub [0, 1, 2, 3, 4] rfl ?_
          exact jb_f12_splits_j240 h fin hrc7 hrc169 x1 x3 x4 x5 (M.1 10 (M.1 0 18).toNatClampNeg) (M.1 0 18) M
def f12_splits_j165 (rc7 : Int32 → Int32 → ph_Mem → Option ph_Mem) (x1 : Int32) (x2 : Int32) (x3 : Int32) (x4 : Int32) (s0 : Int32) (s1 : Int32) (M : ph_Mem) : Option ph_Mem :=
  cond (ph_ib s1 401) (ph_let (ph_wi M 9 s1.toNatClampNeg s0) fun M11 => f12_splits_l169 rc7 10000 x1 x3 x4 x2 M11) none
set_option maxHeartbeats 4000000 in
theorem jb_f12_splits_j165 {Z : (Nat → Prop) → State → Prop} {X : ph_X} {ad : Nat → Nat} {o : ph_Mem} (h : ph_ok Z X cX12_splits RX12 none 6 1 ph_NM ad) (fin : ph_fin X ph_kdM ph_NM ad none o) {rc7 : Int32 → Int32 → ph_Mem → Option ph_Mem} (hrc7 : ∀ (x1 : Int32) (x2 : Int32) (M : ph_Mem), ph_J X ph_kdM ph_NM ad o 7 [(0, .ref (ad 0)), (1, .int x1), (2, .int x2)] [] M (rc7 x1 x2 M)) : ∀ (x1 : Int32) (x2 : Int32) (x3 : Int32) (x4 : Int32) (s0 : Int32) (s1 : Int32) (M : ph_Mem), ph_J X ph_kdM ph_NM ad o 165 [(0, .ref (ad 0)), (1, .int x1), (2, .int x2), (3, .int x3), (4, .int x4)] [.int s0, .int s1, .ref (ad 9)] M (f12_splits_j165 rc7 x1 x2 x3 x4 s0 s1 M) := by
  intro x1 x2 x3 x4 s0 s1 M
  unfold f12_splits_j165
  refine j_iast (c := 9) (n := 401) h (by decide) rfl dX12_splits_165 ?_
  refine j_letM (fun M11 => ?_)
  refine j_iload_n h dX12_splits_166 rfl 2 rfl ?_
  refine j_istore h [(5, .int x2), (0, .ref (ad 0)), (1, .int x1), (2, .int x2), (3, .int x3), (4, .int x4)] dX12_splits_167 (by decide) rfl ?_
  refine j_sub [1, 2, 4, 5, 0] rfl ?_
  exact jb_f12_splits_l169 h fin hrc7 10000 x1 x3 x4 x2 M11
def f12_splits_j100 (rc7 : Int32 → Int32 → ph_Mem → Option ph_Mem) (x1 : Int32) (x2 : Int32) (x3 : Int32) (x4 : Int32) (M : ph_Mem) : Option ph_Mem :=
  cond (ph_ib (M.1 0 18) 401) (ph_let (ph_wi M 11 (M.1 0 18).toNatClampNeg x2) fun M6 => cond (ph_ib (M6.1 0 18) 401) (ph_let (ph_wi M6 10 (M6.1 0 18).toNatClampNeg (0 : Int32)) fun M7 => (f12_isSmall M7 x3).bind fun q8 => if q8 = 0 then ((f12_isDigit M7 x3).bind fun q9 => if q9 = 0 then (f12_splits_j165 rc7 x1 x2 x3 x4 ((100 : Int32) + (x3 &&& (255 : Int32))) (M7.1 0 18) M7) else (f12_splits_j165 rc7 x1 x2 x3 x4 (50 : Int32) (M7.1 0 18) M7)) else ((f12_wordOf M7 x2 x4).bind fun q10 => f12_splits_j165 rc7 x1 x2 x3 x4 q10 (M7.1 0 18) M7)) none) none
set_option maxHeartbeats 4000000 in
theorem jb_f12_splits_j100 {Z : (Nat → Prop) → State → Prop} {X : ph_X} {ad : Nat → Nat} {o : ph_Mem} (h : ph_ok Z X cX12_splits RX12 none 6 1 ph_NM ad) (fin : ph_fin X ph_kdM ph_NM ad none o) {rc7 : Int32 → Int32 → ph_Mem → Option ph_Mem} (hrc7 : ∀ (x1 : Int32) (x2 : Int32) (M : ph_Mem), ph_J X ph_kdM ph_NM ad o 7 [(0, .ref (ad 0)), (1, .int x1), (2, .int x2)] [] M (rc7 x1 x2 M)) : ∀ (x1 : Int32) (x2 : Int32) (x3 : Int32) (x4 : Int32) (M : ph_Mem), ph_J X ph_kdM ph_NM ad o 100 [(0, .ref (ad 0)), (1, .int x1), (2, .int x2), (3, .int x3), (4, .int x4)] [] M (f12_splits_j100 rc7 x1 x2 x3 x4 M) := by
  intro x1 x2 x3 x4 M
  unfold f12_splits_j100
  refine j_aload_n h dX12_splits_100 rfl 0 rfl ?_
  refine j_get (c := 0) (j := 17) (v := .ref (ad 11)) h (by decide) rfl rfl ph_inX12 rfl (by decide) tw_1216 rfl rfl dX12_splits_101 ?_
  refine j_aload_n h dX12_splits_104 rfl 0 rfl ?_
  refine j_get (c := 0) (j := 18) (v := .int (M.1 0 18)) h (by decide) rfl rfl ph_inX12 rfl (by decide) tw_1217 rfl rfl dX12_splits_105 ?_
  refine j_iload_n h dX12_splits_108 rfl 2 rfl ?_
  refine j_iast (c := 11) (n := 401) h (by decide) rfl dX12_splits_109 ?_
  refine j_letM (fun M6 => ?_)
  refine j_aload_n h dX12_splits_110 rfl 0 rfl ?_
  refine j_get (c := 0) (j := 16) (v := .ref (ad 10)) h (by decide) rfl rfl ph_inX12 rfl (by decide) tw_1215 rfl rfl dX12_splits_111 ?_
  refine j_aload_n h dX12_splits_114 rfl 0 rfl ?_
  refine j_get (c := 0) (j := 18) (v := .int (M6.1 0 18)) h (by decide) rfl rfl ph_inX12 rfl (by decide) tw_1217 rfl rfl dX12_splits_115 ?_
  refine j_iconst (v := (0 : Int32)) h dX12_splits_118 (by decide) ?_
  refine j_iast (c := 10) (n := 401) h (by decide) rfl dX12_splits_119 ?_
  refine j_letM (fun M7 => ?_)
  refine j_aload_n h dX12_splits_120 rfl 0 rfl ?_
  refine j_get (c := 0) (j := 15) (v := .ref (ad 9)) h (by decide) rfl rfl ph_inX12 rfl (by decide) tw_1214 rfl rfl dX12_splits_121 ?_
  refine j_aload_n h dX12_splits_124 rfl 0 rfl ?_
  refine j_get (c := 0) (j := 18) (v := .int (M7.1 0 18)) h (by decide) rfl rfl ph_inX12 rfl (by decide) tw_1217 rfl rfl dX12_splits_125 ?_
  refine j_iload_n h dX12_splits_128 rfl 3 rfl ?_
  refine j_callSiP (n := 1) (As := [.int x3]) (rest := [.int (M7.1 0 18), .ref (ad 9)]) h tw_1562 tw_1563 tw_14 tw_1564 ydf12_isSmall (by decide) (by decide) (fun q hq => cf12_isSmall (ph_okZ h) (ph_okI h) hq) rfl (Nat.le_of_ble_eq_true rfl) rfl dX12_splits_129 (fun q8 => ?_)
  refine j_if_eq h 145 dX12_splits_132 (by decide) ?_ ?_
  · refine j_iload_n h dX12_splits_145 rfl 3 rfl ?_
    refine j_callSiP (n := 1) (As := [.int x3]) (rest := [.int (M7.1 0 18), .ref (ad 9)]) h tw_1565 tw_1566 tw_14 tw_1567 ydf12_isDigit (by decide) (by decide) (fun q hq => cf12_isDigit (ph_okZ h) (ph_okI h) hq) rfl (Nat.le_of_ble_eq_true rfl) rfl dX12_splits_146 (fun q9 => ?_)
    refine j_if_eq h 157 dX12_splits_149 (by decide) ?_ ?_
    · refine j_bipush (v := (100 : Int32)) h dX12_splits_157 (by decide) ?_
      refine j_iload_n h dX12_splits_159 rfl 3 rfl ?_
      refine j_sipush (v := (255 : Int32)) h dX12_splits_160 (by decide) ?_
      refine j_iand h dX12_splits_163 ?_
      refine j_iadd h dX12_splits_164 ?_
      refine j_sub [0, 1, 2, 3, 4] rfl ?_
      exact jb_f12_splits_j165 h fin hrc7 x1 x2 x3 x4 ((100 : Int32) + (x3 &&& (255 : Int32))) (M7.1 0 18) M7
    · refine j_bipush (v := (50 : Int32)) h dX12_splits_152 (by decide) ?_
      refine j_goto h 165 dX12_splits_154 (by decide) ?_
      refine j_sub [0, 1, 2, 3, 4] rfl ?_
      exact jb_f12_splits_j165 h fin hrc7 x1 x2 x3 x4 (50 : Int32) (M7.1 0 18) M7
  · refine j_aload_n h dX12_splits_135 rfl 0 rfl ?_
    refine j_iload_n h dX12_splits_136 rfl 2 rfl ?_
    refine j_iload h dX12_splits_137 4 rfl ?_
    refine j_callViP (n := 2) (As := [.int x2, .int x4]) (rest := [.int (M7.1 0 18), .ref (ad 9)]) h 0 tw_1568 tw_1570 tp_78 tw_14 tw_1571 ydf12_wordOf (by decide) (by decide) (by decide) rfl rfl (fun q hq => cf12_wordOf (ph_okZ h) (ph_okI h) hq) rfl (Nat.le_of_ble_eq_true rfl) rfl dX12_splits_139 (fun q10 => ?_)
    refine j_goto h 165 dX12_splits_142 (by decide) ?_
    refine j_sub [0, 1, 2, 3, 4] rfl ?_
    exact jb_f12_splits_j165 h fin hrc7 x1 x2 x3 x4 q10 (M7.1 0 18) M7
def f12_splits_l75 (rc7 : Int32 → Int32 → ph_Mem → Option ph_Mem) : Nat → Int32 → Int32 → Int32 → Int32 → ph_Mem → Option ph_Mem
  | 0, _, _, _, _, _ => none
  | n + 1, x1, x2, x3, x4, M => if x1 ≤ x4 then (f12_splits_j100 rc7 x1 x2 x3 x4 M) else (cond (ph_ib x4 400) ((f12_isDigit M (M.1 7 x4.toNatClampNeg)).bind fun q5 => if q5 = 0 then (f12_splits_j100 rc7 x1 x2 x3 x4 M) else ((f12_splits_l75 rc7 n) x1 x2 x3 (x4 + (1 : Int32)) M)) none)
set_option maxHeartbeats 4000000 in
theorem jb_f12_splits_l75 {Z : (Nat → Prop) → State → Prop} {X : ph_X} {ad : Nat → Nat} {o : ph_Mem} (h : ph_ok Z X cX12_splits RX12 none 6 1 ph_NM ad) (fin : ph_fin X ph_kdM ph_NM ad none o) {rc7 : Int32 → Int32 → ph_Mem → Option ph_Mem} (hrc7 : ∀ (x1 : Int32) (x2 : Int32) (M : ph_Mem), ph_J X ph_kdM ph_NM ad o 7 [(0, .ref (ad 0)), (1, .int x1), (2, .int x2)] [] M (rc7 x1 x2 M)) : ∀ (n : Nat) (x1 : Int32) (x2 : Int32) (x3 : Int32) (x4 : Int32) (M : ph_Mem), ph_J X ph_kdM ph_NM ad o 75 [(0, .ref (ad 0)), (1, .int x1), (2, .int x2), (3, .int x3), (4, .int x4)] [] M (f12_splits_l75 rc7 n x1 x2 x3 x4 M) := by
  intro n
  induction n with
  | zero => intro x1 x2 x3 x4 M; exact j_none
  | succ n hrc75 =>
    intro x1 x2 x3 x4 M
    unfold f12_splits_l75
    refine j_iload h dX12_splits_75 4 rfl ?_
    refine j_iload_n h dX12_splits_77 rfl 1 rfl ?_
    refine j_icmp_ge h 100 dX12_splits_78 (by decide) ?_ ?_
    · refine j_sub [0, 1, 2, 3, 4] rfl ?_
      exact jb_f12_splits_j100 h fin hrc7 x1 x2 x3 x4 M
    · refine j_aload_n h dX12_splits_81 rfl 0 rfl ?_
      refine j_get (c := 0) (j := 11) (v := .ref (ad 7)) h (by decide) rfl rfl ph_inX12 rfl (by decide) tw_1210 rfl rfl dX12_splits_82 ?_
      refine j_iload h dX12_splits_85 4 rfl ?_
      refine j_bald (c := 7) (n := 400) h (by decide) rfl dX12_splits_87 ?_
      refine j_callSiP (n := 1) (As := [.int (M.1 7 x4.toNatClampNeg)]) (rest := []) h tw_1565 tw_1566 tw_14 tw_1567 ydf12_isDigit (by decide) (by decide) (fun q hq => cf12_isDigit (ph_okZ h) (ph_okI h) hq) rfl (Nat.le_of_ble_eq_true rfl) rfl dX12_splits_88 (fun q5 => ?_)
      refine j_if_eq h 100 dX12_splits_91 (by decide) ?_ ?_
      · refine j_sub [0, 1, 2, 3, 4] rfl ?_
        exact jb_f12_splits_j100 h fin hrc7 x1 x2 x3 x4 M
      · refine j_iinc h [(4, .int (x4 + (1 : Int32))), (0, .ref (ad 0)), (1, .int x1), (2, .int x2), (3, .int x3)] dX12_splits_94 4 rfl rfl (by decide) rfl ?_
        refine j_goto h 75 dX12_splits_97 (by decide) ?_
        refine j_sub [1, 2, 3, 4, 0] rfl ?_
        exact hrc75 x1 x2 x3 (x4 + (1 : Int32)) M
def f12_splits_j68 (rc7 : Int32 → Int32 → ph_Mem → Option ph_Mem) (x1 : Int32) (x2 : Int32) (x3 : Int32) (x4 : Int32) (M : ph_Mem) : Option ph_Mem :=
  (f12_isDigit M x3).bind fun q4 => if q4 = 0 then (f12_splits_j100 rc7 x1 x2 x3 x4 M) else (f12_splits_l75 rc7 10000 x1 x2 x3 x4 M)
set_option maxHeartbeats 4000000 in
theorem jb_f12_splits_j68 {Z : (Nat → Prop) → State → Prop} {X : ph_X} {ad : Nat → Nat} {o : ph_Mem} (h : ph_ok Z X cX12_splits RX12 none 6 1 ph_NM ad) (fin : ph_fin X ph_kdM ph_NM ad none o) {rc7 : Int32 → Int32 → ph_Mem → Option ph_Mem} (hrc7 : ∀ (x1 : Int32) (x2 : Int32) (M : ph_Mem), ph_J X ph_kdM ph_NM ad o 7 [(0, .ref (ad 0)), (1, .int x1), (2, .int x2)] [] M (rc7 x1 x2 M)) : ∀ (x1 : Int32) (x2 : Int32) (x3 : Int32) (x4 : Int32) (M : ph_Mem), ph_J X ph_kdM ph_NM ad o 68 [(0, .ref (ad 0)), (1, .int x1), (2, .int x2), (3, .int x3), (4, .int x4)] [] M (f12_splits_j68 rc7 x1 x2 x3 x4 M) := by
  intro x1 x2 x3 x4 M
  unfold f12_splits_j68
  refine j_iload_n h dX12_splits_68 rfl 3 rfl ?_
  refine j_callSiP (n := 1) (As := [.int x3]) (rest := []) h tw_1565 tw_1566 tw_14 tw_1567 ydf12_isDigit (by decide) (by decide) (fun q hq => cf12_isDigit (ph_okZ h) (ph_okI h) hq) rfl (Nat.le_of_ble_eq_true rfl) rfl dX12_splits_69 (fun q4 => ?_)
  refine j_if_eq h 100 dX12_splits_72 (by decide) ?_ ?_
  · refine j_sub [0, 1, 2, 3, 4] rfl ?_
    exact jb_f12_splits_j100 h fin hrc7 x1 x2 x3 x4 M
  · refine j_sub [0, 1, 2, 3, 4] rfl ?_
    exact jb_f12_splits_l75 h fin hrc7 10000 x1 x2 x3 x4 M
def f12_splits_l43 (rc7 : Int32 → Int32 → ph_Mem → Option ph_Mem) : Nat → Int32 → Int32 → Int32 → Int32 → ph_Mem → Option ph_Mem
  | 0, _, _, _, _, _ => none
  | n + 1, x1, x2, x3, x4, M => if x1 ≤ x4 then (f12_splits_j68 rc7 x1 x2 x3 x4 M) else (cond (ph_ib x4 400) ((f12_isSmall M (M.1 7 x4.toNatClampNeg)).bind fun q3 => if q3 = 0 then (f12_splits_j68 rc7 x1 x2 x3 x4 M) else ((f12_splits_l43 rc7 n) x1 x2 x3 (x4 + (1 : Int32)) M)) none)
set_option maxHeartbeats 4000000 in
theorem jb_f12_splits_l43 {Z : (Nat → Prop) → State → Prop} {X : ph_X} {ad : Nat → Nat} {o : ph_Mem} (h : ph_ok Z X cX12_splits RX12 none 6 1 ph_NM ad) (fin : ph_fin X ph_kdM ph_NM ad none o) {rc7 : Int32 → Int32 → ph_Mem → Option ph_Mem} (hrc7 : ∀ (x1 : Int32) (x2 : Int32) (M : ph_Mem), ph_J X ph_kdM ph_NM ad o 7 [(0, .ref (ad 0)), (1, .int x1), (2, .int x2)] [] M (rc7 x1 x2 M)) : ∀ (n : Nat) (x1 : Int32) (x2 : Int32) (x3 : Int32) (x4 : Int32) (M : ph_Mem), ph_J X ph_kdM ph_NM ad o 43 [(0, .ref (ad 0)), (1, .int x1), (2, .int x2), (3, .int x3), (4, .int x4)] [] M (f12_splits_l43 rc7 n x1 x2 x3 x4 M) := by
  intro n
  induction n with
  | zero => intro x1 x2 x3 x4 M; exact j_none
  | succ n hrc43 =>
    intro x1 x2 x3 x4 M
    unfold f12_splits_l43
    refine j_iload h dX12_splits_43 4 rfl ?_
    refine j_iload_n h dX12_splits_45 rfl 1 rfl ?_
    refine j_icmp_ge h 68 dX12_splits_46 (by decide) ?_ ?_
    · refine j_sub [0, 1, 2, 3, 4] rfl ?_
      exact jb_f12_splits_j68 h fin hrc7 x1 x2 x3 x4 M
    · refine j_aload_n h dX12_splits_49 rfl 0 rfl ?_
      refine j_get (c := 0) (j := 11) (v := .ref (ad 7)) h (by decide) rfl rfl ph_inX12 rfl (by decide) tw_1210 rfl rfl dX12_splits_50 ?_
      refine j_iload h dX12_splits_53 4 rfl ?_
      refine j_bald (c := 7) (n := 400) h (by decide) rfl dX12_splits_55 ?_
      refine j_callSiP (n := 1) (As := [.int (M.1 7 x4.toNatClampNeg)]) (rest := []) h tw_1562 tw_1563 tw_14 tw_1564 ydf12_isSmall (by decide) (by decide) (fun q hq => cf12_isSmall (ph_okZ h) (ph_okI h) hq) rfl (Nat.le_of_ble_eq_true rfl) rfl dX12_splits_56 (fun q3 => ?_)
      refine j_if_eq h 68 dX12_splits_59 (by decide) ?_ ?_
      · refine j_sub [0, 1, 2, 3, 4] rfl ?_
        exact jb_f12_splits_j68 h fin hrc7 x1 x2 x3 x4 M
      · refine j_iinc h [(4, .int (x4 + (1 : Int32))), (0, .ref (ad 0)), (1, .int x1), (2, .int x2), (3, .int x3)] dX12_splits_62 4 rfl rfl (by decide) rfl ?_
        refine j_goto h 43 dX12_splits_65 (by decide) ?_
        refine j_sub [1, 2, 3, 4, 0] rfl ?_
        exact hrc43 x1 x2 x3 (x4 + (1 : Int32)) M
def f12_splits_j263 (x1 : Int32) (M : ph_Mem) : Option ph_Mem :=
  cond (ph_ib (M.1 0 18) 401) (ph_let (ph_wi M 11 (M.1 0 18).toNatClampNeg x1) fun M15 => cond (ph_ib (M15.1 0 18) 401) (ph_let (ph_wi M15 9 (M15.1 0 18).toNatClampNeg (0 : Int32)) fun M16 => cond (ph_ib (M16.1 0 18) 401) (ph_let (ph_wi M16 10 (M16.1 0 18).toNatClampNeg (0 : Int32)) fun M17 => some M17) none) none) none
set_option maxHeartbeats 4000000 in
theorem jb_f12_splits_j263 {Z : (Nat → Prop) → State → Prop} {X : ph_X} {ad : Nat → Nat} {o : ph_Mem} (h : ph_ok Z X cX12_splits RX12 none 6 1 ph_NM ad) (fin : ph_fin X ph_kdM ph_NM ad none o) : ∀ (x1 : Int32) (M : ph_Mem), ph_J X ph_kdM ph_NM ad o 263 [(0, .ref (ad 0)), (1, .int x1)] [] M (f12_splits_j263 x1 M) := by
  intro x1 M
  unfold f12_splits_j263
  refine j_aload_n h dX12_splits_263 rfl 0 rfl ?_
  refine j_get (c := 0) (j := 17) (v := .ref (ad 11)) h (by decide) rfl rfl ph_inX12 rfl (by decide) tw_1216 rfl rfl dX12_splits_264 ?_
  refine j_aload_n h dX12_splits_267 rfl 0 rfl ?_
  refine j_get (c := 0) (j := 18) (v := .int (M.1 0 18)) h (by decide) rfl rfl ph_inX12 rfl (by decide) tw_1217 rfl rfl dX12_splits_268 ?_
  refine j_iload_n h dX12_splits_271 rfl 1 rfl ?_
  refine j_iast (c := 11) (n := 401) h (by decide) rfl dX12_splits_272 ?_
  refine j_letM (fun M15 => ?_)
  refine j_aload_n h dX12_splits_273 rfl 0 rfl ?_
  refine j_get (c := 0) (j := 15) (v := .ref (ad 9)) h (by decide) rfl rfl ph_inX12 rfl (by decide) tw_1214 rfl rfl dX12_splits_274 ?_
  refine j_aload_n h dX12_splits_277 rfl 0 rfl ?_
  refine j_get (c := 0) (j := 18) (v := .int (M15.1 0 18)) h (by decide) rfl rfl ph_inX12 rfl (by decide) tw_1217 rfl rfl dX12_splits_278 ?_
  refine j_iconst (v := (0 : Int32)) h dX12_splits_281 (by decide) ?_
  refine j_iast (c := 9) (n := 401) h (by decide) rfl dX12_splits_282 ?_
  refine j_letM (fun M16 => ?_)
  refine j_aload_n h dX12_splits_283 rfl 0 rfl ?_
  refine j_get (c := 0) (j := 16) (v := .ref (ad 10)) h (by decide) rfl rfl ph_inX12 rfl (by decide) tw_1215 rfl rfl dX12_splits_284 ?_
  refine j_aload_n h dX12_splits_287 rfl 0 rfl ?_
  refine j_get (c := 0) (j := 18) (v := .int (M16.1 0 18)) h (by decide) rfl rfl ph_inX12 rfl (by decide) tw_1217 rfl rfl dX12_splits_288 ?_
  refine j_iconst (v := (0 : Int32)) h dX12_splits_291 (by decide) ?_
  refine j_iast (c := 10) (n := 401) h (by decide) rfl dX12_splits_292 ?_
  refine j_letM (fun M17 => ?_)
  exact j_vret h rfl fin dX12_splits_293
def f12_splits_l7 : Nat → Int32 → Int32 → ph_Mem → Option ph_Mem
  | 0, _, _, _ => none
  | n + 1, x1, x2, M => if x1 ≤ x2 then (f12_splits_j263 x1 M) else (cond (ph_ib x2 400) (if (M.1 7 x2.toNatClampNeg) = (32 : Int32) then ((f12_splits_l7 n) x1 (x2 + (1 : Int32)) M) else ((f12_isSmall M (M.1 7 x2.toNatClampNeg)).bind fun q2 => if q2 = 0 then (f12_splits_j68 (f12_splits_l7 n) x1 x2 (M.1 7 x2.toNatClampNeg) (x2 + (1 : Int32)) M) else (f12_splits_l43 (f12_splits_l7 n) 10000 x1 x2 (M.1 7 x2.toNatClampNeg) (x2 + (1 : Int32)) M))) none)
set_option maxHeartbeats 4000000 in
theorem jb_f12_splits_l7 {Z : (Nat → Prop) → State → Prop} {X : ph_X} {ad : Nat → Nat} {o : ph_Mem} (h : ph_ok Z X cX12_splits RX12 none 6 1 ph_NM ad) (fin : ph_fin X ph_kdM ph_NM ad none o) : ∀ (n : Nat) (x1 : Int32) (x2 : Int32) (M : ph_Mem), ph_J X ph_kdM ph_NM ad o 7 [(0, .ref (ad 0)), (1, .int x1), (2, .int x2)] [] M (f12_splits_l7 n x1 x2 M) := by
  intro n
  induction n with
  | zero => intro x1 x2 M; exact j_none
  | succ n hrc7 =>
    intro x1 x2 M
    unfold f12_splits_l7
    refine j_iload_n h dX12_splits_7 rfl 2 rfl ?_
    refine j_iload_n h dX12_splits_8 rfl 1 rfl ?_
    refine j_icmp_ge h 263 dX12_splits_9 (by decide) ?_ ?_
    · refine j_sub [0, 1] rfl ?_
      exact jb_f12_splits_j263 h fin x1 M
    · refine j_aload_n h dX12_splits_12 rfl 0 rfl ?_
      refine j_get (c := 0) (j := 11) (v := .ref (ad 7)) h (by decide) rfl rfl ph_inX12 rfl (by decide) tw_1210 rfl rfl dX12_splits_13 ?_
      refine j_iload_n h dX12_splits_16 rfl 2 rfl ?_
      refine j_bald (c := 7) (n := 400) h (by decide) rfl dX12_splits_17 ?_
      refine j_istore_n h [(3, .int (M.1 7 x2.toNatClampNeg)), (0, .ref (ad 0)), (1, .int x1), (2, .int x2)] dX12_splits_18 rfl (by decide) rfl ?_
      refine j_iload_n h dX12_splits_19 rfl 0 rfl ?_
      refine j_bipush (v := (32 : Int32)) h dX12_splits_20 (by decide) ?_
      refine j_icmp_ne h 31 dX12_splits_22 (by decide) ?_ ?_
      · refine j_iload_n h dX12_splits_31 rfl 3 rfl ?_
        refine j_iconst (v := (1 : Int32)) h dX12_splits_32 (by decide) ?_
        refine j_iadd h dX12_splits_33 ?_
        refine j_istore h [(4, .int (x2 + (1 : Int32))), (3, .int (M.1 7 x2.toNatClampNeg)), (0, .ref (ad 0)), (1, .int x1), (2, .int x2)] dX12_splits_34 (by decide) rfl ?_
        refine j_iload_n h dX12_splits_36 rfl 1 rfl ?_
        refine j_callSiP (n := 1) (As := [.int (M.1 7 x2.toNatClampNeg)]) (rest := []) h tw_1562 tw_1563 tw_14 tw_1564 ydf12_isSmall (by decide) (by decide) (fun q hq => cf12_isSmall (ph_okZ h) (ph_okI h) hq) rfl (Nat.le_of_ble_eq_true rfl) rfl dX12_splits_37 (fun q2 => ?_)
        refine j_if_eq h 68 dX12_splits_40 (by decide) ?_ ?_
        · refine j_sub [2, 3, 4, 1, 0] rfl ?_
          exact jb_f12_splits_j68 h fin hrc7 x1 x2 (M.1 7 x2.toNatClampNeg) (x2 + (1 : Int32)) M
        · refine j_sub [2, 3, 4, 1, 0] rfl ?_
          exact jb_f12_splits_l43 h fin hrc7 10000 x1 x2 (M.1 7 x2.toNatClampNeg) (x2 + (1 : Int32)) M
      · refine j_iinc h [(2, .int (x2 + (1 : Int32))), (3, .int (M.1 7 x2.toNatClampNeg)), (0, .ref (ad 0)), (1, .int x1)] dX12_splits_25 3 rfl rfl (by decide) rfl ?_
        refine j_goto h 7 dX12_splits_28 (by decide) ?_
        refine j_sub [2, 3, 0] rfl ?_
        exact hrc7 x1 (x2 + (1 : Int32)) M
theorem ydf12_splits : ph_yd yX12_splits 1 := ⟨by decide, by decide, by decide +kernel⟩
def f12_splits (M : ph_Mem) (p0 : Int32) : Option ph_Mem :=
  ph_let (ph_wi M 0 18 (0 : Int32)) fun M1 => f12_splits_l7 10000 p0 (0 : Int32) M1
set_option maxHeartbeats 4000000 in
theorem cf12_splits {Z : (Nat → Prop) → State → Prop} (hZ : ph_Zok Z) {l : Launch} {D : va_G} {cA : Nat → ClassId} {ad : Nat → Nat} (hinj : ∀ i j, i < ph_NM → j < ph_NM → ad i = ad j → i = j) {M : ph_Mem} {p0 : Int32} {M' : ph_Mem} (hf : f12_splits M p0 = some M') : ph_C Z l 1 yX12_splits cX12_splits 6 none D cA ph_kdM ph_NM ad [.ref (ad 0), .int p0] M none M' := by
  refine ph_mk hZ hinj (by decide) (Nat.le_of_ble_eq_true rfl) fun X h fin hE => ?_
  refine (?_ : ph_J X ph_kdM ph_NM ad (M' : ph_Mem) 0 [(0, .ref (ad 0)), (1, .int p0)] [] M (f12_splits M p0)) hf
  unfold f12_splits
  refine j_aload_n h dX12_splits_0 rfl 0 rfl ?_
  refine j_iconst (v := (0 : Int32)) h dX12_splits_1 (by decide) ?_
  refine j_puti (c := 0) (j := 18) (ty := .int) h (by decide) rfl rfl ph_inX12 tyX12 tyX12_ok nmX12 rfl (by decide) tw_1217 rfl rfl (tyX12_ok 18 (by decide)) rfl rfl dX12_splits_2 ?_
  refine j_letM (fun M1 => ?_)
  refine j_iconst (v := (0 : Int32)) h dX12_splits_5 (by decide) ?_
  refine j_istore_n h [(2, .int (0 : Int32)), (0, .ref (ad 0)), (1, .int p0)] dX12_splits_6 rfl (by decide) rfl ?_
  refine j_sub [1, 2, 0] rfl ?_
  exact jb_f12_splits_l7 h fin 10000 p0 (0 : Int32) M1
