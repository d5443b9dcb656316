theorem dX12_lasting_0 : decode cX12_lasting 0 = .ok (.aload_n 0, 1) := by decide +kernel
theorem dX12_lasting_1 : decode cX12_lasting 1 = .ok (.iload_n 1, 1) := by decide +kernel
theorem dX12_lasting_2 : decode cX12_lasting 2 = .ok (.invokevirtual 146, 3) := by decide +kernel
theorem dX12_lasting_5 : decode cX12_lasting 5 = .ok (.ifCond .eq 24, 3) := by decide +kernel
theorem dX12_lasting_8 : decode cX12_lasting 8 = .ok (.iload_n 2, 1) := by decide +kernel
theorem dX12_lasting_9 : decode cX12_lasting 9 = .ok (.iconst 0, 1) := by decide +kernel
theorem dX12_lasting_10 : decode cX12_lasting 10 = .ok (.sipush 9999, 3) := by decide +kernel
theorem dX12_lasting_13 : decode cX12_lasting 13 = .ok (.invokestatic 108, 3) := by decide +kernel
theorem dX12_lasting_16 : decode cX12_lasting 16 = .ok (.ifCond .eq 13, 3) := by decide +kernel
theorem dX12_lasting_19 : decode cX12_lasting 19 = .ok (.iload_n 3, 1) := by decide +kernel
theorem dX12_lasting_20 : decode cX12_lasting 20 = .ok (.iconst 0, 1) := by decide +kernel
theorem dX12_lasting_21 : decode cX12_lasting 21 = .ok (.bipush 40, 2) := by decide +kernel
theorem dX12_lasting_23 : decode cX12_lasting 23 = .ok (.invokestatic 108, 3) := by decide +kernel
theorem dX12_lasting_26 : decode cX12_lasting 26 = .ok (.ifCond .ne 7, 3) := by decide +kernel
theorem dX12_lasting_29 : decode cX12_lasting 29 = .ok (.ldc2_w 310, 3) := by decide +kernel
theorem dX12_lasting_32 : decode cX12_lasting 32 = .ok (.lreturn, 1) := by decide +kernel
theorem dX12_lasting_33 : decode cX12_lasting 33 = .ok (.iconst 0, 1) := by decide +kernel
theorem dX12_lasting_34 : decode cX12_lasting 34 = .ok (.istore 4, 2) := by decide +kernel
theorem dX12_lasting_36 : decode cX12_lasting 36 = .ok (.iload 4, 2) := by decide +kernel
theorem dX12_lasting_38 : decode cX12_lasting 38 = .ok (.bipush 41, 2) := by decide +kernel
theorem dX12_lasting_40 : decode cX12_lasting 40 = .ok (.if_icmp .gt 17, 3) := by decide +kernel
theorem dX12_lasting_43 : decode cX12_lasting 43 = .ok (.aload_n 0, 1) := by decide +kernel
theorem dX12_lasting_44 : decode cX12_lasting 44 = .ok (.getfield 89, 3) := by decide +kernel
theorem dX12_lasting_47 : decode cX12_lasting 47 = .ok (.iload 4, 2) := by decide +kernel
theorem dX12_lasting_49 : decode cX12_lasting 49 = .ok (.lconst 0, 1) := by decide +kernel
theorem dX12_lasting_50 : decode cX12_lasting 50 = .ok (.lastore, 1) := by decide +kernel
theorem dX12_lasting_51 : decode cX12_lasting 51 = .ok (.iinc 4 1, 3) := by decide +kernel
theorem dX12_lasting_54 : decode cX12_lasting 54 = .ok (.goto (-18), 3) := by decide +kernel
theorem dX12_lasting_57 : decode cX12_lasting 57 = .ok (.aload_n 0, 1) := by decide +kernel
theorem dX12_lasting_58 : decode cX12_lasting 58 = .ok (.getfield 89, 3) := by decide +kernel
theorem dX12_lasting_61 : decode cX12_lasting 61 = .ok (.iconst 0, 1) := by decide +kernel
theorem dX12_lasting_62 : decode cX12_lasting 62 = .ok (.ldc2_w 425, 3) := by decide +kernel
theorem dX12_lasting_65 : decode cX12_lasting 65 = .ok (.lastore, 1) := by decide +kernel
theorem dX12_lasting_66 : decode cX12_lasting 66 = .ok (.iconst 1, 1) := by decide +kernel
theorem dX12_lasting_67 : decode cX12_lasting 67 = .ok (.istore 4, 2) := by decide +kernel
theorem dX12_lasting_69 : decode cX12_lasting 69 = .ok (.iload 4, 2) := by decide +kernel
theorem dX12_lasting_71 : decode cX12_lasting 71 = .ok (.iload_n 3, 1) := by decide +kernel
theorem dX12_lasting_72 : decode cX12_lasting 72 = .ok (.if_icmp .gt 142, 3) := by decide +kernel
theorem dX12_lasting_75 : decode cX12_lasting 75 = .ok (.iload 4, 2) := by decide +kernel
theorem dX12_lasting_77 : decode cX12_lasting 77 = .ok (.istore 5, 2) := by decide +kernel
theorem dX12_lasting_79 : decode cX12_lasting 79 = .ok (.iload 5, 2) := by decide +kernel
theorem dX12_lasting_81 : decode cX12_lasting 81 = .ok (.ifCond .lt 127, 3) := by decide +kernel
theorem dX12_lasting_84 : decode cX12_lasting 84 = .ok (.aload_n 0, 1) := by decide +kernel
theorem dX12_lasting_85 : decode cX12_lasting 85 = .ok (.getfield 89, 3) := by decide +kernel
theorem dX12_lasting_88 : decode cX12_lasting 88 = .ok (.iload 5, 2) := by decide +kernel
theorem dX12_lasting_90 : decode cX12_lasting 90 = .ok (.laload, 1) := by decide +kernel
theorem dX12_lasting_91 : decode cX12_lasting 91 = .ok (.bipush 10, 2) := by decide +kernel
theorem dX12_lasting_93 : decode cX12_lasting 93 = .ok (.aload_n 0, 1) := by decide +kernel
theorem dX12_lasting_94 : decode cX12_lasting 94 = .ok (.getfield 24, 3) := by decide +kernel
theorem dX12_lasting_97 : decode cX12_lasting 97 = .ok (.sipush 473, 3) := by decide +kernel
theorem dX12_lasting_100 : decode cX12_lasting 100 = .ok (.iaload, 1) := by decide +kernel
theorem dX12_lasting_101 : decode cX12_lasting 101 = .ok (.isub, 1) := by decide +kernel
theorem dX12_lasting_102 : decode cX12_lasting 102 = .ok (.i2l, 1) := by decide +kernel
theorem dX12_lasting_103 : decode cX12_lasting 103 = .ok (.lmul, 1) := by decide +kernel
theorem dX12_lasting_104 : decode cX12_lasting 104 = .ok (.ldc2_w 427, 3) := by decide +kernel
theorem dX12_lasting_107 : decode cX12_lasting 107 = .ok (.ldiv, 1) := by decide +kernel
theorem dX12_lasting_108 : decode cX12_lasting 108 = .ok (.lstore 6, 2) := by decide +kernel
theorem dX12_lasting_110 : decode cX12_lasting 110 = .ok (.iload 5, 2) := by decide +kernel
theorem dX12_lasting_112 : decode cX12_lasting 112 = .ok (.ifCond .ne 7, 3) := by decide +kernel
theorem dX12_lasting_115 : decode cX12_lasting 115 = .ok (.lconst 0, 1) := by decide +kernel
theorem dX12_lasting_116 : decode cX12_lasting 116 = .ok (.goto 26, 3) := by decide +kernel
theorem dX12_lasting_119 : decode cX12_lasting 119 = .ok (.aload_n 0, 1) := by decide +kernel
theorem dX12_lasting_120 : decode cX12_lasting 120 = .ok (.getfield 89, 3) := by decide +kernel
theorem dX12_lasting_123 : decode cX12_lasting 123 = .ok (.iload 5, 2) := by decide +kernel
theorem dX12_lasting_125 : decode cX12_lasting 125 = .ok (.iconst 1, 1) := by decide +kernel
theorem dX12_lasting_126 : decode cX12_lasting 126 = .ok (.isub, 1) := by decide +kernel
theorem dX12_lasting_127 : decode cX12_lasting 127 = .ok (.laload, 1) := by decide +kernel
theorem dX12_lasting_128 : decode cX12_lasting 128 = .ok (.aload_n 0, 1) := by decide +kernel
theorem dX12_lasting_129 : decode cX12_lasting 129 = .ok (.getfield 24, 3) := by decide +kernel
theorem dX12_lasting_132 : decode cX12_lasting 132 = .ok (.sipush 473, 3) := by decide +kernel
theorem dX12_lasting_135 : decode cX12_lasting 135 = .ok (.iaload, 1) := by decide +kernel
theorem dX12_lasting_136 : decode cX12_lasting 136 = .ok (.i2l, 1) := by decide +kernel
theorem dX12_lasting_137 : decode cX12_lasting 137 = .ok (.lmul, 1) := by decide +kernel
theorem dX12_lasting_138 : decode cX12_lasting 138 = .ok (.ldc2_w 427, 3) := by decide +kernel
theorem dX12_lasting_141 : decode cX12_lasting 141 = .ok (.ldiv, 1) := by decide +kernel
theorem dX12_lasting_142 : decode cX12_lasting 142 = .ok (.lstore 8, 2) := by decide +kernel
theorem dX12_lasting_144 : decode cX12_lasting 144 = .ok (.aload_n 0, 1) := by decide +kernel
theorem dX12_lasting_145 : decode cX12_lasting 145 = .ok (.getfield 24, 3) := by decide +kernel
theorem dX12_lasting_148 : decode cX12_lasting 148 = .ok (.sipush 216, 3) := by decide +kernel
theorem dX12_lasting_151 : decode cX12_lasting 151 = .ok (.iload_n 1, 1) := by decide +kernel
theorem dX12_lasting_152 : decode cX12_lasting 152 = .ok (.iadd, 1) := by decide +kernel
theorem dX12_lasting_153 : decode cX12_lasting 153 = .ok (.iaload, 1) := by decide +kernel
theorem dX12_lasting_154 : decode cX12_lasting 154 = .ok (.iload 4, 2) := by decide +kernel
theorem dX12_lasting_156 : decode cX12_lasting 156 = .ok (.aload_n 0, 1) := by decide +kernel
theorem dX12_lasting_157 : decode cX12_lasting 157 = .ok (.getfield 24, 3) := by decide +kernel
theorem dX12_lasting_160 : decode cX12_lasting 160 = .ok (.sipush 471, 3) := by decide +kernel
theorem dX12_lasting_163 : decode cX12_lasting 163 = .ok (.iaload, 1) := by decide +kernel
theorem dX12_lasting_164 : decode cX12_lasting 164 = .ok (.imul, 1) := by decide +kernel
theorem dX12_lasting_165 : decode cX12_lasting 165 = .ok (.iadd, 1) := by decide +kernel
theorem dX12_lasting_166 : decode cX12_lasting 166 = .ok (.iload 5, 2) := by decide +kernel
theorem dX12_lasting_168 : decode cX12_lasting 168 = .ok (.iconst 1, 1) := by decide +kernel
theorem dX12_lasting_169 : decode cX12_lasting 169 = .ok (.isub, 1) := by decide +kernel
theorem dX12_lasting_170 : decode cX12_lasting 170 = .ok (.iload_n 2, 1) := by decide +kernel
theorem dX12_lasting_171 : decode cX12_lasting 171 = .ok (.imul, 1) := by decide +kernel
theorem dX12_lasting_172 : decode cX12_lasting 172 = .ok (.isub, 1) := by decide +kernel
theorem dX12_lasting_173 : decode cX12_lasting 173 = .ok (.istore 10, 2) := by decide +kernel
theorem dX12_lasting_175 : decode cX12_lasting 175 = .ok (.aload_n 0, 1) := by decide +kernel
theorem dX12_lasting_176 : decode cX12_lasting 176 = .ok (.getfield 89, 3) := by decide +kernel
theorem dX12_lasting_179 : decode cX12_lasting 179 = .ok (.iload 5, 2) := by decide +kernel
theorem dX12_lasting_181 : decode cX12_lasting 181 = .ok (.lload 6, 2) := by decide +kernel
theorem dX12_lasting_183 : decode cX12_lasting 183 = .ok (.iload 5, 2) := by decide +kernel
theorem dX12_lasting_185 : decode cX12_lasting 185 = .ok (.ifCond .le 14, 3) := by decide +kernel
theorem dX12_lasting_188 : decode cX12_lasting 188 = .ok (.iload 10, 2) := by decide +kernel
theorem dX12_lasting_190 : decode cX12_lasting 190 = .ok (.iload_n 2, 1) := by decide +kernel
theorem dX12_lasting_191 : decode cX12_lasting 191 = .ok (.if_icmp .lt 8, 3) := by decide +kernel
theorem dX12_lasting_194 : decode cX12_lasting 194 = .ok (.lload 8, 2) := by decide +kernel
theorem dX12_lasting_196 : decode cX12_lasting 196 = .ok (.goto 4, 3) := by decide +kernel
theorem dX12_lasting_199 : decode cX12_lasting 199 = .ok (.lconst 0, 1) := by decide +kernel
theorem dX12_lasting_200 : decode cX12_lasting 200 = .ok (.ladd, 1) := by decide +kernel
theorem dX12_lasting_201 : decode cX12_lasting 201 = .ok (.lastore, 1) := by decide +kernel
theorem dX12_lasting_202 : decode cX12_lasting 202 = .ok (.iinc 5 (-1), 3) := by decide +kernel
theorem dX12_lasting_205 : decode cX12_lasting 205 = .ok (.goto (-126), 3) := by decide +kernel
theorem dX12_lasting_208 : decode cX12_lasting 208 = .ok (.iinc 4 1, 3) := by decide +kernel
theorem dX12_lasting_211 : decode cX12_lasting 211 = .ok (.goto (-142), 3) := by decide +kernel
theorem dX12_lasting_214 : decode cX12_lasting 214 = .ok (.lconst 0, 1) := by decide +kernel
theorem dX12_lasting_215 : decode cX12_lasting 215 = .ok (.lstore 4, 2) := by decide +kernel
theorem dX12_lasting_217 : decode cX12_lasting 217 = .ok (.iconst 0, 1) := by decide +kernel
theorem dX12_lasting_218 : decode cX12_lasting 218 = .ok (.istore 6, 2) := by decide +kernel
theorem dX12_lasting_220 : decode cX12_lasting 220 = .ok (.iload 6, 2) := by decide +kernel
theorem dX12_lasting_222 : decode cX12_lasting 222 = .ok (.iload_n 3, 1) := by decide +kernel
theorem dX12_lasting_223 : decode cX12_lasting 223 = .ok (.if_icmp .gt 21, 3) := by decide +kernel
theorem dX12_lasting_226 : decode cX12_lasting 226 = .ok (.lload 4, 2) := by decide +kernel
theorem dX12_lasting_228 : decode cX12_lasting 228 = .ok (.aload_n 0, 1) := by decide +kernel
theorem dX12_lasting_229 : decode cX12_lasting 229 = .ok (.getfield 89, 3) := by decide +kernel
theorem dX12_lasting_232 : decode cX12_lasting 232 = .ok (.iload 6, 2) := by decide +kernel
theorem dX12_lasting_234 : decode cX12_lasting 234 = .ok (.laload, 1) := by decide +kernel
theorem dX12_lasting_235 : decode cX12_lasting 235 = .ok (.ladd, 1) := by decide +kernel
theorem dX12_lasting_236 : decode cX12_lasting 236 = .ok (.lstore 4, 2) := by decide +kernel
theorem dX12_lasting_238 : decode cX12_lasting 238 = .ok (.iinc 6 1, 3) := by decide +kernel
theorem dX12_lasting_241 : decode cX12_lasting 241 = .ok (.goto (-21), 3) := by decide +kernel
theorem dX12_lasting_244 : decode cX12_lasting 244 = .ok (.lload 4, 2) := by decide +kernel
theorem dX12_lasting_246 : decode cX12_lasting 246 = .ok (.lreturn, 1) := by decide +kernel
def f12_lasting_j200 (rc69 : Int32 → Int32 → Int32 → Int32 → ph_Mem → Option (Int64 × ph_Mem)) (rc79 : Int32 → Int32 → Int32 → Int32 → Int32 → ph_Mem → Option (Int64 × ph_Mem)) (x1 : Int32) (x2 : Int32) (x3 : Int32) (x4 : Int32) (x5 : Int32) (s0 : Int64) (s1 : Int64) (s2 : Int32) (M : ph_Mem) : Option (Int64 × ph_Mem) :=
  cond (ph_ib s2 42) (ph_let (ph_wl M 22 s2.toNatClampNeg (s1 + s0)) fun M8 => rc79 x1 x2 x3 x4 (x5 + (-1 : Int32)) M8) none
set_option maxHeartbeats 4000000 in
theorem jb_f12_lasting_j200 {Z : (Nat → Prop) → State → Prop} {X : ph_X} {ad : Nat → Nat} {o : (Int64 × ph_Mem)} (h : ph_ok Z X cX12_lasting RX12 (some .long) 11 2 ph_NM ad) (fin : ph_fin X ph_kdM ph_NM ad (some (.long o.1)) o.2) {rc69 : Int32 → Int32 → Int32 → Int32 → ph_Mem → Option (Int64 × ph_Mem)} (hrc69 : ∀ (x1 : Int32) (x2 : Int32) (x3 : Int32) (x4 : Int32) (M : ph_Mem), ph_J X ph_kdM ph_NM ad o 69 [(0, .ref (ad 0)), (1, .int x1), (2, .int x2), (3, .int x3), (4, .int x4)] [] M (rc69 x1 x2 x3 x4 M)) {rc79 : Int32 → Int32 → Int32 → Int32 → Int32 → ph_Mem → Option (Int64 × ph_Mem)} (hrc79 : ∀ (x1 : Int32) (x2 : Int32) (x3 : Int32) (x4 : Int32) (x5 : Int32) (M : ph_Mem), ph_J X ph_kdM ph_NM ad o 79 [(0, .ref (ad 0)), (1, .int x1), (2, .int x2), (3, .int x3), (4, .int x4), (5, .int x5)] [] M (rc79 x1 x2 x3 x4 x5 M)) : ∀ (x1 : Int32) (x2 : Int32) (x3 : Int32) (x4 : Int32) (x5 : Int32) (s0 : Int64) (s1 : Int64) (s2 : Int32) (M : ph_Mem), ph_J X ph_kdM ph_NM ad o 200 [(0, .ref (ad 0)), (1, .int x1), (2, .int x2), (3, .int x3), (4, .int x4), (5, .int x5)] [.long s0, .long s1, .int s2, .ref (ad 22)] M (f12_lasting_j200 rc69 rc79 x1 x2 x3 x4 x5 s0 s1 s2 M) := by
  intro x1 x2 x3 x4 x5 s0 s1 s2 M
  unfold f12_lasting_j200
  refine j_ladd h dX12_lasting_200 ?_
  refine j_last (c := 22) (n := 42) h (by decide) rfl dX12_lasting_201 ?_
  refine j_letM (fun M8 => ?_)
  refine j_iinc h [(5, .int (x5 + (-1 : Int32))), (0, .ref (ad 0)), (1, .int x1), (2, .int x2), (3, .int x3), (4, .int x4)] dX12_lasting_202 5 rfl rfl (by decide) rfl ?_
  refine j_goto h 79 dX12_lasting_205 (by decide) ?_
  refine j_sub [1, 2, 3, 4, 5, 0] rfl ?_
  exact hrc79 x1 x2 x3 x4 (x5 + (-1 : Int32)) M8
def f12_lasting_j199 (rc69 : Int32 → Int32 → Int32 → Int32 → ph_Mem → Option (Int64 × ph_Mem)) (rc79 : Int32 → Int32 → Int32 → Int32 → Int32 → ph_Mem → Option (Int64 × ph_Mem)) (x1 : Int32) (x2 : Int32) (x3 : Int32) (x4 : Int32) (x5 : Int32) (s0 : Int64) (s1 : Int32) (M : ph_Mem) : Option (Int64 × ph_Mem) :=
  f12_lasting_j200 rc69 rc79 x1 x2 x3 x4 x5 (0 : Int64) s0 s1 M
set_option maxHeartbeats 4000000 in
theorem jb_f12_lasting_j199 {Z : (Nat → Prop) → State → Prop} {X : ph_X} {ad : Nat → Nat} {o : (Int64 × ph_Mem)} (h : ph_ok Z X cX12_lasting RX12 (some .long) 11 2 ph_NM ad) (fin : ph_fin X ph_kdM ph_NM ad (some (.long o.1)) o.2) {rc69 : Int32 → Int32 → Int32 → Int32 → ph_Mem → Option (Int64 × ph_Mem)} (hrc69 : ∀ (x1 : Int32) (x2 : Int32) (x3 : Int32) (x4 : Int32) (M : ph_Mem), ph_J X ph_kdM ph_NM ad o 69 [(0, .ref (ad 0)), (1, .int x1), (2, .int x2), (3, .int x3), (4, .int x4)] [] M (rc69 x1 x2 x3 x4 M)) {rc79 : Int32 → Int32 → Int32 → Int32 → Int32 → ph_Mem → Option (Int64 × ph_Mem)} (hrc79 : ∀ (x1 : Int32) (x2 : Int32) (x3 : Int32) (x4 : Int32) (x5 : Int32) (M : ph_Mem), ph_J X ph_kdM ph_NM ad o 79 [(0, .ref (ad 0)), (1, .int x1), (2, .int x2), (3, .int x3), (4, .int x4), (5, .int x5)] [] M (rc79 x1 x2 x3 x4 x5 M)) : ∀ (x1 : Int32) (x2 : Int32) (x3 : Int32) (x4 : Int32) (x5 : Int32) (s0 : Int64) (s1 : Int32) (M : ph_Mem), ph_J X ph_kdM ph_NM ad o 199 [(0, .ref (ad 0)), (1, .int x1), (2, .int x2), (3, .int x3), (4, .int x4), (5, .int x5)] [.long s0, .int s1, .ref (ad 22)] M (f12_lasting_j199 rc69 rc79 x1 x2 x3 x4 x5 s0 s1 M) := by
  intro x1 x2 x3 x4 x5 s0 s1 M
  unfold f12_lasting_j199
  refine j_lconst (v := (0 : Int64)) h dX12_lasting_199 (by decide) ?_
  refine j_sub [0, 1, 2, 3, 4, 5] rfl ?_
  exact jb_f12_lasting_j200 h fin hrc69 hrc79 x1 x2 x3 x4 x5 (0 : Int64) s0 s1 M
def f12_lasting_j142 (rc69 : Int32 → Int32 → Int32 → Int32 → ph_Mem → Option (Int64 × ph_Mem)) (rc79 : Int32 → Int32 → Int32 → Int32 → Int32 → ph_Mem → Option (Int64 × ph_Mem)) (x1 : Int32) (x2 : Int32) (x3 : Int32) (x4 : Int32) (x5 : Int32) (x6 : Int64) (s0 : Int64) (M : ph_Mem) : Option (Int64 × ph_Mem) :=
  cond (ph_ib ((216 : Int32) + x1) 6085) (ph_let (((M.1 2 ((216 : Int32) + x1).toNatClampNeg) + (x4 * (M.1 2 471))) - ((x5 - (1 : Int32)) * x2)) fun z7 => if x5 ≤ 0 then (f12_lasting_j199 rc69 rc79 x1 x2 x3 x4 x5 x6 x5 M) else (if z7 < x2 then (f12_lasting_j199 rc69 rc79 x1 x2 x3 x4 x5 x6 x5 M) else (f12_lasting_j200 rc69 rc79 x1 x2 x3 x4 x5 s0 x6 x5 M))) none
set_option maxHeartbeats 4000000 in
theorem jb_f12_lasting_j142 {Z : (Nat → Prop) → State → Prop} {X : ph_X} {ad : Nat → Nat} {o : (Int64 × ph_Mem)} (h : ph_ok Z X cX12_lasting RX12 (some .long) 11 2 ph_NM ad) (fin : ph_fin X ph_kdM ph_NM ad (some (.long o.1)) o.2) {rc69 : Int32 → Int32 → Int32 → Int32 → ph_Mem → Option (Int64 × ph_Mem)} (hrc69 : ∀ (x1 : Int32) (x2 : Int32) (x3 : Int32) (x4 : Int32) (M : ph_Mem), ph_J X ph_kdM ph_NM ad o 69 [(0, .ref (ad 0)), (1, .int x1), (2, .int x2), (3, .int x3), (4, .int x4)] [] M (rc69 x1 x2 x3 x4 M)) {rc79 : Int32 → Int32 → Int32 → Int32 → Int32 → ph_Mem → Option (Int64 × ph_Mem)} (hrc79 : ∀ (x1 : Int32) (x2 : Int32) (x3 : Int32) (x4 : Int32) (x5 : Int32) (M : ph_Mem), ph_J X ph_kdM ph_NM ad o 79 [(0, .ref (ad 0)), (1, .int x1), (2, .int x2), (3, .int x3), (4, .int x4), (5, .int x5)] [] M (rc79 x1 x2 x3 x4 x5 M)) : ∀ (x1 : Int32) (x2 : Int32) (x3 : Int32) (x4 : Int32) (x5 : Int32) (x6 : Int64) (s0 : Int64) (M : ph_Mem), ph_J X ph_kdM ph_NM ad o 142 [(0, .ref (ad 0)), (1, .int x1), (2, .int x2), (3, .int x3), (4, .int x4), (5, .int x5), (6, .long x6)] [.long s0] M (f12_lasting_j142 rc69 rc79 x1 x2 x3 x4 x5 x6 s0 M) := by
  intro x1 x2 x3 x4 x5 x6 s0 M
  unfold f12_lasting_j142
  refine j_lstore h [(8, .long s0), (0, .ref (ad 0)), (1, .int x1), (2, .int x2), (3, .int x3), (4, .int x4), (5, .int x5), (6, .long x6)] dX12_lasting_142 (by decide) rfl ?_
  refine j_aload_n h dX12_lasting_144 rfl 1 rfl ?_
  refine j_get (c := 0) (j := 2) (v := .ref (ad 2)) h (by decide) rfl rfl ph_inX12 rfl (by decide) tw_1201 rfl rfl dX12_lasting_145 ?_
  refine j_sipush (v := (216 : Int32)) h dX12_lasting_148 (by decide) ?_
  refine j_iload_n h dX12_lasting_151 rfl 2 rfl ?_
  refine j_iadd h dX12_lasting_152 ?_
  refine j_iald (c := 2) (n := 6085) h (by decide) rfl dX12_lasting_153 ?_
  refine j_iload h dX12_lasting_154 5 rfl ?_
  refine j_aload_n h dX12_lasting_156 rfl 1 rfl ?_
  refine j_get (c := 0) (j := 2) (v := .ref (ad 2)) h (by decide) rfl rfl ph_inX12 rfl (by decide) tw_1201 rfl rfl dX12_lasting_157 ?_
  refine j_sipush (v := (471 : Int32)) h dX12_lasting_160 (by decide) ?_
  refine j_ialdK (c := 2) (n := 6085) (kn := 471) h (by decide) rfl rfl (by decide) dX12_lasting_163 ?_
  refine j_imul h dX12_lasting_164 ?_
  refine j_iadd h dX12_lasting_165 ?_
  refine j_iload h dX12_lasting_166 6 rfl ?_
  refine j_iconst (v := (1 : Int32)) h dX12_lasting_168 (by decide) ?_
  refine j_isub h dX12_lasting_169 ?_
  refine j_iload_n h dX12_lasting_170 rfl 3 rfl ?_
  refine j_imul h dX12_lasting_171 ?_
  refine j_isub h dX12_lasting_172 ?_
  refine j_istore h [(10, .int (((M.1 2 ((216 : Int32) + x1).toNatClampNeg) + (x4 * (M.1 2 471))) - ((x5 - (1 : Int32)) * x2))), (8, .long s0), (0, .ref (ad 0)), (1, .int x1), (2, .int x2), (3, .int x3), (4, .int x4), (5, .int x5), (6, .long x6)] dX12_lasting_173 (by decide) rfl ?_
  refine j_letI (lvf := fun z7 => [(10, .int z7), (8, .long s0), (0, .ref (ad 0)), (1, .int x1), (2, .int x2), (3, .int x3), (4, .int x4), (5, .int x5), (6, .long x6)]) (fun z7 => ?_)
  refine j_aload_n h dX12_lasting_175 rfl 2 rfl ?_
  refine j_get (c := 0) (j := 39) (v := .ref (ad 22)) h (by decide) rfl rfl ph_inX12 rfl (by decide) tw_1238 rfl rfl dX12_lasting_176 ?_
  refine j_iload h dX12_lasting_179 7 rfl ?_
  refine j_lload h dX12_lasting_181 8 rfl ?_
  refine j_iload h dX12_lasting_183 7 rfl ?_
  refine j_if_le h 199 dX12_lasting_185 (by decide) ?_ ?_
  · refine j_sub [2, 3, 4, 5, 6, 7] rfl ?_
    exact jb_f12_lasting_j199 h fin hrc69 hrc79 x1 x2 x3 x4 x5 x6 x5 M
  · refine j_iload h dX12_lasting_188 0 rfl ?_
    refine j_iload_n h dX12_lasting_190 rfl 4 rfl ?_
    refine j_icmp_lt h 199 dX12_lasting_191 (by decide) ?_ ?_
    · refine j_sub [2, 3, 4, 5, 6, 7] rfl ?_
      exact jb_f12_lasting_j199 h fin hrc69 hrc79 x1 x2 x3 x4 x5 x6 x5 M
    · refine j_lload h dX12_lasting_194 1 rfl ?_
      refine j_goto h 200 dX12_lasting_196 (by decide) ?_
      refine j_sub [2, 3, 4, 5, 6, 7] rfl ?_
      exact jb_f12_lasting_j200 h fin hrc69 hrc79 x1 x2 x3 x4 x5 s0 x6 x5 M
def f12_lasting_j208 (rc69 : Int32 → Int32 → Int32 → Int32 → ph_Mem → Option (Int64 × ph_Mem)) (x1 : Int32) (x2 : Int32) (x3 : Int32) (x4 : Int32) (M : ph_Mem) : Option (Int64 × ph_Mem) :=
  rc69 x1 x2 x3 (x4 + (1 : Int32)) M
set_option maxHeartbeats 4000000 in
theorem jb_f12_lasting_j208 {Z : (Nat → Prop) → State → Prop} {X : ph_X} {ad : Nat → Nat} {o : (Int64 × ph_Mem)} (h : ph_ok Z X cX12_lasting RX12 (some .long) 11 2 ph_NM ad) (fin : ph_fin X ph_kdM ph_NM ad (some (.long o.1)) o.2) {rc69 : Int32 → Int32 → Int32 → Int32 → ph_Mem → Option (Int64 × ph_Mem)} (hrc69 : ∀ (x1 : Int32) (x2 : Int32) (x3 : Int32) (x4 : Int32) (M : ph_Mem), ph_J X ph_kdM ph_NM ad o 69 [(0, .ref (ad 0)), (1, .int x1), (2, .int x2), (3, .int x3), (4, .int x4)] [] M (rc69 x1 x2 x3 x4 M)) : ∀ (x1 : Int32) (x2 : Int32) (x3 : Int32) (x4 : Int32) (M : ph_Mem), ph_J X ph_kdM ph_NM ad o 208 [(0, .ref (ad 0)), (1, .int x1), (2, .int x2), (3, .int x3), (4, .int x4)] [] M (f12_lasting_j208 rc69 x1 x2 x3 x4 M) := by
  intro x1 x2 x3 x4 M
  unfold f12_lasting_j208
  refine j_iinc h [(4, .int (x4 + (1 : Int32))), (0, .ref (ad 0)), (1, .int x1), (2, .int x2), (3, .int x3)] dX12_lasting_208 4 rfl rfl (by decide) rfl ?_
  refine j_goto h 69 dX12_lasting_211 (by decide) ?_
  refine j_sub [1, 2, 3, 4, 0] rfl ?_
  exact hrc69 x1 x2 x3 (x4 + (1 : Int32)) M
def f12_lasting_l79 (rc69 : Int32 → Int32 → Int32 → Int32 → ph_Mem → Option (Int64 × ph_Mem)) : Nat → Int32 → Int32 → Int32 → Int32 → Int32 → ph_Mem → Option (Int64 × ph_Mem)
  | 0, _, _, _, _, _, _ => none
  | n + 1, x1, x2, x3, x4, x5, M => if x5 < 0 then (f12_lasting_j208 rc69 x1 x2 x3 x4 M) else (cond (ph_ib x5 42) (ph_let (((M.2.1 22 x5.toNatClampNeg) * ((10 : Int32) - (M.1 2 473)).toInt64) / (10 : Int64)) fun z6 => if x5 = 0 then (f12_lasting_j142 rc69 (f12_lasting_l79 rc69 n) x1 x2 x3 x4 x5 z6 (0 : Int64) M) else (cond (ph_ib (x5 - (1 : Int32)) 42) (f12_lasting_j142 rc69 (f12_lasting_l79 rc69 n) x1 x2 x3 x4 x5 z6 (((M.2.1 22 (x5 - (1 : Int32)).toNatClampNeg) * (M.1 2 473).toInt64) / (10 : Int64)) M) none)) none)
set_option maxHeartbeats 4000000 in
theorem jb_f12_lasting_l79 {Z : (Nat → Prop) → State → Prop} {X : ph_X} {ad : Nat → Nat} {o : (Int64 × ph_Mem)} (h : ph_ok Z X cX12_lasting RX12 (some .long) 11 2 ph_NM ad) (fin : ph_fin X ph_kdM ph_NM ad (some (.long o.1)) o.2) {rc69 : Int32 → Int32 → Int32 → Int32 → ph_Mem → Option (Int64 × ph_Mem)} (hrc69 : ∀ (x1 : Int32) (x2 : Int32) (x3 : Int32) (x4 : Int32) (M : ph_Mem), ph_J X ph_kdM ph_NM ad o 69 [(0, .ref (ad 0)), (1, .int x1), (2, .int x2), (3, .int x3), (4, .int x4)] [] M (rc69 x1 x2 x3 x4 M)) : ∀ (n : Nat) (x1 : Int32) (x2 : Int32) (x3 : Int32) (x4 : Int32) (x5 : Int32) (M : ph_Mem), ph_J X ph_kdM ph_NM ad o 79 [(0, .ref (ad 0)), (1, .int x1), (2, .int x2), (3, .int x3), (4, .int x4), (5, .int x5)] [] M (f12_lasting_l79 rc69 n x1 x2 x3 x4 x5 M) := by
  intro n
  induction n with
  | zero => intro x1 x2 x3 x4 x5 M; exact j_none
  | succ n hrc79 =>
    intro x1 x2 x3 x4 x5 M
    unfold f12_lasting_l79
    refine j_iload h dX12_lasting_79 5 rfl ?_
    refine j_if_lt h 208 dX12_lasting_81 (by decide) ?_ ?_
    · refine j_sub [0, 1, 2, 3, 4] rfl ?_
      exact jb_f12_lasting_j208 h fin hrc69 x1 x2 x3 x4 M
    · refine j_aload_n h dX12_lasting_84 rfl 0 rfl ?_
      refine j_get (c := 0) (j := 39) (v := .ref (ad 22)) h (by decide) rfl rfl ph_inX12 rfl (by decide) tw_1238 rfl rfl dX12_lasting_85 ?_
      refine j_iload h dX12_lasting_88 5 rfl ?_
      refine j_lald (c := 22) (n := 42) h (by decide) rfl dX12_lasting_90 ?_
      refine j_bipush (v := (10 : Int32)) h dX12_lasting_91 (by decide) ?_
      refine j_aload_n h dX12_lasting_93 rfl 0 rfl ?_
      refine j_get (c := 0) (j := 2) (v := .ref (ad 2)) h (by decide) rfl rfl ph_inX12 rfl (by decide) tw_1201 rfl rfl dX12_lasting_94 ?_
      refine j_sipush (v := (473 : Int32)) h dX12_lasting_97 (by decide) ?_
      refine j_ialdK (c := 2) (n := 6085) (kn := 473) h (by decide) rfl rfl (by decide) dX12_lasting_100 ?_
      refine j_isub h dX12_lasting_101 ?_
      refine j_i2l h dX12_lasting_102 ?_
      refine j_lmul h dX12_lasting_103 ?_
      refine j_ldc2 (v := (10 : Int64)) h dX12_lasting_104 tw_1818 ?_
      refine j_ldivK h dX12_lasting_107 (by decide) ?_
      refine j_lstore h [(6, .long (((M.2.1 22 x5.toNatClampNeg) * ((10 : Int32) - (M.1 2 473)).toInt64) / (10 : Int64))), (0, .ref (ad 0)), (1, .int x1), (2, .int x2), (3, .int x3), (4, .int x4), (5, .int x5)] dX12_lasting_108 (by decide) rfl ?_
      refine j_letJ (lvf := fun z6 => [(6, .long z6), (0, .ref (ad 0)), (1, .int x1), (2, .int x2), (3, .int x3), (4, .int x4), (5, .int x5)]) (fun z6 => ?_)
      refine j_iload h dX12_lasting_110 6 rfl ?_
      refine j_if_ne h 119 dX12_lasting_112 (by decide) ?_ ?_
      · refine j_aload_n h dX12_lasting_119 rfl 1 rfl ?_
        refine j_get (c := 0) (j := 39) (v := .ref (ad 22)) h (by decide) rfl rfl ph_inX12 rfl (by decide) tw_1238 rfl rfl dX12_lasting_120 ?_
        refine j_iload h dX12_lasting_123 6 rfl ?_
        refine j_iconst (v := (1 : Int32)) h dX12_lasting_125 (by decide) ?_
        refine j_isub h dX12_lasting_126 ?_
        refine j_lald (c := 22) (n := 42) h (by decide) rfl dX12_lasting_127 ?_
        refine j_aload_n h dX12_lasting_128 rfl 1 rfl ?_
        refine j_get (c := 0) (j := 2) (v := .ref (ad 2)) h (by decide) rfl rfl ph_inX12 rfl (by decide) tw_1201 rfl rfl dX12_lasting_129 ?_
        refine j_sipush (v := (473 : Int32)) h dX12_lasting_132 (by decide) ?_
        refine j_ialdK (c := 2) (n := 6085) (kn := 473) h (by decide) rfl rfl (by decide) dX12_lasting_135 ?_
        refine j_i2l h dX12_lasting_136 ?_
        refine j_lmul h dX12_lasting_137 ?_
        refine j_ldc2 (v := (10 : Int64)) h dX12_lasting_138 tw_1818 ?_
        refine j_ldivK h dX12_lasting_141 (by decide) ?_
        refine j_sub [1, 2, 3, 4, 5, 6, 0] rfl ?_
        exact jb_f12_lasting_j142 h fin hrc69 hrc79 x1 x2 x3 x4 x5 z6 (((M.2.1 22 (x5 - (1 : Int32)).toNatClampNeg) * (M.1 2 473).toInt64) / (10 : Int64)) M
      · refine j_lconst (v := (0 : Int64)) h dX12_lasting_115 (by decide) ?_
        refine j_goto h 142 dX12_lasting_116 (by decide) ?_
        refine j_sub [1, 2, 3, 4, 5, 6, 0] rfl ?_
        exact jb_f12_lasting_j142 h fin hrc69 hrc79 x1 x2 x3 x4 x5 z6 (0 : Int64) M
def f12_lasting_l220 : Nat → Int32 → Int64 → Int32 → ph_Mem → Option (Int64 × ph_Mem)
  | 0, _, _, _, _ => none
  | n + 1, x3, x4, x6, M => if x3 < x6 then (some (x4, M)) else (cond (ph_ib x6 42) (ph_let (x4 + (M.2.1 22 x6.toNatClampNeg)) fun z9 => (f12_lasting_l220 n) x3 z9 (x6 + (1 : Int32)) M) none)
set_option maxHeartbeats 4000000 in
theorem jb_f12_lasting_l220 {Z : (Nat → Prop) → State → Prop} {X : ph_X} {ad : Nat → Nat} {o : (Int64 × ph_Mem)} (h : ph_ok Z X cX12_lasting RX12 (some .long) 11 2 ph_NM ad) (fin : ph_fin X ph_kdM ph_NM ad (some (.long o.1)) o.2) : ∀ (n : Nat) (x3 : Int32) (x4 : Int64) (x6 : Int32) (M : ph_Mem), ph_J X ph_kdM ph_NM ad o 220 [(0, .ref (ad 0)), (3, .int x3), (4, .long x4), (6, .int x6)] [] M (f12_lasting_l220 n x3 x4 x6 M) := by
  intro n
  induction n with
  | zero => intro x3 x4 x6 M; exact j_none
  | succ n hrc220 =>
    intro x3 x4 x6 M
    unfold f12_lasting_l220
    refine j_iload h dX12_lasting_220 3 rfl ?_
    refine j_iload_n h dX12_lasting_222 rfl 1 rfl ?_
    refine j_icmp_gt h 244 dX12_lasting_223 (by decide) ?_ ?_
    · refine j_lload h dX12_lasting_244 2 rfl ?_
      exact j_lret h rfl fin dX12_lasting_246
    · refine j_lload h dX12_lasting_226 2 rfl ?_
      refine j_aload_n h dX12_lasting_228 rfl 0 rfl ?_
      refine j_get (c := 0) (j := 39) (v := .ref (ad 22)) h (by decide) rfl rfl ph_inX12 rfl (by decide) tw_1238 rfl rfl dX12_lasting_229 ?_
      refine j_iload h dX12_lasting_232 3 rfl ?_
      refine j_lald (c := 22) (n := 42) h (by decide) rfl dX12_lasting_234 ?_
      refine j_ladd h dX12_lasting_235 ?_
      refine j_lstore h [(4, .long (x4 + (M.2.1 22 x6.toNatClampNeg))), (0, .ref (ad 0)), (3, .int x3), (6, .int x6)] dX12_lasting_236 (by decide) rfl ?_
      refine j_letJ (lvf := fun z9 => [(4, .long z9), (0, .ref (ad 0)), (3, .int x3), (6, .int x6)]) (fun z9 => ?_)
      refine j_iinc h [(6, .int (x6 + (1 : Int32))), (4, .long z9), (0, .ref (ad 0)), (3, .int x3)] dX12_lasting_238 3 rfl rfl (by decide) rfl ?_
      refine j_goto h 220 dX12_lasting_241 (by decide) ?_
      refine j_sub [2, 3, 1, 0] rfl ?_
      exact hrc220 x3 z9 (x6 + (1 : Int32)) M
def f12_lasting_j214 (x3 : Int32) (M : ph_Mem) : Option (Int64 × ph_Mem) :=
  f12_lasting_l220 10000 x3 (0 : Int64) (0 : Int32) M
set_option maxHeartbeats 4000000 in
theorem jb_f12_lasting_j214 {Z : (Nat → Prop) → State → Prop} {X : ph_X} {ad : Nat → Nat} {o : (Int64 × ph_Mem)} (h : ph_ok Z X cX12_lasting RX12 (some .long) 11 2 ph_NM ad) (fin : ph_fin X ph_kdM ph_NM ad (some (.long o.1)) o.2) : ∀ (x3 : Int32) (M : ph_Mem), ph_J X ph_kdM ph_NM ad o 214 [(0, .ref (ad 0)), (3, .int x3)] [] M (f12_lasting_j214 x3 M) := by
  intro x3 M
  unfold f12_lasting_j214
  refine j_lconst (v := (0 : Int64)) h dX12_lasting_214 (by decide) ?_
  refine j_lstore h [(4, .long (0 : Int64)), (0, .ref (ad 0)), (3, .int x3)] dX12_lasting_215 (by decide) rfl ?_
  refine j_iconst (v := (0 : Int32)) h dX12_lasting_217 (by decide) ?_
  refine j_istore h [(6, .int (0 : Int32)), (4, .long (0 : Int64)), (0, .ref (ad 0)), (3, .int x3)] dX12_lasting_218 (by decide) rfl ?_
  refine j_sub [2, 3, 1, 0] rfl ?_
  exact jb_f12_lasting_l220 h fin 10000 x3 (0 : Int64) (0 : Int32) M
def f12_lasting_l69 : Nat → Int32 → Int32 → Int32 → Int32 → ph_Mem → Option (Int64 × ph_Mem)
  | 0, _, _, _, _, _ => none
  | n + 1, x1, x2, x3, x4, M => if x3 < x4 then (f12_lasting_j214 x3 M) else (f12_lasting_l79 (f12_lasting_l69 n) 10000 x1 x2 x3 x4 x4 M)
set_option maxHeartbeats 4000000 in
theorem jb_f12_lasting_l69 {Z : (Nat → Prop) → State → Prop} {X : ph_X} {ad : Nat → Nat} {o : (Int64 × ph_Mem)} (h : ph_ok Z X cX12_lasting RX12 (some .long) 11 2 ph_NM ad) (fin : ph_fin X ph_kdM ph_NM ad (some (.long o.1)) o.2) : ∀ (n : Nat) (x1 : Int32) (x2 : Int32) (x3 : Int32) (x4 : Int32) (M : ph_Mem), ph_J X ph_kdM ph_NM ad o 69 [(0, .ref (ad 0)), (1, .int x1), (2, .int x2), (3, .int x3), (4, .int x4)] [] M (f12_lasting_l69 n x1 x2 x3 x4 M) := by
  intro n
  induction n with
  | zero => intro x1 x2 x3 x4 M; exact j_none
  | succ n hrc69 =>
    intro x1 x2 x3 x4 M
    unfold f12_lasting_l69
    refine j_iload h dX12_lasting_69 4 rfl ?_
    refine j_iload_n h dX12_lasting_71 rfl 3 rfl ?_
    refine j_icmp_gt h 214 dX12_lasting_72 (by decide) ?_ ?_
    · refine j_sub [0, 3] rfl ?_
      exact jb_f12_lasting_j214 h fin x3 M
    · refine j_iload h dX12_lasting_75 4 rfl ?_
      refine j_istore h [(5, .int x4), (0, .ref (ad 0)), (1, .int x1), (2, .int x2), (3, .int x3), (4, .int x4)] dX12_lasting_77 (by decide) rfl ?_
      refine j_sub [1, 2, 3, 4, 5, 0] rfl ?_
      exact jb_f12_lasting_l79 h fin hrc69 10000 x1 x2 x3 x4 x4 M
def f12_lasting_j57 (x1 : Int32) (x2 : Int32) (x3 : Int32) (M : ph_Mem) : Option (Int64 × ph_Mem) :=
  ph_let (ph_wl M 22 0 (1000000000000 : Int64)) fun M5 => f12_lasting_l69 10000 x1 x2 x3 (1 : Int32) M5
set_option maxHeartbeats 4000000 in
theorem jb_f12_lasting_j57 {Z : (Nat → Prop) → State → Prop} {X : ph_X} {ad : Nat → Nat} {o : (Int64 × ph_Mem)} (h : ph_ok Z X cX12_lasting RX12 (some .long) 11 2 ph_NM ad) (fin : ph_fin X ph_kdM ph_NM ad (some (.long o.1)) o.2) : ∀ (x1 : Int32) (x2 : Int32) (x3 : Int32) (M : ph_Mem), ph_J X ph_kdM ph_NM ad o 57 [(0, .ref (ad 0)), (1, .int x1), (2, .int x2), (3, .int x3)] [] M (f12_lasting_j57 x1 x2 x3 M) := by
  intro x1 x2 x3 M
  unfold f12_lasting_j57
  refine j_aload_n h dX12_lasting_57 rfl 0 rfl ?_
  refine j_get (c := 0) (j := 39) (v := .ref (ad 22)) h (by decide) rfl rfl ph_inX12 rfl (by decide) tw_1238 rfl rfl dX12_lasting_58 ?_
  refine j_iconst (v := (0 : Int32)) h dX12_lasting_61 (by decide) ?_
  refine j_ldc2 (v := (1000000000000 : Int64)) h dX12_lasting_62 tw_1817 ?_
  refine j_lastK (c := 22) (n := 42) (kn := 0) h (by decide) rfl rfl (by decide) dX12_lasting_65 ?_
  refine j_letM (fun M5 => ?_)
  refine j_iconst (v := (1 : Int32)) h dX12_lasting_66 (by decide) ?_
  refine j_istore h [(4, .int (1 : Int32)), (0, .ref (ad 0)), (1, .int x1), (2, .int x2), (3, .int x3)] dX12_lasting_67 (by decide) rfl ?_
  refine j_sub [1, 2, 3, 4, 0] rfl ?_
  exact jb_f12_lasting_l69 h fin 10000 x1 x2 x3 (1 : Int32) M5
def f12_lasting_l36 : Nat → Int32 → Int32 → Int32 → Int32 → ph_Mem → Option (Int64 × ph_Mem)
  | 0, _, _, _, _, _ => none
  | n + 1, x1, x2, x3, x4, M => if (41 : Int32) < x4 then (f12_lasting_j57 x1 x2 x3 M) else (cond (ph_ib x4 42) (ph_let (ph_wl M 22 x4.toNatClampNeg (0 : Int64)) fun M4 => (f12_lasting_l36 n) x1 x2 x3 (x4 + (1 : Int32)) M4) none)
set_option maxHeartbeats 4000000 in
theorem jb_f12_lasting_l36 {Z : (Nat → Prop) → State → Prop} {X : ph_X} {ad : Nat → Nat} {o : (Int64 × ph_Mem)} (h : ph_ok Z X cX12_lasting RX12 (some .long) 11 2 ph_NM ad) (fin : ph_fin X ph_kdM ph_NM ad (some (.long o.1)) o.2) : ∀ (n : Nat) (x1 : Int32) (x2 : Int32) (x3 : Int32) (x4 : Int32) (M : ph_Mem), ph_J X ph_kdM ph_NM ad o 36 [(0, .ref (ad 0)), (1, .int x1), (2, .int x2), (3, .int x3), (4, .int x4)] [] M (f12_lasting_l36 n x1 x2 x3 x4 M) := by
  intro n
  induction n with
  | zero => intro x1 x2 x3 x4 M; exact j_none
  | succ n hrc36 =>
    intro x1 x2 x3 x4 M
    unfold f12_lasting_l36
    refine j_iload h dX12_lasting_36 4 rfl ?_
    refine j_bipush (v := (41 : Int32)) h dX12_lasting_38 (by decide) ?_
    refine j_icmp_gt h 57 dX12_lasting_40 (by decide) ?_ ?_
    · refine j_sub [0, 1, 2, 3] rfl ?_
      exact jb_f12_lasting_j57 h fin x1 x2 x3 M
    · refine j_aload_n h dX12_lasting_43 rfl 0 rfl ?_
      refine j_get (c := 0) (j := 39) (v := .ref (ad 22)) h (by decide) rfl rfl ph_inX12 rfl (by decide) tw_1238 rfl rfl dX12_lasting_44 ?_
      refine j_iload h dX12_lasting_47 4 rfl ?_
      refine j_lconst (v := (0 : Int64)) h dX12_lasting_49 (by decide) ?_
      refine j_last (c := 22) (n := 42) h (by decide) rfl dX12_lasting_50 ?_
      refine j_letM (fun M4 => ?_)
      refine j_iinc h [(4, .int (x4 + (1 : Int32))), (0, .ref (ad 0)), (1, .int x1), (2, .int x2), (3, .int x3)] dX12_lasting_51 4 rfl rfl (by decide) rfl ?_
      refine j_goto h 36 dX12_lasting_54 (by decide) ?_
      refine j_sub [1, 2, 3, 4, 0] rfl ?_
      exact hrc36 x1 x2 x3 (x4 + (1 : Int32)) M4
theorem ydf12_lasting : ph_yd yX12_lasting 3 := ⟨by decide, by decide, by decide +kernel⟩
def f12_lasting (M : ph_Mem) (p0 : Int32) (p1 : Int32) (p2 : Int32) : Option (Int64 × ph_Mem) :=
  (f12_isPerson M p0).bind fun q1 => if q1 = 0 then (some ((-1 : Int64), M)) else ((f12_within M p1 (0 : Int32) (9999 : Int32)).bind fun q2 => if q2 = 0 then (some ((-1 : Int64), M)) else ((f12_within M p2 (0 : Int32) (40 : Int32)).bind fun q3 => if q3 = 0 then (some ((-1 : Int64), M)) else (f12_lasting_l36 10000 p0 p1 p2 (0 : Int32) M)))
set_option maxHeartbeats 4000000 in
theorem cf12_lasting {Z : (Nat → Prop) → State → Prop} (hZ : ph_Zok Z) {l : Launch} {D : va_G} {cA : Nat → ClassId} {ad : Nat → Nat} (hinj : ∀ i j, i < ph_NM → j < ph_NM → ad i = ad j → i = j) {M : ph_Mem} {p0 : Int32} {p1 : Int32} {p2 : Int32} {r : Int64} {M' : ph_Mem} (hf : f12_lasting M p0 p1 p2 = some (r, M')) : ph_C Z l 2 yX12_lasting cX12_lasting 11 (some .long) D cA ph_kdM ph_NM ad [.ref (ad 0), .int p0, .int p1, .int p2] M (some (.long r)) M' := by
  refine ph_mk hZ hinj (by decide) (Nat.le_of_ble_eq_true rfl) fun X h fin hE => ?_
  refine (?_ : ph_J X ph_kdM ph_NM ad ((r, M') : (Int64 × ph_Mem)) 0 [(0, .ref (ad 0)), (1, .int p0), (2, .int p1), (3, .int p2)] [] M (f12_lasting M p0 p1 p2)) hf
  unfold f12_lasting
  refine j_aload_n h dX12_lasting_0 rfl 0 rfl ?_
  refine j_iload_n h dX12_lasting_1 rfl 1 rfl ?_
  refine j_callViP (n := 1) (As := [.int p0]) (rest := []) h 0 tw_1418 tw_1420 tp_56 tw_14 tw_1421 ydf12_isPerson (by decide) (by decide) (by decide) rfl rfl (fun q hq => cf12_isPerson (ph_okZ h) (ph_okI h) hq) rfl (Nat.le_of_ble_eq_true rfl) rfl dX12_lasting_2 (fun q1 => ?_)
  refine j_if_eq h 29 dX12_lasting_5 (by decide) ?_ ?_
  · refine j_ldc2 (v := (-1 : Int64)) h dX12_lasting_29 tw_1468 ?_
    exact j_lret h rfl fin dX12_lasting_32
  · refine j_iload_n h dX12_lasting_8 rfl 2 rfl ?_
    refine j_iconst (v := (0 : Int32)) h dX12_lasting_9 (by decide) ?_
    refine j_sipush (v := (9999 : Int32)) h dX12_lasting_10 (by decide) ?_
    refine j_callSiP (n := 3) (As := [.int p1, .int (0 : Int32), .int (9999 : Int32)]) (rest := []) h tw_1366 tw_1367 tw_14 tw_1368 ydf12_within (by decide) (by decide) (fun q hq => cf12_within (ph_okZ h) (ph_okI h) hq) rfl (Nat.le_of_ble_eq_true rfl) rfl dX12_lasting_13 (fun q2 => ?_)
    refine j_if_eq h 29 dX12_lasting_16 (by decide) ?_ ?_
    · refine j_ldc2 (v := (-1 : Int64)) h dX12_lasting_29 tw_1468 ?_
      exact j_lret h rfl fin dX12_lasting_32
    · refine j_iload_n h dX12_lasting_19 rfl 3 rfl ?_
      refine j_iconst (v := (0 : Int32)) h dX12_lasting_20 (by decide) ?_
      refine j_bipush (v := (40 : Int32)) h dX12_lasting_21 (by decide) ?_
      refine j_callSiP (n := 3) (As := [.int p2, .int (0 : Int32), .int (40 : Int32)]) (rest := []) h tw_1366 tw_1367 tw_14 tw_1368 ydf12_within (by decide) (by decide) (fun q hq => cf12_within (ph_okZ h) (ph_okI h) hq) rfl (Nat.le_of_ble_eq_true rfl) rfl dX12_lasting_23 (fun q3 => ?_)
      refine j_if_ne h 33 dX12_lasting_26 (by decide) ?_ ?_
      · refine j_iconst (v := (0 : Int32)) h dX12_lasting_33 (by decide) ?_
        refine j_istore h [(4, .int (0 : Int32)), (0, .ref (ad 0)), (1, .int p0), (2, .int p1), (3, .int p2)] dX12_lasting_34 (by decide) rfl ?_
        refine j_sub [1, 2, 3, 4, 0] rfl ?_
        exact jb_f12_lasting_l36 h fin 10000 p0 p1 p2 (0 : Int32) M
      · refine j_ldc2 (v := (-1 : Int64)) h dX12_lasting_29 tw_1468 ?_
        exact j_lret h rfl fin dX12_lasting_32
theorem dX12_stopped_0 : decode cX12_stopped 0 = .ok (.aload_n 0, 1) := by decide +kernel
theorem dX12_stopped_1 : decode cX12_stopped 1 = .ok (.getfield 93, 3) := by decide +kernel
theorem dX12_stopped_4 : decode cX12_stopped 4 = .ok (.ireturn, 1) := by decide +kernel
theorem ydf12_stopped : ph_yd yX12_stopped 0 := ⟨by decide, by decide, by decide +kernel⟩
def f12_stopped (M : ph_Mem) : Option Int32 :=
  some (M.1 0 40)
set_option maxHeartbeats 4000000 in
theorem cf12_stopped {Z : (Nat → Prop) → State → Prop} (hZ : ph_Zok Z) {l : Launch} {D : va_G} {cA : Nat → ClassId} {ad : Nat → Nat} (hinj : ∀ i j, i < ph_NM → j < ph_NM → ad i = ad j → i = j) {M : ph_Mem} {r : Int32} (hf : f12_stopped M  = some r) : ph_C Z l 0 yX12_stopped cX12_stopped 1 (some .int) D cA ph_kdM ph_NM ad [.ref (ad 0)] M (some (.int r)) M := by
  refine ph_mk hZ hinj (by decide) (Nat.le_of_ble_eq_true rfl) fun X h fin hE => ?_
  refine (?_ : ph_J X ph_kdM ph_NM ad (r : Int32) 0 [(0, .ref (ad 0))] [] M (f12_stopped M )) hf
  unfold f12_stopped
  refine j_aload_n h dX12_stopped_0 rfl 0 rfl ?_
  refine j_get (c := 0) (j := 40) (v := .int (M.1 0 40)) h (by decide) rfl rfl ph_inX12 rfl (by decide) tw_1239 rfl rfl dX12_stopped_1 ?_
  exact j_iretP h rfl fin dX12_stopped_4
theorem dX12_goesAlong_0 : decode cX12_goesAlong 0 = .ok (.aload_n 0, 1) := by decide +kernel
theorem dX12_goesAlong_1 : decode cX12_goesAlong 1 = .ok (.bipush 17, 2) := by decide +kernel
theorem dX12_goesAlong_3 : decode cX12_goesAlong 3 = .ok (.putfield 252, 3) := by decide +kernel
theorem dX12_goesAlong_6 : decode cX12_goesAlong 6 = .ok (.aload_n 0, 1) := by decide +kernel
theorem dX12_goesAlong_7 : decode cX12_goesAlong 7 = .ok (.iload_n 1, 1) := by decide +kernel
theorem dX12_goesAlong_8 : decode cX12_goesAlong 8 = .ok (.putfield 277, 3) := by decide +kernel
theorem dX12_goesAlong_11 : decode cX12_goesAlong 11 = .ok (.aload_n 0, 1) := by decide +kernel
theorem dX12_goesAlong_12 : decode cX12_goesAlong 12 = .ok (.getfield 59, 3) := by decide +kernel
theorem dX12_goesAlong_15 : decode cX12_goesAlong 15 = .ok (.iconst 0, 1) := by decide +kernel
theorem dX12_goesAlong_16 : decode cX12_goesAlong 16 = .ok (.aload_n 0, 1) := by decide +kernel
theorem dX12_goesAlong_17 : decode cX12_goesAlong 17 = .ok (.getfield 24, 3) := by decide +kernel
theorem dX12_goesAlong_20 : decode cX12_goesAlong 20 = .ok (.sipush 222, 3) := by decide +kernel
theorem dX12_goesAlong_23 : decode cX12_goesAlong 23 = .ok (.iaload, 1) := by decide +kernel
theorem dX12_goesAlong_24 : decode cX12_goesAlong 24 = .ok (.iastore, 1) := by decide +kernel
theorem dX12_goesAlong_25 : decode cX12_goesAlong 25 = .ok (.aload_n 0, 1) := by decide +kernel
theorem dX12_goesAlong_26 : decode cX12_goesAlong 26 = .ok (.getfield 59, 3) := by decide +kernel
theorem dX12_goesAlong_29 : decode cX12_goesAlong 29 = .ok (.iconst 1, 1) := by decide +kernel
theorem dX12_goesAlong_30 : decode cX12_goesAlong 30 = .ok (.aload_n 0, 1) := by decide +kernel
theorem dX12_goesAlong_31 : decode cX12_goesAlong 31 = .ok (.getfield 429, 3) := by decide +kernel
theorem dX12_goesAlong_34 : decode cX12_goesAlong 34 = .ok (.iastore, 1) := by decide +kernel
theorem dX12_goesAlong_35 : decode cX12_goesAlong 35 = .ok (.aload_n 0, 1) := by decide +kernel
theorem dX12_goesAlong_36 : decode cX12_goesAlong 36 = .ok (.getfield 59, 3) := by decide +kernel
theorem dX12_goesAlong_39 : decode cX12_goesAlong 39 = .ok (.iconst 2, 1) := by decide +kernel
theorem dX12_goesAlong_40 : decode cX12_goesAlong 40 = .ok (.aload_n 0, 1) := by decide +kernel
theorem dX12_goesAlong_41 : decode cX12_goesAlong 41 = .ok (.getfield 432, 3) := by decide +kernel
theorem dX12_goesAlong_44 : decode cX12_goesAlong 44 = .ok (.iastore, 1) := by decide +kernel
theorem dX12_goesAlong_45 : decode cX12_goesAlong 45 = .ok (.aload_n 0, 1) := by decide +kernel
theorem dX12_goesAlong_46 : decode cX12_goesAlong 46 = .ok (.aload_n 0, 1) := by decide +kernel
theorem dX12_goesAlong_47 : decode cX12_goesAlong 47 = .ok (.getfield 435, 3) := by decide +kernel
theorem dX12_goesAlong_50 : decode cX12_goesAlong 50 = .ok (.putfield 280, 3) := by decide +kernel
theorem dX12_goesAlong_53 : decode cX12_goesAlong 53 = .ok (.aload_n 0, 1) := by decide +kernel
theorem dX12_goesAlong_54 : decode cX12_goesAlong 54 = .ok (.aload_n 0, 1) := by decide +kernel
theorem dX12_goesAlong_55 : decode cX12_goesAlong 55 = .ok (.aload_n 0, 1) := by decide +kernel
theorem dX12_goesAlong_56 : decode cX12_goesAlong 56 = .ok (.getfield 280, 3) := by decide +kernel
theorem dX12_goesAlong_59 : decode cX12_goesAlong 59 = .ok (.invokevirtual 283, 3) := by decide +kernel
theorem dX12_goesAlong_62 : decode cX12_goesAlong 62 = .ok (.putfield 441, 3) := by decide +kernel
theorem dX12_goesAlong_65 : decode cX12_goesAlong 65 = .ok (.aload_n 0, 1) := by decide +kernel
theorem dX12_goesAlong_66 : decode cX12_goesAlong 66 = .ok (.dup, 1) := by decide +kernel
theorem dX12_goesAlong_67 : decode cX12_goesAlong 67 = .ok (.getfield 280, 3) := by decide +kernel
theorem dX12_goesAlong_70 : decode cX12_goesAlong 70 = .ok (.iconst 1, 1) := by decide +kernel
theorem dX12_goesAlong_71 : decode cX12_goesAlong 71 = .ok (.iadd, 1) := by decide +kernel
theorem dX12_goesAlong_72 : decode cX12_goesAlong 72 = .ok (.putfield 280, 3) := by decide +kernel
theorem dX12_goesAlong_75 : decode cX12_goesAlong 75 = .ok (.aload_n 0, 1) := by decide +kernel
theorem dX12_goesAlong_76 : decode cX12_goesAlong 76 = .ok (.iconst 1, 1) := by decide +kernel
theorem dX12_goesAlong_77 : decode cX12_goesAlong 77 = .ok (.putfield 444, 3) := by decide +kernel
theorem dX12_goesAlong_80 : decode cX12_goesAlong 80 = .ok (.aload_n 0, 1) := by decide +kernel
theorem dX12_goesAlong_81 : decode cX12_goesAlong 81 = .ok (.getfield 441, 3) := by decide +kernel
theorem dX12_goesAlong_84 : decode cX12_goesAlong 84 = .ok (.bipush 26, 2) := by decide +kernel
theorem dX12_goesAlong_86 : decode cX12_goesAlong 86 = .ok (.if_icmp .ne 7, 3) := by decide +kernel
theorem dX12_goesAlong_89 : decode cX12_goesAlong 89 = .ok (.iconst 0, 1) := by decide +kernel
theorem dX12_goesAlong_90 : decode cX12_goesAlong 90 = .ok (.goto 4, 3) := by decide +kernel
theorem dX12_goesAlong_93 : decode cX12_goesAlong 93 = .ok (.iconst 2, 1) := by decide +kernel
theorem dX12_goesAlong_94 : decode cX12_goesAlong 94 = .ok (.istore_n 3, 1) := by decide +kernel
theorem dX12_goesAlong_95 : decode cX12_goesAlong 95 = .ok (.iconst 0, 1) := by decide +kernel
theorem dX12_goesAlong_96 : decode cX12_goesAlong 96 = .ok (.istore 4, 2) := by decide +kernel
theorem dX12_goesAlong_98 : decode cX12_goesAlong 98 = .ok (.iload 4, 2) := by decide +kernel
theorem dX12_goesAlong_100 : decode cX12_goesAlong 100 = .ok (.iload_n 3, 1) := by decide +kernel
theorem dX12_goesAlong_101 : decode cX12_goesAlong 101 = .ok (.if_icmp .ge 64, 3) := by decide +kernel
theorem dX12_goesAlong_104 : decode cX12_goesAlong 104 = .ok (.iload 4, 2) := by decide +kernel
theorem dX12_goesAlong_106 : decode cX12_goesAlong 106 = .ok (.ifCond .le 13, 3) := by decide +kernel
theorem dX12_goesAlong_109 : decode cX12_goesAlong 109 = .ok (.aload_n 0, 1) := by decide +kernel
theorem dX12_goesAlong_110 : decode cX12_goesAlong 110 = .ok (.dup, 1) := by decide +kernel
theorem dX12_goesAlong_111 : decode cX12_goesAlong 111 = .ok (.getfield 280, 3) := by decide +kernel
theorem dX12_goesAlong_114 : decode cX12_goesAlong 114 = .ok (.iconst 1, 1) := by decide +kernel
theorem dX12_goesAlong_115 : decode cX12_goesAlong 115 = .ok (.iadd, 1) := by decide +kernel
theorem dX12_goesAlong_116 : decode cX12_goesAlong 116 = .ok (.putfield 280, 3) := by decide +kernel
theorem dX12_goesAlong_119 : decode cX12_goesAlong 119 = .ok (.aload_n 0, 1) := by decide +kernel
theorem dX12_goesAlong_120 : decode cX12_goesAlong 120 = .ok (.iconst 0, 1) := by decide +kernel
theorem dX12_goesAlong_121 : decode cX12_goesAlong 121 = .ok (.putfield 290, 3) := by decide +kernel
theorem dX12_goesAlong_124 : decode cX12_goesAlong 124 = .ok (.aload_n 0, 1) := by decide +kernel
theorem dX12_goesAlong_125 : decode cX12_goesAlong 125 = .ok (.getfield 96, 3) := by decide +kernel
theorem dX12_goesAlong_128 : decode cX12_goesAlong 128 = .ok (.iload 4, 2) := by decide +kernel
theorem dX12_goesAlong_130 : decode cX12_goesAlong 130 = .ok (.aload_n 0, 1) := by decide +kernel
theorem dX12_goesAlong_131 : decode cX12_goesAlong 131 = .ok (.iload_n 2, 1) := by decide +kernel
theorem dX12_goesAlong_132 : decode cX12_goesAlong 132 = .ok (.invokevirtual 307, 3) := by decide +kernel
theorem dX12_goesAlong_135 : decode cX12_goesAlong 135 = .ok (.lastore, 1) := by decide +kernel
theorem dX12_goesAlong_136 : decode cX12_goesAlong 136 = .ok (.aload_n 0, 1) := by decide +kernel
theorem dX12_goesAlong_137 : decode cX12_goesAlong 137 = .ok (.aload_n 0, 1) := by decide +kernel
theorem dX12_goesAlong_138 : decode cX12_goesAlong 138 = .ok (.getfield 444, 3) := by decide +kernel
theorem dX12_goesAlong_141 : decode cX12_goesAlong 141 = .ok (.ifCond .eq 14, 3) := by decide +kernel
theorem dX12_goesAlong_144 : decode cX12_goesAlong 144 = .ok (.aload_n 0, 1) := by decide +kernel
theorem dX12_goesAlong_145 : decode cX12_goesAlong 145 = .ok (.getfield 290, 3) := by decide +kernel
theorem dX12_goesAlong_148 : decode cX12_goesAlong 148 = .ok (.ifCond .ne 7, 3) := by decide +kernel
theorem dX12_goesAlong_151 : decode cX12_goesAlong 151 = .ok (.iconst 1, 1) := by decide +kernel
theorem dX12_goesAlong_152 : decode cX12_goesAlong 152 = .ok (.goto 4, 3) := by decide +kernel
theorem dX12_goesAlong_155 : decode cX12_goesAlong 155 = .ok (.iconst 0, 1) := by decide +kernel
theorem dX12_goesAlong_156 : decode cX12_goesAlong 156 = .ok (.putfield 444, 3) := by decide +kernel
theorem dX12_goesAlong_159 : decode cX12_goesAlong 159 = .ok (.iinc 4 1, 3) := by decide +kernel
theorem dX12_goesAlong_162 : decode cX12_goesAlong 162 = .ok (.goto (-64), 3) := by decide +kernel
theorem dX12_goesAlong_165 : decode cX12_goesAlong 165 = .ok (.aload_n 0, 1) := by decide +kernel
theorem dX12_goesAlong_166 : decode cX12_goesAlong 166 = .ok (.iconst 1, 1) := by decide +kernel
theorem dX12_goesAlong_167 : decode cX12_goesAlong 167 = .ok (.putfield 447, 3) := by decide +kernel
theorem dX12_goesAlong_170 : decode cX12_goesAlong 170 = .ok (.aload_n 0, 1) := by decide +kernel
theorem dX12_goesAlong_171 : decode cX12_goesAlong 171 = .ok (.bipush 27, 2) := by decide +kernel
theorem dX12_goesAlong_173 : decode cX12_goesAlong 173 = .ok (.invokevirtual 304, 3) := by decide +kernel
theorem dX12_goesAlong_176 : decode cX12_goesAlong 176 = .ok (.ifCond .eq 30, 3) := by decide +kernel
theorem dX12_goesAlong_179 : decode cX12_goesAlong 179 = .ok (.aload_n 0, 1) := by decide +kernel
theorem dX12_goesAlong_180 : decode cX12_goesAlong 180 = .ok (.aload_n 0, 1) := by decide +kernel
theorem dX12_goesAlong_181 : decode cX12_goesAlong 181 = .ok (.getfield 24, 3) := by decide +kernel
theorem dX12_goesAlong_184 : decode cX12_goesAlong 184 = .ok (.sipush 3285, 3) := by decide +kernel
theorem dX12_goesAlong_187 : decode cX12_goesAlong 187 = .ok (.aload_n 0, 1) := by decide +kernel
theorem dX12_goesAlong_188 : decode cX12_goesAlong 188 = .ok (.getfield 280, 3) := by decide +kernel
theorem dX12_goesAlong_191 : decode cX12_goesAlong 191 = .ok (.iadd, 1) := by decide +kernel
theorem dX12_goesAlong_192 : decode cX12_goesAlong 192 = .ok (.iaload, 1) := by decide +kernel
theorem dX12_goesAlong_193 : decode cX12_goesAlong 193 = .ok (.putfield 447, 3) := by decide +kernel
theorem dX12_goesAlong_196 : decode cX12_goesAlong 196 = .ok (.aload_n 0, 1) := by decide +kernel
theorem dX12_goesAlong_197 : decode cX12_goesAlong 197 = .ok (.dup, 1) := by decide +kernel
theorem dX12_goesAlong_198 : decode cX12_goesAlong 198 = .ok (.getfield 280, 3) := by decide +kernel
theorem dX12_goesAlong_201 : decode cX12_goesAlong 201 = .ok (.iconst 1, 1) := by decide +kernel
theorem dX12_goesAlong_202 : decode cX12_goesAlong 202 = .ok (.iadd, 1) := by decide +kernel
theorem dX12_goesAlong_203 : decode cX12_goesAlong 203 = .ok (.putfield 280, 3) := by decide +kernel
theorem dX12_goesAlong_206 : decode cX12_goesAlong 206 = .ok (.aload_n 0, 1) := by decide +kernel
theorem dX12_goesAlong_207 : decode cX12_goesAlong 207 = .ok (.iconst 0, 1) := by decide +kernel
theorem dX12_goesAlong_208 : decode cX12_goesAlong 208 = .ok (.putfield 290, 3) := by decide +kernel
theorem dX12_goesAlong_211 : decode cX12_goesAlong 211 = .ok (.aload_n 0, 1) := by decide +kernel
theorem dX12_goesAlong_212 : decode cX12_goesAlong 212 = .ok (.aload_n 0, 1) := by decide +kernel
theorem dX12_goesAlong_213 : decode cX12_goesAlong 213 = .ok (.iconst 4, 1) := by decide +kernel
theorem dX12_goesAlong_214 : decode cX12_goesAlong 214 = .ok (.invokevirtual 304, 3) := by decide +kernel
theorem dX12_goesAlong_217 : decode cX12_goesAlong 217 = .ok (.ifCond .eq 11, 3) := by decide +kernel
theorem dX12_goesAlong_220 : decode cX12_goesAlong 220 = .ok (.aload_n 0, 1) := by decide +kernel
theorem dX12_goesAlong_221 : decode cX12_goesAlong 221 = .ok (.iload_n 2, 1) := by decide +kernel
theorem dX12_goesAlong_222 : decode cX12_goesAlong 222 = .ok (.invokevirtual 321, 3) := by decide +kernel
theorem dX12_goesAlong_225 : decode cX12_goesAlong 225 = .ok (.ifCond .eq 7, 3) := by decide +kernel
theorem dX12_goesAlong_228 : decode cX12_goesAlong 228 = .ok (.iconst 1, 1) := by decide +kernel
theorem dX12_goesAlong_229 : decode cX12_goesAlong 229 = .ok (.goto 4, 3) := by decide +kernel
theorem dX12_goesAlong_232 : decode cX12_goesAlong 232 = .ok (.iconst 0, 1) := by decide +kernel
theorem dX12_goesAlong_233 : decode cX12_goesAlong 233 = .ok (.putfield 450, 3) := by decide +kernel
theorem dX12_goesAlong_236 : decode cX12_goesAlong 236 = .ok (.aload_n 0, 1) := by decide +kernel
theorem dX12_goesAlong_237 : decode cX12_goesAlong 237 = .ok (.aload_n 0, 1) := by decide +kernel
theorem dX12_goesAlong_238 : decode cX12_goesAlong 238 = .ok (.getfield 450, 3) := by decide +kernel
theorem dX12_goesAlong_241 : decode cX12_goesAlong 241 = .ok (.ifCond .eq 14, 3) := by decide +kernel
theorem dX12_goesAlong_244 : decode cX12_goesAlong 244 = .ok (.aload_n 0, 1) := by decide +kernel
theorem dX12_goesAlong_245 : decode cX12_goesAlong 245 = .ok (.getfield 290, 3) := by decide +kernel
theorem dX12_goesAlong_248 : decode cX12_goesAlong 248 = .ok (.ifCond .ne 7, 3) := by decide +kernel
theorem dX12_goesAlong_251 : decode cX12_goesAlong 251 = .ok (.iconst 1, 1) := by decide +kernel
theorem dX12_goesAlong_252 : decode cX12_goesAlong 252 = .ok (.goto 4, 3) := by decide +kernel
theorem dX12_goesAlong_255 : decode cX12_goesAlong 255 = .ok (.iconst 0, 1) := by decide +kernel
theorem dX12_goesAlong_256 : decode cX12_goesAlong 256 = .ok (.putfield 450, 3) := by decide +kernel
theorem dX12_goesAlong_259 : decode cX12_goesAlong 259 = .ok (.aload_n 0, 1) := by decide +kernel
theorem dX12_goesAlong_260 : decode cX12_goesAlong 260 = .ok (.dup, 1) := by decide +kernel
theorem dX12_goesAlong_261 : decode cX12_goesAlong 261 = .ok (.getfield 280, 3) := by decide +kernel
theorem dX12_goesAlong_264 : decode cX12_goesAlong 264 = .ok (.iconst 1, 1) := by decide +kernel
theorem dX12_goesAlong_265 : decode cX12_goesAlong 265 = .ok (.iadd, 1) := by decide +kernel
theorem dX12_goesAlong_266 : decode cX12_goesAlong 266 = .ok (.putfield 280, 3) := by decide +kernel
theorem dX12_goesAlong_269 : decode cX12_goesAlong 269 = .ok (.return_, 1) := by decide +kernel
def f12_goesAlong_j156 (rc98 : Int32 → Int32 → Int32 → ph_Mem → Option ph_Mem) (x2 : Int32) (x3 : Int32) (x4 : Int32) (s0 : Int32) (M : ph_Mem) : Option ph_Mem :=
  cond (ph_isz s0) (ph_let (ph_wi M 0 46 s0) fun M15 => rc98 x2 x3 (x4 + (1 : Int32)) M15) none
set_option maxHeartbeats 4000000 in
theorem jb_f12_goesAlong_j156 {Z : (Nat → Prop) → State → Prop} {X : ph_X} {ad : Nat → Nat} {o : ph_Mem} (h : ph_ok Z X cX12_goesAlong RX12 none 5 143 ph_NM ad) (fin : ph_fin X ph_kdM ph_NM ad none o) {rc98 : Int32 → Int32 → Int32 → ph_Mem → Option ph_Mem} (hrc98 : ∀ (x2 : Int32) (x3 : Int32) (x4 : Int32) (M : ph_Mem), ph_J X ph_kdM ph_NM ad o 98 [(0, .ref (ad 0)), (2, .int x2), (3, .int x3), (4, .int x4)] [] M (rc98 x2 x3 x4 M)) : ∀ (x2 : Int32) (x3 : Int32) (x4 : Int32) (s0 : Int32) (M : ph_Mem), ph_J X ph_kdM ph_NM ad o 156 [(0, .ref (ad 0)), (2, .int x2), (3, .int x3), (4, .int x4)] [.int s0, .ref (ad 0)] M (f12_goesAlong_j156 rc98 x2 x3 x4 s0 M) := by
  intro x2 x3 x4 s0 M
  unfold f12_goesAlong_j156
  refine j_putz (c := 0) (j := 46)  h (by decide) rfl rfl ph_inX12 tyX12 tyX12_ok nmX12 rfl (by decide) tw_1245 rfl rfl (tyX12_ok 46 (by decide)) dX12_goesAlong_156 ?_
  refine j_letM (fun M15 => ?_)
  refine j_iinc h [(4, .int (x4 + (1 : Int32))), (0, .ref (ad 0)), (2, .int x2), (3, .int x3)] dX12_goesAlong_159 3 rfl rfl (by decide) rfl ?_
  refine j_goto h 98 dX12_goesAlong_162 (by decide) ?_
  refine j_sub [1, 2, 3, 0] rfl ?_
  exact hrc98 x2 x3 (x4 + (1 : Int32)) M15
def f12_goesAlong_j155 (rc98 : Int32 → Int32 → Int32 → ph_Mem → Option ph_Mem) (x2 : Int32) (x3 : Int32) (x4 : Int32) (M : ph_Mem) : Option ph_Mem :=
  f12_goesAlong_j156 rc98 x2 x3 x4 (0 : Int32) M
set_option maxHeartbeats 4000000 in
theorem jb_f12_goesAlong_j155 {Z : (Nat → Prop) → State → Prop} {X : ph_X} {ad : Nat → Nat} {o : ph_Mem} (h : ph_ok Z X cX12_goesAlong RX12 none 5 143 ph_NM ad) (fin : ph_fin X ph_kdM ph_NM ad none o) {rc98 : Int32 → Int32 → Int32 → ph_Mem → Option ph_Mem} (hrc98 : ∀ (x2 : Int32) (x3 : Int32) (x4 : Int32) (M : ph_Mem), ph_J X ph_kdM ph_NM ad o 98 [(0, .ref (ad 0)), (2, .int x2), (3, .int x3), (4, .int x4)] [] M (rc98 x2 x3 x4 M)) : ∀ (x2 : Int32) (x3 : Int32) (x4 : Int32) (M : ph_Mem), ph_J X ph_kdM ph_NM ad o 155 [(0, .ref (ad 0)), (2, .int x2), (3, .int x3), (4, .int x4)] [.ref (ad 0)] M (f12_goesAlong_j155 rc98 x2 x3 x4 M) := by
  intro x2 x3 x4 M
  unfold f12_goesAlong_j155
  refine j_iconst (v := (0 : Int32)) h dX12_goesAlong_155 (by decide) ?_
  refine j_sub [0, 1, 2, 3] rfl ?_
  exact jb_f12_goesAlong_j156 h fin hrc98 x2 x3 x4 (0 : Int32) M
def f12_goesAlong_j119 (rc98 : Int32 → Int32 → Int32 → ph_Mem → Option ph_Mem) (x2 : Int32) (x3 : Int32) (x4 : Int32) (M : ph_Mem) : Option ph_Mem :=
  ph_let (ph_wi M 0 24 (0 : Int32)) fun M12 => (f12_sumOf M12 x2).bind fun q13 => cond (ph_ib x4 2) (ph_let (ph_wl q13.2 23 x4.toNatClampNeg q13.1) fun M14 => if (M14.1 0 46) = 0 then (f12_goesAlong_j155 rc98 x2 x3 x4 M14) else (if (M14.1 0 24) = 0 then (f12_goesAlong_j156 rc98 x2 x3 x4 (1 : Int32) M14) else (f12_goesAlong_j155 rc98 x2 x3 x4 M14))) none
set_option maxHeartbeats 4000000 in
theorem jb_f12_goesAlong_j119 {Z : (Nat → Prop) → State → Prop} {X : ph_X} {ad : Nat → Nat} {o : ph_Mem} (h : ph_ok Z X cX12_goesAlong RX12 none 5 143 ph_NM ad) (fin : ph_fin X ph_kdM ph_NM ad none o) {rc98 : Int32 → Int32 → Int32 → ph_Mem → Option ph_Mem} (hrc98 : ∀ (x2 : Int32) (x3 : Int32) (x4 : Int32) (M : ph_Mem), ph_J X ph_kdM ph_NM ad o 98 [(0, .ref (ad 0)), (2, .int x2), (3, .int x3), (4, .int x4)] [] M (rc98 x2 x3 x4 M)) : ∀ (x2 : Int32) (x3 : Int32) (x4 : Int32) (M : ph_Mem), ph_J X ph_kdM ph_NM ad o 119 [(0, .ref (ad 0)), (2, .int x2), (3, .int x3), (4, .int x4)] [] M (f12_goesAlong_j119 rc98 x2 x3 x4 M) := by
  intro x2 x3 x4 M
  unfold f12_goesAlong_j119
  refine j_aload_n h dX12_goesAlong_119 rfl 0 rfl ?_
  refine j_iconst (v := (0 : Int32)) h dX12_goesAlong_120 (by decide) ?_
  refine j_puti (c := 0) (j := 24) (ty := .boolean) h (by decide) rfl rfl ph_inX12 tyX12 tyX12_ok nmX12 rfl (by decide) tw_1223 rfl rfl (tyX12_ok 24 (by decide)) rfl rfl dX12_goesAlong_121 ?_
  refine j_letM (fun M12 => ?_)
  refine j_aload_n h dX12_goesAlong_124 rfl 0 rfl ?_
  refine j_get (c := 0) (j := 48) (v := .ref (ad 23)) h (by decide) rfl rfl ph_inX12 rfl (by decide) tw_1247 rfl rfl dX12_goesAlong_125 ?_
  refine j_iload h dX12_goesAlong_128 3 rfl ?_
  refine j_aload_n h dX12_goesAlong_130 rfl 0 rfl ?_
  refine j_iload_n h dX12_goesAlong_131 rfl 1 rfl ?_
  refine j_callVl (n := 1) (As := [.int x2]) (rest := [.int x4, .ref (ad 23)]) h 0 tw_1449 tw_1451 tp_62 tw_14 tw_1452 ydf12_sumOf (by decide) (by decide) (by decide) rfl rfl (fun q hq => cf12_sumOf (ph_okZ h) (ph_okI h) hq) rfl (Nat.le_of_ble_eq_true rfl) rfl dX12_goesAlong_132 (fun q13 => ?_)
  refine j_last (c := 23) (n := 2) h (by decide) rfl dX12_goesAlong_135 ?_
  refine j_letM (fun M14 => ?_)
  refine j_aload_n h dX12_goesAlong_136 rfl 0 rfl ?_
  refine j_aload_n h dX12_goesAlong_137 rfl 0 rfl ?_
  refine j_get (c := 0) (j := 46) (v := .int (M14.1 0 46)) h (by decide) rfl rfl ph_inX12 rfl (by decide) tw_1245 rfl rfl dX12_goesAlong_138 ?_
  refine j_if_eq h 155 dX12_goesAlong_141 (by decide) ?_ ?_
  · refine j_sub [0, 1, 2, 3] rfl ?_
    exact jb_f12_goesAlong_j155 h fin hrc98 x2 x3 x4 M14
  · refine j_aload_n h dX12_goesAlong_144 rfl 0 rfl ?_
    refine j_get (c := 0) (j := 24) (v := .int (M14.1 0 24)) h (by decide) rfl rfl ph_inX12 rfl (by decide) tw_1223 rfl rfl dX12_goesAlong_145 ?_
    refine j_if_ne h 155 dX12_goesAlong_148 (by decide) ?_ ?_
    · refine j_sub [0, 1, 2, 3] rfl ?_
      exact jb_f12_goesAlong_j155 h fin hrc98 x2 x3 x4 M14
    · refine j_iconst (v := (1 : Int32)) h dX12_goesAlong_151 (by decide) ?_
      refine j_goto h 156 dX12_goesAlong_152 (by decide) ?_
      refine j_sub [0, 1, 2, 3] rfl ?_
      exact jb_f12_goesAlong_j156 h fin hrc98 x2 x3 x4 (1 : Int32) M14
def f12_goesAlong_j256 (s0 : Int32) (M : ph_Mem) : Option ph_Mem :=
  cond (ph_isz s0) (ph_let (ph_wi M 0 47 s0) fun M24 => ph_let (ph_wi M24 0 22 ((M24.1 0 22) + (1 : Int32))) fun M25 => some M25) none
set_option maxHeartbeats 4000000 in
theorem jb_f12_goesAlong_j256 {Z : (Nat → Prop) → State → Prop} {X : ph_X} {ad : Nat → Nat} {o : ph_Mem} (h : ph_ok Z X cX12_goesAlong RX12 none 5 143 ph_NM ad) (fin : ph_fin X ph_kdM ph_NM ad none o) : ∀ (s0 : Int32) (M : ph_Mem), ph_J X ph_kdM ph_NM ad o 256 [(0, .ref (ad 0))] [.int s0, .ref (ad 0)] M (f12_goesAlong_j256 s0 M) := by
  intro s0 M
  unfold f12_goesAlong_j256
  refine j_putz (c := 0) (j := 47)  h (by decide) rfl rfl ph_inX12 tyX12 tyX12_ok nmX12 rfl (by decide) tw_1246 rfl rfl (tyX12_ok 47 (by decide)) dX12_goesAlong_256 ?_
  refine j_letM (fun M24 => ?_)
  refine j_aload_n h dX12_goesAlong_259 rfl 0 rfl ?_
  refine j_dup h dX12_goesAlong_260 rfl ?_
  refine j_get (c := 0) (j := 22) (v := .int (M24.1 0 22)) h (by decide) rfl rfl ph_inX12 rfl (by decide) tw_1221 rfl rfl dX12_goesAlong_261 ?_
  refine j_iconst (v := (1 : Int32)) h dX12_goesAlong_264 (by decide) ?_
  refine j_iadd h dX12_goesAlong_265 ?_
  refine j_puti (c := 0) (j := 22) (ty := .int) h (by decide) rfl rfl ph_inX12 tyX12 tyX12_ok nmX12 rfl (by decide) tw_1221 rfl rfl (tyX12_ok 22 (by decide)) rfl rfl dX12_goesAlong_266 ?_
  refine j_letM (fun M25 => ?_)
  exact j_vret h rfl fin dX12_goesAlong_269
def f12_goesAlong_j255 (M : ph_Mem) : Option ph_Mem :=
  f12_goesAlong_j256 (0 : Int32) M
set_option maxHeartbeats 4000000 in
theorem jb_f12_goesAlong_j255 {Z : (Nat → Prop) → State → Prop} {X : ph_X} {ad : Nat → Nat} {o : ph_Mem} (h : ph_ok Z X cX12_goesAlong RX12 none 5 143 ph_NM ad) (fin : ph_fin X ph_kdM ph_NM ad none o) : ∀ (M : ph_Mem), ph_J X ph_kdM ph_NM ad o 255 [(0, .ref (ad 0))] [.ref (ad 0)] M (f12_goesAlong_j255 M) := by
  intro M
  unfold f12_goesAlong_j255
  refine j_iconst (v := (0 : Int32)) h dX12_goesAlong_255 (by decide) ?_
  refine j_sub [0] rfl ?_
  exact jb_f12_goesAlong_j256 h fin (0 : Int32) M
def f12_goesAlong_j233 (s0 : Int32) (M : ph_Mem) : Option ph_Mem :=
  cond (ph_isz s0) (ph_let (ph_wi M 0 47 s0) fun M23 => if (M23.1 0 47) = 0 then (f12_goesAlong_j255  M23) else (if (M23.1 0 24) = 0 then (f12_goesAlong_j256 (1 : Int32) M23) else (f12_goesAlong_j255  M23))) none
set_option maxHeartbeats 4000000 in
theorem jb_f12_goesAlong_j233 {Z : (Nat → Prop) → State → Prop} {X : ph_X} {ad : Nat → Nat} {o : ph_Mem} (h : ph_ok Z X cX12_goesAlong RX12 none 5 143 ph_NM ad) (fin : ph_fin X ph_kdM ph_NM ad none o) : ∀ (s0 : Int32) (M : ph_Mem), ph_J X ph_kdM ph_NM ad o 233 [(0, .ref (ad 0))] [.int s0, .ref (ad 0)] M (f12_goesAlong_j233 s0 M) := by
  intro s0 M
  unfold f12_goesAlong_j233
  refine j_putz (c := 0) (j := 47)  h (by decide) rfl rfl ph_inX12 tyX12 tyX12_ok nmX12 rfl (by decide) tw_1246 rfl rfl (tyX12_ok 47 (by decide)) dX12_goesAlong_233 ?_
  refine j_letM (fun M23 => ?_)
  refine j_aload_n h dX12_goesAlong_236 rfl 0 rfl ?_
  refine j_aload_n h dX12_goesAlong_237 rfl 0 rfl ?_
  refine j_get (c := 0) (j := 47) (v := .int (M23.1 0 47)) h (by decide) rfl rfl ph_inX12 rfl (by decide) tw_1246 rfl rfl dX12_goesAlong_238 ?_
  refine j_if_eq h 255 dX12_goesAlong_241 (by decide) ?_ ?_
  · refine j_sub [0] rfl ?_
    exact jb_f12_goesAlong_j255 h fin  M23
  · refine j_aload_n h dX12_goesAlong_244 rfl 0 rfl ?_
    refine j_get (c := 0) (j := 24) (v := .int (M23.1 0 24)) h (by decide) rfl rfl ph_inX12 rfl (by decide) tw_1223 rfl rfl dX12_goesAlong_245 ?_
    refine j_if_ne h 255 dX12_goesAlong_248 (by decide) ?_ ?_
    · refine j_sub [0] rfl ?_
      exact jb_f12_goesAlong_j255 h fin  M23
    · refine j_iconst (v := (1 : Int32)) h dX12_goesAlong_251 (by decide) ?_
      refine j_goto h 256 dX12_goesAlong_252 (by decide) ?_
      refine j_sub [0] rfl ?_
      exact jb_f12_goesAlong_j256 h fin (1 : Int32) M23
def f12_goesAlong_j228 (M : ph_Mem) : Option ph_Mem :=
  f12_goesAlong_j233 (1 : Int32) M
set_option maxHeartbeats 4000000 in
theorem jb_f12_goesAlong_j228 {Z : (Nat → Prop) → State → Prop} {X : ph_X} {ad : Nat → Nat} {o : ph_Mem} (h : ph_ok Z X cX12_goesAlong RX12 none 5 143 ph_NM ad) (fin : ph_fin X ph_kdM ph_NM ad none o) : ∀ (M : ph_Mem), ph_J X ph_kdM ph_NM ad o 228 [(0, .ref (ad 0))] [.ref (ad 0)] M (f12_goesAlong_j228 M) := by
  intro M
  unfold f12_goesAlong_j228
  refine j_iconst (v := (1 : Int32)) h dX12_goesAlong_228 (by decide) ?_
  refine j_goto h 233 dX12_goesAlong_229 (by decide) ?_
  refine j_sub [0] rfl ?_
  exact jb_f12_goesAlong_j233 h fin (1 : Int32) M
def f12_goesAlong_j206 (x2 : Int32) (M : ph_Mem) : Option ph_Mem :=
  ph_let (ph_wi M 0 24 (0 : Int32)) fun M20 => (f12_passes0 M20 (4 : Int32)).bind fun q21 => if q21.1 = 0 then (f12_goesAlong_j228  q21.2) else ((f12_testOf q21.2 x2).bind fun q22 => if q22.1 = 0 then (f12_goesAlong_j233 (0 : Int32) q22.2) else (f12_goesAlong_j228  q22.2))
set_option maxHeartbeats 4000000 in
theorem jb_f12_goesAlong_j206 {Z : (Nat → Prop) → State → Prop} {X : ph_X} {ad : Nat → Nat} {o : ph_Mem} (h : ph_ok Z X cX12_goesAlong RX12 none 5 143 ph_NM ad) (fin : ph_fin X ph_kdM ph_NM ad none o) : ∀ (x2 : Int32) (M : ph_Mem), ph_J X ph_kdM ph_NM ad o 206 [(0, .ref (ad 0)), (2, .int x2)] [] M (f12_goesAlong_j206 x2 M) := by
  intro x2 M
  unfold f12_goesAlong_j206
  refine j_aload_n h dX12_goesAlong_206 rfl 0 rfl ?_
  refine j_iconst (v := (0 : Int32)) h dX12_goesAlong_207 (by decide) ?_
  refine j_puti (c := 0) (j := 24) (ty := .boolean) h (by decide) rfl rfl ph_inX12 tyX12 tyX12_ok nmX12 rfl (by decide) tw_1223 rfl rfl (tyX12_ok 24 (by decide)) rfl rfl dX12_goesAlong_208 ?_
  refine j_letM (fun M20 => ?_)
  refine j_aload_n h dX12_goesAlong_211 rfl 0 rfl ?_
  refine j_aload_n h dX12_goesAlong_212 rfl 0 rfl ?_
  refine j_iconst (v := (4 : Int32)) h dX12_goesAlong_213 (by decide) ?_
  refine j_callVi (n := 1) (As := [.int (4 : Int32)]) (rest := [.ref (ad 0)]) h 0 tw_1464 tw_1466 tp_65 tw_14 tw_1467 ydf12_passes0 (by decide) (by decide) (by decide) rfl rfl (fun q hq => cf12_passes0 (ph_okZ h) (ph_okI h) hq) rfl (Nat.le_of_ble_eq_true rfl) rfl dX12_goesAlong_214 (fun q21 => ?_)
  refine j_if_eq h 228 dX12_goesAlong_217 (by decide) ?_ ?_
  · refine j_sub [0] rfl ?_
    exact jb_f12_goesAlong_j228 h fin  q21.2
  · refine j_aload_n h dX12_goesAlong_220 rfl 0 rfl ?_
    refine j_iload_n h dX12_goesAlong_221 rfl 1 rfl ?_
    refine j_callVi (n := 1) (As := [.int x2]) (rest := [.ref (ad 0)]) h 0 tw_1483 tw_1485 tp_69 tw_14 tw_1486 ydf12_testOf (by decide) (by decide) (by decide) rfl rfl (fun q hq => cf12_testOf (ph_okZ h) (ph_okI h) hq) rfl (Nat.le_of_ble_eq_true rfl) rfl dX12_goesAlong_222 (fun q22 => ?_)
    refine j_if_eq h 232 dX12_goesAlong_225 (by decide) ?_ ?_
    · refine j_iconst (v := (0 : Int32)) h dX12_goesAlong_232 (by decide) ?_
      refine j_sub [0] rfl ?_
      exact jb_f12_goesAlong_j233 h fin (0 : Int32) q22.2
    · refine j_sub [0] rfl ?_
      exact jb_f12_goesAlong_j228 h fin  q22.2
def f12_goesAlong_j165 (x2 : Int32) (M : ph_Mem) : Option ph_Mem :=
  ph_let (ph_wi M 0 44 (1 : Int32)) fun M16 => (f12_passes0 M16 (27 : Int32)).bind fun q17 => if q17.1 = 0 then (f12_goesAlong_j206 x2 q17.2) else (cond (ph_ib ((3285 : Int32) + (q17.2.1 0 22)) 6085) (ph_let (ph_wi q17.2 0 44 (q17.2.1 2 ((3285 : Int32) + (q17.2.1 0 22)).toNatClampNeg)) fun M18 => ph_let (ph_wi M18 0 22 ((M18.1 0 22) + (1 : Int32))) fun M19 => f12_goesAlong_j206 x2 M19) none)
set_option maxHeartbeats 4000000 in
theorem jb_f12_goesAlong_j165 {Z : (Nat → Prop) → State → Prop} {X : ph_X} {ad : Nat → Nat} {o : ph_Mem} (h : ph_ok Z X cX12_goesAlong RX12 none 5 143 ph_NM ad) (fin : ph_fin X ph_kdM ph_NM ad none o) : ∀ (x2 : Int32) (M : ph_Mem), ph_J X ph_kdM ph_NM ad o 165 [(0, .ref (ad 0)), (2, .int x2)] [] M (f12_goesAlong_j165 x2 M) := by
  intro x2 M
  unfold f12_goesAlong_j165
  refine j_aload_n h dX12_goesAlong_165 rfl 0 rfl ?_
  refine j_iconst (v := (1 : Int32)) h dX12_goesAlong_166 (by decide) ?_
  refine j_puti (c := 0) (j := 44) (ty := .int) h (by decide) rfl rfl ph_inX12 tyX12 tyX12_ok nmX12 rfl (by decide) tw_1243 rfl rfl (tyX12_ok 44 (by decide)) rfl rfl dX12_goesAlong_167 ?_
  refine j_letM (fun M16 => ?_)
  refine j_aload_n h dX12_goesAlong_170 rfl 0 rfl ?_
  refine j_bipush (v := (27 : Int32)) h dX12_goesAlong_171 (by decide) ?_
  refine j_callVi (n := 1) (As := [.int (27 : Int32)]) (rest := []) h 0 tw_1464 tw_1466 tp_65 tw_14 tw_1467 ydf12_passes0 (by decide) (by decide) (by decide) rfl rfl (fun q hq => cf12_passes0 (ph_okZ h) (ph_okI h) hq) rfl (Nat.le_of_ble_eq_true rfl) rfl dX12_goesAlong_173 (fun q17 => ?_)
  refine j_if_eq h 206 dX12_goesAlong_176 (by decide) ?_ ?_
  · refine j_sub [0, 1] rfl ?_
    exact jb_f12_goesAlong_j206 h fin x2 q17.2
  · refine j_aload_n h dX12_goesAlong_179 rfl 0 rfl ?_
    refine j_aload_n h dX12_goesAlong_180 rfl 0 rfl ?_
    refine j_get (c := 0) (j := 2) (v := .ref (ad 2)) h (by decide) rfl rfl ph_inX12 rfl (by decide) tw_1201 rfl rfl dX12_goesAlong_181 ?_
    refine j_sipush (v := (3285 : Int32)) h dX12_goesAlong_184 (by decide) ?_
    refine j_aload_n h dX12_goesAlong_187 rfl 0 rfl ?_
    refine j_get (c := 0) (j := 22) (v := .int (q17.2.1 0 22)) h (by decide) rfl rfl ph_inX12 rfl (by decide) tw_1221 rfl rfl dX12_goesAlong_188 ?_
    refine j_iadd h dX12_goesAlong_191 ?_
    refine j_iald (c := 2) (n := 6085) h (by decide) rfl dX12_goesAlong_192 ?_
    refine j_puti (c := 0) (j := 44) (ty := .int) h (by decide) rfl rfl ph_inX12 tyX12 tyX12_ok nmX12 rfl (by decide) tw_1243 rfl rfl (tyX12_ok 44 (by decide)) rfl rfl dX12_goesAlong_193 ?_
    refine j_letM (fun M18 => ?_)
    refine j_aload_n h dX12_goesAlong_196 rfl 0 rfl ?_
    refine j_dup h dX12_goesAlong_197 rfl ?_
    refine j_get (c := 0) (j := 22) (v := .int (M18.1 0 22)) h (by decide) rfl rfl ph_inX12 rfl (by decide) tw_1221 rfl rfl dX12_goesAlong_198 ?_
    refine j_iconst (v := (1 : Int32)) h dX12_goesAlong_201 (by decide) ?_
    refine j_iadd h dX12_goesAlong_202 ?_
    refine j_puti (c := 0) (j := 22) (ty := .int) h (by decide) rfl rfl ph_inX12 tyX12 tyX12_ok nmX12 rfl (by decide) tw_1221 rfl rfl (tyX12_ok 22 (by decide)) rfl rfl dX12_goesAlong_203 ?_
    refine j_letM (fun M19 => ?_)
    refine j_sub [0, 1] rfl ?_
    exact jb_f12_goesAlong_j206 h fin x2 M19
def f12_goesAlong_l98 : Nat → Int32 → Int32 → Int32 → ph_Mem → Option ph_Mem
  | 0, _, _, _, _ => none
  | n + 1, x2, x3, x4, M => if x3 ≤ x4 then (f12_goesAlong_j165 x2 M) else (if x4 ≤ 0 then (f12_goesAlong_j119 (f12_goesAlong_l98 n) x2 x3 x4 M) else (ph_let (ph_wi M 0 22 ((M.1 0 22) + (1 : Int32))) fun M11 => f12_goesAlong_j119 (f12_goesAlong_l98 n) x2 x3 x4 M11))
set_option maxHeartbeats 4000000 in
theorem jb_f12_goesAlong_l98 {Z : (Nat → Prop) → State → Prop} {X : ph_X} {ad : Nat → Nat} {o : ph_Mem} (h : ph_ok Z X cX12_goesAlong RX12 none 5 143 ph_NM ad) (fin : ph_fin X ph_kdM ph_NM ad none o) : ∀ (n : Nat) (x2 : Int32) (x3 : Int32) (x4 : Int32) (M : ph_Mem), ph_J X ph_kdM ph_NM ad o 98 [(0, .ref (ad 0)), (2, .int x2), (3, .int x3), (4, .int x4)] [] M (f12_goesAlong_l98 n x2 x3 x4 M) := by
  intro n
  induction n with
  | zero => intro x2 x3 x4 M; exact j_none
  | succ n hrc98 =>
    intro x2 x3 x4 M
    unfold f12_goesAlong_l98
    refine j_iload h dX12_goesAlong_98 3 rfl ?_
    refine j_iload_n h dX12_goesAlong_100 rfl 2 rfl ?_
    refine j_icmp_ge h 165 dX12_goesAlong_101 (by decide) ?_ ?_
    · refine j_sub [0, 1] rfl ?_
      exact jb_f12_goesAlong_j165 h fin x2 M
    · refine j_iload h dX12_goesAlong_104 3 rfl ?_
      refine j_if_le h 119 dX12_goesAlong_106 (by decide) ?_ ?_
      · refine j_sub [0, 1, 2, 3] rfl ?_
        exact jb_f12_goesAlong_j119 h fin hrc98 x2 x3 x4 M
      · refine j_aload_n h dX12_goesAlong_109 rfl 0 rfl ?_
        refine j_dup h dX12_goesAlong_110 rfl ?_
        refine j_get (c := 0) (j := 22) (v := .int (M.1 0 22)) h (by decide) rfl rfl ph_inX12 rfl (by decide) tw_1221 rfl rfl dX12_goesAlong_111 ?_
        refine j_iconst (v := (1 : Int32)) h dX12_goesAlong_114 (by decide) ?_
        refine j_iadd h dX12_goesAlong_115 ?_
        refine j_puti (c := 0) (j := 22) (ty := .int) h (by decide) rfl rfl ph_inX12 tyX12 tyX12_ok nmX12 rfl (by decide) tw_1221 rfl rfl (tyX12_ok 22 (by decide)) rfl rfl dX12_goesAlong_116 ?_
        refine j_letM (fun M11 => ?_)
        refine j_sub [0, 1, 2, 3] rfl ?_
        exact jb_f12_goesAlong_j119 h fin hrc98 x2 x3 x4 M11
def f12_goesAlong_j94 (x2 : Int32) (s0 : Int32) (M : ph_Mem) : Option ph_Mem :=
  f12_goesAlong_l98 10000 x2 s0 (0 : Int32) M
set_option maxHeartbeats 4000000 in
theorem jb_f12_goesAlong_j94 {Z : (Nat → Prop) → State → Prop} {X : ph_X} {ad : Nat → Nat} {o : ph_Mem} (h : ph_ok Z X cX12_goesAlong RX12 none 5 143 ph_NM ad) (fin : ph_fin X ph_kdM ph_NM ad none o) : ∀ (x2 : Int32) (s0 : Int32) (M : ph_Mem), ph_J X ph_kdM ph_NM ad o 94 [(0, .ref (ad 0)), (2, .int x2)] [.int s0] M (f12_goesAlong_j94 x2 s0 M) := by
  intro x2 s0 M
  unfold f12_goesAlong_j94
  refine j_istore_n h [(3, .int s0), (0, .ref (ad 0)), (2, .int x2)] dX12_goesAlong_94 rfl (by decide) rfl ?_
  refine j_iconst (v := (0 : Int32)) h dX12_goesAlong_95 (by decide) ?_
  refine j_istore h [(4, .int (0 : Int32)), (3, .int s0), (0, .ref (ad 0)), (2, .int x2)] dX12_goesAlong_96 (by decide) rfl ?_
  refine j_sub [2, 3, 1, 0] rfl ?_
  exact jb_f12_goesAlong_l98 h fin 10000 x2 s0 (0 : Int32) M
theorem ydf12_goesAlong : ph_yd yX12_goesAlong 2 := ⟨by decide, by decide, by decide +kernel⟩
def f12_goesAlong (M : ph_Mem) (p0 : Int32) (p1 : Int32) : Option ph_Mem :=
  ph_let (ph_wi M 0 8 (17 : Int32)) fun M1 => ph_let (ph_wi M1 0 23 p0) fun M2 => ph_let (ph_wi M2 12 0 (M2.1 2 222)) fun M3 => ph_let (ph_wi M3 12 1 (M3.1 0 41)) fun M4 => ph_let (ph_wi M4 12 2 (M4.1 0 42)) fun M5 => ph_let (ph_wi M5 0 22 (M5.1 0 43)) fun M6 => (f12_codeAt M6 (M6.1 0 22)).bind fun q7 => ph_let (ph_wi M6 0 45 q7) fun M8 => ph_let (ph_wi M8 0 22 ((M8.1 0 22) + (1 : Int32))) fun M9 => ph_let (ph_wi M9 0 46 (1 : Int32)) fun M10 => if (M10.1 0 45) = (26 : Int32) then (f12_goesAlong_j94 p1 (0 : Int32) M10) else (f12_goesAlong_j94 p1 (2 : Int32) M10)
set_option maxHeartbeats 4000000 in
theorem cf12_goesAlong {Z : (Nat → Prop) → State → Prop} (hZ : ph_Zok Z) {l : Launch} {D : va_G} {cA : Nat → ClassId} {ad : Nat → Nat} (hinj : ∀ i j, i < ph_NM → j < ph_NM → ad i = ad j → i = j) {M : ph_Mem} {p0 : Int32} {p1 : Int32} {M' : ph_Mem} (hf : f12_goesAlong M p0 p1 = some M') : ph_C Z l 143 yX12_goesAlong cX12_goesAlong 5 none D cA ph_kdM ph_NM ad [.ref (ad 0), .int p0, .int p1] M none M' := by
  refine ph_mk hZ hinj (by decide) (Nat.le_of_ble_eq_true rfl) fun X h fin hE => ?_
  refine (?_ : ph_J X ph_kdM ph_NM ad (M' : ph_Mem) 0 [(0, .ref (ad 0)), (1, .int p0), (2, .int p1)] [] M (f12_goesAlong M p0 p1)) hf
  unfold f12_goesAlong
  refine j_aload_n h dX12_goesAlong_0 rfl 0 rfl ?_
  refine j_bipush (v := (17 : Int32)) h dX12_goesAlong_1 (by decide) ?_
  refine j_puti (c := 0) (j := 8) (ty := .int) h (by decide) rfl rfl ph_inX12 tyX12 tyX12_ok nmX12 rfl (by decide) tw_1207 rfl rfl (tyX12_ok 8 (by decide)) rfl rfl dX12_goesAlong_3 ?_
  refine j_letM (fun M1 => ?_)
  refine j_aload_n h dX12_goesAlong_6 rfl 0 rfl ?_
  refine j_iload_n h dX12_goesAlong_7 rfl 1 rfl ?_
  refine j_puti (c := 0) (j := 23) (ty := .int) h (by decide) rfl rfl ph_inX12 tyX12 tyX12_ok nmX12 rfl (by decide) tw_1222 rfl rfl (tyX12_ok 23 (by decide)) rfl rfl dX12_goesAlong_8 ?_
  refine j_letM (fun M2 => ?_)
  refine j_aload_n h dX12_goesAlong_11 rfl 0 rfl ?_
  refine j_get (c := 0) (j := 25) (v := .ref (ad 12)) h (by decide) rfl rfl ph_inX12 rfl (by decide) tw_1224 rfl rfl dX12_goesAlong_12 ?_
  refine j_iconst (v := (0 : Int32)) h dX12_goesAlong_15 (by decide) ?_
  refine j_aload_n h dX12_goesAlong_16 rfl 0 rfl ?_
  refine j_get (c := 0) (j := 2) (v := .ref (ad 2)) h (by decide) rfl rfl ph_inX12 rfl (by decide) tw_1201 rfl rfl dX12_goesAlong_17 ?_
  refine j_sipush (v := (222 : Int32)) h dX12_goesAlong_20 (by decide) ?_
  refine j_ialdK (c := 2) (n := 6085) (kn := 222) h (by decide) rfl rfl (by decide) dX12_goesAlong_23 ?_
  refine j_iastK (c := 12) (n := 9) (kn := 0) h (by decide) rfl rfl (by decide) dX12_goesAlong_24 ?_
  refine j_letM (fun M3 => ?_)
  refine j_aload_n h dX12_goesAlong_25 rfl 0 rfl ?_
  refine j_get (c := 0) (j := 25) (v := .ref (ad 12)) h (by decide) rfl rfl ph_inX12 rfl (by decide) tw_1224 rfl rfl dX12_goesAlong_26 ?_
  refine j_iconst (v := (1 : Int32)) h dX12_goesAlong_29 (by decide) ?_
  refine j_aload_n h dX12_goesAlong_30 rfl 0 rfl ?_
  refine j_get (c := 0) (j := 41) (v := .int (M3.1 0 41)) h (by decide) rfl rfl ph_inX12 rfl (by decide) tw_1240 rfl rfl dX12_goesAlong_31 ?_
  refine j_iastK (c := 12) (n := 9) (kn := 1) h (by decide) rfl rfl (by decide) dX12_goesAlong_34 ?_
  refine j_letM (fun M4 => ?_)
  refine j_aload_n h dX12_goesAlong_35 rfl 0 rfl ?_
  refine j_get (c := 0) (j := 25) (v := .ref (ad 12)) h (by decide) rfl rfl ph_inX12 rfl (by decide) tw_1224 rfl rfl dX12_goesAlong_36 ?_
  refine j_iconst (v := (2 : Int32)) h dX12_goesAlong_39 (by decide) ?_
  refine j_aload_n h dX12_goesAlong_40 rfl 0 rfl ?_
  refine j_get (c := 0) (j := 42) (v := .int (M4.1 0 42)) h (by decide) rfl rfl ph_inX12 rfl (by decide) tw_1241 rfl rfl dX12_goesAlong_41 ?_
  refine j_iastK (c := 12) (n := 9) (kn := 2) h (by decide) rfl rfl (by decide) dX12_goesAlong_44 ?_
  refine j_letM (fun M5 => ?_)
  refine j_aload_n h dX12_goesAlong_45 rfl 0 rfl ?_
  refine j_aload_n h dX12_goesAlong_46 rfl 0 rfl ?_
  refine j_get (c := 0) (j := 43) (v := .int (M5.1 0 43)) h (by decide) rfl rfl ph_inX12 rfl (by decide) tw_1242 rfl rfl dX12_goesAlong_47 ?_
  refine j_puti (c := 0) (j := 22) (ty := .int) h (by decide) rfl rfl ph_inX12 tyX12 tyX12_ok nmX12 rfl (by decide) tw_1221 rfl rfl (tyX12_ok 22 (by decide)) rfl rfl dX12_goesAlong_50 ?_
  refine j_letM (fun M6 => ?_)
  refine j_aload_n h dX12_goesAlong_53 rfl 0 rfl ?_
  refine j_aload_n h dX12_goesAlong_54 rfl 0 rfl ?_
  refine j_aload_n h dX12_goesAlong_55 rfl 0 rfl ?_
  refine j_get (c := 0) (j := 22) (v := .int (M6.1 0 22)) h (by decide) rfl rfl ph_inX12 rfl (by decide) tw_1221 rfl rfl dX12_goesAlong_56 ?_
  refine j_callViP (n := 1) (As := [.int (M6.1 0 22)]) (rest := [.ref (ad 0)]) h 0 tw_1445 tw_1447 tp_61 tw_14 tw_1448 ydf12_codeAt (by decide) (by decide) (by decide) rfl rfl (fun q hq => cf12_codeAt (ph_okZ h) (ph_okI h) hq) rfl (Nat.le_of_ble_eq_true rfl) rfl dX12_goesAlong_59 (fun q7 => ?_)
  refine j_puti (c := 0) (j := 45) (ty := .int) h (by decide) rfl rfl ph_inX12 tyX12 tyX12_ok nmX12 rfl (by decide) tw_1244 rfl rfl (tyX12_ok 45 (by decide)) rfl rfl dX12_goesAlong_62 ?_
  refine j_letM (fun M8 => ?_)
  refine j_aload_n h dX12_goesAlong_65 rfl 0 rfl ?_
  refine j_dup h dX12_goesAlong_66 rfl ?_
  refine j_get (c := 0) (j := 22) (v := .int (M8.1 0 22)) h (by decide) rfl rfl ph_inX12 rfl (by decide) tw_1221 rfl rfl dX12_goesAlong_67 ?_
  refine j_iconst (v := (1 : Int32)) h dX12_goesAlong_70 (by decide) ?_
  refine j_iadd h dX12_goesAlong_71 ?_
  refine j_puti (c := 0) (j := 22) (ty := .int) h (by decide) rfl rfl ph_inX12 tyX12 tyX12_ok nmX12 rfl (by decide) tw_1221 rfl rfl (tyX12_ok 22 (by decide)) rfl rfl dX12_goesAlong_72 ?_
  refine j_letM (fun M9 => ?_)
  refine j_aload_n h dX12_goesAlong_75 rfl 0 rfl ?_
  refine j_iconst (v := (1 : Int32)) h dX12_goesAlong_76 (by decide) ?_
  refine j_puti (c := 0) (j := 46) (ty := .boolean) h (by decide) rfl rfl ph_inX12 tyX12 tyX12_ok nmX12 rfl (by decide) tw_1245 rfl rfl (tyX12_ok 46 (by decide)) rfl rfl dX12_goesAlong_77 ?_
  refine j_letM (fun M10 => ?_)
  refine j_aload_n h dX12_goesAlong_80 rfl 0 rfl ?_
  refine j_get (c := 0) (j := 45) (v := .int (M10.1 0 45)) h (by decide) rfl rfl ph_inX12 rfl (by decide) tw_1244 rfl rfl dX12_goesAlong_81 ?_
  refine j_bipush (v := (26 : Int32)) h dX12_goesAlong_84 (by decide) ?_
  refine j_icmp_ne h 93 dX12_goesAlong_86 (by decide) ?_ ?_
  · refine j_iconst (v := (2 : Int32)) h dX12_goesAlong_93 (by decide) ?_
    refine j_sub [0, 2] rfl ?_
    exact jb_f12_goesAlong_j94 h fin p1 (2 : Int32) M10
  · refine j_iconst (v := (0 : Int32)) h dX12_goesAlong_89 (by decide) ?_
    refine j_goto h 94 dX12_goesAlong_90 (by decide) ?_
    refine j_sub [0, 2] rfl ?_
    exact jb_f12_goesAlong_j94 h fin p1 (0 : Int32) M10
theorem dX12_small_0 : decode cX12_small 0 = .ok (.lload_n 0, 1) := by decide +kernel
theorem dX12_small_1 : decode cX12_small 1 = .ok (.lconst 0, 1) := by decide +kernel
theorem dX12_small_2 : decode cX12_small 2 = .ok (.lcmp, 1) := by decide +kernel
theorem dX12_small_3 : decode cX12_small 3 = .ok (.ifCond .lt 11, 3) := by decide +kernel
theorem dX12_small_6 : decode cX12_small 6 = .ok (.lload_n 0, 1) := by decide +kernel
theorem dX12_small_7 : decode cX12_small 7 = .ok (.ldc2_w 453, 3) := by decide +kernel
theorem dX12_small_10 : decode cX12_small 10 = .ok (.lcmp, 1) := by decide +kernel
theorem dX12_small_11 : decode cX12_small 11 = .ok (.ifCond .le 7, 3) := by decide +kernel
theorem dX12_small_14 : decode cX12_small 14 = .ok (.iconst (-1), 1) := by decide +kernel
theorem dX12_small_15 : decode cX12_small 15 = .ok (.goto 5, 3) := by decide +kernel
theorem dX12_small_18 : decode cX12_small 18 = .ok (.lload_n 0, 1) := by decide +kernel
theorem dX12_small_19 : decode cX12_small 19 = .ok (.l2i, 1) := by decide +kernel
theorem dX12_small_20 : decode cX12_small 20 = .ok (.ireturn, 1) := by decide +kernel
theorem ydf12_small : ph_yd yX12_small 1 := ⟨by decide, by decide, by decide +kernel⟩
def f12_small (M : ph_Mem) (p0 : Int64) : Option Int32 :=
  if (lg_cmp p0 (0 : Int64)) < 0 then (some (-1 : Int32)) else (if (lg_cmp p0 (1000000 : Int64)) ≤ 0 then (some p0.toInt32) else (some (-1 : Int32)))
set_option maxHeartbeats 4000000 in
theorem cf12_small {Z : (Nat → Prop) → State → Prop} (hZ : ph_Zok Z) {l : Launch} {D : va_G} {cA : Nat → ClassId} {ad : Nat → Nat} (hinj : ∀ i j, i < ph_NM → j < ph_NM → ad i = ad j → i = j) {M : ph_Mem} {p0 : Int64} {r : Int32} (hf : f12_small M p0 = some r) : ph_C Z l 0 yX12_small cX12_small 2 (some .int) D cA ph_kdM ph_NM ad [.long p0] M (some (.int r)) M := by
  refine ph_mk hZ hinj (by decide) (Nat.le_of_ble_eq_true rfl) fun X h fin hE => ?_
  refine (?_ : ph_J X ph_kdM ph_NM ad (r : Int32) 0 [(0, .long p0)] [] M (f12_small M p0)) hf
  unfold f12_small
  refine j_lload_n h dX12_small_0 rfl 0 rfl ?_
  refine j_lconst (v := (0 : Int64)) h dX12_small_1 (by decide) ?_
  refine j_lcmp h dX12_small_2 ?_
  refine j_if_lt h 14 dX12_small_3 (by decide) ?_ ?_
  · refine j_iconst (v := (-1 : Int32)) h dX12_small_14 (by decide) ?_
    refine j_goto h 20 dX12_small_15 (by decide) ?_
    exact j_iretP h rfl fin dX12_small_20
  · refine j_lload_n h dX12_small_6 rfl 0 rfl ?_
    refine j_ldc2 (v := (1000000 : Int64)) h dX12_small_7 tw_1842 ?_
    refine j_lcmp h dX12_small_10 ?_
    refine j_if_le h 18 dX12_small_11 (by decide) ?_ ?_
    · refine j_lload_n h dX12_small_18 rfl 0 rfl ?_
      refine j_l2i h dX12_small_19 ?_
      exact j_iretP h rfl fin dX12_small_20
    · refine j_iconst (v := (-1 : Int32)) h dX12_small_14 (by decide) ?_
      refine j_goto h 20 dX12_small_15 (by decide) ?_
      exact j_iretP h rfl fin dX12_small_20
theorem dX12_obeys_0 : decode cX12_obeys 0 = .ok (.aload_n 0, 1) := by decide +kernel
theorem dX12_obeys_1 : decode cX12_obeys 1 = .ok (.getfield 441, 3) := by decide +kernel
theorem dX12_obeys_4 : decode cX12_obeys 4 = .ok (.bipush 26, 2) := by decide +kernel
theorem dX12_obeys_6 : decode cX12_obeys 6 = .ok (.if_icmp .ne 8, 3) := by decide +kernel
theorem dX12_obeys_9 : decode cX12_obeys 9 = .ok (.aload_n 0, 1) := by decide +kernel
theorem dX12_obeys_10 : decode cX12_obeys 10 = .ok (.invokevirtual 368, 3) := by decide +kernel
theorem dX12_obeys_13 : decode cX12_obeys 13 = .ok (.ireturn, 1) := by decide +kernel
theorem dX12_obeys_14 : decode cX12_obeys 14 = .ok (.aload_n 0, 1) := by decide +kernel
theorem dX12_obeys_15 : decode cX12_obeys 15 = .ok (.getfield 96, 3) := by decide +kernel
theorem dX12_obeys_18 : decode cX12_obeys 18 = .ok (.iconst 0, 1) := by decide +kernel
theorem dX12_obeys_19 : decode cX12_obeys 19 = .ok (.laload, 1) := by decide +kernel
theorem dX12_obeys_20 : decode cX12_obeys 20 = .ok (.invokestatic 455, 3) := by decide +kernel
theorem dX12_obeys_23 : decode cX12_obeys 23 = .ok (.istore_n 1, 1) := by decide +kernel
theorem dX12_obeys_24 : decode cX12_obeys 24 = .ok (.aload_n 0, 1) := by decide +kernel
theorem dX12_obeys_25 : decode cX12_obeys 25 = .ok (.getfield 96, 3) := by decide +kernel
theorem dX12_obeys_28 : decode cX12_obeys 28 = .ok (.iconst 1, 1) := by decide +kernel
theorem dX12_obeys_29 : decode cX12_obeys 29 = .ok (.laload, 1) := by decide +kernel
theorem dX12_obeys_30 : decode cX12_obeys 30 = .ok (.invokestatic 455, 3) := by decide +kernel
theorem dX12_obeys_33 : decode cX12_obeys 33 = .ok (.istore_n 2, 1) := by decide +kernel
theorem dX12_obeys_34 : decode cX12_obeys 34 = .ok (.aload_n 0, 1) := by decide +kernel
theorem dX12_obeys_35 : decode cX12_obeys 35 = .ok (.getfield 441, 3) := by decide +kernel
theorem dX12_obeys_38 : decode cX12_obeys 38 = .ok (.bipush 23, 2) := by decide +kernel
theorem dX12_obeys_40 : decode cX12_obeys 40 = .ok (.if_icmp .ne 12, 3) := by decide +kernel
theorem dX12_obeys_43 : decode cX12_obeys 43 = .ok (.aload_n 0, 1) := by decide +kernel
theorem dX12_obeys_44 : decode cX12_obeys 44 = .ok (.iload_n 2, 1) := by decide +kernel
theorem dX12_obeys_45 : decode cX12_obeys 45 = .ok (.iload_n 1, 1) := by decide +kernel
theorem dX12_obeys_46 : decode cX12_obeys 46 = .ok (.invokevirtual 359, 3) := by decide +kernel
theorem dX12_obeys_49 : decode cX12_obeys 49 = .ok (.goto 9, 3) := by decide +kernel
theorem dX12_obeys_52 : decode cX12_obeys 52 = .ok (.aload_n 0, 1) := by decide +kernel
theorem dX12_obeys_53 : decode cX12_obeys 53 = .ok (.iload_n 2, 1) := by decide +kernel
theorem dX12_obeys_54 : decode cX12_obeys 54 = .ok (.iload_n 1, 1) := by decide +kernel
theorem dX12_obeys_55 : decode cX12_obeys 55 = .ok (.invokevirtual 365, 3) := by decide +kernel
theorem dX12_obeys_58 : decode cX12_obeys 58 = .ok (.istore_n 3, 1) := by decide +kernel
theorem dX12_obeys_59 : decode cX12_obeys 59 = .ok (.iload_n 3, 1) := by decide +kernel
theorem dX12_obeys_60 : decode cX12_obeys 60 = .ok (.ifCond .lt 8, 3) := by decide +kernel
theorem dX12_obeys_63 : decode cX12_obeys 63 = .ok (.aload_n 0, 1) := by decide +kernel
theorem dX12_obeys_64 : decode cX12_obeys 64 = .ok (.iload_n 3, 1) := by decide +kernel
theorem dX12_obeys_65 : decode cX12_obeys 65 = .ok (.putfield 432, 3) := by decide +kernel
theorem dX12_obeys_68 : decode cX12_obeys 68 = .ok (.iload_n 3, 1) := by decide +kernel
theorem dX12_obeys_69 : decode cX12_obeys 69 = .ok (.ireturn, 1) := by decide +kernel
def f12_obeys_j58 (s0 : Int32) (M : ph_Mem) : Option (Int32 × ph_Mem) :=
  if s0 < 0 then (some (s0, M)) else (ph_let (ph_wi M 0 42 s0) fun M6 => some (s0, M6))
set_option maxHeartbeats 4000000 in
theorem jb_f12_obeys_j58 {Z : (Nat → Prop) → State → Prop} {X : ph_X} {ad : Nat → Nat} {o : (Int32 × ph_Mem)} (h : ph_ok Z X cX12_obeys RX12 (some .int) 4 147 ph_NM ad) (fin : ph_fin X ph_kdM ph_NM ad (some (.int o.1)) o.2) : ∀ (s0 : Int32) (M : ph_Mem), ph_J X ph_kdM ph_NM ad o 58 [(0, .ref (ad 0))] [.int s0] M (f12_obeys_j58 s0 M) := by
  intro s0 M
  unfold f12_obeys_j58
  refine j_istore_n h [(3, .int s0), (0, .ref (ad 0))] dX12_obeys_58 rfl (by decide) rfl ?_
  refine j_iload_n h dX12_obeys_59 rfl 0 rfl ?_
  refine j_if_lt h 68 dX12_obeys_60 (by decide) ?_ ?_
  · refine j_iload_n h dX12_obeys_68 rfl 0 rfl ?_
    exact j_iret h rfl fin dX12_obeys_69
  · refine j_aload_n h dX12_obeys_63 rfl 1 rfl ?_
    refine j_iload_n h dX12_obeys_64 rfl 0 rfl ?_
    refine j_puti (c := 0) (j := 42) (ty := .int) h (by decide) rfl rfl ph_inX12 tyX12 tyX12_ok nmX12 rfl (by decide) tw_1241 rfl rfl (tyX12_ok 42 (by decide)) rfl rfl dX12_obeys_65 ?_
    refine j_letM (fun M6 => ?_)
    refine j_iload_n h dX12_obeys_68 rfl 0 rfl ?_
    exact j_iret h rfl fin dX12_obeys_69
theorem ydf12_obeys : ph_yd yX12_obeys 0 := ⟨by decide, by decide, by decide +kernel⟩
def f12_obeys (M : ph_Mem) : Option (Int32 × ph_Mem) :=
  if (M.1 0 45) = (26 : Int32) then ((f12_passesKept M ).bind fun q5 => some (q5.1, q5.2)) else ((f12_small M (M.2.1 23 0)).bind fun q1 => (f12_small M (M.2.1 23 1)).bind fun q2 => if (M.1 0 45) = (23 : Int32) then ((f12_pawnsKept M q2 q1).bind fun q4 => f12_obeys_j58 q4.1 q4.2) else ((f12_redeemsKept M q2 q1).bind fun q3 => f12_obeys_j58 q3.1 q3.2))
set_option maxHeartbeats 4000000 in
theorem cf12_obeys {Z : (Nat → Prop) → State → Prop} (hZ : ph_Zok Z) {l : Launch} {D : va_G} {cA : Nat → ClassId} {ad : Nat → Nat} (hinj : ∀ i j, i < ph_NM → j < ph_NM → ad i = ad j → i = j) {M : ph_Mem} {r : Int32} {M' : ph_Mem} (hf : f12_obeys M  = some (r, M')) : ph_C Z l 147 yX12_obeys cX12_obeys 4 (some .int) D cA ph_kdM ph_NM ad [.ref (ad 0)] M (some (.int r)) M' := by
  refine ph_mk hZ hinj (by decide) (Nat.le_of_ble_eq_true rfl) fun X h fin hE => ?_
  refine (?_ : ph_J X ph_kdM ph_NM ad ((r, M') : (Int32 × ph_Mem)) 0 [(0, .ref (ad 0))] [] M (f12_obeys M )) hf
  unfold f12_obeys
  refine j_aload_n h dX12_obeys_0 rfl 0 rfl ?_
  refine j_get (c := 0) (j := 45) (v := .int (M.1 0 45)) h (by decide) rfl rfl ph_inX12 rfl (by decide) tw_1244 rfl rfl dX12_obeys_1 ?_
  refine j_bipush (v := (26 : Int32)) h dX12_obeys_4 (by decide) ?_
  refine j_icmp_ne h 14 dX12_obeys_6 (by decide) ?_ ?_
  · refine j_aload_n h dX12_obeys_14 rfl 0 rfl ?_
    refine j_get (c := 0) (j := 48) (v := .ref (ad 23)) h (by decide) rfl rfl ph_inX12 rfl (by decide) tw_1247 rfl rfl dX12_obeys_15 ?_
    refine j_iconst (v := (0 : Int32)) h dX12_obeys_18 (by decide) ?_
    refine j_laldK (c := 23) (n := 2) (kn := 0) h (by decide) rfl rfl (by decide) dX12_obeys_19 ?_
    refine j_callSiP (n := 1) (As := [.long (M.2.1 23 0)]) (rest := []) h tw_1839 tw_1840 tw_14 tw_1841 ydf12_small (by decide) (by decide) (fun q hq => cf12_small (ph_okZ h) (ph_okI h) hq) rfl (Nat.le_of_ble_eq_true rfl) rfl dX12_obeys_20 (fun q1 => ?_)
    refine j_istore_n h [(1, .int q1), (0, .ref (ad 0))] dX12_obeys_23 rfl (by decide) rfl ?_
    refine j_aload_n h dX12_obeys_24 rfl 1 rfl ?_
    refine j_get (c := 0) (j := 48) (v := .ref (ad 23)) h (by decide) rfl rfl ph_inX12 rfl (by decide) tw_1247 rfl rfl dX12_obeys_25 ?_
    refine j_iconst (v := (1 : Int32)) h dX12_obeys_28 (by decide) ?_
    refine j_laldK (c := 23) (n := 2) (kn := 1) h (by decide) rfl rfl (by decide) dX12_obeys_29 ?_
    refine j_callSiP (n := 1) (As := [.long (M.2.1 23 1)]) (rest := []) h tw_1839 tw_1840 tw_14 tw_1841 ydf12_small (by decide) (by decide) (fun q hq => cf12_small (ph_okZ h) (ph_okI h) hq) rfl (Nat.le_of_ble_eq_true rfl) rfl dX12_obeys_30 (fun q2 => ?_)
    refine j_istore_n h [(2, .int q2), (1, .int q1), (0, .ref (ad 0))] dX12_obeys_33 rfl (by decide) rfl ?_
    refine j_aload_n h dX12_obeys_34 rfl 2 rfl ?_
    refine j_get (c := 0) (j := 45) (v := .int (M.1 0 45)) h (by decide) rfl rfl ph_inX12 rfl (by decide) tw_1244 rfl rfl dX12_obeys_35 ?_
    refine j_bipush (v := (23 : Int32)) h dX12_obeys_38 (by decide) ?_
    refine j_icmp_ne h 52 dX12_obeys_40 (by decide) ?_ ?_
    · refine j_aload_n h dX12_obeys_52 rfl 2 rfl ?_
      refine j_iload_n h dX12_obeys_53 rfl 0 rfl ?_
      refine j_iload_n h dX12_obeys_54 rfl 1 rfl ?_
      refine j_callVi (n := 2) (As := [.int q2, .int q1]) (rest := []) h 0 tw_1688 tw_1690 tp_102 tw_14 tw_1691 ydf12_redeemsKept (by decide) (by decide) (by decide) rfl rfl (fun q hq => cf12_redeemsKept (ph_okZ h) (ph_okI h) hq) rfl (Nat.le_of_ble_eq_true rfl) rfl dX12_obeys_55 (fun q3 => ?_)
      refine j_sub [2] rfl ?_
      exact jb_f12_obeys_j58 h fin q3.1 q3.2
    · refine j_aload_n h dX12_obeys_43 rfl 2 rfl ?_
      refine j_iload_n h dX12_obeys_44 rfl 0 rfl ?_
      refine j_iload_n h dX12_obeys_45 rfl 1 rfl ?_
      refine j_callVi (n := 2) (As := [.int q2, .int q1]) (rest := []) h 0 tw_1653 tw_1655 tp_95 tw_14 tw_1656 ydf12_pawnsKept (by decide) (by decide) (by decide) rfl rfl (fun q hq => cf12_pawnsKept (ph_okZ h) (ph_okI h) hq) rfl (Nat.le_of_ble_eq_true rfl) rfl dX12_obeys_46 (fun q4 => ?_)
      refine j_goto h 58 dX12_obeys_49 (by decide) ?_
      refine j_sub [2] rfl ?_
      exact jb_f12_obeys_j58 h fin q4.1 q4.2
  · refine j_aload_n h dX12_obeys_9 rfl 0 rfl ?_
    refine j_callVi (n := 0) (As := []) (rest := []) h 0 tw_1704 tw_1706 tp_105 tw_14 tw_1707 ydf12_passesKept (by decide) (by decide) (by decide) rfl rfl (fun q hq => cf12_passesKept (ph_okZ h) (ph_okI h) hq) rfl (Nat.le_of_ble_eq_true rfl) rfl dX12_obeys_10 (fun q5 => ?_)
    exact j_iret h rfl fin dX12_obeys_13
theorem dX12_runs_0 : decode cX12_runs 0 = .ok (.aload_n 0, 1) := by decide +kernel
theorem dX12_runs_1 : decode cX12_runs 1 = .ok (.iload_n 1, 1) := by decide +kernel
theorem dX12_runs_2 : decode cX12_runs 2 = .ok (.iconst 0, 1) := by decide +kernel
theorem dX12_runs_3 : decode cX12_runs 3 = .ok (.invokevirtual 459, 3) := by decide +kernel
theorem dX12_runs_6 : decode cX12_runs 6 = .ok (.aload_n 0, 1) := by decide +kernel
theorem dX12_runs_7 : decode cX12_runs 7 = .ok (.getfield 447, 3) := by decide +kernel
theorem dX12_runs_10 : decode cX12_runs 10 = .ok (.istore_n 2, 1) := by decide +kernel
theorem dX12_runs_11 : decode cX12_runs 11 = .ok (.aload_n 0, 1) := by decide +kernel
theorem dX12_runs_12 : decode cX12_runs 12 = .ok (.getfield 280, 3) := by decide +kernel
theorem dX12_runs_15 : decode cX12_runs 15 = .ok (.istore_n 3, 1) := by decide +kernel
theorem dX12_runs_16 : decode cX12_runs 16 = .ok (.iconst 0, 1) := by decide +kernel
theorem dX12_runs_17 : decode cX12_runs 17 = .ok (.istore 4, 2) := by decide +kernel
theorem dX12_runs_19 : decode cX12_runs 19 = .ok (.iload 4, 2) := by decide +kernel
theorem dX12_runs_21 : decode cX12_runs 21 = .ok (.iload_n 2, 1) := by decide +kernel
theorem dX12_runs_22 : decode cX12_runs 22 = .ok (.if_icmp .ge 51, 3) := by decide +kernel
theorem dX12_runs_25 : decode cX12_runs 25 = .ok (.aload_n 0, 1) := by decide +kernel
theorem dX12_runs_26 : decode cX12_runs 26 = .ok (.iload_n 1, 1) := by decide +kernel
theorem dX12_runs_27 : decode cX12_runs 27 = .ok (.iconst 1, 1) := by decide +kernel
theorem dX12_runs_28 : decode cX12_runs 28 = .ok (.invokevirtual 459, 3) := by decide +kernel
theorem dX12_runs_31 : decode cX12_runs 31 = .ok (.aload_n 0, 1) := by decide +kernel
theorem dX12_runs_32 : decode cX12_runs 32 = .ok (.getfield 450, 3) := by decide +kernel
theorem dX12_runs_35 : decode cX12_runs 35 = .ok (.ifCond .ne 6, 3) := by decide +kernel
theorem dX12_runs_38 : decode cX12_runs 38 = .ok (.goto 29, 3) := by decide +kernel
theorem dX12_runs_41 : decode cX12_runs 41 = .ok (.aload_n 0, 1) := by decide +kernel
theorem dX12_runs_42 : decode cX12_runs 42 = .ok (.getfield 444, 3) := by decide +kernel
theorem dX12_runs_45 : decode cX12_runs 45 = .ok (.ifCond .eq 10, 3) := by decide +kernel
theorem dX12_runs_48 : decode cX12_runs 48 = .ok (.aload_n 0, 1) := by decide +kernel
theorem dX12_runs_49 : decode cX12_runs 49 = .ok (.invokevirtual 463, 3) := by decide +kernel
theorem dX12_runs_52 : decode cX12_runs 52 = .ok (.ifCond .ge 5, 3) := by decide +kernel
theorem dX12_runs_55 : decode cX12_runs 55 = .ok (.iconst 0, 1) := by decide +kernel
theorem dX12_runs_56 : decode cX12_runs 56 = .ok (.ireturn, 1) := by decide +kernel
theorem dX12_runs_57 : decode cX12_runs 57 = .ok (.aload_n 0, 1) := by decide +kernel
theorem dX12_runs_58 : decode cX12_runs 58 = .ok (.dup, 1) := by decide +kernel
theorem dX12_runs_59 : decode cX12_runs 59 = .ok (.getfield 429, 3) := by decide +kernel
theorem dX12_runs_62 : decode cX12_runs 62 = .ok (.iconst 1, 1) := by decide +kernel
theorem dX12_runs_63 : decode cX12_runs 63 = .ok (.iadd, 1) := by decide +kernel
theorem dX12_runs_64 : decode cX12_runs 64 = .ok (.putfield 429, 3) := by decide +kernel
theorem dX12_runs_67 : decode cX12_runs 67 = .ok (.iinc 4 1, 3) := by decide +kernel
theorem dX12_runs_70 : decode cX12_runs 70 = .ok (.goto (-51), 3) := by decide +kernel
theorem dX12_runs_73 : decode cX12_runs 73 = .ok (.aload_n 0, 1) := by decide +kernel
theorem dX12_runs_74 : decode cX12_runs 74 = .ok (.iload_n 3, 1) := by decide +kernel
theorem dX12_runs_75 : decode cX12_runs 75 = .ok (.putfield 435, 3) := by decide +kernel
theorem dX12_runs_78 : decode cX12_runs 78 = .ok (.iconst 1, 1) := by decide +kernel
theorem dX12_runs_79 : decode cX12_runs 79 = .ok (.ireturn, 1) := by decide +kernel
def f12_runs_j67 (rc19 : Int32 → Int32 → Int32 → Int32 → ph_Mem → Option (Int32 × ph_Mem)) (x1 : Int32) (x2 : Int32) (x3 : Int32) (x4 : Int32) (M : ph_Mem) : Option (Int32 × ph_Mem) :=
  rc19 x1 x2 x3 (x4 + (1 : Int32)) M
set_option maxHeartbeats 4000000 in
theorem jb_f12_runs_j67 {Z : (Nat → Prop) → State → Prop} {X : ph_X} {ad : Nat → Nat} {o : (Int32 × ph_Mem)} (h : ph_ok Z X cX12_runs RX12 (some .boolean) 5 148 ph_NM ad) (fin : ph_fin X ph_kdM ph_NM ad (some (.int o.1)) o.2) {rc19 : Int32 → Int32 → Int32 → Int32 → ph_Mem → Option (Int32 × ph_Mem)} (hrc19 : ∀ (x1 : Int32) (x2 : Int32) (x3 : Int32) (x4 : Int32) (M : ph_Mem), ph_J X ph_kdM ph_NM ad o 19 [(0, .ref (ad 0)), (1, .int x1), (2, .int x2), (3, .int x3), (4, .int x4)] [] M (rc19 x1 x2 x3 x4 M)) : ∀ (x1 : Int32) (x2 : Int32) (x3 : Int32) (x4 : Int32) (M : ph_Mem), ph_J X ph_kdM ph_NM ad o 67 [(0, .ref (ad 0)), (1, .int x1), (2, .int x2), (3, .int x3), (4, .int x4)] [] M (f12_runs_j67 rc19 x1 x2 x3 x4 M) := by
  intro x1 x2 x3 x4 M
  unfold f12_runs_j67
  refine j_iinc h [(4, .int (x4 + (1 : Int32))), (0, .ref (ad 0)), (1, .int x1), (2, .int x2), (3, .int x3)] dX12_runs_67 4 rfl rfl (by decide) rfl ?_
  refine j_goto h 19 dX12_runs_70 (by decide) ?_
  refine j_sub [1, 2, 3, 4, 0] rfl ?_
  exact hrc19 x1 x2 x3 (x4 + (1 : Int32)) M
def f12_runs_l19 : Nat → Int32 → Int32 → Int32 → Int32 → ph_Mem → Option (Int32 × ph_Mem)
  | 0, _, _, _, _, _ => none
  | n + 1, x1, x2, x3, x4, M => if x2 ≤ x4 then (ph_let (ph_wi M 0 43 x3) fun M2 => some ((1 : Int32), M2)) else ((f12_goesAlong M x1 (1 : Int32)).bind fun q3 => if (q3.1 0 47) = 0 then (f12_runs_j67 (f12_runs_l19 n) x1 x2 x3 x4 q3) else (if (q3.1 0 46) = 0 then (some ((0 : Int32), q3)) else ((f12_obeys q3 ).bind fun q4 => if 0 ≤ q4.1 then (ph_let (ph_wi q4.2 0 41 ((q4.2.1 0 41) + (1 : Int32))) fun M5 => f12_runs_j67 (f12_runs_l19 n) x1 x2 x3 x4 M5) else (some ((0 : Int32), q4.2)))))
set_option maxHeartbeats 4000000 in
theorem jb_f12_runs_l19 {Z : (Nat → Prop) → State → Prop} {X : ph_X} {ad : Nat → Nat} {o : (Int32 × ph_Mem)} (h : ph_ok Z X cX12_runs RX12 (some .boolean) 5 148 ph_NM ad) (fin : ph_fin X ph_kdM ph_NM ad (some (.int o.1)) o.2) : ∀ (n : Nat) (x1 : Int32) (x2 : Int32) (x3 : Int32) (x4 : Int32) (M : ph_Mem), ph_J X ph_kdM ph_NM ad o 19 [(0, .ref (ad 0)), (1, .int x1), (2, .int x2), (3, .int x3), (4, .int x4)] [] M (f12_runs_l19 n x1 x2 x3 x4 M) := by
  intro n
  induction n with
  | zero => intro x1 x2 x3 x4 M; exact j_none
  | succ n hrc19 =>
    intro x1 x2 x3 x4 M
    unfold f12_runs_l19
    refine j_iload h dX12_runs_19 4 rfl ?_
    refine j_iload_n h dX12_runs_21 rfl 2 rfl ?_
    refine j_icmp_ge h 73 dX12_runs_22 (by decide) ?_ ?_
    · refine j_aload_n h dX12_runs_73 rfl 0 rfl ?_
      refine j_iload_n h dX12_runs_74 rfl 3 rfl ?_
      refine j_puti (c := 0) (j := 43) (ty := .int) h (by decide) rfl rfl ph_inX12 tyX12 tyX12_ok nmX12 rfl (by decide) tw_1242 rfl rfl (tyX12_ok 43 (by decide)) rfl rfl dX12_runs_75 ?_
      refine j_letM (fun M2 => ?_)
      refine j_iconst (v := (1 : Int32)) h dX12_runs_78 (by decide) ?_
      exact j_zretC h rfl (by decide) fin dX12_runs_79
    · refine j_aload_n h dX12_runs_25 rfl 0 rfl ?_
      refine j_iload_n h dX12_runs_26 rfl 1 rfl ?_
      refine j_iconst (v := (1 : Int32)) h dX12_runs_27 (by decide) ?_
      refine j_callVv (n := 2) (As := [.int x1, .int (1 : Int32)]) (rest := []) h 0 tw_1831 tw_1833 tp_122 tw_14 tw_1834 ydf12_goesAlong (by decide) (by decide) (by decide) rfl rfl (fun q hq => cf12_goesAlong (ph_okZ h) (ph_okI h) hq) rfl (Nat.le_of_ble_eq_true rfl) rfl dX12_runs_28 (fun q3 => ?_)
      refine j_aload_n h dX12_runs_31 rfl 0 rfl ?_
      refine j_get (c := 0) (j := 47) (v := .int (q3.1 0 47)) h (by decide) rfl rfl ph_inX12 rfl (by decide) tw_1246 rfl rfl dX12_runs_32 ?_
      refine j_if_ne h 41 dX12_runs_35 (by decide) ?_ ?_
      · refine j_aload_n h dX12_runs_41 rfl 0 rfl ?_
        refine j_get (c := 0) (j := 46) (v := .int (q3.1 0 46)) h (by decide) rfl rfl ph_inX12 rfl (by decide) tw_1245 rfl rfl dX12_runs_42 ?_
        refine j_if_eq h 55 dX12_runs_45 (by decide) ?_ ?_
        · refine j_iconst (v := (0 : Int32)) h dX12_runs_55 (by decide) ?_
          exact j_zretC h rfl (by decide) fin dX12_runs_56
        · refine j_aload_n h dX12_runs_48 rfl 0 rfl ?_
          refine j_callVi (n := 0) (As := []) (rest := []) h 0 tw_1835 tw_1837 tp_123 tw_14 tw_1838 ydf12_obeys (by decide) (by decide) (by decide) rfl rfl (fun q hq => cf12_obeys (ph_okZ h) (ph_okI h) hq) rfl (Nat.le_of_ble_eq_true rfl) rfl dX12_runs_49 (fun q4 => ?_)
          refine j_if_ge h 57 dX12_runs_52 (by decide) ?_ ?_
          · refine j_aload_n h dX12_runs_57 rfl 0 rfl ?_
            refine j_dup h dX12_runs_58 rfl ?_
            refine j_get (c := 0) (j := 41) (v := .int (q4.2.1 0 41)) h (by decide) rfl rfl ph_inX12 rfl (by decide) tw_1240 rfl rfl dX12_runs_59 ?_
            refine j_iconst (v := (1 : Int32)) h dX12_runs_62 (by decide) ?_
            refine j_iadd h dX12_runs_63 ?_
            refine j_puti (c := 0) (j := 41) (ty := .int) h (by decide) rfl rfl ph_inX12 tyX12 tyX12_ok nmX12 rfl (by decide) tw_1240 rfl rfl (tyX12_ok 41 (by decide)) rfl rfl dX12_runs_64 ?_
            refine j_letM (fun M5 => ?_)
            refine j_sub [0, 1, 2, 3, 4] rfl ?_
            exact jb_f12_runs_j67 h fin hrc19 x1 x2 x3 x4 M5
          · refine j_iconst (v := (0 : Int32)) h dX12_runs_55 (by decide) ?_
            exact j_zretC h rfl (by decide) fin dX12_runs_56
      · refine j_goto h 67 dX12_runs_38 (by decide) ?_
        refine j_sub [0, 1, 2, 3, 4] rfl ?_
        exact jb_f12_runs_j67 h fin hrc19 x1 x2 x3 x4 q3
theorem ydf12_runs : ph_yd yX12_runs 1 := ⟨by decide, by decide, by decide +kernel⟩
def f12_runs (M : ph_Mem) (p0 : Int32) : Option (Int32 × ph_Mem) :=
  (f12_goesAlong M p0 (0 : Int32)).bind fun q1 => f12_runs_l19 10000 p0 (q1.1 0 44) (q1.1 0 22) (0 : Int32) q1
set_option maxHeartbeats 4000000 in
theorem cf12_runs {Z : (Nat → Prop) → State → Prop} (hZ : ph_Zok Z) {l : Launch} {D : va_G} {cA : Nat → ClassId} {ad : Nat → Nat} (hinj : ∀ i j, i < ph_NM → j < ph_NM → ad i = ad j → i = j) {M : ph_Mem} {p0 : Int32} {r : Int32} {M' : ph_Mem} (hf : f12_runs M p0 = some (r, M')) : ph_C Z l 148 yX12_runs cX12_runs 5 (some .boolean) D cA ph_kdM ph_NM ad [.ref (ad 0), .int p0] M (some (.int r)) M' := by
  refine ph_mk hZ hinj (by decide) (Nat.le_of_ble_eq_true rfl) fun X h fin hE => ?_
  refine (?_ : ph_J X ph_kdM ph_NM ad ((r, M') : (Int32 × ph_Mem)) 0 [(0, .ref (ad 0)), (1, .int p0)] [] M (f12_runs M p0)) hf
  unfold f12_runs
  refine j_aload_n h dX12_runs_0 rfl 0 rfl ?_
  refine j_iload_n h dX12_runs_1 rfl 1 rfl ?_
  refine j_iconst (v := (0 : Int32)) h dX12_runs_2 (by decide) ?_
  refine j_callVv (n := 2) (As := [.int p0, .int (0 : Int32)]) (rest := []) h 0 tw_1831 tw_1833 tp_122 tw_14 tw_1834 ydf12_goesAlong (by decide) (by decide) (by decide) rfl rfl (fun q hq => cf12_goesAlong (ph_okZ h) (ph_okI h) hq) rfl (Nat.le_of_ble_eq_true rfl) rfl dX12_runs_3 (fun q1 => ?_)
  refine j_aload_n h dX12_runs_6 rfl 0 rfl ?_
  refine j_get (c := 0) (j := 44) (v := .int (q1.1 0 44)) h (by decide) rfl rfl ph_inX12 rfl (by decide) tw_1243 rfl rfl dX12_runs_7 ?_
  refine j_istore_n h [(2, .int (q1.1 0 44)), (0, .ref (ad 0)), (1, .int p0)] dX12_runs_10 rfl (by decide) rfl ?_
  refine j_aload_n h dX12_runs_11 rfl 1 rfl ?_
  refine j_get (c := 0) (j := 22) (v := .int (q1.1 0 22)) h (by decide) rfl rfl ph_inX12 rfl (by decide) tw_1221 rfl rfl dX12_runs_12 ?_
  refine j_istore_n h [(3, .int (q1.1 0 22)), (2, .int (q1.1 0 44)), (0, .ref (ad 0)), (1, .int p0)] dX12_runs_15 rfl (by decide) rfl ?_
  refine j_iconst (v := (0 : Int32)) h dX12_runs_16 (by decide) ?_
  refine j_istore h [(4, .int (0 : Int32)), (3, .int (q1.1 0 22)), (2, .int (q1.1 0 44)), (0, .ref (ad 0)), (1, .int p0)] dX12_runs_17 (by decide) rfl ?_
  refine j_sub [3, 4, 2, 1, 0] rfl ?_
  exact jb_f12_runs_l19 h fin 10000 p0 (q1.1 0 44) (q1.1 0 22) (0 : Int32) q1
