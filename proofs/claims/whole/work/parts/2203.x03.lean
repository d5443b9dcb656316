theorem dX2_value_0 : decode cX2_value 0 = .ok (.aload_n 1, 1) := by decide +kernel
theorem dX2_value_1 : decode cX2_value 1 = .ok (.iload_n 2, 1) := by decide +kernel
theorem dX2_value_2 : decode cX2_value 2 = .ok (.iload_n 3, 1) := by decide +kernel
theorem dX2_value_3 : decode cX2_value 3 = .ok (.invokevirtual 21, 3) := by decide +kernel
theorem dX2_value_6 : decode cX2_value 6 = .ok (.aload_n 1, 1) := by decide +kernel
theorem dX2_value_7 : decode cX2_value 7 = .ok (.getfield 27, 3) := by decide +kernel
theorem dX2_value_10 : decode cX2_value 10 = .ok (.arraylength, 1) := by decide +kernel
theorem dX2_value_11 : decode cX2_value 11 = .ok (.invokestatic 30, 3) := by decide +kernel
theorem dX2_value_14 : decode cX2_value 14 = .ok (.istore 4, 2) := by decide +kernel
theorem dX2_value_16 : decode cX2_value 16 = .ok (.iconst (-1), 1) := by decide +kernel
theorem dX2_value_17 : decode cX2_value 17 = .ok (.istore 5, 2) := by decide +kernel
theorem dX2_value_19 : decode cX2_value 19 = .ok (.aload_n 1, 1) := by decide +kernel
theorem dX2_value_20 : decode cX2_value 20 = .ok (.iload_n 2, 1) := by decide +kernel
theorem dX2_value_21 : decode cX2_value 21 = .ok (.iload_n 3, 1) := by decide +kernel
theorem dX2_value_22 : decode cX2_value 22 = .ok (.invokevirtual 35, 3) := by decide +kernel
theorem dX2_value_25 : decode cX2_value 25 = .ok (.istore 6, 2) := by decide +kernel
theorem dX2_value_27 : decode cX2_value 27 = .ok (.iload 6, 2) := by decide +kernel
theorem dX2_value_29 : decode cX2_value 29 = .ok (.iload 4, 2) := by decide +kernel
theorem dX2_value_31 : decode cX2_value 31 = .ok (.if_icmp .ge 256, 3) := by decide +kernel
theorem dX2_value_34 : decode cX2_value 34 = .ok (.aload_n 1, 1) := by decide +kernel
theorem dX2_value_35 : decode cX2_value 35 = .ok (.getfield 27, 3) := by decide +kernel
theorem dX2_value_38 : decode cX2_value 38 = .ok (.iload 6, 2) := by decide +kernel
theorem dX2_value_40 : decode cX2_value 40 = .ok (.iaload, 1) := by decide +kernel
theorem dX2_value_41 : decode cX2_value 41 = .ok (.bipush 32, 2) := by decide +kernel
theorem dX2_value_43 : decode cX2_value 43 = .ok (.irem, 1) := by decide +kernel
theorem dX2_value_44 : decode cX2_value 44 = .ok (.istore 7, 2) := by decide +kernel
theorem dX2_value_46 : decode cX2_value 46 = .ok (.aload_n 1, 1) := by decide +kernel
theorem dX2_value_47 : decode cX2_value 47 = .ok (.getfield 27, 3) := by decide +kernel
theorem dX2_value_50 : decode cX2_value 50 = .ok (.iload 6, 2) := by decide +kernel
theorem dX2_value_52 : decode cX2_value 52 = .ok (.iaload, 1) := by decide +kernel
theorem dX2_value_53 : decode cX2_value 53 = .ok (.bipush 32, 2) := by decide +kernel
theorem dX2_value_55 : decode cX2_value 55 = .ok (.idiv, 1) := by decide +kernel
theorem dX2_value_56 : decode cX2_value 56 = .ok (.istore 8, 2) := by decide +kernel
theorem dX2_value_58 : decode cX2_value 58 = .ok (.iload 7, 2) := by decide +kernel
theorem dX2_value_60 : decode cX2_value 60 = .ok (.iconst 2, 1) := by decide +kernel
theorem dX2_value_61 : decode cX2_value 61 = .ok (.if_icmp .gt 37, 3) := by decide +kernel
theorem dX2_value_64 : decode cX2_value 64 = .ok (.iload 5, 2) := by decide +kernel
theorem dX2_value_66 : decode cX2_value 66 = .ok (.iconst 1, 1) := by decide +kernel
theorem dX2_value_67 : decode cX2_value 67 = .ok (.iadd, 1) := by decide +kernel
theorem dX2_value_68 : decode cX2_value 68 = .ok (.bipush 40, 2) := by decide +kernel
theorem dX2_value_70 : decode cX2_value 70 = .ok (.if_icmp .lt 7, 3) := by decide +kernel
theorem dX2_value_73 : decode cX2_value 73 = .ok (.ldc2_w 38, 3) := by decide +kernel
theorem dX2_value_76 : decode cX2_value 76 = .ok (.lreturn, 1) := by decide +kernel
theorem dX2_value_77 : decode cX2_value 77 = .ok (.iinc 5 1, 3) := by decide +kernel
theorem dX2_value_80 : decode cX2_value 80 = .ok (.aload_n 0, 1) := by decide +kernel
theorem dX2_value_81 : decode cX2_value 81 = .ok (.getfield 17, 3) := by decide +kernel
theorem dX2_value_84 : decode cX2_value 84 = .ok (.iload 5, 2) := by decide +kernel
theorem dX2_value_86 : decode cX2_value 86 = .ok (.aload_n 0, 1) := by decide +kernel
theorem dX2_value_87 : decode cX2_value 87 = .ok (.iload 7, 2) := by decide +kernel
theorem dX2_value_89 : decode cX2_value 89 = .ok (.iload 8, 2) := by decide +kernel
theorem dX2_value_91 : decode cX2_value 91 = .ok (.invokevirtual 40, 3) := by decide +kernel
theorem dX2_value_94 : decode cX2_value 94 = .ok (.lastore, 1) := by decide +kernel
theorem dX2_value_95 : decode cX2_value 95 = .ok (.goto 186, 3) := by decide +kernel
theorem dX2_value_98 : decode cX2_value 98 = .ok (.iload 5, 2) := by decide +kernel
theorem dX2_value_100 : decode cX2_value 100 = .ok (.ifCond .ge 7, 3) := by decide +kernel
theorem dX2_value_103 : decode cX2_value 103 = .ok (.ldc2_w 38, 3) := by decide +kernel
theorem dX2_value_106 : decode cX2_value 106 = .ok (.lreturn, 1) := by decide +kernel
theorem dX2_value_107 : decode cX2_value 107 = .ok (.iload 7, 2) := by decide +kernel
theorem dX2_value_109 : decode cX2_value 109 = .ok (.iconst 3, 1) := by decide +kernel
theorem dX2_value_110 : decode cX2_value 110 = .ok (.if_icmp .ne 22, 3) := by decide +kernel
theorem dX2_value_113 : decode cX2_value 113 = .ok (.aload_n 0, 1) := by decide +kernel
theorem dX2_value_114 : decode cX2_value 114 = .ok (.getfield 17, 3) := by decide +kernel
theorem dX2_value_117 : decode cX2_value 117 = .ok (.iload 5, 2) := by decide +kernel
theorem dX2_value_119 : decode cX2_value 119 = .ok (.lconst 1, 1) := by decide +kernel
theorem dX2_value_120 : decode cX2_value 120 = .ok (.aload_n 0, 1) := by decide +kernel
theorem dX2_value_121 : decode cX2_value 121 = .ok (.getfield 17, 3) := by decide +kernel
theorem dX2_value_124 : decode cX2_value 124 = .ok (.iload 5, 2) := by decide +kernel
theorem dX2_value_126 : decode cX2_value 126 = .ok (.laload, 1) := by decide +kernel
theorem dX2_value_127 : decode cX2_value 127 = .ok (.lsub, 1) := by decide +kernel
theorem dX2_value_128 : decode cX2_value 128 = .ok (.lastore, 1) := by decide +kernel
theorem dX2_value_129 : decode cX2_value 129 = .ok (.goto 152, 3) := by decide +kernel
theorem dX2_value_132 : decode cX2_value 132 = .ok (.iload 7, 2) := by decide +kernel
theorem dX2_value_134 : decode cX2_value 134 = .ok (.iconst 4, 1) := by decide +kernel
theorem dX2_value_135 : decode cX2_value 135 = .ok (.if_icmp .eq 9, 3) := by decide +kernel
theorem dX2_value_138 : decode cX2_value 138 = .ok (.iload 7, 2) := by decide +kernel
theorem dX2_value_140 : decode cX2_value 140 = .ok (.iconst 5, 1) := by decide +kernel
theorem dX2_value_141 : decode cX2_value 141 = .ok (.if_icmp .ne 81, 3) := by decide +kernel
theorem dX2_value_144 : decode cX2_value 144 = .ok (.aload_n 0, 1) := by decide +kernel
theorem dX2_value_145 : decode cX2_value 145 = .ok (.getfield 17, 3) := by decide +kernel
theorem dX2_value_148 : decode cX2_value 148 = .ok (.iload 5, 2) := by decide +kernel
theorem dX2_value_150 : decode cX2_value 150 = .ok (.laload, 1) := by decide +kernel
theorem dX2_value_151 : decode cX2_value 151 = .ok (.lconst 1, 1) := by decide +kernel
theorem dX2_value_152 : decode cX2_value 152 = .ok (.lcmp, 1) := by decide +kernel
theorem dX2_value_153 : decode cX2_value 153 = .ok (.ifCond .ne 7, 3) := by decide +kernel
theorem dX2_value_156 : decode cX2_value 156 = .ok (.iconst 1, 1) := by decide +kernel
theorem dX2_value_157 : decode cX2_value 157 = .ok (.goto 4, 3) := by decide +kernel
theorem dX2_value_160 : decode cX2_value 160 = .ok (.iconst 0, 1) := by decide +kernel
theorem dX2_value_161 : decode cX2_value 161 = .ok (.iload 7, 2) := by decide +kernel
theorem dX2_value_163 : decode cX2_value 163 = .ok (.iconst 4, 1) := by decide +kernel
theorem dX2_value_164 : decode cX2_value 164 = .ok (.if_icmp .ne 7, 3) := by decide +kernel
theorem dX2_value_167 : decode cX2_value 167 = .ok (.iconst 1, 1) := by decide +kernel
theorem dX2_value_168 : decode cX2_value 168 = .ok (.goto 4, 3) := by decide +kernel
theorem dX2_value_171 : decode cX2_value 171 = .ok (.iconst 0, 1) := by decide +kernel
theorem dX2_value_172 : decode cX2_value 172 = .ok (.if_icmp .ne 7, 3) := by decide +kernel
theorem dX2_value_175 : decode cX2_value 175 = .ok (.iconst 1, 1) := by decide +kernel
theorem dX2_value_176 : decode cX2_value 176 = .ok (.goto 4, 3) := by decide +kernel
theorem dX2_value_179 : decode cX2_value 179 = .ok (.iconst 0, 1) := by decide +kernel
theorem dX2_value_180 : decode cX2_value 180 = .ok (.istore 9, 2) := by decide +kernel
theorem dX2_value_182 : decode cX2_value 182 = .ok (.iload 9, 2) := by decide +kernel
theorem dX2_value_184 : decode cX2_value 184 = .ok (.ifCond .eq 15, 3) := by decide +kernel
theorem dX2_value_187 : decode cX2_value 187 = .ok (.iload 6, 2) := by decide +kernel
theorem dX2_value_189 : decode cX2_value 189 = .ok (.iload 8, 2) := by decide +kernel
theorem dX2_value_191 : decode cX2_value 191 = .ok (.iconst 1, 1) := by decide +kernel
theorem dX2_value_192 : decode cX2_value 192 = .ok (.isub, 1) := by decide +kernel
theorem dX2_value_193 : decode cX2_value 193 = .ok (.invokestatic 44, 3) := by decide +kernel
theorem dX2_value_196 : decode cX2_value 196 = .ok (.goto 5, 3) := by decide +kernel
theorem dX2_value_199 : decode cX2_value 199 = .ok (.iload 6, 2) := by decide +kernel
theorem dX2_value_201 : decode cX2_value 201 = .ok (.istore 6, 2) := by decide +kernel
theorem dX2_value_203 : decode cX2_value 203 = .ok (.iload 9, 2) := by decide +kernel
theorem dX2_value_205 : decode cX2_value 205 = .ok (.ifCond .eq 8, 3) := by decide +kernel
theorem dX2_value_208 : decode cX2_value 208 = .ok (.iload 5, 2) := by decide +kernel
theorem dX2_value_210 : decode cX2_value 210 = .ok (.goto 7, 3) := by decide +kernel
theorem dX2_value_213 : decode cX2_value 213 = .ok (.iload 5, 2) := by decide +kernel
theorem dX2_value_215 : decode cX2_value 215 = .ok (.iconst 1, 1) := by decide +kernel
theorem dX2_value_216 : decode cX2_value 216 = .ok (.isub, 1) := by decide +kernel
theorem dX2_value_217 : decode cX2_value 217 = .ok (.istore 5, 2) := by decide +kernel
theorem dX2_value_219 : decode cX2_value 219 = .ok (.goto 62, 3) := by decide +kernel
theorem dX2_value_222 : decode cX2_value 222 = .ok (.iload 5, 2) := by decide +kernel
theorem dX2_value_224 : decode cX2_value 224 = .ok (.iconst 1, 1) := by decide +kernel
theorem dX2_value_225 : decode cX2_value 225 = .ok (.if_icmp .ge 7, 3) := by decide +kernel
theorem dX2_value_228 : decode cX2_value 228 = .ok (.ldc2_w 38, 3) := by decide +kernel
theorem dX2_value_231 : decode cX2_value 231 = .ok (.lreturn, 1) := by decide +kernel
theorem dX2_value_232 : decode cX2_value 232 = .ok (.iinc 5 (-1), 3) := by decide +kernel
theorem dX2_value_235 : decode cX2_value 235 = .ok (.aload_n 0, 1) := by decide +kernel
theorem dX2_value_236 : decode cX2_value 236 = .ok (.getfield 17, 3) := by decide +kernel
theorem dX2_value_239 : decode cX2_value 239 = .ok (.iload 5, 2) := by decide +kernel
theorem dX2_value_241 : decode cX2_value 241 = .ok (.iload 7, 2) := by decide +kernel
theorem dX2_value_243 : decode cX2_value 243 = .ok (.aload_n 0, 1) := by decide +kernel
theorem dX2_value_244 : decode cX2_value 244 = .ok (.getfield 17, 3) := by decide +kernel
theorem dX2_value_247 : decode cX2_value 247 = .ok (.iload 5, 2) := by decide +kernel
theorem dX2_value_249 : decode cX2_value 249 = .ok (.laload, 1) := by decide +kernel
theorem dX2_value_250 : decode cX2_value 250 = .ok (.aload_n 0, 1) := by decide +kernel
theorem dX2_value_251 : decode cX2_value 251 = .ok (.getfield 17, 3) := by decide +kernel
theorem dX2_value_254 : decode cX2_value 254 = .ok (.iload 5, 2) := by decide +kernel
theorem dX2_value_256 : decode cX2_value 256 = .ok (.iconst 1, 1) := by decide +kernel
theorem dX2_value_257 : decode cX2_value 257 = .ok (.iadd, 1) := by decide +kernel
theorem dX2_value_258 : decode cX2_value 258 = .ok (.laload, 1) := by decide +kernel
theorem dX2_value_259 : decode cX2_value 259 = .ok (.invokestatic 47, 3) := by decide +kernel
theorem dX2_value_262 : decode cX2_value 262 = .ok (.lastore, 1) := by decide +kernel
theorem dX2_value_263 : decode cX2_value 263 = .ok (.aload_n 0, 1) := by decide +kernel
theorem dX2_value_264 : decode cX2_value 264 = .ok (.getfield 17, 3) := by decide +kernel
theorem dX2_value_267 : decode cX2_value 267 = .ok (.iload 5, 2) := by decide +kernel
theorem dX2_value_269 : decode cX2_value 269 = .ok (.laload, 1) := by decide +kernel
theorem dX2_value_270 : decode cX2_value 270 = .ok (.ldc2_w 38, 3) := by decide +kernel
theorem dX2_value_273 : decode cX2_value 273 = .ok (.lcmp, 1) := by decide +kernel
theorem dX2_value_274 : decode cX2_value 274 = .ok (.ifCond .ne 7, 3) := by decide +kernel
theorem dX2_value_277 : decode cX2_value 277 = .ok (.ldc2_w 38, 3) := by decide +kernel
theorem dX2_value_280 : decode cX2_value 280 = .ok (.lreturn, 1) := by decide +kernel
theorem dX2_value_281 : decode cX2_value 281 = .ok (.iinc 6 1, 3) := by decide +kernel
theorem dX2_value_284 : decode cX2_value 284 = .ok (.goto (-257), 3) := by decide +kernel
theorem dX2_value_287 : decode cX2_value 287 = .ok (.iload 5, 2) := by decide +kernel
theorem dX2_value_289 : decode cX2_value 289 = .ok (.ifCond .ne 12, 3) := by decide +kernel
theorem dX2_value_292 : decode cX2_value 292 = .ok (.aload_n 0, 1) := by decide +kernel
theorem dX2_value_293 : decode cX2_value 293 = .ok (.getfield 17, 3) := by decide +kernel
theorem dX2_value_296 : decode cX2_value 296 = .ok (.iconst 0, 1) := by decide +kernel
theorem dX2_value_297 : decode cX2_value 297 = .ok (.laload, 1) := by decide +kernel
theorem dX2_value_298 : decode cX2_value 298 = .ok (.goto 6, 3) := by decide +kernel
theorem dX2_value_301 : decode cX2_value 301 = .ok (.ldc2_w 38, 3) := by decide +kernel
theorem dX2_value_304 : decode cX2_value 304 = .ok (.lreturn, 1) := by decide +kernel
def f2_value_j281 (S : ph_Sh) (c : Nat) (p0 : Nat) (rc27 : Int32 → Int32 → Int32 → ph_Mem → Option (Int64 × ph_Mem)) (x4 : Int32) (x5 : Int32) (x6 : Int32) (M : ph_Mem) : Option (Int64 × ph_Mem) :=
  rc27 x4 x5 (x6 + (1 : Int32)) M
set_option maxHeartbeats 4000000 in
theorem jb_f2_value_j281 {tb adK adV : Nat → Nat} {S : ph_Sh} {c : Nat} {p0 : Nat} {X : ph_X} {ad : Nat → Nat} {o : (Int64 × ph_Mem)} (h : ph_ok (ph_ZX tb adK adV) X cX2_value RX2 (some .long) 10 1 S.2 ad) (fin : ph_fin X S.1 S.2 ad (some (.long o.1)) o.2) (hS : ph_SX S) (hc : ph_isM c) (hp0 : ph_isP S p0) {rc27 : Int32 → Int32 → Int32 → ph_Mem → Option (Int64 × ph_Mem)} (hrc27 : ∀ (x4 : Int32) (x5 : Int32) (x6 : Int32) (M : ph_Mem), ph_J X S.1 S.2 ad o 27 [(0, .ref (ad c)), (1, .ref (ad p0)), (4, .int x4), (5, .int x5), (6, .int x6)] [] M (rc27 x4 x5 x6 M)) : ∀ (x4 : Int32) (x5 : Int32) (x6 : Int32) (M : ph_Mem), ph_J X S.1 S.2 ad o 281 [(0, .ref (ad c)), (1, .ref (ad p0)), (4, .int x4), (5, .int x5), (6, .int x6)] [] M (f2_value_j281 S c p0 rc27 x4 x5 x6 M) := by
  intro x4 x5 x6 M
  unfold f2_value_j281
  refine j_iinc h [(6, .int (x6 + (1 : Int32))), (0, .ref (ad c)), (1, .ref (ad p0)), (4, .int x4), (5, .int x5)] dX2_value_281 4 rfl rfl (by decide) rfl ?_
  refine j_goto h 27 dX2_value_284 (by decide) ?_
  refine j_sub [1, 2, 3, 4, 0] rfl ?_
  exact hrc27 x4 x5 (x6 + (1 : Int32)) M
def f2_value_j217 (S : ph_Sh) (c : Nat) (p0 : Nat) (rc27 : Int32 → Int32 → Int32 → ph_Mem → Option (Int64 × ph_Mem)) (x4 : Int32) (x6 : Int32) (s0 : Int32) (M : ph_Mem) : Option (Int64 × ph_Mem) :=
  f2_value_j281 S c p0 rc27 x4 s0 x6 M
set_option maxHeartbeats 4000000 in
theorem jb_f2_value_j217 {tb adK adV : Nat → Nat} {S : ph_Sh} {c : Nat} {p0 : Nat} {X : ph_X} {ad : Nat → Nat} {o : (Int64 × ph_Mem)} (h : ph_ok (ph_ZX tb adK adV) X cX2_value RX2 (some .long) 10 1 S.2 ad) (fin : ph_fin X S.1 S.2 ad (some (.long o.1)) o.2) (hS : ph_SX S) (hc : ph_isM c) (hp0 : ph_isP S p0) {rc27 : Int32 → Int32 → Int32 → ph_Mem → Option (Int64 × ph_Mem)} (hrc27 : ∀ (x4 : Int32) (x5 : Int32) (x6 : Int32) (M : ph_Mem), ph_J X S.1 S.2 ad o 27 [(0, .ref (ad c)), (1, .ref (ad p0)), (4, .int x4), (5, .int x5), (6, .int x6)] [] M (rc27 x4 x5 x6 M)) : ∀ (x4 : Int32) (x6 : Int32) (s0 : Int32) (M : ph_Mem), ph_J X S.1 S.2 ad o 217 [(0, .ref (ad c)), (1, .ref (ad p0)), (4, .int x4), (6, .int x6)] [.int s0] M (f2_value_j217 S c p0 rc27 x4 x6 s0 M) := by
  intro x4 x6 s0 M
  unfold f2_value_j217
  refine j_istore h [(5, .int s0), (0, .ref (ad c)), (1, .ref (ad p0)), (4, .int x4), (6, .int x6)] dX2_value_217 (by decide) rfl ?_
  refine j_goto h 281 dX2_value_219 (by decide) ?_
  refine j_sub [1, 2, 3, 0, 4] rfl ?_
  exact jb_f2_value_j281 h fin hS hc hp0 hrc27 x4 s0 x6 M
def f2_value_j201 (S : ph_Sh) (c : Nat) (p0 : Nat) (rc27 : Int32 → Int32 → Int32 → ph_Mem → Option (Int64 × ph_Mem)) (x4 : Int32) (x5 : Int32) (x9 : Int32) (s0 : Int32) (M : ph_Mem) : Option (Int64 × ph_Mem) :=
  if x9 = 0 then (f2_value_j217 S c p0 rc27 x4 s0 (x5 - (1 : Int32)) M) else (f2_value_j217 S c p0 rc27 x4 s0 x5 M)
set_option maxHeartbeats 4000000 in
theorem jb_f2_value_j201 {tb adK adV : Nat → Nat} {S : ph_Sh} {c : Nat} {p0 : Nat} {X : ph_X} {ad : Nat → Nat} {o : (Int64 × ph_Mem)} (h : ph_ok (ph_ZX tb adK adV) X cX2_value RX2 (some .long) 10 1 S.2 ad) (fin : ph_fin X S.1 S.2 ad (some (.long o.1)) o.2) (hS : ph_SX S) (hc : ph_isM c) (hp0 : ph_isP S p0) {rc27 : Int32 → Int32 → Int32 → ph_Mem → Option (Int64 × ph_Mem)} (hrc27 : ∀ (x4 : Int32) (x5 : Int32) (x6 : Int32) (M : ph_Mem), ph_J X S.1 S.2 ad o 27 [(0, .ref (ad c)), (1, .ref (ad p0)), (4, .int x4), (5, .int x5), (6, .int x6)] [] M (rc27 x4 x5 x6 M)) : ∀ (x4 : Int32) (x5 : Int32) (x9 : Int32) (s0 : Int32) (M : ph_Mem), ph_J X S.1 S.2 ad o 201 [(0, .ref (ad c)), (1, .ref (ad p0)), (4, .int x4), (5, .int x5), (9, .int x9)] [.int s0] M (f2_value_j201 S c p0 rc27 x4 x5 x9 s0 M) := by
  intro x4 x5 x9 s0 M
  unfold f2_value_j201
  refine j_istore h [(6, .int s0), (0, .ref (ad c)), (1, .ref (ad p0)), (4, .int x4), (5, .int x5), (9, .int x9)] dX2_value_201 (by decide) rfl ?_
  refine j_iload h dX2_value_203 5 rfl ?_
  refine j_if_eq h 213 dX2_value_205 (by decide) ?_ ?_
  · refine j_iload h dX2_value_213 4 rfl ?_
    refine j_iconst (v := (1 : Int32)) h dX2_value_215 (by decide) ?_
    refine j_isub h dX2_value_216 ?_
    refine j_sub [1, 2, 3, 0] rfl ?_
    exact jb_f2_value_j217 h fin hS hc hp0 hrc27 x4 s0 (x5 - (1 : Int32)) M
  · refine j_iload h dX2_value_208 4 rfl ?_
    refine j_goto h 217 dX2_value_210 (by decide) ?_
    refine j_sub [1, 2, 3, 0] rfl ?_
    exact jb_f2_value_j217 h fin hS hc hp0 hrc27 x4 s0 x5 M
def f2_value_j180 (S : ph_Sh) (c : Nat) (p0 : Nat) (rc27 : Int32 → Int32 → Int32 → ph_Mem → Option (Int64 × ph_Mem)) (x4 : Int32) (x5 : Int32) (x6 : Int32) (x8 : Int32) (s0 : Int32) (M : ph_Mem) : Option (Int64 × ph_Mem) :=
  if s0 = 0 then (f2_value_j201 S c p0 rc27 x4 x5 s0 x6 M) else ((f9_max_7cf53 S M x6 (x8 - (1 : Int32))).bind fun q11 => f2_value_j201 S c p0 rc27 x4 x5 s0 q11 M)
set_option maxHeartbeats 4000000 in
theorem jb_f2_value_j180 {tb adK adV : Nat → Nat} {S : ph_Sh} {c : Nat} {p0 : Nat} {X : ph_X} {ad : Nat → Nat} {o : (Int64 × ph_Mem)} (h : ph_ok (ph_ZX tb adK adV) X cX2_value RX2 (some .long) 10 1 S.2 ad) (fin : ph_fin X S.1 S.2 ad (some (.long o.1)) o.2) (hS : ph_SX S) (hc : ph_isM c) (hp0 : ph_isP S p0) {rc27 : Int32 → Int32 → Int32 → ph_Mem → Option (Int64 × ph_Mem)} (hrc27 : ∀ (x4 : Int32) (x5 : Int32) (x6 : Int32) (M : ph_Mem), ph_J X S.1 S.2 ad o 27 [(0, .ref (ad c)), (1, .ref (ad p0)), (4, .int x4), (5, .int x5), (6, .int x6)] [] M (rc27 x4 x5 x6 M)) : ∀ (x4 : Int32) (x5 : Int32) (x6 : Int32) (x8 : Int32) (s0 : Int32) (M : ph_Mem), ph_J X S.1 S.2 ad o 180 [(0, .ref (ad c)), (1, .ref (ad p0)), (4, .int x4), (5, .int x5), (6, .int x6), (8, .int x8)] [.int s0] M (f2_value_j180 S c p0 rc27 x4 x5 x6 x8 s0 M) := by
  intro x4 x5 x6 x8 s0 M
  unfold f2_value_j180
  refine j_istore h [(9, .int s0), (0, .ref (ad c)), (1, .ref (ad p0)), (4, .int x4), (5, .int x5), (6, .int x6), (8, .int x8)] dX2_value_180 (by decide) rfl ?_
  refine j_iload h dX2_value_182 0 rfl ?_
  refine j_if_eq h 199 dX2_value_184 (by decide) ?_ ?_
  · refine j_iload h dX2_value_199 5 rfl ?_
    refine j_sub [1, 2, 3, 4, 0] rfl ?_
    exact jb_f2_value_j201 h fin hS hc hp0 hrc27 x4 x5 s0 x6 M
  · refine j_iload h dX2_value_187 5 rfl ?_
    refine j_iload h dX2_value_189 6 rfl ?_
    refine j_iconst (v := (1 : Int32)) h dX2_value_191 (by decide) ?_
    refine j_isub h dX2_value_192 ?_
    refine j_callSiP (n := 2) (As := [.int x6, .int (x8 - (1 : Int32))]) (rest := []) h tw_516 tw_517 tw_16 tw_518 ydf9_max_7cf53 (by decide) (by decide) (fun q hq => cf9_max_7cf53 (ph_okI h) trivial hq) rfl (Nat.le_of_ble_eq_true rfl) rfl dX2_value_193 (fun q11 => ?_)
    refine j_goto h 201 dX2_value_196 (by decide) ?_
    refine j_sub [1, 2, 3, 4, 0] rfl ?_
    exact jb_f2_value_j201 h fin hS hc hp0 hrc27 x4 x5 s0 q11 M
def f2_value_j172 (S : ph_Sh) (c : Nat) (p0 : Nat) (rc27 : Int32 → Int32 → Int32 → ph_Mem → Option (Int64 × ph_Mem)) (x4 : Int32) (x5 : Int32) (x6 : Int32) (x8 : Int32) (s0 : Int32) (s1 : Int32) (M : ph_Mem) : Option (Int64 × ph_Mem) :=
  if s1 = s0 then (f2_value_j180 S c p0 rc27 x4 x5 x6 x8 (1 : Int32) M) else (f2_value_j180 S c p0 rc27 x4 x5 x6 x8 (0 : Int32) M)
set_option maxHeartbeats 4000000 in
theorem jb_f2_value_j172 {tb adK adV : Nat → Nat} {S : ph_Sh} {c : Nat} {p0 : Nat} {X : ph_X} {ad : Nat → Nat} {o : (Int64 × ph_Mem)} (h : ph_ok (ph_ZX tb adK adV) X cX2_value RX2 (some .long) 10 1 S.2 ad) (fin : ph_fin X S.1 S.2 ad (some (.long o.1)) o.2) (hS : ph_SX S) (hc : ph_isM c) (hp0 : ph_isP S p0) {rc27 : Int32 → Int32 → Int32 → ph_Mem → Option (Int64 × ph_Mem)} (hrc27 : ∀ (x4 : Int32) (x5 : Int32) (x6 : Int32) (M : ph_Mem), ph_J X S.1 S.2 ad o 27 [(0, .ref (ad c)), (1, .ref (ad p0)), (4, .int x4), (5, .int x5), (6, .int x6)] [] M (rc27 x4 x5 x6 M)) : ∀ (x4 : Int32) (x5 : Int32) (x6 : Int32) (x8 : Int32) (s0 : Int32) (s1 : Int32) (M : ph_Mem), ph_J X S.1 S.2 ad o 172 [(0, .ref (ad c)), (1, .ref (ad p0)), (4, .int x4), (5, .int x5), (6, .int x6), (8, .int x8)] [.int s0, .int s1] M (f2_value_j172 S c p0 rc27 x4 x5 x6 x8 s0 s1 M) := by
  intro x4 x5 x6 x8 s0 s1 M
  unfold f2_value_j172
  refine j_icmp_ne h 179 dX2_value_172 (by decide) ?_ ?_
  · refine j_iconst (v := (0 : Int32)) h dX2_value_179 (by decide) ?_
    refine j_sub [0, 1, 2, 3, 4, 5] rfl ?_
    exact jb_f2_value_j180 h fin hS hc hp0 hrc27 x4 x5 x6 x8 (0 : Int32) M
  · refine j_iconst (v := (1 : Int32)) h dX2_value_175 (by decide) ?_
    refine j_goto h 180 dX2_value_176 (by decide) ?_
    refine j_sub [0, 1, 2, 3, 4, 5] rfl ?_
    exact jb_f2_value_j180 h fin hS hc hp0 hrc27 x4 x5 x6 x8 (1 : Int32) M
def f2_value_j161 (S : ph_Sh) (c : Nat) (p0 : Nat) (rc27 : Int32 → Int32 → Int32 → ph_Mem → Option (Int64 × ph_Mem)) (x4 : Int32) (x5 : Int32) (x6 : Int32) (x7 : Int32) (x8 : Int32) (s0 : Int32) (M : ph_Mem) : Option (Int64 × ph_Mem) :=
  if x7 = (4 : Int32) then (f2_value_j172 S c p0 rc27 x4 x5 x6 x8 (1 : Int32) s0 M) else (f2_value_j172 S c p0 rc27 x4 x5 x6 x8 (0 : Int32) s0 M)
set_option maxHeartbeats 4000000 in
theorem jb_f2_value_j161 {tb adK adV : Nat → Nat} {S : ph_Sh} {c : Nat} {p0 : Nat} {X : ph_X} {ad : Nat → Nat} {o : (Int64 × ph_Mem)} (h : ph_ok (ph_ZX tb adK adV) X cX2_value RX2 (some .long) 10 1 S.2 ad) (fin : ph_fin X S.1 S.2 ad (some (.long o.1)) o.2) (hS : ph_SX S) (hc : ph_isM c) (hp0 : ph_isP S p0) {rc27 : Int32 → Int32 → Int32 → ph_Mem → Option (Int64 × ph_Mem)} (hrc27 : ∀ (x4 : Int32) (x5 : Int32) (x6 : Int32) (M : ph_Mem), ph_J X S.1 S.2 ad o 27 [(0, .ref (ad c)), (1, .ref (ad p0)), (4, .int x4), (5, .int x5), (6, .int x6)] [] M (rc27 x4 x5 x6 M)) : ∀ (x4 : Int32) (x5 : Int32) (x6 : Int32) (x7 : Int32) (x8 : Int32) (s0 : Int32) (M : ph_Mem), ph_J X S.1 S.2 ad o 161 [(0, .ref (ad c)), (1, .ref (ad p0)), (4, .int x4), (5, .int x5), (6, .int x6), (7, .int x7), (8, .int x8)] [.int s0] M (f2_value_j161 S c p0 rc27 x4 x5 x6 x7 x8 s0 M) := by
  intro x4 x5 x6 x7 x8 s0 M
  unfold f2_value_j161
  refine j_iload h dX2_value_161 5 rfl ?_
  refine j_iconst (v := (4 : Int32)) h dX2_value_163 (by decide) ?_
  refine j_icmp_ne h 171 dX2_value_164 (by decide) ?_ ?_
  · refine j_iconst (v := (0 : Int32)) h dX2_value_171 (by decide) ?_
    refine j_sub [0, 1, 2, 3, 4, 6] rfl ?_
    exact jb_f2_value_j172 h fin hS hc hp0 hrc27 x4 x5 x6 x8 (0 : Int32) s0 M
  · refine j_iconst (v := (1 : Int32)) h dX2_value_167 (by decide) ?_
    refine j_goto h 172 dX2_value_168 (by decide) ?_
    refine j_sub [0, 1, 2, 3, 4, 6] rfl ?_
    exact jb_f2_value_j172 h fin hS hc hp0 hrc27 x4 x5 x6 x8 (1 : Int32) s0 M
def f2_value_j144 (S : ph_Sh) (c : Nat) (p0 : Nat) (rc27 : Int32 → Int32 → Int32 → ph_Mem → Option (Int64 × ph_Mem)) (x4 : Int32) (x5 : Int32) (x6 : Int32) (x7 : Int32) (x8 : Int32) (M : ph_Mem) : Option (Int64 × ph_Mem) :=
  cond (ph_ib x5 40) (if (lg_cmp (M.2.1 (c + 2) x5.toNatClampNeg) (1 : Int64)) = 0 then (f2_value_j161 S c p0 rc27 x4 x5 x6 x7 x8 (1 : Int32) M) else (f2_value_j161 S c p0 rc27 x4 x5 x6 x7 x8 (0 : Int32) M)) none
set_option maxHeartbeats 4000000 in
theorem jb_f2_value_j144 {tb adK adV : Nat → Nat} {S : ph_Sh} {c : Nat} {p0 : Nat} {X : ph_X} {ad : Nat → Nat} {o : (Int64 × ph_Mem)} (h : ph_ok (ph_ZX tb adK adV) X cX2_value RX2 (some .long) 10 1 S.2 ad) (fin : ph_fin X S.1 S.2 ad (some (.long o.1)) o.2) (hS : ph_SX S) (hc : ph_isM c) (hp0 : ph_isP S p0) {rc27 : Int32 → Int32 → Int32 → ph_Mem → Option (Int64 × ph_Mem)} (hrc27 : ∀ (x4 : Int32) (x5 : Int32) (x6 : Int32) (M : ph_Mem), ph_J X S.1 S.2 ad o 27 [(0, .ref (ad c)), (1, .ref (ad p0)), (4, .int x4), (5, .int x5), (6, .int x6)] [] M (rc27 x4 x5 x6 M)) : ∀ (x4 : Int32) (x5 : Int32) (x6 : Int32) (x7 : Int32) (x8 : Int32) (M : ph_Mem), ph_J X S.1 S.2 ad o 144 [(0, .ref (ad c)), (1, .ref (ad p0)), (4, .int x4), (5, .int x5), (6, .int x6), (7, .int x7), (8, .int x8)] [] M (f2_value_j144 S c p0 rc27 x4 x5 x6 x7 x8 M) := by
  intro x4 x5 x6 x7 x8 M
  unfold f2_value_j144
  refine j_aload_n h dX2_value_144 rfl 0 rfl ?_
  refine j_get (c := c) (j := 1) (v := .ref (ad (c + 2))) h (ph_M0n hS hc) (ph_M0 hS hc) rfl ph_inX2 rfl (by decide) tw_39 rfl rfl dX2_value_145 ?_
  refine j_iload h dX2_value_148 3 rfl ?_
  refine j_lald (c := (c + 2)) (n := 40) h (ph_M2n hS hc) (ph_M2 hS hc) dX2_value_150 ?_
  refine j_lconst (v := (1 : Int64)) h dX2_value_151 (by decide) ?_
  refine j_lcmp h dX2_value_152 ?_
  refine j_if_ne h 160 dX2_value_153 (by decide) ?_ ?_
  · refine j_iconst (v := (0 : Int32)) h dX2_value_160 (by decide) ?_
    refine j_sub [0, 1, 2, 3, 4, 5, 6] rfl ?_
    exact jb_f2_value_j161 h fin hS hc hp0 hrc27 x4 x5 x6 x7 x8 (0 : Int32) M
  · refine j_iconst (v := (1 : Int32)) h dX2_value_156 (by decide) ?_
    refine j_goto h 161 dX2_value_157 (by decide) ?_
    refine j_sub [0, 1, 2, 3, 4, 5, 6] rfl ?_
    exact jb_f2_value_j161 h fin hS hc hp0 hrc27 x4 x5 x6 x7 x8 (1 : Int32) M
def f2_value_j287 (S : ph_Sh) (c : Nat) (p0 : Nat) (x5 : Int32) (M : ph_Mem) : Option (Int64 × ph_Mem) :=
  if x5 = 0 then (some ((M.2.1 (c + 2) 0), M)) else (some ((-4000000000000000000 : Int64), M))
set_option maxHeartbeats 4000000 in
theorem jb_f2_value_j287 {tb adK adV : Nat → Nat} {S : ph_Sh} {c : Nat} {p0 : Nat} {X : ph_X} {ad : Nat → Nat} {o : (Int64 × ph_Mem)} (h : ph_ok (ph_ZX tb adK adV) X cX2_value RX2 (some .long) 10 1 S.2 ad) (fin : ph_fin X S.1 S.2 ad (some (.long o.1)) o.2) (hS : ph_SX S) (hc : ph_isM c) (hp0 : ph_isP S p0) : ∀ (x5 : Int32) (M : ph_Mem), ph_J X S.1 S.2 ad o 287 [(0, .ref (ad c)), (5, .int x5)] [] M (f2_value_j287 S c p0 x5 M) := by
  intro x5 M
  unfold f2_value_j287
  refine j_iload h dX2_value_287 1 rfl ?_
  refine j_if_ne h 301 dX2_value_289 (by decide) ?_ ?_
  · refine j_ldc2 (v := (-4000000000000000000 : Int64)) h dX2_value_301 tw_511 ?_
    exact j_lret h rfl fin dX2_value_304
  · refine j_aload_n h dX2_value_292 rfl 0 rfl ?_
    refine j_get (c := c) (j := 1) (v := .ref (ad (c + 2))) h (ph_M0n hS hc) (ph_M0 hS hc) rfl ph_inX2 rfl (by decide) tw_39 rfl rfl dX2_value_293 ?_
    refine j_iconst (v := (0 : Int32)) h dX2_value_296 (by decide) ?_
    refine j_laldK (c := (c + 2)) (n := 40) (kn := 0) h (ph_M2n hS hc) (ph_M2 hS hc) rfl (by decide) dX2_value_297 ?_
    refine j_goto h 304 dX2_value_298 (by decide) ?_
    exact j_lret h rfl fin dX2_value_304
def f2_value_l27 (S : ph_Sh) (c : Nat) (p0 : Nat) : Nat → Int32 → Int32 → Int32 → ph_Mem → Option (Int64 × ph_Mem)
  | 0, _, _, _, _ => none
  | n + 1, x4, x5, x6, M => if x4 ≤ x6 then (f2_value_j287 S c p0 x5 M) else (cond (ph_ib x6 (ph_len S (p0 + 2))) (ph_let ((M.1 (p0 + 2) x6.toNatClampNeg) - (M.1 (p0 + 2) x6.toNatClampNeg) / (32 : Int32) * (32 : Int32)) fun z4 => cond (ph_ib x6 (ph_len S (p0 + 2))) (ph_let ((M.1 (p0 + 2) x6.toNatClampNeg) / (32 : Int32)) fun z5 => if (2 : Int32) < z4 then (if 0 ≤ x5 then (if z4 = (3 : Int32) then (cond (ph_ib x5 40) (cond (ph_ib x5 40) (ph_let (ph_wl M (c + 2) x5.toNatClampNeg ((1 : Int64) - (M.2.1 (c + 2) x5.toNatClampNeg))) fun M8 => f2_value_j281 S c p0 (f2_value_l27 S c p0 n) x4 x5 x6 M8) none) none) else (if z4 = (4 : Int32) then (f2_value_j144 S c p0 (f2_value_l27 S c p0 n) x4 x5 x6 z4 z5 M) else (if z4 = (5 : Int32) then (f2_value_j144 S c p0 (f2_value_l27 S c p0 n) x4 x5 x6 z4 z5 M) else (if (1 : Int32) ≤ x5 then (cond (ph_ib (x5 + (-1 : Int32)) 40) (cond (ph_ib ((x5 + (-1 : Int32)) + (1 : Int32)) 40) ((f2_join S M z4 (M.2.1 (c + 2) (x5 + (-1 : Int32)).toNatClampNeg) (M.2.1 (c + 2) ((x5 + (-1 : Int32)) + (1 : Int32)).toNatClampNeg)).bind fun q6 => cond (ph_ib (x5 + (-1 : Int32)) 40) (ph_let (ph_wl M (c + 2) (x5 + (-1 : Int32)).toNatClampNeg q6) fun M7 => cond (ph_ib (x5 + (-1 : Int32)) 40) (if (lg_cmp (M7.2.1 (c + 2) (x5 + (-1 : Int32)).toNatClampNeg) (-4000000000000000000 : Int64)) = 0 then (some ((-4000000000000000000 : Int64), M7)) else (f2_value_j281 S c p0 (f2_value_l27 S c p0 n) x4 (x5 + (-1 : Int32)) x6 M7)) none) none) none) none) else (some ((-4000000000000000000 : Int64), M)))))) else (some ((-4000000000000000000 : Int64), M))) else (if (x5 + (1 : Int32)) < (40 : Int32) then ((f2_operand S M c z4 z5).bind fun q9 => cond (ph_ib (x5 + (1 : Int32)) 40) (ph_let (ph_wl M (c + 2) (x5 + (1 : Int32)).toNatClampNeg q9) fun M10 => f2_value_j281 S c p0 (f2_value_l27 S c p0 n) x4 (x5 + (1 : Int32)) x6 M10) none) else (some ((-4000000000000000000 : Int64), M)))) none) none)
set_option maxHeartbeats 4000000 in
theorem jb_f2_value_l27 {tb adK adV : Nat → Nat} {S : ph_Sh} {c : Nat} {p0 : Nat} {X : ph_X} {ad : Nat → Nat} {o : (Int64 × ph_Mem)} (h : ph_ok (ph_ZX tb adK adV) X cX2_value RX2 (some .long) 10 1 S.2 ad) (fin : ph_fin X S.1 S.2 ad (some (.long o.1)) o.2) (hS : ph_SX S) (hc : ph_isM c) (hp0 : ph_isP S p0) : ∀ (n : Nat) (x4 : Int32) (x5 : Int32) (x6 : Int32) (M : ph_Mem), ph_J X S.1 S.2 ad o 27 [(0, .ref (ad c)), (1, .ref (ad p0)), (4, .int x4), (5, .int x5), (6, .int x6)] [] M (f2_value_l27 S c p0 n x4 x5 x6 M) := by
  intro n
  induction n with
  | zero => intro x4 x5 x6 M; exact j_none
  | succ n hrc27 =>
    intro x4 x5 x6 M
    unfold f2_value_l27
    refine j_iload h dX2_value_27 4 rfl ?_
    refine j_iload h dX2_value_29 2 rfl ?_
    refine j_icmp_ge h 287 dX2_value_31 (by decide) ?_ ?_
    · refine j_sub [0, 3] rfl ?_
      exact jb_f2_value_j287 h fin hS hc hp0 x5 M
    · refine j_aload_n h dX2_value_34 rfl 1 rfl ?_
      refine j_get (c := p0) (j := 2) (v := .ref (ad (p0 + 2))) h (ph_P0n hS hp0) (ph_P0 hS hp0) rfl ph_inX4 rfl (by decide) tw_816 rfl rfl dX2_value_35 ?_
      refine j_iload h dX2_value_38 4 rfl ?_
      refine j_iald (c := (p0 + 2)) (n := (ph_len S (p0 + 2))) h (ph_P2n hS hp0) (ph_P2 hS hp0) dX2_value_40 ?_
      refine j_bipush (v := (32 : Int32)) h dX2_value_41 (by decide) ?_
      refine j_iremK h dX2_value_43 (by decide) ?_
      refine j_istore h [(7, .int ((M.1 (p0 + 2) x6.toNatClampNeg) - (M.1 (p0 + 2) x6.toNatClampNeg) / (32 : Int32) * (32 : Int32))), (0, .ref (ad c)), (1, .ref (ad p0)), (4, .int x4), (5, .int x5), (6, .int x6)] dX2_value_44 (by decide) rfl ?_
      refine j_letI (lvf := fun z4 => [(7, .int z4), (0, .ref (ad c)), (1, .ref (ad p0)), (4, .int x4), (5, .int x5), (6, .int x6)]) (fun z4 => ?_)
      refine j_aload_n h dX2_value_46 rfl 2 rfl ?_
      refine j_get (c := p0) (j := 2) (v := .ref (ad (p0 + 2))) h (ph_P0n hS hp0) (ph_P0 hS hp0) rfl ph_inX4 rfl (by decide) tw_816 rfl rfl dX2_value_47 ?_
      refine j_iload h dX2_value_50 5 rfl ?_
      refine j_iald (c := (p0 + 2)) (n := (ph_len S (p0 + 2))) h (ph_P2n hS hp0) (ph_P2 hS hp0) dX2_value_52 ?_
      refine j_bipush (v := (32 : Int32)) h dX2_value_53 (by decide) ?_
      refine j_idivK h dX2_value_55 (by decide) ?_
      refine j_istore h [(8, .int ((M.1 (p0 + 2) x6.toNatClampNeg) / (32 : Int32))), (7, .int z4), (0, .ref (ad c)), (1, .ref (ad p0)), (4, .int x4), (5, .int x5), (6, .int x6)] dX2_value_56 (by decide) rfl ?_
      refine j_letI (lvf := fun z5 => [(8, .int z5), (7, .int z4), (0, .ref (ad c)), (1, .ref (ad p0)), (4, .int x4), (5, .int x5), (6, .int x6)]) (fun z5 => ?_)
      refine j_iload h dX2_value_58 1 rfl ?_
      refine j_iconst (v := (2 : Int32)) h dX2_value_60 (by decide) ?_
      refine j_icmp_gt h 98 dX2_value_61 (by decide) ?_ ?_
      · refine j_iload h dX2_value_98 5 rfl ?_
        refine j_if_ge h 107 dX2_value_100 (by decide) ?_ ?_
        · refine j_iload h dX2_value_107 1 rfl ?_
          refine j_iconst (v := (3 : Int32)) h dX2_value_109 (by decide) ?_
          refine j_icmp_ne h 132 dX2_value_110 (by decide) ?_ ?_
          · refine j_iload h dX2_value_132 1 rfl ?_
            refine j_iconst (v := (4 : Int32)) h dX2_value_134 (by decide) ?_
            refine j_icmp_eq h 144 dX2_value_135 (by decide) ?_ ?_
            · refine j_sub [2, 3, 4, 5, 6, 1, 0] rfl ?_
              exact jb_f2_value_j144 h fin hS hc hp0 hrc27 x4 x5 x6 z4 z5 M
            · refine j_iload h dX2_value_138 1 rfl ?_
              refine j_iconst (v := (5 : Int32)) h dX2_value_140 (by decide) ?_
              refine j_icmp_ne h 222 dX2_value_141 (by decide) ?_ ?_
              · refine j_iload h dX2_value_222 5 rfl ?_
                refine j_iconst (v := (1 : Int32)) h dX2_value_224 (by decide) ?_
                refine j_icmp_ge h 232 dX2_value_225 (by decide) ?_ ?_
                · refine j_iinc h [(5, .int (x5 + (-1 : Int32))), (8, .int z5), (7, .int z4), (0, .ref (ad c)), (1, .ref (ad p0)), (4, .int x4), (6, .int x6)] dX2_value_232 5 rfl rfl (by decide) rfl ?_
                  refine j_aload_n h dX2_value_235 rfl 3 rfl ?_
                  refine j_get (c := c) (j := 1) (v := .ref (ad (c + 2))) h (ph_M0n hS hc) (ph_M0 hS hc) rfl ph_inX2 rfl (by decide) tw_39 rfl rfl dX2_value_236 ?_
                  refine j_iload h dX2_value_239 0 rfl ?_
                  refine j_iload h dX2_value_241 2 rfl ?_
                  refine j_aload_n h dX2_value_243 rfl 3 rfl ?_
                  refine j_get (c := c) (j := 1) (v := .ref (ad (c + 2))) h (ph_M0n hS hc) (ph_M0 hS hc) rfl ph_inX2 rfl (by decide) tw_39 rfl rfl dX2_value_244 ?_
                  refine j_iload h dX2_value_247 0 rfl ?_
                  refine j_lald (c := (c + 2)) (n := 40) h (ph_M2n hS hc) (ph_M2 hS hc) dX2_value_249 ?_
                  refine j_aload_n h dX2_value_250 rfl 3 rfl ?_
                  refine j_get (c := c) (j := 1) (v := .ref (ad (c + 2))) h (ph_M0n hS hc) (ph_M0 hS hc) rfl ph_inX2 rfl (by decide) tw_39 rfl rfl dX2_value_251 ?_
                  refine j_iload h dX2_value_254 0 rfl ?_
                  refine j_iconst (v := (1 : Int32)) h dX2_value_256 (by decide) ?_
                  refine j_iadd h dX2_value_257 ?_
                  refine j_lald (c := (c + 2)) (n := 40) h (ph_M2n hS hc) (ph_M2 hS hc) dX2_value_258 ?_
                  refine j_callSlP (n := 3) (As := [.int z4, .long (M.2.1 (c + 2) (x5 + (-1 : Int32)).toNatClampNeg), .long (M.2.1 (c + 2) ((x5 + (-1 : Int32)) + (1 : Int32)).toNatClampNeg)]) (rest := [.int (x5 + (-1 : Int32)), .ref (ad (c + 2))]) h tw_519 tw_520 tw_2 tw_521 ydf2_join (by decide) (by decide) (fun q hq => cf2_join (ph_okI h) hS hq) rfl (Nat.le_of_ble_eq_true rfl) rfl dX2_value_259 (fun q6 => ?_)
                  refine j_last (c := (c + 2)) (n := 40) h (ph_M2n hS hc) (ph_M2 hS hc) dX2_value_262 ?_
                  refine j_letM (fun M7 => ?_)
                  refine j_aload_n h dX2_value_263 rfl 3 rfl ?_
                  refine j_get (c := c) (j := 1) (v := .ref (ad (c + 2))) h (ph_M0n hS hc) (ph_M0 hS hc) rfl ph_inX2 rfl (by decide) tw_39 rfl rfl dX2_value_264 ?_
                  refine j_iload h dX2_value_267 0 rfl ?_
                  refine j_lald (c := (c + 2)) (n := 40) h (ph_M2n hS hc) (ph_M2 hS hc) dX2_value_269 ?_
                  refine j_ldc2 (v := (-4000000000000000000 : Int64)) h dX2_value_270 tw_511 ?_
                  refine j_lcmp h dX2_value_273 ?_
                  refine j_if_ne h 281 dX2_value_274 (by decide) ?_ ?_
                  · refine j_sub [3, 4, 5, 0, 6] rfl ?_
                    exact jb_f2_value_j281 h fin hS hc hp0 hrc27 x4 (x5 + (-1 : Int32)) x6 M7
                  · refine j_ldc2 (v := (-4000000000000000000 : Int64)) h dX2_value_277 tw_511 ?_
                    exact j_lret h rfl fin dX2_value_280
                · refine j_ldc2 (v := (-4000000000000000000 : Int64)) h dX2_value_228 tw_511 ?_
                  exact j_lret h rfl fin dX2_value_231
              · refine j_sub [2, 3, 4, 5, 6, 1, 0] rfl ?_
                exact jb_f2_value_j144 h fin hS hc hp0 hrc27 x4 x5 x6 z4 z5 M
          · refine j_aload_n h dX2_value_113 rfl 2 rfl ?_
            refine j_get (c := c) (j := 1) (v := .ref (ad (c + 2))) h (ph_M0n hS hc) (ph_M0 hS hc) rfl ph_inX2 rfl (by decide) tw_39 rfl rfl dX2_value_114 ?_
            refine j_iload h dX2_value_117 5 rfl ?_
            refine j_lconst (v := (1 : Int64)) h dX2_value_119 (by decide) ?_
            refine j_aload_n h dX2_value_120 rfl 2 rfl ?_
            refine j_get (c := c) (j := 1) (v := .ref (ad (c + 2))) h (ph_M0n hS hc) (ph_M0 hS hc) rfl ph_inX2 rfl (by decide) tw_39 rfl rfl dX2_value_121 ?_
            refine j_iload h dX2_value_124 5 rfl ?_
            refine j_lald (c := (c + 2)) (n := 40) h (ph_M2n hS hc) (ph_M2 hS hc) dX2_value_126 ?_
            refine j_lsub h dX2_value_127 ?_
            refine j_last (c := (c + 2)) (n := 40) h (ph_M2n hS hc) (ph_M2 hS hc) dX2_value_128 ?_
            refine j_letM (fun M8 => ?_)
            refine j_goto h 281 dX2_value_129 (by decide) ?_
            refine j_sub [2, 3, 4, 5, 6] rfl ?_
            exact jb_f2_value_j281 h fin hS hc hp0 hrc27 x4 x5 x6 M8
        · refine j_ldc2 (v := (-4000000000000000000 : Int64)) h dX2_value_103 tw_511 ?_
          exact j_lret h rfl fin dX2_value_106
      · refine j_iload h dX2_value_64 5 rfl ?_
        refine j_iconst (v := (1 : Int32)) h dX2_value_66 (by decide) ?_
        refine j_iadd h dX2_value_67 ?_
        refine j_bipush (v := (40 : Int32)) h dX2_value_68 (by decide) ?_
        refine j_icmp_lt h 77 dX2_value_70 (by decide) ?_ ?_
        · refine j_iinc h [(5, .int (x5 + (1 : Int32))), (8, .int z5), (7, .int z4), (0, .ref (ad c)), (1, .ref (ad p0)), (4, .int x4), (6, .int x6)] dX2_value_77 5 rfl rfl (by decide) rfl ?_
          refine j_aload_n h dX2_value_80 rfl 3 rfl ?_
          refine j_get (c := c) (j := 1) (v := .ref (ad (c + 2))) h (ph_M0n hS hc) (ph_M0 hS hc) rfl ph_inX2 rfl (by decide) tw_39 rfl rfl dX2_value_81 ?_
          refine j_iload h dX2_value_84 0 rfl ?_
          refine j_aload_n h dX2_value_86 rfl 3 rfl ?_
          refine j_iload h dX2_value_87 2 rfl ?_
          refine j_iload h dX2_value_89 1 rfl ?_
          refine j_callVlP (n := 2) (As := [.int z4, .int z5]) (rest := [.int (x5 + (1 : Int32)), .ref (ad (c + 2))]) h c tw_512 tw_514 tp_3 tw_2 tw_515 ydf2_operand (by decide) (by decide) (ph_M0n hS hc) (ph_M0 hS hc) rfl (fun q hq => cf2_operand (ph_okI h) hS hc hq) rfl (Nat.le_of_ble_eq_true rfl) rfl dX2_value_91 (fun q9 => ?_)
          refine j_last (c := (c + 2)) (n := 40) h (ph_M2n hS hc) (ph_M2 hS hc) dX2_value_94 ?_
          refine j_letM (fun M10 => ?_)
          refine j_goto h 281 dX2_value_95 (by decide) ?_
          refine j_sub [3, 4, 5, 0, 6] rfl ?_
          exact jb_f2_value_j281 h fin hS hc hp0 hrc27 x4 (x5 + (1 : Int32)) x6 M10
        · refine j_ldc2 (v := (-4000000000000000000 : Int64)) h dX2_value_73 tw_511 ?_
          exact j_lret h rfl fin dX2_value_76
theorem ydf2_value : ph_yd yX2_value 3 := ⟨by decide, by decide, by decide +kernel⟩
def f2_value (S : ph_Sh) (M : ph_Mem) (c : Nat) (p0 : Nat) (p1 : Int32) (p2 : Int32) : Option (Int64 × ph_Mem) :=
  (f4_endOf S M p0 p1 p2).bind fun q1 => (f9_min_7cf53 S M q1 (Int32.ofNat (ph_len S (p0 + 2)))).bind fun q2 => (f4_startOf S M p0 p1 p2).bind fun q3 => f2_value_l27 S c p0 10000 q2 (-1 : Int32) q3 M
set_option maxHeartbeats 4000000 in
theorem cf2_value {tb adK adV : Nat → Nat} {S : ph_Sh} {c : Nat} {p0 : Nat} {l : Launch} {D : va_G} {cA : Nat → ClassId} {ad : Nat → Nat} (hinj : ∀ i j, i < S.2 → j < S.2 → ad i = ad j → i = j) (hS : ph_SX S) (hc : ph_isM c) (hp0 : ph_isP S p0) {M : ph_Mem} {p1 : Int32} {p2 : Int32} {r : Int64} {M' : ph_Mem} (hf : f2_value S M c p0 p1 p2 = some (r, M')) : ph_C (ph_ZX tb adK adV) l 1 yX2_value cX2_value 10 (some .long) D cA S.1 S.2 ad [.ref (ad c), .ref (ad p0), .int p1, .int p2] M (some (.long r)) M' := by
  refine ph_mk ph_ZX_ok hinj (by decide) (Nat.le_of_ble_eq_true rfl) fun X h fin hE => ?_
  refine (?_ : ph_J X S.1 S.2 ad ((r, M') : (Int64 × ph_Mem)) 0 [(0, .ref (ad c)), (1, .ref (ad p0)), (2, .int p1), (3, .int p2)] [] M (f2_value S M c p0 p1 p2)) hf
  unfold f2_value
  refine j_aload_n h dX2_value_0 rfl 1 rfl ?_
  refine j_iload_n h dX2_value_1 rfl 2 rfl ?_
  refine j_iload_n h dX2_value_2 rfl 3 rfl ?_
  refine j_callViP (n := 2) (As := [.int p1, .int p2]) (rest := []) h p0 tw_506 tw_499 tw_500 tw_21 tw_501 ydf4_endOf (by decide) (by decide) (ph_P0n hS hp0) (ph_P0 hS hp0) rfl (fun q hq => cf4_endOf (ph_okI h) hS hp0 hq) rfl (Nat.le_of_ble_eq_true rfl) rfl dX2_value_3 (fun q1 => ?_)
  refine j_aload_n h dX2_value_6 rfl 1 rfl ?_
  refine j_get (c := p0) (j := 2) (v := .ref (ad (p0 + 2))) h (ph_P0n hS hp0) (ph_P0 hS hp0) rfl ph_inX4 rfl (by decide) tw_816 rfl rfl dX2_value_7 ?_
  refine j_alen (c := (p0 + 2)) (tn := 0) (v := (Int32.ofNat (ph_len S (p0 + 2)))) h (ph_P2n hS hp0) (ph_P2 hS hp0) rfl rfl dX2_value_10 ?_
  refine j_callSiP (n := 2) (As := [.int q1, .int (Int32.ofNat (ph_len S (p0 + 2)))]) (rest := []) h tw_507 tw_508 tw_16 tw_509 ydf9_min_7cf53 (by decide) (by decide) (fun q hq => cf9_min_7cf53 (ph_okI h) trivial hq) rfl (Nat.le_of_ble_eq_true rfl) rfl dX2_value_11 (fun q2 => ?_)
  refine j_istore h [(4, .int q2), (0, .ref (ad c)), (1, .ref (ad p0)), (2, .int p1), (3, .int p2)] dX2_value_14 (by decide) rfl ?_
  refine j_iconst (v := (-1 : Int32)) h dX2_value_16 (by decide) ?_
  refine j_istore h [(5, .int (-1 : Int32)), (4, .int q2), (0, .ref (ad c)), (1, .ref (ad p0)), (2, .int p1), (3, .int p2)] dX2_value_17 (by decide) rfl ?_
  refine j_aload_n h dX2_value_19 rfl 3 rfl ?_
  refine j_iload_n h dX2_value_20 rfl 4 rfl ?_
  refine j_iload_n h dX2_value_21 rfl 5 rfl ?_
  refine j_callViP (n := 2) (As := [.int p1, .int p2]) (rest := []) h p0 tw_510 tw_495 tw_496 tw_21 tw_497 ydf4_startOf (by decide) (by decide) (ph_P0n hS hp0) (ph_P0 hS hp0) rfl (fun q hq => cf4_startOf (ph_okI h) hS hp0 hq) rfl (Nat.le_of_ble_eq_true rfl) rfl dX2_value_22 (fun q3 => ?_)
  refine j_istore h [(6, .int q3), (5, .int (-1 : Int32)), (4, .int q2), (0, .ref (ad c)), (1, .ref (ad p0)), (2, .int p1), (3, .int p2)] dX2_value_25 (by decide) rfl ?_
  refine j_sub [3, 4, 2, 1, 0] rfl ?_
  exact jb_f2_value_l27 h fin hS hc hp0 10000 q2 (-1 : Int32) q3 M
theorem dX3_ifSold_0 : decode cX3_ifSold 0 = .ok (.aload_n 0, 1) := by decide +kernel
theorem dX3_ifSold_1 : decode cX3_ifSold 1 = .ok (.getfield 18, 3) := by decide +kernel
theorem dX3_ifSold_4 : decode cX3_ifSold 4 = .ok (.getfield 44, 3) := by decide +kernel
theorem dX3_ifSold_7 : decode cX3_ifSold 7 = .ok (.iload_n 3, 1) := by decide +kernel
theorem dX3_ifSold_8 : decode cX3_ifSold 8 = .ok (.iconst 4, 1) := by decide +kernel
theorem dX3_ifSold_9 : decode cX3_ifSold 9 = .ok (.imul, 1) := by decide +kernel
theorem dX3_ifSold_10 : decode cX3_ifSold 10 = .ok (.iload_n 1, 1) := by decide +kernel
theorem dX3_ifSold_11 : decode cX3_ifSold 11 = .ok (.iadd, 1) := by decide +kernel
theorem dX3_ifSold_12 : decode cX3_ifSold 12 = .ok (.iaload, 1) := by decide +kernel
theorem dX3_ifSold_13 : decode cX3_ifSold 13 = .ok (.istore 4, 2) := by decide +kernel
theorem dX3_ifSold_15 : decode cX3_ifSold 15 = .ok (.iload 4, 2) := by decide +kernel
theorem dX3_ifSold_17 : decode cX3_ifSold 17 = .ok (.ifCond .eq 11, 3) := by decide +kernel
theorem dX3_ifSold_20 : decode cX3_ifSold 20 = .ok (.iload_n 2, 1) := by decide +kernel
theorem dX3_ifSold_21 : decode cX3_ifSold 21 = .ok (.iload_n 3, 1) := by decide +kernel
theorem dX3_ifSold_22 : decode cX3_ifSold 22 = .ok (.invokestatic 47, 3) := by decide +kernel
theorem dX3_ifSold_25 : decode cX3_ifSold 25 = .ok (.ifCond .eq 5, 3) := by decide +kernel
theorem dX3_ifSold_28 : decode cX3_ifSold 28 = .ok (.iconst (-1), 1) := by decide +kernel
theorem dX3_ifSold_29 : decode cX3_ifSold 29 = .ok (.ireturn, 1) := by decide +kernel
theorem dX3_ifSold_30 : decode cX3_ifSold 30 = .ok (.iload 4, 2) := by decide +kernel
theorem dX3_ifSold_32 : decode cX3_ifSold 32 = .ok (.aload_n 0, 1) := by decide +kernel
theorem dX3_ifSold_33 : decode cX3_ifSold 33 = .ok (.getfield 11, 3) := by decide +kernel
theorem dX3_ifSold_36 : decode cX3_ifSold 36 = .ok (.iload_n 1, 1) := by decide +kernel
theorem dX3_ifSold_37 : decode cX3_ifSold 37 = .ok (.iconst 1, 1) := by decide +kernel
theorem dX3_ifSold_38 : decode cX3_ifSold 38 = .ok (.iadd, 1) := by decide +kernel
theorem dX3_ifSold_39 : decode cX3_ifSold 39 = .ok (.bipush 64, 2) := by decide +kernel
theorem dX3_ifSold_41 : decode cX3_ifSold 41 = .ok (.imul, 1) := by decide +kernel
theorem dX3_ifSold_42 : decode cX3_ifSold 42 = .ok (.iload_n 2, 1) := by decide +kernel
theorem dX3_ifSold_43 : decode cX3_ifSold 43 = .ok (.iconst 1, 1) := by decide +kernel
theorem dX3_ifSold_44 : decode cX3_ifSold 44 = .ok (.iload_n 3, 1) := by decide +kernel
theorem dX3_ifSold_45 : decode cX3_ifSold 45 = .ok (.ishl, 1) := by decide +kernel
theorem dX3_ifSold_46 : decode cX3_ifSold 46 = .ok (.ior, 1) := by decide +kernel
theorem dX3_ifSold_47 : decode cX3_ifSold 47 = .ok (.iadd, 1) := by decide +kernel
theorem dX3_ifSold_48 : decode cX3_ifSold 48 = .ok (.iaload, 1) := by decide +kernel
theorem dX3_ifSold_49 : decode cX3_ifSold 49 = .ok (.iadd, 1) := by decide +kernel
theorem dX3_ifSold_50 : decode cX3_ifSold 50 = .ok (.ireturn, 1) := by decide +kernel
theorem ydf3_ifSold : ph_yd yX3_ifSold 3 := ⟨by decide, by decide, by decide +kernel⟩
def f3_ifSold (S : ph_Sh) (M : ph_Mem) (p0 : Int32) (p1 : Int32) (p2 : Int32) : Option Int32 :=
  cond (ph_ib ((p2 * (4 : Int32)) + p0) 24) (ph_let (M.1 20 ((p2 * (4 : Int32)) + p0).toNatClampNeg) fun z1 => if z1 = 0 then (some (-1 : Int32)) else ((f9_hasBit S M p1 p2).bind fun q2 => if q2 = 0 then (cond (ph_ib (((p0 + (1 : Int32)) * (64 : Int32)) + (p1 ||| ((1 : Int32) <<< (p2 &&& 31)))) 320) (some (z1 + (M.1 82 (((p0 + (1 : Int32)) * (64 : Int32)) + (p1 ||| ((1 : Int32) <<< (p2 &&& 31)))).toNatClampNeg))) none) else (some (-1 : Int32)))) none
set_option maxHeartbeats 4000000 in
theorem cf3_ifSold {tb adK adV : Nat → Nat} {S : ph_Sh} {l : Launch} {D : va_G} {cA : Nat → ClassId} {ad : Nat → Nat} (hinj : ∀ i j, i < S.2 → j < S.2 → ad i = ad j → i = j) (hS : ph_SX S) {M : ph_Mem} {p0 : Int32} {p1 : Int32} {p2 : Int32} {r : Int32} (hf : f3_ifSold S M p0 p1 p2 = some r) : ph_C (ph_ZX tb adK adV) l 1 yX3_ifSold cX3_ifSold 5 (some .int) D cA S.1 S.2 ad [.ref (ad 81), .int p0, .int p1, .int p2] M (some (.int r)) M := by
  refine ph_mk ph_ZX_ok hinj (by decide) (Nat.le_of_ble_eq_true rfl) fun X h fin hE => ?_
  refine (?_ : ph_J X S.1 S.2 ad (r : Int32) 0 [(0, .ref (ad 81)), (1, .int p0), (2, .int p1), (3, .int p2)] [] M (f3_ifSold S M p0 p1 p2)) hf
  unfold f3_ifSold
  refine j_aload_n h dX3_ifSold_0 rfl 0 rfl ?_
  refine j_get (c := 81) (j := 0) (v := .ref (ad 11)) h (ph_xlt hS (by decide)) (ph_kc81 hS) rfl ph_inX3 rfl (by decide) tw_325 rfl rfl dX3_ifSold_1 ?_
  refine j_get (c := 11) (j := 10) (v := .ref (ad 20)) h (ph_xlt hS (by decide)) (ph_kc11 hS) rfl ph_inX9 rfl (by decide) tw_96 rfl rfl dX3_ifSold_4 ?_
  refine j_iload_n h dX3_ifSold_7 rfl 3 rfl ?_
  refine j_iconst (v := (4 : Int32)) h dX3_ifSold_8 (by decide) ?_
  refine j_imul h dX3_ifSold_9 ?_
  refine j_iload_n h dX3_ifSold_10 rfl 1 rfl ?_
  refine j_iadd h dX3_ifSold_11 ?_
  refine j_iald (c := 20) (n := 24) h (ph_xlt hS (by decide)) (ph_kc20 hS) dX3_ifSold_12 ?_
  refine j_istore h [(4, .int (M.1 20 ((p2 * (4 : Int32)) + p0).toNatClampNeg)), (0, .ref (ad 81)), (1, .int p0), (2, .int p1), (3, .int p2)] dX3_ifSold_13 (by decide) rfl ?_
  refine j_letI (lvf := fun z1 => [(4, .int z1), (0, .ref (ad 81)), (1, .int p0), (2, .int p1), (3, .int p2)]) (fun z1 => ?_)
  refine j_iload h dX3_ifSold_15 0 rfl ?_
  refine j_if_eq h 28 dX3_ifSold_17 (by decide) ?_ ?_
  · refine j_iconst (v := (-1 : Int32)) h dX3_ifSold_28 (by decide) ?_
    exact j_iretP h rfl fin dX3_ifSold_29
  · refine j_iload_n h dX3_ifSold_20 rfl 3 rfl ?_
    refine j_iload_n h dX3_ifSold_21 rfl 4 rfl ?_
    refine j_callSiP (n := 2) (As := [.int p1, .int p2]) (rest := []) h tw_1110 tw_454 tw_3 tw_455 ydf9_hasBit (by decide) (by decide) (fun q hq => cf9_hasBit (ph_okI h) hS hq) rfl (Nat.le_of_ble_eq_true rfl) rfl dX3_ifSold_22 (fun q2 => ?_)
    refine j_if_eq h 30 dX3_ifSold_25 (by decide) ?_ ?_
    · refine j_iload h dX3_ifSold_30 0 rfl ?_
      refine j_aload_n h dX3_ifSold_32 rfl 1 rfl ?_
      refine j_get (c := 81) (j := 1) (v := .ref (ad 82)) h (ph_xlt hS (by decide)) (ph_kc81 hS) rfl ph_inX3 rfl (by decide) tw_326 rfl rfl dX3_ifSold_33 ?_
      refine j_iload_n h dX3_ifSold_36 rfl 2 rfl ?_
      refine j_iconst (v := (1 : Int32)) h dX3_ifSold_37 (by decide) ?_
      refine j_iadd h dX3_ifSold_38 ?_
      refine j_bipush (v := (64 : Int32)) h dX3_ifSold_39 (by decide) ?_
      refine j_imul h dX3_ifSold_41 ?_
      refine j_iload_n h dX3_ifSold_42 rfl 3 rfl ?_
      refine j_iconst (v := (1 : Int32)) h dX3_ifSold_43 (by decide) ?_
      refine j_iload_n h dX3_ifSold_44 rfl 4 rfl ?_
      refine j_ishl h dX3_ifSold_45 ?_
      refine j_ior h dX3_ifSold_46 ?_
      refine j_iadd h dX3_ifSold_47 ?_
      refine j_iald (c := 82) (n := 320) h (ph_xlt hS (by decide)) (ph_kc82 hS) dX3_ifSold_48 ?_
      refine j_iadd h dX3_ifSold_49 ?_
      exact j_iretP h rfl fin dX3_ifSold_50
    · refine j_iconst (v := (-1 : Int32)) h dX3_ifSold_28 (by decide) ?_
      exact j_iretP h rfl fin dX3_ifSold_29
theorem dX3_mostFrom_0 : decode cX3_mostFrom 0 = .ok (.aload_n 0, 1) := by decide +kernel
theorem dX3_mostFrom_1 : decode cX3_mostFrom 1 = .ok (.getfield 11, 3) := by decide +kernel
theorem dX3_mostFrom_4 : decode cX3_mostFrom 4 = .ok (.iload_n 1, 1) := by decide +kernel
theorem dX3_mostFrom_5 : decode cX3_mostFrom 5 = .ok (.iconst 1, 1) := by decide +kernel
theorem dX3_mostFrom_6 : decode cX3_mostFrom 6 = .ok (.iadd, 1) := by decide +kernel
theorem dX3_mostFrom_7 : decode cX3_mostFrom 7 = .ok (.bipush 64, 2) := by decide +kernel
theorem dX3_mostFrom_9 : decode cX3_mostFrom 9 = .ok (.imul, 1) := by decide +kernel
theorem dX3_mostFrom_10 : decode cX3_mostFrom 10 = .ok (.iload_n 2, 1) := by decide +kernel
theorem dX3_mostFrom_11 : decode cX3_mostFrom 11 = .ok (.iadd, 1) := by decide +kernel
theorem dX3_mostFrom_12 : decode cX3_mostFrom 12 = .ok (.iaload, 1) := by decide +kernel
theorem dX3_mostFrom_13 : decode cX3_mostFrom 13 = .ok (.istore_n 3, 1) := by decide +kernel
theorem dX3_mostFrom_14 : decode cX3_mostFrom 14 = .ok (.iconst 0, 1) := by decide +kernel
theorem dX3_mostFrom_15 : decode cX3_mostFrom 15 = .ok (.istore 4, 2) := by decide +kernel
theorem dX3_mostFrom_17 : decode cX3_mostFrom 17 = .ok (.iload 4, 2) := by decide +kernel
theorem dX3_mostFrom_19 : decode cX3_mostFrom 19 = .ok (.aload_n 0, 1) := by decide +kernel
theorem dX3_mostFrom_20 : decode cX3_mostFrom 20 = .ok (.getfield 18, 3) := by decide +kernel
theorem dX3_mostFrom_23 : decode cX3_mostFrom 23 = .ok (.getfield 22, 3) := by decide +kernel
theorem dX3_mostFrom_26 : decode cX3_mostFrom 26 = .ok (.if_icmp .ge 22, 3) := by decide +kernel
theorem dX3_mostFrom_29 : decode cX3_mostFrom 29 = .ok (.iload_n 3, 1) := by decide +kernel
theorem dX3_mostFrom_30 : decode cX3_mostFrom 30 = .ok (.aload_n 0, 1) := by decide +kernel
theorem dX3_mostFrom_31 : decode cX3_mostFrom 31 = .ok (.iload_n 1, 1) := by decide +kernel
theorem dX3_mostFrom_32 : decode cX3_mostFrom 32 = .ok (.iload_n 2, 1) := by decide +kernel
theorem dX3_mostFrom_33 : decode cX3_mostFrom 33 = .ok (.iload 4, 2) := by decide +kernel
theorem dX3_mostFrom_35 : decode cX3_mostFrom 35 = .ok (.invokevirtual 35, 3) := by decide +kernel
theorem dX3_mostFrom_38 : decode cX3_mostFrom 38 = .ok (.invokestatic 39, 3) := by decide +kernel
theorem dX3_mostFrom_41 : decode cX3_mostFrom 41 = .ok (.istore_n 3, 1) := by decide +kernel
theorem dX3_mostFrom_42 : decode cX3_mostFrom 42 = .ok (.iinc 4 1, 3) := by decide +kernel
theorem dX3_mostFrom_45 : decode cX3_mostFrom 45 = .ok (.goto (-28), 3) := by decide +kernel
theorem dX3_mostFrom_48 : decode cX3_mostFrom 48 = .ok (.iload_n 3, 1) := by decide +kernel
theorem dX3_mostFrom_49 : decode cX3_mostFrom 49 = .ok (.ireturn, 1) := by decide +kernel
def f3_mostFrom_l17 (S : ph_Sh) (M : ph_Mem) : Nat → Int32 → Int32 → Int32 → Int32 → Option Int32
  | 0, _, _, _, _ => none
  | n + 1, x1, x2, x3, x4 => if (M.1 11 1) ≤ x4 then (some x3) else ((f3_ifSold S M x1 x2 x4).bind fun q2 => (f9_max_7cf53 S M x3 q2).bind fun q3 => (f3_mostFrom_l17 S M n) x1 x2 q3 (x4 + (1 : Int32)))
set_option maxHeartbeats 4000000 in
theorem jb_f3_mostFrom_l17 {tb adK adV : Nat → Nat} {S : ph_Sh} {X : ph_X} {ad : Nat → Nat} {o : Int32} {M : ph_Mem} (h : ph_ok (ph_ZX tb adK adV) X cX3_mostFrom RX3 (some .int) 5 2 S.2 ad) (fin : ph_fin X S.1 S.2 ad (some (.int o)) M) (hS : ph_SX S) : ∀ (n : Nat) (x1 : Int32) (x2 : Int32) (x3 : Int32) (x4 : Int32), ph_J X S.1 S.2 ad o 17 [(0, .ref (ad 81)), (1, .int x1), (2, .int x2), (3, .int x3), (4, .int x4)] [] M (f3_mostFrom_l17 S M n x1 x2 x3 x4) := by
  intro n
  induction n with
  | zero => intro x1 x2 x3 x4; exact j_none
  | succ n hrc17 =>
    intro x1 x2 x3 x4
    unfold f3_mostFrom_l17
    refine j_iload h dX3_mostFrom_17 4 rfl ?_
    refine j_aload_n h dX3_mostFrom_19 rfl 0 rfl ?_
    refine j_get (c := 81) (j := 0) (v := .ref (ad 11)) h (ph_xlt hS (by decide)) (ph_kc81 hS) rfl ph_inX3 rfl (by decide) tw_325 rfl rfl dX3_mostFrom_20 ?_
    refine j_get (c := 11) (j := 1) (v := .int (M.1 11 1)) h (ph_xlt hS (by decide)) (ph_kc11 hS) rfl ph_inX9 rfl (by decide) tw_66 rfl rfl dX3_mostFrom_23 ?_
    refine j_icmp_ge h 48 dX3_mostFrom_26 (by decide) ?_ ?_
    · refine j_iload_n h dX3_mostFrom_48 rfl 3 rfl ?_
      exact j_iretP h rfl fin dX3_mostFrom_49
    · refine j_iload_n h dX3_mostFrom_29 rfl 3 rfl ?_
      refine j_aload_n h dX3_mostFrom_30 rfl 0 rfl ?_
      refine j_iload_n h dX3_mostFrom_31 rfl 1 rfl ?_
      refine j_iload_n h dX3_mostFrom_32 rfl 2 rfl ?_
      refine j_iload h dX3_mostFrom_33 4 rfl ?_
      refine j_callViP (n := 3) (As := [.int x1, .int x2, .int x4]) (rest := [.int x3]) h 81 tw_1106 tw_1108 tp_44 tw_12 tw_1109 ydf3_ifSold (by decide) (by decide) (ph_xlt hS (by decide)) (ph_kc81 hS) rfl (fun q hq => cf3_ifSold (ph_okI h) hS hq) rfl (Nat.le_of_ble_eq_true rfl) rfl dX3_mostFrom_35 (fun q2 => ?_)
      refine j_callSiP (n := 2) (As := [.int x3, .int q2]) (rest := []) h tw_1111 tw_517 tw_16 tw_518 ydf9_max_7cf53 (by decide) (by decide) (fun q hq => cf9_max_7cf53 (ph_okI h) trivial hq) rfl (Nat.le_of_ble_eq_true rfl) rfl dX3_mostFrom_38 (fun q3 => ?_)
      refine j_istore_n h [(3, .int q3), (0, .ref (ad 81)), (1, .int x1), (2, .int x2), (4, .int x4)] dX3_mostFrom_41 rfl (by decide) rfl ?_
      refine j_iinc h [(4, .int (x4 + (1 : Int32))), (3, .int q3), (0, .ref (ad 81)), (1, .int x1), (2, .int x2)] dX3_mostFrom_42 4 rfl rfl (by decide) rfl ?_
      refine j_goto h 17 dX3_mostFrom_45 (by decide) ?_
      refine j_sub [2, 3, 4, 1, 0] rfl ?_
      exact hrc17 x1 x2 q3 (x4 + (1 : Int32))
theorem ydf3_mostFrom : ph_yd yX3_mostFrom 2 := ⟨by decide, by decide, by decide +kernel⟩
def f3_mostFrom (S : ph_Sh) (M : ph_Mem) (p0 : Int32) (p1 : Int32) : Option Int32 :=
  cond (ph_ib (((p0 + (1 : Int32)) * (64 : Int32)) + p1) 320) (ph_let (M.1 82 (((p0 + (1 : Int32)) * (64 : Int32)) + p1).toNatClampNeg) fun z1 => f3_mostFrom_l17 S M 10000 p0 p1 z1 (0 : Int32)) none
set_option maxHeartbeats 4000000 in
theorem cf3_mostFrom {tb adK adV : Nat → Nat} {S : ph_Sh} {l : Launch} {D : va_G} {cA : Nat → ClassId} {ad : Nat → Nat} (hinj : ∀ i j, i < S.2 → j < S.2 → ad i = ad j → i = j) (hS : ph_SX S) {M : ph_Mem} {p0 : Int32} {p1 : Int32} {r : Int32} (hf : f3_mostFrom S M p0 p1 = some r) : ph_C (ph_ZX tb adK adV) l 2 yX3_mostFrom cX3_mostFrom 5 (some .int) D cA S.1 S.2 ad [.ref (ad 81), .int p0, .int p1] M (some (.int r)) M := by
  refine ph_mk ph_ZX_ok hinj (by decide) (Nat.le_of_ble_eq_true rfl) fun X h fin hE => ?_
  refine (?_ : ph_J X S.1 S.2 ad (r : Int32) 0 [(0, .ref (ad 81)), (1, .int p0), (2, .int p1)] [] M (f3_mostFrom S M p0 p1)) hf
  unfold f3_mostFrom
  refine j_aload_n h dX3_mostFrom_0 rfl 0 rfl ?_
  refine j_get (c := 81) (j := 1) (v := .ref (ad 82)) h (ph_xlt hS (by decide)) (ph_kc81 hS) rfl ph_inX3 rfl (by decide) tw_326 rfl rfl dX3_mostFrom_1 ?_
  refine j_iload_n h dX3_mostFrom_4 rfl 1 rfl ?_
  refine j_iconst (v := (1 : Int32)) h dX3_mostFrom_5 (by decide) ?_
  refine j_iadd h dX3_mostFrom_6 ?_
  refine j_bipush (v := (64 : Int32)) h dX3_mostFrom_7 (by decide) ?_
  refine j_imul h dX3_mostFrom_9 ?_
  refine j_iload_n h dX3_mostFrom_10 rfl 2 rfl ?_
  refine j_iadd h dX3_mostFrom_11 ?_
  refine j_iald (c := 82) (n := 320) h (ph_xlt hS (by decide)) (ph_kc82 hS) dX3_mostFrom_12 ?_
  refine j_istore_n h [(3, .int (M.1 82 (((p0 + (1 : Int32)) * (64 : Int32)) + p1).toNatClampNeg)), (0, .ref (ad 81)), (1, .int p0), (2, .int p1)] dX3_mostFrom_13 rfl (by decide) rfl ?_
  refine j_letI (lvf := fun z1 => [(3, .int z1), (0, .ref (ad 81)), (1, .int p0), (2, .int p1)]) (fun z1 => ?_)
  refine j_iconst (v := (0 : Int32)) h dX3_mostFrom_14 (by decide) ?_
  refine j_istore h [(4, .int (0 : Int32)), (3, .int z1), (0, .ref (ad 81)), (1, .int p0), (2, .int p1)] dX3_mostFrom_15 (by decide) rfl ?_
  refine j_sub [2, 3, 4, 1, 0] rfl ?_
  exact jb_f3_mostFrom_l17 h fin hS 10000 p0 p1 z1 (0 : Int32)
theorem dX3_firstBuyer_0 : decode cX3_firstBuyer 0 = .ok (.iconst 0, 1) := by decide +kernel
theorem dX3_firstBuyer_1 : decode cX3_firstBuyer 1 = .ok (.istore_n 3, 1) := by decide +kernel
theorem dX3_firstBuyer_2 : decode cX3_firstBuyer 2 = .ok (.iload_n 3, 1) := by decide +kernel
theorem dX3_firstBuyer_3 : decode cX3_firstBuyer 3 = .ok (.aload_n 0, 1) := by decide +kernel
theorem dX3_firstBuyer_4 : decode cX3_firstBuyer 4 = .ok (.getfield 18, 3) := by decide +kernel
theorem dX3_firstBuyer_7 : decode cX3_firstBuyer 7 = .ok (.getfield 22, 3) := by decide +kernel
theorem dX3_firstBuyer_10 : decode cX3_firstBuyer 10 = .ok (.if_icmp .ge 32, 3) := by decide +kernel
theorem dX3_firstBuyer_13 : decode cX3_firstBuyer 13 = .ok (.aload_n 0, 1) := by decide +kernel
theorem dX3_firstBuyer_14 : decode cX3_firstBuyer 14 = .ok (.iload_n 1, 1) := by decide +kernel
theorem dX3_firstBuyer_15 : decode cX3_firstBuyer 15 = .ok (.iload_n 2, 1) := by decide +kernel
theorem dX3_firstBuyer_16 : decode cX3_firstBuyer 16 = .ok (.iload_n 3, 1) := by decide +kernel
theorem dX3_firstBuyer_17 : decode cX3_firstBuyer 17 = .ok (.invokevirtual 35, 3) := by decide +kernel
theorem dX3_firstBuyer_20 : decode cX3_firstBuyer 20 = .ok (.aload_n 0, 1) := by decide +kernel
theorem dX3_firstBuyer_21 : decode cX3_firstBuyer 21 = .ok (.getfield 11, 3) := by decide +kernel
theorem dX3_firstBuyer_24 : decode cX3_firstBuyer 24 = .ok (.iload_n 1, 1) := by decide +kernel
theorem dX3_firstBuyer_25 : decode cX3_firstBuyer 25 = .ok (.bipush 64, 2) := by decide +kernel
theorem dX3_firstBuyer_27 : decode cX3_firstBuyer 27 = .ok (.imul, 1) := by decide +kernel
theorem dX3_firstBuyer_28 : decode cX3_firstBuyer 28 = .ok (.iload_n 2, 1) := by decide +kernel
theorem dX3_firstBuyer_29 : decode cX3_firstBuyer 29 = .ok (.iadd, 1) := by decide +kernel
theorem dX3_firstBuyer_30 : decode cX3_firstBuyer 30 = .ok (.iaload, 1) := by decide +kernel
theorem dX3_firstBuyer_31 : decode cX3_firstBuyer 31 = .ok (.if_icmp .ne 5, 3) := by decide +kernel
theorem dX3_firstBuyer_34 : decode cX3_firstBuyer 34 = .ok (.iload_n 3, 1) := by decide +kernel
theorem dX3_firstBuyer_35 : decode cX3_firstBuyer 35 = .ok (.ireturn, 1) := by decide +kernel
theorem dX3_firstBuyer_36 : decode cX3_firstBuyer 36 = .ok (.iinc 3 1, 3) := by decide +kernel
theorem dX3_firstBuyer_39 : decode cX3_firstBuyer 39 = .ok (.goto (-37), 3) := by decide +kernel
theorem dX3_firstBuyer_42 : decode cX3_firstBuyer 42 = .ok (.bipush 100, 2) := by decide +kernel
theorem dX3_firstBuyer_44 : decode cX3_firstBuyer 44 = .ok (.ireturn, 1) := by decide +kernel
def f3_firstBuyer_l2 (S : ph_Sh) (M : ph_Mem) : Nat → Int32 → Int32 → Int32 → Option Int32
  | 0, _, _, _ => none
  | n + 1, x1, x2, x3 => if (M.1 11 1) ≤ x3 then (some (100 : Int32)) else ((f3_ifSold S M x1 x2 x3).bind fun q1 => cond (ph_ib ((x1 * (64 : Int32)) + x2) 320) (if q1 = (M.1 82 ((x1 * (64 : Int32)) + x2).toNatClampNeg) then (some x3) else ((f3_firstBuyer_l2 S M n) x1 x2 (x3 + (1 : Int32)))) none)
set_option maxHeartbeats 4000000 in
theorem jb_f3_firstBuyer_l2 {tb adK adV : Nat → Nat} {S : ph_Sh} {X : ph_X} {ad : Nat → Nat} {o : Int32} {M : ph_Mem} (h : ph_ok (ph_ZX tb adK adV) X cX3_firstBuyer RX3 (some .int) 4 2 S.2 ad) (fin : ph_fin X S.1 S.2 ad (some (.int o)) M) (hS : ph_SX S) : ∀ (n : Nat) (x1 : Int32) (x2 : Int32) (x3 : Int32), ph_J X S.1 S.2 ad o 2 [(0, .ref (ad 81)), (1, .int x1), (2, .int x2), (3, .int x3)] [] M (f3_firstBuyer_l2 S M n x1 x2 x3) := by
  intro n
  induction n with
  | zero => intro x1 x2 x3; exact j_none
  | succ n hrc2 =>
    intro x1 x2 x3
    unfold f3_firstBuyer_l2
    refine j_iload_n h dX3_firstBuyer_2 rfl 3 rfl ?_
    refine j_aload_n h dX3_firstBuyer_3 rfl 0 rfl ?_
    refine j_get (c := 81) (j := 0) (v := .ref (ad 11)) h (ph_xlt hS (by decide)) (ph_kc81 hS) rfl ph_inX3 rfl (by decide) tw_325 rfl rfl dX3_firstBuyer_4 ?_
    refine j_get (c := 11) (j := 1) (v := .int (M.1 11 1)) h (ph_xlt hS (by decide)) (ph_kc11 hS) rfl ph_inX9 rfl (by decide) tw_66 rfl rfl dX3_firstBuyer_7 ?_
    refine j_icmp_ge h 42 dX3_firstBuyer_10 (by decide) ?_ ?_
    · refine j_bipush (v := (100 : Int32)) h dX3_firstBuyer_42 (by decide) ?_
      exact j_iretP h rfl fin dX3_firstBuyer_44
    · refine j_aload_n h dX3_firstBuyer_13 rfl 0 rfl ?_
      refine j_iload_n h dX3_firstBuyer_14 rfl 1 rfl ?_
      refine j_iload_n h dX3_firstBuyer_15 rfl 2 rfl ?_
      refine j_iload_n h dX3_firstBuyer_16 rfl 3 rfl ?_
      refine j_callViP (n := 3) (As := [.int x1, .int x2, .int x3]) (rest := []) h 81 tw_1106 tw_1108 tp_44 tw_12 tw_1109 ydf3_ifSold (by decide) (by decide) (ph_xlt hS (by decide)) (ph_kc81 hS) rfl (fun q hq => cf3_ifSold (ph_okI h) hS hq) rfl (Nat.le_of_ble_eq_true rfl) rfl dX3_firstBuyer_17 (fun q1 => ?_)
      refine j_aload_n h dX3_firstBuyer_20 rfl 0 rfl ?_
      refine j_get (c := 81) (j := 1) (v := .ref (ad 82)) h (ph_xlt hS (by decide)) (ph_kc81 hS) rfl ph_inX3 rfl (by decide) tw_326 rfl rfl dX3_firstBuyer_21 ?_
      refine j_iload_n h dX3_firstBuyer_24 rfl 1 rfl ?_
      refine j_bipush (v := (64 : Int32)) h dX3_firstBuyer_25 (by decide) ?_
      refine j_imul h dX3_firstBuyer_27 ?_
      refine j_iload_n h dX3_firstBuyer_28 rfl 2 rfl ?_
      refine j_iadd h dX3_firstBuyer_29 ?_
      refine j_iald (c := 82) (n := 320) h (ph_xlt hS (by decide)) (ph_kc82 hS) dX3_firstBuyer_30 ?_
      refine j_icmp_ne h 36 dX3_firstBuyer_31 (by decide) ?_ ?_
      · refine j_iinc h [(3, .int (x3 + (1 : Int32))), (0, .ref (ad 81)), (1, .int x1), (2, .int x2)] dX3_firstBuyer_36 3 rfl rfl (by decide) rfl ?_
        refine j_goto h 2 dX3_firstBuyer_39 (by decide) ?_
        refine j_sub [1, 2, 3, 0] rfl ?_
        exact hrc2 x1 x2 (x3 + (1 : Int32))
      · refine j_iload_n h dX3_firstBuyer_34 rfl 3 rfl ?_
        exact j_iretP h rfl fin dX3_firstBuyer_35
theorem ydf3_firstBuyer : ph_yd yX3_firstBuyer 2 := ⟨by decide, by decide, by decide +kernel⟩
def f3_firstBuyer (S : ph_Sh) (M : ph_Mem) (p0 : Int32) (p1 : Int32) : Option Int32 :=
  f3_firstBuyer_l2 S M 10000 p0 p1 (0 : Int32)
set_option maxHeartbeats 4000000 in
theorem cf3_firstBuyer {tb adK adV : Nat → Nat} {S : ph_Sh} {l : Launch} {D : va_G} {cA : Nat → ClassId} {ad : Nat → Nat} (hinj : ∀ i j, i < S.2 → j < S.2 → ad i = ad j → i = j) (hS : ph_SX S) {M : ph_Mem} {p0 : Int32} {p1 : Int32} {r : Int32} (hf : f3_firstBuyer S M p0 p1 = some r) : ph_C (ph_ZX tb adK adV) l 2 yX3_firstBuyer cX3_firstBuyer 4 (some .int) D cA S.1 S.2 ad [.ref (ad 81), .int p0, .int p1] M (some (.int r)) M := by
  refine ph_mk ph_ZX_ok hinj (by decide) (Nat.le_of_ble_eq_true rfl) fun X h fin hE => ?_
  refine (?_ : ph_J X S.1 S.2 ad (r : Int32) 0 [(0, .ref (ad 81)), (1, .int p0), (2, .int p1)] [] M (f3_firstBuyer S M p0 p1)) hf
  unfold f3_firstBuyer
  refine j_iconst (v := (0 : Int32)) h dX3_firstBuyer_0 (by decide) ?_
  refine j_istore_n h [(3, .int (0 : Int32)), (0, .ref (ad 81)), (1, .int p0), (2, .int p1)] dX3_firstBuyer_1 rfl (by decide) rfl ?_
  refine j_sub [1, 2, 3, 0] rfl ?_
  exact jb_f3_firstBuyer_l2 h fin hS 10000 p0 p1 (0 : Int32)
theorem dX3_settle_0 : decode cX3_settle 0 = .ok (.iconst 3, 1) := by decide +kernel
theorem dX3_settle_1 : decode cX3_settle 1 = .ok (.istore_n 1, 1) := by decide +kernel
theorem dX3_settle_2 : decode cX3_settle 2 = .ok (.iload_n 1, 1) := by decide +kernel
theorem dX3_settle_3 : decode cX3_settle 3 = .ok (.ifCond .lt 47, 3) := by decide +kernel
theorem dX3_settle_6 : decode cX3_settle 6 = .ok (.iconst 0, 1) := by decide +kernel
theorem dX3_settle_7 : decode cX3_settle 7 = .ok (.istore_n 2, 1) := by decide +kernel
theorem dX3_settle_8 : decode cX3_settle 8 = .ok (.iload_n 2, 1) := by decide +kernel
theorem dX3_settle_9 : decode cX3_settle 9 = .ok (.iconst 1, 1) := by decide +kernel
theorem dX3_settle_10 : decode cX3_settle 10 = .ok (.aload_n 0, 1) := by decide +kernel
theorem dX3_settle_11 : decode cX3_settle 11 = .ok (.getfield 18, 3) := by decide +kernel
theorem dX3_settle_14 : decode cX3_settle 14 = .ok (.getfield 22, 3) := by decide +kernel
theorem dX3_settle_17 : decode cX3_settle 17 = .ok (.ishl, 1) := by decide +kernel
theorem dX3_settle_18 : decode cX3_settle 18 = .ok (.if_icmp .ge 26, 3) := by decide +kernel
theorem dX3_settle_21 : decode cX3_settle 21 = .ok (.aload_n 0, 1) := by decide +kernel
theorem dX3_settle_22 : decode cX3_settle 22 = .ok (.getfield 11, 3) := by decide +kernel
theorem dX3_settle_25 : decode cX3_settle 25 = .ok (.iload_n 1, 1) := by decide +kernel
theorem dX3_settle_26 : decode cX3_settle 26 = .ok (.bipush 64, 2) := by decide +kernel
theorem dX3_settle_28 : decode cX3_settle 28 = .ok (.imul, 1) := by decide +kernel
theorem dX3_settle_29 : decode cX3_settle 29 = .ok (.iload_n 2, 1) := by decide +kernel
theorem dX3_settle_30 : decode cX3_settle 30 = .ok (.iadd, 1) := by decide +kernel
theorem dX3_settle_31 : decode cX3_settle 31 = .ok (.aload_n 0, 1) := by decide +kernel
theorem dX3_settle_32 : decode cX3_settle 32 = .ok (.iload_n 1, 1) := by decide +kernel
theorem dX3_settle_33 : decode cX3_settle 33 = .ok (.iload_n 2, 1) := by decide +kernel
theorem dX3_settle_34 : decode cX3_settle 34 = .ok (.invokevirtual 28, 3) := by decide +kernel
theorem dX3_settle_37 : decode cX3_settle 37 = .ok (.iastore, 1) := by decide +kernel
theorem dX3_settle_38 : decode cX3_settle 38 = .ok (.iinc 2 1, 3) := by decide +kernel
theorem dX3_settle_41 : decode cX3_settle 41 = .ok (.goto (-33), 3) := by decide +kernel
theorem dX3_settle_44 : decode cX3_settle 44 = .ok (.iinc 1 (-1), 3) := by decide +kernel
theorem dX3_settle_47 : decode cX3_settle 47 = .ok (.goto (-45), 3) := by decide +kernel
theorem dX3_settle_50 : decode cX3_settle 50 = .ok (.iconst 0, 1) := by decide +kernel
theorem dX3_settle_51 : decode cX3_settle 51 = .ok (.istore_n 1, 1) := by decide +kernel
theorem dX3_settle_52 : decode cX3_settle 52 = .ok (.iconst 0, 1) := by decide +kernel
theorem dX3_settle_53 : decode cX3_settle 53 = .ok (.istore_n 2, 1) := by decide +kernel
theorem dX3_settle_54 : decode cX3_settle 54 = .ok (.iload_n 2, 1) := by decide +kernel
theorem dX3_settle_55 : decode cX3_settle 55 = .ok (.iconst 4, 1) := by decide +kernel
theorem dX3_settle_56 : decode cX3_settle 56 = .ok (.if_icmp .ge 47, 3) := by decide +kernel
theorem dX3_settle_59 : decode cX3_settle 59 = .ok (.aload_n 0, 1) := by decide +kernel
theorem dX3_settle_60 : decode cX3_settle 60 = .ok (.getfield 15, 3) := by decide +kernel
theorem dX3_settle_63 : decode cX3_settle 63 = .ok (.iload_n 2, 1) := by decide +kernel
theorem dX3_settle_64 : decode cX3_settle 64 = .ok (.aload_n 0, 1) := by decide +kernel
theorem dX3_settle_65 : decode cX3_settle 65 = .ok (.iload_n 2, 1) := by decide +kernel
theorem dX3_settle_66 : decode cX3_settle 66 = .ok (.iload_n 1, 1) := by decide +kernel
theorem dX3_settle_67 : decode cX3_settle 67 = .ok (.invokevirtual 32, 3) := by decide +kernel
theorem dX3_settle_70 : decode cX3_settle 70 = .ok (.iastore, 1) := by decide +kernel
theorem dX3_settle_71 : decode cX3_settle 71 = .ok (.iload_n 1, 1) := by decide +kernel
theorem dX3_settle_72 : decode cX3_settle 72 = .ok (.aload_n 0, 1) := by decide +kernel
theorem dX3_settle_73 : decode cX3_settle 73 = .ok (.getfield 15, 3) := by decide +kernel
theorem dX3_settle_76 : decode cX3_settle 76 = .ok (.iload_n 2, 1) := by decide +kernel
theorem dX3_settle_77 : decode cX3_settle 77 = .ok (.iaload, 1) := by decide +kernel
theorem dX3_settle_78 : decode cX3_settle 78 = .ok (.bipush 100, 2) := by decide +kernel
theorem dX3_settle_80 : decode cX3_settle 80 = .ok (.if_icmp .ne 7, 3) := by decide +kernel
theorem dX3_settle_83 : decode cX3_settle 83 = .ok (.iconst 0, 1) := by decide +kernel
theorem dX3_settle_84 : decode cX3_settle 84 = .ok (.goto 11, 3) := by decide +kernel
theorem dX3_settle_87 : decode cX3_settle 87 = .ok (.iconst 1, 1) := by decide +kernel
theorem dX3_settle_88 : decode cX3_settle 88 = .ok (.aload_n 0, 1) := by decide +kernel
theorem dX3_settle_89 : decode cX3_settle 89 = .ok (.getfield 15, 3) := by decide +kernel
theorem dX3_settle_92 : decode cX3_settle 92 = .ok (.iload_n 2, 1) := by decide +kernel
theorem dX3_settle_93 : decode cX3_settle 93 = .ok (.iaload, 1) := by decide +kernel
theorem dX3_settle_94 : decode cX3_settle 94 = .ok (.ishl, 1) := by decide +kernel
theorem dX3_settle_95 : decode cX3_settle 95 = .ok (.ior, 1) := by decide +kernel
theorem dX3_settle_96 : decode cX3_settle 96 = .ok (.istore_n 1, 1) := by decide +kernel
theorem dX3_settle_97 : decode cX3_settle 97 = .ok (.iinc 2 1, 3) := by decide +kernel
theorem dX3_settle_100 : decode cX3_settle 100 = .ok (.goto (-46), 3) := by decide +kernel
theorem dX3_settle_103 : decode cX3_settle 103 = .ok (.return_, 1) := by decide +kernel
def f3_settle_j44 (S : ph_Sh) (rc2 : Int32 → ph_Mem → Option ph_Mem) (x1 : Int32) (M : ph_Mem) : Option ph_Mem :=
  rc2 (x1 + (-1 : Int32)) M
set_option maxHeartbeats 4000000 in
theorem jb_f3_settle_j44 {tb adK adV : Nat → Nat} {S : ph_Sh} {X : ph_X} {ad : Nat → Nat} {o : ph_Mem} (h : ph_ok (ph_ZX tb adK adV) X cX3_settle RX3 none 3 3 S.2 ad) (fin : ph_fin X S.1 S.2 ad none o) (hS : ph_SX S) {rc2 : Int32 → ph_Mem → Option ph_Mem} (hrc2 : ∀ (x1 : Int32) (M : ph_Mem), ph_J X S.1 S.2 ad o 2 [(0, .ref (ad 81)), (1, .int x1)] [] M (rc2 x1 M)) : ∀ (x1 : Int32) (M : ph_Mem), ph_J X S.1 S.2 ad o 44 [(0, .ref (ad 81)), (1, .int x1)] [] M (f3_settle_j44 S rc2 x1 M) := by
  intro x1 M
  unfold f3_settle_j44
  refine j_iinc h [(1, .int (x1 + (-1 : Int32))), (0, .ref (ad 81))] dX3_settle_44 1 rfl rfl (by decide) rfl ?_
  refine j_goto h 2 dX3_settle_47 (by decide) ?_
  refine j_sub [1, 0] rfl ?_
  exact hrc2 (x1 + (-1 : Int32)) M
def f3_settle_l8 (S : ph_Sh) (rc2 : Int32 → ph_Mem → Option ph_Mem) : Nat → Int32 → Int32 → ph_Mem → Option ph_Mem
  | 0, _, _, _ => none
  | n + 1, x1, x2, M => if ((1 : Int32) <<< ((M.1 11 1) &&& 31)) ≤ x2 then (f3_settle_j44 S rc2 x1 M) else ((f3_mostFrom S M x1 x2).bind fun q1 => cond (ph_ib ((x1 * (64 : Int32)) + x2) 320) (ph_let (ph_wi M 82 ((x1 * (64 : Int32)) + x2).toNatClampNeg q1) fun M2 => (f3_settle_l8 S rc2 n) x1 (x2 + (1 : Int32)) M2) none)
set_option maxHeartbeats 4000000 in
theorem jb_f3_settle_l8 {tb adK adV : Nat → Nat} {S : ph_Sh} {X : ph_X} {ad : Nat → Nat} {o : ph_Mem} (h : ph_ok (ph_ZX tb adK adV) X cX3_settle RX3 none 3 3 S.2 ad) (fin : ph_fin X S.1 S.2 ad none o) (hS : ph_SX S) {rc2 : Int32 → ph_Mem → Option ph_Mem} (hrc2 : ∀ (x1 : Int32) (M : ph_Mem), ph_J X S.1 S.2 ad o 2 [(0, .ref (ad 81)), (1, .int x1)] [] M (rc2 x1 M)) : ∀ (n : Nat) (x1 : Int32) (x2 : Int32) (M : ph_Mem), ph_J X S.1 S.2 ad o 8 [(0, .ref (ad 81)), (1, .int x1), (2, .int x2)] [] M (f3_settle_l8 S rc2 n x1 x2 M) := by
  intro n
  induction n with
  | zero => intro x1 x2 M; exact j_none
  | succ n hrc8 =>
    intro x1 x2 M
    unfold f3_settle_l8
    refine j_iload_n h dX3_settle_8 rfl 2 rfl ?_
    refine j_iconst (v := (1 : Int32)) h dX3_settle_9 (by decide) ?_
    refine j_aload_n h dX3_settle_10 rfl 0 rfl ?_
    refine j_get (c := 81) (j := 0) (v := .ref (ad 11)) h (ph_xlt hS (by decide)) (ph_kc81 hS) rfl ph_inX3 rfl (by decide) tw_325 rfl rfl dX3_settle_11 ?_
    refine j_get (c := 11) (j := 1) (v := .int (M.1 11 1)) h (ph_xlt hS (by decide)) (ph_kc11 hS) rfl ph_inX9 rfl (by decide) tw_66 rfl rfl dX3_settle_14 ?_
    refine j_ishl h dX3_settle_17 ?_
    refine j_icmp_ge h 44 dX3_settle_18 (by decide) ?_ ?_
    · refine j_sub [0, 1] rfl ?_
      exact jb_f3_settle_j44 h fin hS hrc2 x1 M
    · refine j_aload_n h dX3_settle_21 rfl 0 rfl ?_
      refine j_get (c := 81) (j := 1) (v := .ref (ad 82)) h (ph_xlt hS (by decide)) (ph_kc81 hS) rfl ph_inX3 rfl (by decide) tw_326 rfl rfl dX3_settle_22 ?_
      refine j_iload_n h dX3_settle_25 rfl 1 rfl ?_
      refine j_bipush (v := (64 : Int32)) h dX3_settle_26 (by decide) ?_
      refine j_imul h dX3_settle_28 ?_
      refine j_iload_n h dX3_settle_29 rfl 2 rfl ?_
      refine j_iadd h dX3_settle_30 ?_
      refine j_aload_n h dX3_settle_31 rfl 0 rfl ?_
      refine j_iload_n h dX3_settle_32 rfl 1 rfl ?_
      refine j_iload_n h dX3_settle_33 rfl 2 rfl ?_
      refine j_callViP (n := 2) (As := [.int x1, .int x2]) (rest := [.int ((x1 * (64 : Int32)) + x2), .ref (ad 82)]) h 81 tw_1102 tw_1104 tp_43 tw_12 tw_1105 ydf3_mostFrom (by decide) (by decide) (ph_xlt hS (by decide)) (ph_kc81 hS) rfl (fun q hq => cf3_mostFrom (ph_okI h) hS hq) rfl (Nat.le_of_ble_eq_true rfl) rfl dX3_settle_34 (fun q1 => ?_)
      refine j_iast (c := 82) (n := 320) h (ph_xlt hS (by decide)) (ph_kc82 hS) dX3_settle_37 ?_
      refine j_letM (fun M2 => ?_)
      refine j_iinc h [(2, .int (x2 + (1 : Int32))), (0, .ref (ad 81)), (1, .int x1)] dX3_settle_38 2 rfl rfl (by decide) rfl ?_
      refine j_goto h 8 dX3_settle_41 (by decide) ?_
      refine j_sub [1, 2, 0] rfl ?_
      exact hrc8 x1 (x2 + (1 : Int32)) M2
def f3_settle_j95 (S : ph_Sh) (rc54 : Int32 → Int32 → ph_Mem → Option ph_Mem) (x2 : Int32) (s0 : Int32) (s1 : Int32) (M : ph_Mem) : Option ph_Mem :=
  rc54 (s1 ||| s0) (x2 + (1 : Int32)) M
set_option maxHeartbeats 4000000 in
theorem jb_f3_settle_j95 {tb adK adV : Nat → Nat} {S : ph_Sh} {X : ph_X} {ad : Nat → Nat} {o : ph_Mem} (h : ph_ok (ph_ZX tb adK adV) X cX3_settle RX3 none 3 3 S.2 ad) (fin : ph_fin X S.1 S.2 ad none o) (hS : ph_SX S) {rc54 : Int32 → Int32 → ph_Mem → Option ph_Mem} (hrc54 : ∀ (x1 : Int32) (x2 : Int32) (M : ph_Mem), ph_J X S.1 S.2 ad o 54 [(0, .ref (ad 81)), (1, .int x1), (2, .int x2)] [] M (rc54 x1 x2 M)) : ∀ (x2 : Int32) (s0 : Int32) (s1 : Int32) (M : ph_Mem), ph_J X S.1 S.2 ad o 95 [(0, .ref (ad 81)), (2, .int x2)] [.int s0, .int s1] M (f3_settle_j95 S rc54 x2 s0 s1 M) := by
  intro x2 s0 s1 M
  unfold f3_settle_j95
  refine j_ior h dX3_settle_95 ?_
  refine j_istore_n h [(1, .int (s1 ||| s0)), (0, .ref (ad 81)), (2, .int x2)] dX3_settle_96 rfl (by decide) rfl ?_
  refine j_iinc h [(2, .int (x2 + (1 : Int32))), (1, .int (s1 ||| s0)), (0, .ref (ad 81))] dX3_settle_97 2 rfl rfl (by decide) rfl ?_
  refine j_goto h 54 dX3_settle_100 (by decide) ?_
  refine j_sub [2, 1, 0] rfl ?_
  exact hrc54 (s1 ||| s0) (x2 + (1 : Int32)) M
def f3_settle_l54 (S : ph_Sh) : Nat → Int32 → Int32 → ph_Mem → Option ph_Mem
  | 0, _, _, _ => none
  | n + 1, x1, x2, M => if (4 : Int32) ≤ x2 then (some M) else ((f3_firstBuyer S M x2 x1).bind fun q3 => cond (ph_ib x2 4) (ph_let (ph_wi M 83 x2.toNatClampNeg q3) fun M4 => cond (ph_ib x2 4) (if (M4.1 83 x2.toNatClampNeg) = (100 : Int32) then (f3_settle_j95 S (f3_settle_l54 S n) x2 (0 : Int32) x1 M4) else (cond (ph_ib x2 4) (f3_settle_j95 S (f3_settle_l54 S n) x2 ((1 : Int32) <<< ((M4.1 83 x2.toNatClampNeg) &&& 31)) x1 M4) none)) none) none)
set_option maxHeartbeats 4000000 in
theorem jb_f3_settle_l54 {tb adK adV : Nat → Nat} {S : ph_Sh} {X : ph_X} {ad : Nat → Nat} {o : ph_Mem} (h : ph_ok (ph_ZX tb adK adV) X cX3_settle RX3 none 3 3 S.2 ad) (fin : ph_fin X S.1 S.2 ad none o) (hS : ph_SX S) : ∀ (n : Nat) (x1 : Int32) (x2 : Int32) (M : ph_Mem), ph_J X S.1 S.2 ad o 54 [(0, .ref (ad 81)), (1, .int x1), (2, .int x2)] [] M (f3_settle_l54 S n x1 x2 M) := by
  intro n
  induction n with
  | zero => intro x1 x2 M; exact j_none
  | succ n hrc54 =>
    intro x1 x2 M
    unfold f3_settle_l54
    refine j_iload_n h dX3_settle_54 rfl 2 rfl ?_
    refine j_iconst (v := (4 : Int32)) h dX3_settle_55 (by decide) ?_
    refine j_icmp_ge h 103 dX3_settle_56 (by decide) ?_ ?_
    · exact j_vret h rfl fin dX3_settle_103
    · refine j_aload_n h dX3_settle_59 rfl 0 rfl ?_
      refine j_get (c := 81) (j := 2) (v := .ref (ad 83)) h (ph_xlt hS (by decide)) (ph_kc81 hS) rfl ph_inX3 rfl (by decide) tw_327 rfl rfl dX3_settle_60 ?_
      refine j_iload_n h dX3_settle_63 rfl 2 rfl ?_
      refine j_aload_n h dX3_settle_64 rfl 0 rfl ?_
      refine j_iload_n h dX3_settle_65 rfl 2 rfl ?_
      refine j_iload_n h dX3_settle_66 rfl 1 rfl ?_
      refine j_callViP (n := 2) (As := [.int x2, .int x1]) (rest := [.int x2, .ref (ad 83)]) h 81 tw_1112 tw_1114 tp_45 tw_12 tw_1115 ydf3_firstBuyer (by decide) (by decide) (ph_xlt hS (by decide)) (ph_kc81 hS) rfl (fun q hq => cf3_firstBuyer (ph_okI h) hS hq) rfl (Nat.le_of_ble_eq_true rfl) rfl dX3_settle_67 (fun q3 => ?_)
      refine j_iast (c := 83) (n := 4) h (ph_xlt hS (by decide)) (ph_kc83 hS) dX3_settle_70 ?_
      refine j_letM (fun M4 => ?_)
      refine j_iload_n h dX3_settle_71 rfl 1 rfl ?_
      refine j_aload_n h dX3_settle_72 rfl 0 rfl ?_
      refine j_get (c := 81) (j := 2) (v := .ref (ad 83)) h (ph_xlt hS (by decide)) (ph_kc81 hS) rfl ph_inX3 rfl (by decide) tw_327 rfl rfl dX3_settle_73 ?_
      refine j_iload_n h dX3_settle_76 rfl 2 rfl ?_
      refine j_iald (c := 83) (n := 4) h (ph_xlt hS (by decide)) (ph_kc83 hS) dX3_settle_77 ?_
      refine j_bipush (v := (100 : Int32)) h dX3_settle_78 (by decide) ?_
      refine j_icmp_ne h 87 dX3_settle_80 (by decide) ?_ ?_
      · refine j_iconst (v := (1 : Int32)) h dX3_settle_87 (by decide) ?_
        refine j_aload_n h dX3_settle_88 rfl 0 rfl ?_
        refine j_get (c := 81) (j := 2) (v := .ref (ad 83)) h (ph_xlt hS (by decide)) (ph_kc81 hS) rfl ph_inX3 rfl (by decide) tw_327 rfl rfl dX3_settle_89 ?_
        refine j_iload_n h dX3_settle_92 rfl 2 rfl ?_
        refine j_iald (c := 83) (n := 4) h (ph_xlt hS (by decide)) (ph_kc83 hS) dX3_settle_93 ?_
        refine j_ishl h dX3_settle_94 ?_
        refine j_sub [0, 2] rfl ?_
        exact jb_f3_settle_j95 h fin hS hrc54 x2 ((1 : Int32) <<< ((M4.1 83 x2.toNatClampNeg) &&& 31)) x1 M4
      · refine j_iconst (v := (0 : Int32)) h dX3_settle_83 (by decide) ?_
        refine j_goto h 95 dX3_settle_84 (by decide) ?_
        refine j_sub [0, 2] rfl ?_
        exact jb_f3_settle_j95 h fin hS hrc54 x2 (0 : Int32) x1 M4
def f3_settle_j50 (S : ph_Sh) (M : ph_Mem) : Option ph_Mem :=
  f3_settle_l54 S 10000 (0 : Int32) (0 : Int32) M
set_option maxHeartbeats 4000000 in
theorem jb_f3_settle_j50 {tb adK adV : Nat → Nat} {S : ph_Sh} {X : ph_X} {ad : Nat → Nat} {o : ph_Mem} (h : ph_ok (ph_ZX tb adK adV) X cX3_settle RX3 none 3 3 S.2 ad) (fin : ph_fin X S.1 S.2 ad none o) (hS : ph_SX S) : ∀ (M : ph_Mem), ph_J X S.1 S.2 ad o 50 [(0, .ref (ad 81))] [] M (f3_settle_j50 S M) := by
  intro M
  unfold f3_settle_j50
  refine j_iconst (v := (0 : Int32)) h dX3_settle_50 (by decide) ?_
  refine j_istore_n h [(1, .int (0 : Int32)), (0, .ref (ad 81))] dX3_settle_51 rfl (by decide) rfl ?_
  refine j_iconst (v := (0 : Int32)) h dX3_settle_52 (by decide) ?_
  refine j_istore_n h [(2, .int (0 : Int32)), (1, .int (0 : Int32)), (0, .ref (ad 81))] dX3_settle_53 rfl (by decide) rfl ?_
  refine j_sub [2, 1, 0] rfl ?_
  exact jb_f3_settle_l54 h fin hS 10000 (0 : Int32) (0 : Int32) M
def f3_settle_l2 (S : ph_Sh) : Nat → Int32 → ph_Mem → Option ph_Mem
  | 0, _, _ => none
  | n + 1, x1, M => if x1 < 0 then (f3_settle_j50 S  M) else (f3_settle_l8 S (f3_settle_l2 S n) 10000 x1 (0 : Int32) M)
set_option maxHeartbeats 4000000 in
theorem jb_f3_settle_l2 {tb adK adV : Nat → Nat} {S : ph_Sh} {X : ph_X} {ad : Nat → Nat} {o : ph_Mem} (h : ph_ok (ph_ZX tb adK adV) X cX3_settle RX3 none 3 3 S.2 ad) (fin : ph_fin X S.1 S.2 ad none o) (hS : ph_SX S) : ∀ (n : Nat) (x1 : Int32) (M : ph_Mem), ph_J X S.1 S.2 ad o 2 [(0, .ref (ad 81)), (1, .int x1)] [] M (f3_settle_l2 S n x1 M) := by
  intro n
  induction n with
  | zero => intro x1 M; exact j_none
  | succ n hrc2 =>
    intro x1 M
    unfold f3_settle_l2
    refine j_iload_n h dX3_settle_2 rfl 1 rfl ?_
    refine j_if_lt h 50 dX3_settle_3 (by decide) ?_ ?_
    · refine j_sub [0] rfl ?_
      exact jb_f3_settle_j50 h fin hS  M
    · refine j_iconst (v := (0 : Int32)) h dX3_settle_6 (by decide) ?_
      refine j_istore_n h [(2, .int (0 : Int32)), (0, .ref (ad 81)), (1, .int x1)] dX3_settle_7 rfl (by decide) rfl ?_
      refine j_sub [1, 2, 0] rfl ?_
      exact jb_f3_settle_l8 h fin hS hrc2 10000 x1 (0 : Int32) M
theorem ydf3_settle : ph_yd yX3_settle 0 := ⟨by decide, by decide, by decide +kernel⟩
def f3_settle (S : ph_Sh) (M : ph_Mem) : Option ph_Mem :=
  f3_settle_l2 S 10000 (3 : Int32) M
set_option maxHeartbeats 4000000 in
theorem cf3_settle {tb adK adV : Nat → Nat} {S : ph_Sh} {l : Launch} {D : va_G} {cA : Nat → ClassId} {ad : Nat → Nat} (hinj : ∀ i j, i < S.2 → j < S.2 → ad i = ad j → i = j) (hS : ph_SX S) {M : ph_Mem} {M' : ph_Mem} (hf : f3_settle S M  = some M') : ph_C (ph_ZX tb adK adV) l 3 yX3_settle cX3_settle 3 none D cA S.1 S.2 ad [.ref (ad 81)] M none M' := by
  refine ph_mk ph_ZX_ok hinj (by decide) (Nat.le_of_ble_eq_true rfl) fun X h fin hE => ?_
  refine (?_ : ph_J X S.1 S.2 ad (M' : ph_Mem) 0 [(0, .ref (ad 81))] [] M (f3_settle S M )) hf
  unfold f3_settle
  refine j_iconst (v := (3 : Int32)) h dX3_settle_0 (by decide) ?_
  refine j_istore_n h [(1, .int (3 : Int32)), (0, .ref (ad 81))] dX3_settle_1 rfl (by decide) rfl ?_
  refine j_sub [1, 0] rfl ?_
  exact jb_f3_settle_l2 h fin hS 10000 (3 : Int32) M
theorem dX3_total_0 : decode cX3_total 0 = .ok (.aload_n 0, 1) := by decide +kernel
theorem dX3_total_1 : decode cX3_total 1 = .ok (.getfield 11, 3) := by decide +kernel
theorem dX3_total_4 : decode cX3_total 4 = .ok (.iconst 0, 1) := by decide +kernel
theorem dX3_total_5 : decode cX3_total 5 = .ok (.iaload, 1) := by decide +kernel
theorem dX3_total_6 : decode cX3_total 6 = .ok (.ireturn, 1) := by decide +kernel
theorem ydf3_total : ph_yd yX3_total 0 := ⟨by decide, by decide, by decide +kernel⟩
def f3_total (S : ph_Sh) (M : ph_Mem) : Option Int32 :=
  some (M.1 82 0)
set_option maxHeartbeats 4000000 in
theorem cf3_total {tb adK adV : Nat → Nat} {S : ph_Sh} {l : Launch} {D : va_G} {cA : Nat → ClassId} {ad : Nat → Nat} (hinj : ∀ i j, i < S.2 → j < S.2 → ad i = ad j → i = j) (hS : ph_SX S) {M : ph_Mem} {r : Int32} (hf : f3_total S M  = some r) : ph_C (ph_ZX tb adK adV) l 0 yX3_total cX3_total 1 (some .int) D cA S.1 S.2 ad [.ref (ad 81)] M (some (.int r)) M := by
  refine ph_mk ph_ZX_ok hinj (by decide) (Nat.le_of_ble_eq_true rfl) fun X h fin hE => ?_
  refine (?_ : ph_J X S.1 S.2 ad (r : Int32) 0 [(0, .ref (ad 81))] [] M (f3_total S M )) hf
  unfold f3_total
  refine j_aload_n h dX3_total_0 rfl 0 rfl ?_
  refine j_get (c := 81) (j := 1) (v := .ref (ad 82)) h (ph_xlt hS (by decide)) (ph_kc81 hS) rfl ph_inX3 rfl (by decide) tw_326 rfl rfl dX3_total_1 ?_
  refine j_iconst (v := (0 : Int32)) h dX3_total_4 (by decide) ?_
  refine j_ialdK (c := 82) (n := 320) (kn := 0) h (ph_xlt hS (by decide)) (ph_kc82 hS) rfl (by decide) dX3_total_5 ?_
  exact j_iretP h rfl fin dX3_total_6
theorem dX3_buyerOf_0 : decode cX3_buyerOf 0 = .ok (.aload_n 0, 1) := by decide +kernel
theorem dX3_buyerOf_1 : decode cX3_buyerOf 1 = .ok (.getfield 15, 3) := by decide +kernel
theorem dX3_buyerOf_4 : decode cX3_buyerOf 4 = .ok (.iload_n 1, 1) := by decide +kernel
theorem dX3_buyerOf_5 : decode cX3_buyerOf 5 = .ok (.iaload, 1) := by decide +kernel
theorem dX3_buyerOf_6 : decode cX3_buyerOf 6 = .ok (.ireturn, 1) := by decide +kernel
theorem ydf3_buyerOf : ph_yd yX3_buyerOf 1 := ⟨by decide, by decide, by decide +kernel⟩
def f3_buyerOf (S : ph_Sh) (M : ph_Mem) (p0 : Int32) : Option Int32 :=
  cond (ph_ib p0 4) (some (M.1 83 p0.toNatClampNeg)) none
set_option maxHeartbeats 4000000 in
theorem cf3_buyerOf {tb adK adV : Nat → Nat} {S : ph_Sh} {l : Launch} {D : va_G} {cA : Nat → ClassId} {ad : Nat → Nat} (hinj : ∀ i j, i < S.2 → j < S.2 → ad i = ad j → i = j) (hS : ph_SX S) {M : ph_Mem} {p0 : Int32} {r : Int32} (hf : f3_buyerOf S M p0 = some r) : ph_C (ph_ZX tb adK adV) l 0 yX3_buyerOf cX3_buyerOf 2 (some .int) D cA S.1 S.2 ad [.ref (ad 81), .int p0] M (some (.int r)) M := by
  refine ph_mk ph_ZX_ok hinj (by decide) (Nat.le_of_ble_eq_true rfl) fun X h fin hE => ?_
  refine (?_ : ph_J X S.1 S.2 ad (r : Int32) 0 [(0, .ref (ad 81)), (1, .int p0)] [] M (f3_buyerOf S M p0)) hf
  unfold f3_buyerOf
  refine j_aload_n h dX3_buyerOf_0 rfl 0 rfl ?_
  refine j_get (c := 81) (j := 2) (v := .ref (ad 83)) h (ph_xlt hS (by decide)) (ph_kc81 hS) rfl ph_inX3 rfl (by decide) tw_327 rfl rfl dX3_buyerOf_1 ?_
  refine j_iload_n h dX3_buyerOf_4 rfl 1 rfl ?_
  refine j_iald (c := 83) (n := 4) h (ph_xlt hS (by decide)) (ph_kc83 hS) dX3_buyerOf_5 ?_
  exact j_iretP h rfl fin dX3_buyerOf_6
theorem dX3_paymentFor_0 : decode cX3_paymentFor 0 = .ok (.aload_n 0, 1) := by decide +kernel
theorem dX3_paymentFor_1 : decode cX3_paymentFor 1 = .ok (.getfield 15, 3) := by decide +kernel
theorem dX3_paymentFor_4 : decode cX3_paymentFor 4 = .ok (.iload_n 1, 1) := by decide +kernel
theorem dX3_paymentFor_5 : decode cX3_paymentFor 5 = .ok (.iaload, 1) := by decide +kernel
theorem dX3_paymentFor_6 : decode cX3_paymentFor 6 = .ok (.istore_n 2, 1) := by decide +kernel
theorem dX3_paymentFor_7 : decode cX3_paymentFor 7 = .ok (.iload_n 2, 1) := by decide +kernel
theorem dX3_paymentFor_8 : decode cX3_paymentFor 8 = .ok (.bipush 100, 2) := by decide +kernel
theorem dX3_paymentFor_10 : decode cX3_paymentFor 10 = .ok (.if_icmp .ne 5, 3) := by decide +kernel
theorem dX3_paymentFor_13 : decode cX3_paymentFor 13 = .ok (.iconst 0, 1) := by decide +kernel
theorem dX3_paymentFor_14 : decode cX3_paymentFor 14 = .ok (.ireturn, 1) := by decide +kernel
theorem dX3_paymentFor_15 : decode cX3_paymentFor 15 = .ok (.aload_n 0, 1) := by decide +kernel
theorem dX3_paymentFor_16 : decode cX3_paymentFor 16 = .ok (.getfield 11, 3) := by decide +kernel
theorem dX3_paymentFor_19 : decode cX3_paymentFor 19 = .ok (.iconst 0, 1) := by decide +kernel
theorem dX3_paymentFor_20 : decode cX3_paymentFor 20 = .ok (.iaload, 1) := by decide +kernel
theorem dX3_paymentFor_21 : decode cX3_paymentFor 21 = .ok (.aload_n 0, 1) := by decide +kernel
theorem dX3_paymentFor_22 : decode cX3_paymentFor 22 = .ok (.getfield 18, 3) := by decide +kernel
theorem dX3_paymentFor_25 : decode cX3_paymentFor 25 = .ok (.getfield 44, 3) := by decide +kernel
theorem dX3_paymentFor_28 : decode cX3_paymentFor 28 = .ok (.iload_n 2, 1) := by decide +kernel
theorem dX3_paymentFor_29 : decode cX3_paymentFor 29 = .ok (.iconst 4, 1) := by decide +kernel
theorem dX3_paymentFor_30 : decode cX3_paymentFor 30 = .ok (.imul, 1) := by decide +kernel
theorem dX3_paymentFor_31 : decode cX3_paymentFor 31 = .ok (.iload_n 1, 1) := by decide +kernel
theorem dX3_paymentFor_32 : decode cX3_paymentFor 32 = .ok (.iadd, 1) := by decide +kernel
theorem dX3_paymentFor_33 : decode cX3_paymentFor 33 = .ok (.iaload, 1) := by decide +kernel
theorem dX3_paymentFor_34 : decode cX3_paymentFor 34 = .ok (.isub, 1) := by decide +kernel
theorem dX3_paymentFor_35 : decode cX3_paymentFor 35 = .ok (.istore_n 3, 1) := by decide +kernel
theorem dX3_paymentFor_36 : decode cX3_paymentFor 36 = .ok (.aload_n 0, 1) := by decide +kernel
theorem dX3_paymentFor_37 : decode cX3_paymentFor 37 = .ok (.getfield 11, 3) := by decide +kernel
theorem dX3_paymentFor_40 : decode cX3_paymentFor 40 = .ok (.iconst 1, 1) := by decide +kernel
theorem dX3_paymentFor_41 : decode cX3_paymentFor 41 = .ok (.iload_n 2, 1) := by decide +kernel
theorem dX3_paymentFor_42 : decode cX3_paymentFor 42 = .ok (.ishl, 1) := by decide +kernel
theorem dX3_paymentFor_43 : decode cX3_paymentFor 43 = .ok (.iaload, 1) := by decide +kernel
theorem dX3_paymentFor_44 : decode cX3_paymentFor 44 = .ok (.iload_n 3, 1) := by decide +kernel
theorem dX3_paymentFor_45 : decode cX3_paymentFor 45 = .ok (.isub, 1) := by decide +kernel
theorem dX3_paymentFor_46 : decode cX3_paymentFor 46 = .ok (.ireturn, 1) := by decide +kernel
theorem ydf3_paymentFor : ph_yd yX3_paymentFor 1 := ⟨by decide, by decide, by decide +kernel⟩
def f3_paymentFor (S : ph_Sh) (M : ph_Mem) (p0 : Int32) : Option Int32 :=
  cond (ph_ib p0 4) (ph_let (M.1 83 p0.toNatClampNeg) fun z1 => if z1 = (100 : Int32) then (some (0 : Int32)) else (cond (ph_ib ((z1 * (4 : Int32)) + p0) 24) (ph_let ((M.1 82 0) - (M.1 20 ((z1 * (4 : Int32)) + p0).toNatClampNeg)) fun z2 => cond (ph_ib ((1 : Int32) <<< (z1 &&& 31)) 320) (some ((M.1 82 ((1 : Int32) <<< (z1 &&& 31)).toNatClampNeg) - z2)) none) none)) none
set_option maxHeartbeats 4000000 in
theorem cf3_paymentFor {tb adK adV : Nat → Nat} {S : ph_Sh} {l : Launch} {D : va_G} {cA : Nat → ClassId} {ad : Nat → Nat} (hinj : ∀ i j, i < S.2 → j < S.2 → ad i = ad j → i = j) (hS : ph_SX S) {M : ph_Mem} {p0 : Int32} {r : Int32} (hf : f3_paymentFor S M p0 = some r) : ph_C (ph_ZX tb adK adV) l 0 yX3_paymentFor cX3_paymentFor 4 (some .int) D cA S.1 S.2 ad [.ref (ad 81), .int p0] M (some (.int r)) M := by
  refine ph_mk ph_ZX_ok hinj (by decide) (Nat.le_of_ble_eq_true rfl) fun X h fin hE => ?_
  refine (?_ : ph_J X S.1 S.2 ad (r : Int32) 0 [(0, .ref (ad 81)), (1, .int p0)] [] M (f3_paymentFor S M p0)) hf
  unfold f3_paymentFor
  refine j_aload_n h dX3_paymentFor_0 rfl 0 rfl ?_
  refine j_get (c := 81) (j := 2) (v := .ref (ad 83)) h (ph_xlt hS (by decide)) (ph_kc81 hS) rfl ph_inX3 rfl (by decide) tw_327 rfl rfl dX3_paymentFor_1 ?_
  refine j_iload_n h dX3_paymentFor_4 rfl 1 rfl ?_
  refine j_iald (c := 83) (n := 4) h (ph_xlt hS (by decide)) (ph_kc83 hS) dX3_paymentFor_5 ?_
  refine j_istore_n h [(2, .int (M.1 83 p0.toNatClampNeg)), (0, .ref (ad 81)), (1, .int p0)] dX3_paymentFor_6 rfl (by decide) rfl ?_
  refine j_letI (lvf := fun z1 => [(2, .int z1), (0, .ref (ad 81)), (1, .int p0)]) (fun z1 => ?_)
  refine j_iload_n h dX3_paymentFor_7 rfl 0 rfl ?_
  refine j_bipush (v := (100 : Int32)) h dX3_paymentFor_8 (by decide) ?_
  refine j_icmp_ne h 15 dX3_paymentFor_10 (by decide) ?_ ?_
  · refine j_aload_n h dX3_paymentFor_15 rfl 1 rfl ?_
    refine j_get (c := 81) (j := 1) (v := .ref (ad 82)) h (ph_xlt hS (by decide)) (ph_kc81 hS) rfl ph_inX3 rfl (by decide) tw_326 rfl rfl dX3_paymentFor_16 ?_
    refine j_iconst (v := (0 : Int32)) h dX3_paymentFor_19 (by decide) ?_
    refine j_ialdK (c := 82) (n := 320) (kn := 0) h (ph_xlt hS (by decide)) (ph_kc82 hS) rfl (by decide) dX3_paymentFor_20 ?_
    refine j_aload_n h dX3_paymentFor_21 rfl 1 rfl ?_
    refine j_get (c := 81) (j := 0) (v := .ref (ad 11)) h (ph_xlt hS (by decide)) (ph_kc81 hS) rfl ph_inX3 rfl (by decide) tw_325 rfl rfl dX3_paymentFor_22 ?_
    refine j_get (c := 11) (j := 10) (v := .ref (ad 20)) h (ph_xlt hS (by decide)) (ph_kc11 hS) rfl ph_inX9 rfl (by decide) tw_96 rfl rfl dX3_paymentFor_25 ?_
    refine j_iload_n h dX3_paymentFor_28 rfl 0 rfl ?_
    refine j_iconst (v := (4 : Int32)) h dX3_paymentFor_29 (by decide) ?_
    refine j_imul h dX3_paymentFor_30 ?_
    refine j_iload_n h dX3_paymentFor_31 rfl 2 rfl ?_
    refine j_iadd h dX3_paymentFor_32 ?_
    refine j_iald (c := 20) (n := 24) h (ph_xlt hS (by decide)) (ph_kc20 hS) dX3_paymentFor_33 ?_
    refine j_isub h dX3_paymentFor_34 ?_
    refine j_istore_n h [(3, .int ((M.1 82 0) - (M.1 20 ((z1 * (4 : Int32)) + p0).toNatClampNeg))), (2, .int z1), (0, .ref (ad 81)), (1, .int p0)] dX3_paymentFor_35 rfl (by decide) rfl ?_
    refine j_letI (lvf := fun z2 => [(3, .int z2), (2, .int z1), (0, .ref (ad 81)), (1, .int p0)]) (fun z2 => ?_)
    refine j_aload_n h dX3_paymentFor_36 rfl 2 rfl ?_
    refine j_get (c := 81) (j := 1) (v := .ref (ad 82)) h (ph_xlt hS (by decide)) (ph_kc81 hS) rfl ph_inX3 rfl (by decide) tw_326 rfl rfl dX3_paymentFor_37 ?_
    refine j_iconst (v := (1 : Int32)) h dX3_paymentFor_40 (by decide) ?_
    refine j_iload_n h dX3_paymentFor_41 rfl 1 rfl ?_
    refine j_ishl h dX3_paymentFor_42 ?_
    refine j_iald (c := 82) (n := 320) h (ph_xlt hS (by decide)) (ph_kc82 hS) dX3_paymentFor_43 ?_
    refine j_iload_n h dX3_paymentFor_44 rfl 0 rfl ?_
    refine j_isub h dX3_paymentFor_45 ?_
    exact j_iretP h rfl fin dX3_paymentFor_46
  · refine j_iconst (v := (0 : Int32)) h dX3_paymentFor_13 (by decide) ?_
    exact j_iretP h rfl fin dX3_paymentFor_14
