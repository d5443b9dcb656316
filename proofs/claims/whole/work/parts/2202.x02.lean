theorem dX1_add_0 : decode cX1_add 0 = .ok (.aload_n 0, 1) := by decide +kernel
theorem dX1_add_1 : decode cX1_add 1 = .ok (.getfield 15, 3) := by decide +kernel
theorem dX1_add_4 : decode cX1_add 4 = .ok (.bipush 12, 2) := by decide +kernel
theorem dX1_add_6 : decode cX1_add 6 = .ok (.imul, 1) := by decide +kernel
theorem dX1_add_7 : decode cX1_add 7 = .ok (.istore 4, 2) := by decide +kernel
theorem dX1_add_9 : decode cX1_add 9 = .ok (.aload_n 0, 1) := by decide +kernel
theorem dX1_add_10 : decode cX1_add 10 = .ok (.getfield 11, 3) := by decide +kernel
theorem dX1_add_13 : decode cX1_add 13 = .ok (.iload 4, 2) := by decide +kernel
theorem dX1_add_15 : decode cX1_add 15 = .ok (.iload_n 1, 1) := by decide +kernel
theorem dX1_add_16 : decode cX1_add 16 = .ok (.iastore, 1) := by decide +kernel
theorem dX1_add_17 : decode cX1_add 17 = .ok (.aload_n 0, 1) := by decide +kernel
theorem dX1_add_18 : decode cX1_add 18 = .ok (.getfield 11, 3) := by decide +kernel
theorem dX1_add_21 : decode cX1_add 21 = .ok (.iload 4, 2) := by decide +kernel
theorem dX1_add_23 : decode cX1_add 23 = .ok (.iconst 1, 1) := by decide +kernel
theorem dX1_add_24 : decode cX1_add 24 = .ok (.iadd, 1) := by decide +kernel
theorem dX1_add_25 : decode cX1_add 25 = .ok (.iload_n 2, 1) := by decide +kernel
theorem dX1_add_26 : decode cX1_add 26 = .ok (.iastore, 1) := by decide +kernel
theorem dX1_add_27 : decode cX1_add 27 = .ok (.aload_n 0, 1) := by decide +kernel
theorem dX1_add_28 : decode cX1_add 28 = .ok (.getfield 11, 3) := by decide +kernel
theorem dX1_add_31 : decode cX1_add 31 = .ok (.iload 4, 2) := by decide +kernel
theorem dX1_add_33 : decode cX1_add 33 = .ok (.iconst 2, 1) := by decide +kernel
theorem dX1_add_34 : decode cX1_add 34 = .ok (.iadd, 1) := by decide +kernel
theorem dX1_add_35 : decode cX1_add 35 = .ok (.aload_n 3, 1) := by decide +kernel
theorem dX1_add_36 : decode cX1_add 36 = .ok (.getfield 19, 3) := by decide +kernel
theorem dX1_add_39 : decode cX1_add 39 = .ok (.iload_n 2, 1) := by decide +kernel
theorem dX1_add_40 : decode cX1_add 40 = .ok (.iaload, 1) := by decide +kernel
theorem dX1_add_41 : decode cX1_add 41 = .ok (.iastore, 1) := by decide +kernel
theorem dX1_add_42 : decode cX1_add 42 = .ok (.aload_n 0, 1) := by decide +kernel
theorem dX1_add_43 : decode cX1_add 43 = .ok (.getfield 11, 3) := by decide +kernel
theorem dX1_add_46 : decode cX1_add 46 = .ok (.iload 4, 2) := by decide +kernel
theorem dX1_add_48 : decode cX1_add 48 = .ok (.iconst 3, 1) := by decide +kernel
theorem dX1_add_49 : decode cX1_add 49 = .ok (.iadd, 1) := by decide +kernel
theorem dX1_add_50 : decode cX1_add 50 = .ok (.aload_n 3, 1) := by decide +kernel
theorem dX1_add_51 : decode cX1_add 51 = .ok (.getfield 24, 3) := by decide +kernel
theorem dX1_add_54 : decode cX1_add 54 = .ok (.iload_n 2, 1) := by decide +kernel
theorem dX1_add_55 : decode cX1_add 55 = .ok (.iaload, 1) := by decide +kernel
theorem dX1_add_56 : decode cX1_add 56 = .ok (.iastore, 1) := by decide +kernel
theorem dX1_add_57 : decode cX1_add 57 = .ok (.aload_n 0, 1) := by decide +kernel
theorem dX1_add_58 : decode cX1_add 58 = .ok (.getfield 11, 3) := by decide +kernel
theorem dX1_add_61 : decode cX1_add 61 = .ok (.iload 4, 2) := by decide +kernel
theorem dX1_add_63 : decode cX1_add 63 = .ok (.iconst 4, 1) := by decide +kernel
theorem dX1_add_64 : decode cX1_add 64 = .ok (.iadd, 1) := by decide +kernel
theorem dX1_add_65 : decode cX1_add 65 = .ok (.aload_n 3, 1) := by decide +kernel
theorem dX1_add_66 : decode cX1_add 66 = .ok (.getfield 27, 3) := by decide +kernel
theorem dX1_add_69 : decode cX1_add 69 = .ok (.iload_n 2, 1) := by decide +kernel
theorem dX1_add_70 : decode cX1_add 70 = .ok (.iaload, 1) := by decide +kernel
theorem dX1_add_71 : decode cX1_add 71 = .ok (.iastore, 1) := by decide +kernel
theorem dX1_add_72 : decode cX1_add 72 = .ok (.aload_n 0, 1) := by decide +kernel
theorem dX1_add_73 : decode cX1_add 73 = .ok (.getfield 11, 3) := by decide +kernel
theorem dX1_add_76 : decode cX1_add 76 = .ok (.iload 4, 2) := by decide +kernel
theorem dX1_add_78 : decode cX1_add 78 = .ok (.iconst 5, 1) := by decide +kernel
theorem dX1_add_79 : decode cX1_add 79 = .ok (.iadd, 1) := by decide +kernel
theorem dX1_add_80 : decode cX1_add 80 = .ok (.aload_n 3, 1) := by decide +kernel
theorem dX1_add_81 : decode cX1_add 81 = .ok (.getfield 30, 3) := by decide +kernel
theorem dX1_add_84 : decode cX1_add 84 = .ok (.iconst 0, 1) := by decide +kernel
theorem dX1_add_85 : decode cX1_add 85 = .ok (.iaload, 1) := by decide +kernel
theorem dX1_add_86 : decode cX1_add 86 = .ok (.iastore, 1) := by decide +kernel
theorem dX1_add_87 : decode cX1_add 87 = .ok (.aload_n 3, 1) := by decide +kernel
theorem dX1_add_88 : decode cX1_add 88 = .ok (.getfield 33, 3) := by decide +kernel
theorem dX1_add_91 : decode cX1_add 91 = .ok (.iconst 0, 1) := by decide +kernel
theorem dX1_add_92 : decode cX1_add 92 = .ok (.aload_n 0, 1) := by decide +kernel
theorem dX1_add_93 : decode cX1_add 93 = .ok (.getfield 11, 3) := by decide +kernel
theorem dX1_add_96 : decode cX1_add 96 = .ok (.iload 4, 2) := by decide +kernel
theorem dX1_add_98 : decode cX1_add 98 = .ok (.bipush 6, 2) := by decide +kernel
theorem dX1_add_100 : decode cX1_add 100 = .ok (.iadd, 1) := by decide +kernel
theorem dX1_add_101 : decode cX1_add 101 = .ok (.bipush 6, 2) := by decide +kernel
theorem dX1_add_103 : decode cX1_add 103 = .ok (.invokestatic 36, 3) := by decide +kernel
theorem dX1_add_106 : decode cX1_add 106 = .ok (.aload_n 0, 1) := by decide +kernel
theorem dX1_add_107 : decode cX1_add 107 = .ok (.aload_n 0, 1) := by decide +kernel
theorem dX1_add_108 : decode cX1_add 108 = .ok (.getfield 15, 3) := by decide +kernel
theorem dX1_add_111 : decode cX1_add 111 = .ok (.iconst 1, 1) := by decide +kernel
theorem dX1_add_112 : decode cX1_add 112 = .ok (.iadd, 1) := by decide +kernel
theorem dX1_add_113 : decode cX1_add 113 = .ok (.bipush 16, 2) := by decide +kernel
theorem dX1_add_115 : decode cX1_add 115 = .ok (.irem, 1) := by decide +kernel
theorem dX1_add_116 : decode cX1_add 116 = .ok (.putfield 15, 3) := by decide +kernel
theorem dX1_add_119 : decode cX1_add 119 = .ok (.aload_n 0, 1) := by decide +kernel
theorem dX1_add_120 : decode cX1_add 120 = .ok (.bipush 16, 2) := by decide +kernel
theorem dX1_add_122 : decode cX1_add 122 = .ok (.aload_n 0, 1) := by decide +kernel
theorem dX1_add_123 : decode cX1_add 123 = .ok (.getfield 42, 3) := by decide +kernel
theorem dX1_add_126 : decode cX1_add 126 = .ok (.iconst 1, 1) := by decide +kernel
theorem dX1_add_127 : decode cX1_add 127 = .ok (.iadd, 1) := by decide +kernel
theorem dX1_add_128 : decode cX1_add 128 = .ok (.invokestatic 45, 3) := by decide +kernel
theorem dX1_add_131 : decode cX1_add 131 = .ok (.putfield 42, 3) := by decide +kernel
theorem dX1_add_134 : decode cX1_add 134 = .ok (.return_, 1) := by decide +kernel
theorem ydf1_add : ph_yd yX1_add 3 := ⟨by decide, by decide, by decide +kernel⟩
def f1_add (S : ph_Sh) (M : ph_Mem) (c : Nat) (p0 : Int32) (p1 : Int32) (p2 : Nat) : Option ph_Mem :=
  ph_let ((M.1 c 1) * (12 : Int32)) fun z1 => cond (ph_ib z1 192) (ph_let (ph_wi M (c + 1) z1.toNatClampNeg p0) fun M2 => cond (ph_ib (z1 + (1 : Int32)) 192) (ph_let (ph_wi M2 (c + 1) (z1 + (1 : Int32)).toNatClampNeg p1) fun M3 => cond (ph_ib p1 72) (cond (ph_ib (z1 + (2 : Int32)) 192) (ph_let (ph_wi M3 (c + 1) (z1 + (2 : Int32)).toNatClampNeg (M3.1 (p2 + 5) p1.toNatClampNeg)) fun M4 => cond (ph_ib p1 72) (cond (ph_ib (z1 + (3 : Int32)) 192) (ph_let (ph_wi M4 (c + 1) (z1 + (3 : Int32)).toNatClampNeg (M4.1 (p2 + 6) p1.toNatClampNeg)) fun M5 => cond (ph_ib p1 72) (cond (ph_ib (z1 + (4 : Int32)) 192) (ph_let (ph_wi M5 (c + 1) (z1 + (4 : Int32)).toNatClampNeg (M5.1 (p2 + 7) p1.toNatClampNeg)) fun M6 => cond (ph_ib (z1 + (5 : Int32)) 192) (ph_let (ph_wi M6 (c + 1) (z1 + (5 : Int32)).toNatClampNeg (M6.1 (p2 + 10) 0)) fun M7 => cond (ph_cpk (0 : Int32) (z1 + (6 : Int32)) (6 : Int32) 6 192) (ph_let (ph_cp M7 (p2 + 1) (0 : Int32).toNatClampNeg (c + 1) (z1 + (6 : Int32)).toNatClampNeg (6 : Int32).toNatClampNeg) fun M8 => ph_let (ph_wi M8 c 1 (((M8.1 c 1) + (1 : Int32)) - ((M8.1 c 1) + (1 : Int32)) / (16 : Int32) * (16 : Int32))) fun M9 => (f9_min_7cf53 S M9 (16 : Int32) ((M9.1 c 2) + (1 : Int32))).bind fun q10 => ph_let (ph_wi M9 c 2 q10) fun M11 => some M11) none) none) none) none) none) none) none) none) none) none
set_option maxHeartbeats 4000000 in
theorem cf1_add {tb adK adV : Nat → Nat} {S : ph_Sh} {c : Nat} {p2 : Nat} {l : Launch} {D : va_G} {cA : Nat → ClassId} {ad : Nat → Nat} (hinj : ∀ i j, i < S.2 → j < S.2 → ad i = ad j → i = j) (hS : ph_SX S) (hc : ph_isL c) (hp2 : ph_isS p2) {M : ph_Mem} {p0 : Int32} {p1 : Int32} {M' : ph_Mem} (hf : f1_add S M c p0 p1 p2 = some M') : ph_C (ph_ZX tb adK adV) l 1 yX1_add cX1_add 5 none D cA S.1 S.2 ad [.ref (ad c), .int p0, .int p1, .ref (ad p2)] M none M' := by
  refine ph_mk ph_ZX_ok hinj (by decide) (Nat.le_of_ble_eq_true rfl) fun X h fin hE => ?_
  refine (?_ : ph_J X S.1 S.2 ad (M' : ph_Mem) 0 [(0, .ref (ad c)), (1, .int p0), (2, .int p1), (3, .ref (ad p2))] [] M (f1_add S M c p0 p1 p2)) hf
  unfold f1_add
  refine j_aload_n h dX1_add_0 rfl 0 rfl ?_
  refine j_get (c := c) (j := 1) (v := .int (M.1 c 1)) h (ph_L0n hS hc) (ph_L0 hS hc) rfl ph_inX1 rfl (by decide) tw_149 rfl rfl dX1_add_1 ?_
  refine j_bipush (v := (12 : Int32)) h dX1_add_4 (by decide) ?_
  refine j_imul h dX1_add_6 ?_
  refine j_istore h [(4, .int ((M.1 c 1) * (12 : Int32))), (0, .ref (ad c)), (1, .int p0), (2, .int p1), (3, .ref (ad p2))] dX1_add_7 (by decide) rfl ?_
  refine j_letI (lvf := fun z1 => [(4, .int z1), (0, .ref (ad c)), (1, .int p0), (2, .int p1), (3, .ref (ad p2))]) (fun z1 => ?_)
  refine j_aload_n h dX1_add_9 rfl 1 rfl ?_
  refine j_get (c := c) (j := 0) (v := .ref (ad (c + 1))) h (ph_L0n hS hc) (ph_L0 hS hc) rfl ph_inX1 rfl (by decide) tw_148 rfl rfl dX1_add_10 ?_
  refine j_iload h dX1_add_13 0 rfl ?_
  refine j_iload_n h dX1_add_15 rfl 2 rfl ?_
  refine j_iast (c := (c + 1)) (n := 192) h (ph_L1n hS hc) (ph_L1 hS hc) dX1_add_16 ?_
  refine j_letM (fun M2 => ?_)
  refine j_aload_n h dX1_add_17 rfl 1 rfl ?_
  refine j_get (c := c) (j := 0) (v := .ref (ad (c + 1))) h (ph_L0n hS hc) (ph_L0 hS hc) rfl ph_inX1 rfl (by decide) tw_148 rfl rfl dX1_add_18 ?_
  refine j_iload h dX1_add_21 0 rfl ?_
  refine j_iconst (v := (1 : Int32)) h dX1_add_23 (by decide) ?_
  refine j_iadd h dX1_add_24 ?_
  refine j_iload_n h dX1_add_25 rfl 3 rfl ?_
  refine j_iast (c := (c + 1)) (n := 192) h (ph_L1n hS hc) (ph_L1 hS hc) dX1_add_26 ?_
  refine j_letM (fun M3 => ?_)
  refine j_aload_n h dX1_add_27 rfl 1 rfl ?_
  refine j_get (c := c) (j := 0) (v := .ref (ad (c + 1))) h (ph_L0n hS hc) (ph_L0 hS hc) rfl ph_inX1 rfl (by decide) tw_148 rfl rfl dX1_add_28 ?_
  refine j_iload h dX1_add_31 0 rfl ?_
  refine j_iconst (v := (2 : Int32)) h dX1_add_33 (by decide) ?_
  refine j_iadd h dX1_add_34 ?_
  refine j_aload_n h dX1_add_35 rfl 4 rfl ?_
  refine j_get (c := p2) (j := 6) (v := .ref (ad (p2 + 5))) h (ph_S0n hS hp2) (ph_S0 hS hp2) rfl ph_inX9 rfl (by decide) tw_85 rfl rfl dX1_add_36 ?_
  refine j_iload_n h dX1_add_39 rfl 3 rfl ?_
  refine j_iald (c := (p2 + 5)) (n := 72) h (ph_S5n hS hp2) (ph_S5 hS hp2) dX1_add_40 ?_
  refine j_iast (c := (c + 1)) (n := 192) h (ph_L1n hS hc) (ph_L1 hS hc) dX1_add_41 ?_
  refine j_letM (fun M4 => ?_)
  refine j_aload_n h dX1_add_42 rfl 1 rfl ?_
  refine j_get (c := c) (j := 0) (v := .ref (ad (c + 1))) h (ph_L0n hS hc) (ph_L0 hS hc) rfl ph_inX1 rfl (by decide) tw_148 rfl rfl dX1_add_43 ?_
  refine j_iload h dX1_add_46 0 rfl ?_
  refine j_iconst (v := (3 : Int32)) h dX1_add_48 (by decide) ?_
  refine j_iadd h dX1_add_49 ?_
  refine j_aload_n h dX1_add_50 rfl 4 rfl ?_
  refine j_get (c := p2) (j := 7) (v := .ref (ad (p2 + 6))) h (ph_S0n hS hp2) (ph_S0 hS hp2) rfl ph_inX9 rfl (by decide) tw_88 rfl rfl dX1_add_51 ?_
  refine j_iload_n h dX1_add_54 rfl 3 rfl ?_
  refine j_iald (c := (p2 + 6)) (n := 72) h (ph_S6n hS hp2) (ph_S6 hS hp2) dX1_add_55 ?_
  refine j_iast (c := (c + 1)) (n := 192) h (ph_L1n hS hc) (ph_L1 hS hc) dX1_add_56 ?_
  refine j_letM (fun M5 => ?_)
  refine j_aload_n h dX1_add_57 rfl 1 rfl ?_
  refine j_get (c := c) (j := 0) (v := .ref (ad (c + 1))) h (ph_L0n hS hc) (ph_L0 hS hc) rfl ph_inX1 rfl (by decide) tw_148 rfl rfl dX1_add_58 ?_
  refine j_iload h dX1_add_61 0 rfl ?_
  refine j_iconst (v := (4 : Int32)) h dX1_add_63 (by decide) ?_
  refine j_iadd h dX1_add_64 ?_
  refine j_aload_n h dX1_add_65 rfl 4 rfl ?_
  refine j_get (c := p2) (j := 8) (v := .ref (ad (p2 + 7))) h (ph_S0n hS hp2) (ph_S0 hS hp2) rfl ph_inX9 rfl (by decide) tw_91 rfl rfl dX1_add_66 ?_
  refine j_iload_n h dX1_add_69 rfl 3 rfl ?_
  refine j_iald (c := (p2 + 7)) (n := 72) h (ph_S7n hS hp2) (ph_S7 hS hp2) dX1_add_70 ?_
  refine j_iast (c := (c + 1)) (n := 192) h (ph_L1n hS hc) (ph_L1 hS hc) dX1_add_71 ?_
  refine j_letM (fun M6 => ?_)
  refine j_aload_n h dX1_add_72 rfl 1 rfl ?_
  refine j_get (c := c) (j := 0) (v := .ref (ad (c + 1))) h (ph_L0n hS hc) (ph_L0 hS hc) rfl ph_inX1 rfl (by decide) tw_148 rfl rfl dX1_add_73 ?_
  refine j_iload h dX1_add_76 0 rfl ?_
  refine j_iconst (v := (5 : Int32)) h dX1_add_78 (by decide) ?_
  refine j_iadd h dX1_add_79 ?_
  refine j_aload_n h dX1_add_80 rfl 4 rfl ?_
  refine j_get (c := p2) (j := 11) (v := .ref (ad (p2 + 10))) h (ph_S0n hS hp2) (ph_S0 hS hp2) rfl ph_inX9 rfl (by decide) tw_101 rfl rfl dX1_add_81 ?_
  refine j_iconst (v := (0 : Int32)) h dX1_add_84 (by decide) ?_
  refine j_ialdK (c := (p2 + 10)) (n := 5) (kn := 0) h (ph_S10n hS hp2) (ph_S10 hS hp2) rfl (by decide) dX1_add_85 ?_
  refine j_iast (c := (c + 1)) (n := 192) h (ph_L1n hS hc) (ph_L1 hS hc) dX1_add_86 ?_
  refine j_letM (fun M7 => ?_)
  refine j_aload_n h dX1_add_87 rfl 4 rfl ?_
  refine j_get (c := p2) (j := 2) (v := .ref (ad (p2 + 1))) h (ph_S0n hS hp2) (ph_S0 hS hp2) rfl ph_inX9 rfl (by decide) tw_71 rfl rfl dX1_add_88 ?_
  refine j_iconst (v := (0 : Int32)) h dX1_add_91 (by decide) ?_
  refine j_aload_n h dX1_add_92 rfl 1 rfl ?_
  refine j_get (c := c) (j := 0) (v := .ref (ad (c + 1))) h (ph_L0n hS hc) (ph_L0 hS hc) rfl ph_inX1 rfl (by decide) tw_148 rfl rfl dX1_add_93 ?_
  refine j_iload h dX1_add_96 0 rfl ?_
  refine j_bipush (v := (6 : Int32)) h dX1_add_98 (by decide) ?_
  refine j_iadd h dX1_add_100 ?_
  refine j_bipush (v := (6 : Int32)) h dX1_add_101 (by decide) ?_
  refine j_copy (a0 := (p2 + 1)) (a1 := (c + 1)) (n0 := 6) (n1 := 192) h (by decide) tw_837 tw_62 tw_61 tw_5 (ph_S1n hS hp2) (ph_S1 hS hp2) (ph_L1n hS hc) (ph_L1 hS hc) (Nat.le_of_ble_eq_true rfl) dX1_add_103 ?_
  refine j_letM (fun M8 => ?_)
  refine j_aload_n h dX1_add_106 rfl 1 rfl ?_
  refine j_aload_n h dX1_add_107 rfl 1 rfl ?_
  refine j_get (c := c) (j := 1) (v := .int (M8.1 c 1)) h (ph_L0n hS hc) (ph_L0 hS hc) rfl ph_inX1 rfl (by decide) tw_149 rfl rfl dX1_add_108 ?_
  refine j_iconst (v := (1 : Int32)) h dX1_add_111 (by decide) ?_
  refine j_iadd h dX1_add_112 ?_
  refine j_bipush (v := (16 : Int32)) h dX1_add_113 (by decide) ?_
  refine j_iremK h dX1_add_115 (by decide) ?_
  refine j_puti (c := c) (j := 1) (ty := .int) h (ph_L0n hS hc) (ph_L0 hS hc) rfl ph_inX1 tyX1 tyX1_ok nmX1 rfl (by decide) tw_149 rfl rfl (tyX1_ok 1 (by decide)) rfl rfl dX1_add_116 ?_
  refine j_letM (fun M9 => ?_)
  refine j_aload_n h dX1_add_119 rfl 1 rfl ?_
  refine j_bipush (v := (16 : Int32)) h dX1_add_120 (by decide) ?_
  refine j_aload_n h dX1_add_122 rfl 1 rfl ?_
  refine j_get (c := c) (j := 2) (v := .int (M9.1 c 2)) h (ph_L0n hS hc) (ph_L0 hS hc) rfl ph_inX1 rfl (by decide) tw_150 rfl rfl dX1_add_123 ?_
  refine j_iconst (v := (1 : Int32)) h dX1_add_126 (by decide) ?_
  refine j_iadd h dX1_add_127 ?_
  refine j_callSiP (n := 2) (As := [.int (16 : Int32), .int ((M9.1 c 2) + (1 : Int32))]) (rest := [.ref (ad c)]) h tw_869 tw_508 tw_16 tw_509 ydf9_min_7cf53 (by decide) (by decide) (fun q hq => cf9_min_7cf53 (ph_okI h) trivial hq) rfl (Nat.le_of_ble_eq_true rfl) rfl dX1_add_128 (fun q10 => ?_)
  refine j_puti (c := c) (j := 2) (ty := .int) h (ph_L0n hS hc) (ph_L0 hS hc) rfl ph_inX1 tyX1 tyX1_ok nmX1 rfl (by decide) tw_150 rfl rfl (tyX1_ok 2 (by decide)) rfl rfl dX1_add_131 ?_
  refine j_letM (fun M11 => ?_)
  exact j_vret h rfl fin dX1_add_134
theorem dX9_setState_0 : decode cX9_setState 0 = .ok (.aload_n 0, 1) := by decide +kernel
theorem dX9_setState_1 : decode cX9_setState 1 = .ok (.getfield 24, 3) := by decide +kernel
theorem dX9_setState_4 : decode cX9_setState 4 = .ok (.iload_n 1, 1) := by decide +kernel
theorem dX9_setState_5 : decode cX9_setState 5 = .ok (.iload_n 2, 1) := by decide +kernel
theorem dX9_setState_6 : decode cX9_setState 6 = .ok (.iastore, 1) := by decide +kernel
theorem dX9_setState_7 : decode cX9_setState 7 = .ok (.aload_n 0, 1) := by decide +kernel
theorem dX9_setState_8 : decode cX9_setState 8 = .ok (.getfield 27, 3) := by decide +kernel
theorem dX9_setState_11 : decode cX9_setState 11 = .ok (.iload_n 1, 1) := by decide +kernel
theorem dX9_setState_12 : decode cX9_setState 12 = .ok (.iload_n 3, 1) := by decide +kernel
theorem dX9_setState_13 : decode cX9_setState 13 = .ok (.iastore, 1) := by decide +kernel
theorem dX9_setState_14 : decode cX9_setState 14 = .ok (.aload_n 0, 1) := by decide +kernel
theorem dX9_setState_15 : decode cX9_setState 15 = .ok (.getfield 30, 3) := by decide +kernel
theorem dX9_setState_18 : decode cX9_setState 18 = .ok (.iload_n 1, 1) := by decide +kernel
theorem dX9_setState_19 : decode cX9_setState 19 = .ok (.iload 4, 2) := by decide +kernel
theorem dX9_setState_21 : decode cX9_setState 21 = .ok (.iastore, 1) := by decide +kernel
theorem dX9_setState_22 : decode cX9_setState 22 = .ok (.return_, 1) := by decide +kernel
theorem ydf9_setState : ph_yd yX9_setState 4 := ⟨by decide, by decide, by decide +kernel⟩
def f9_setState (S : ph_Sh) (M : ph_Mem) (c : Nat) (p0 : Int32) (p1 : Int32) (p2 : Int32) (p3 : Int32) : Option ph_Mem :=
  cond (ph_ib p0 72) (ph_let (ph_wi M (c + 5) p0.toNatClampNeg p1) fun M1 => cond (ph_ib p0 72) (ph_let (ph_wi M1 (c + 6) p0.toNatClampNeg p2) fun M2 => cond (ph_ib p0 72) (ph_let (ph_wi M2 (c + 7) p0.toNatClampNeg p3) fun M3 => some M3) none) none) none
set_option maxHeartbeats 4000000 in
theorem cf9_setState {tb adK adV : Nat → Nat} {S : ph_Sh} {c : Nat} {l : Launch} {D : va_G} {cA : Nat → ClassId} {ad : Nat → Nat} (hinj : ∀ i j, i < S.2 → j < S.2 → ad i = ad j → i = j) (hS : ph_SX S) (hc : ph_isS c) {M : ph_Mem} {p0 : Int32} {p1 : Int32} {p2 : Int32} {p3 : Int32} {M' : ph_Mem} (hf : f9_setState S M c p0 p1 p2 p3 = some M') : ph_C (ph_ZX tb adK adV) l 0 yX9_setState cX9_setState 5 none D cA S.1 S.2 ad [.ref (ad c), .int p0, .int p1, .int p2, .int p3] M none M' := by
  refine ph_mk ph_ZX_ok hinj (by decide) (Nat.le_of_ble_eq_true rfl) fun X h fin hE => ?_
  refine (?_ : ph_J X S.1 S.2 ad (M' : ph_Mem) 0 [(0, .ref (ad c)), (1, .int p0), (2, .int p1), (3, .int p2), (4, .int p3)] [] M (f9_setState S M c p0 p1 p2 p3)) hf
  unfold f9_setState
  refine j_aload_n h dX9_setState_0 rfl 0 rfl ?_
  refine j_get (c := c) (j := 6) (v := .ref (ad (c + 5))) h (ph_S0n hS hc) (ph_S0 hS hc) rfl ph_inX9 rfl (by decide) tw_84 rfl rfl dX9_setState_1 ?_
  refine j_iload_n h dX9_setState_4 rfl 1 rfl ?_
  refine j_iload_n h dX9_setState_5 rfl 2 rfl ?_
  refine j_iast (c := (c + 5)) (n := 72) h (ph_S5n hS hc) (ph_S5 hS hc) dX9_setState_6 ?_
  refine j_letM (fun M1 => ?_)
  refine j_aload_n h dX9_setState_7 rfl 0 rfl ?_
  refine j_get (c := c) (j := 7) (v := .ref (ad (c + 6))) h (ph_S0n hS hc) (ph_S0 hS hc) rfl ph_inX9 rfl (by decide) tw_87 rfl rfl dX9_setState_8 ?_
  refine j_iload_n h dX9_setState_11 rfl 1 rfl ?_
  refine j_iload_n h dX9_setState_12 rfl 3 rfl ?_
  refine j_iast (c := (c + 6)) (n := 72) h (ph_S6n hS hc) (ph_S6 hS hc) dX9_setState_13 ?_
  refine j_letM (fun M2 => ?_)
  refine j_aload_n h dX9_setState_14 rfl 0 rfl ?_
  refine j_get (c := c) (j := 8) (v := .ref (ad (c + 7))) h (ph_S0n hS hc) (ph_S0 hS hc) rfl ph_inX9 rfl (by decide) tw_90 rfl rfl dX9_setState_15 ?_
  refine j_iload_n h dX9_setState_18 rfl 1 rfl ?_
  refine j_iload h dX9_setState_19 4 rfl ?_
  refine j_iast (c := (c + 7)) (n := 72) h (ph_S7n hS hc) (ph_S7 hS hc) dX9_setState_21 ?_
  refine j_letM (fun M3 => ?_)
  exact j_vret h rfl fin dX9_setState_22
theorem dX1_takeBack_0 : decode cX1_takeBack 0 = .ok (.aload_n 0, 1) := by decide +kernel
theorem dX1_takeBack_1 : decode cX1_takeBack 1 = .ok (.getfield 42, 3) := by decide +kernel
theorem dX1_takeBack_4 : decode cX1_takeBack 4 = .ok (.ifCond .ne 6, 3) := by decide +kernel
theorem dX1_takeBack_7 : decode cX1_takeBack 7 = .ok (.bipush (-3), 2) := by decide +kernel
theorem dX1_takeBack_9 : decode cX1_takeBack 9 = .ok (.ireturn, 1) := by decide +kernel
theorem dX1_takeBack_10 : decode cX1_takeBack 10 = .ok (.aload_n 0, 1) := by decide +kernel
theorem dX1_takeBack_11 : decode cX1_takeBack 11 = .ok (.dup, 1) := by decide +kernel
theorem dX1_takeBack_12 : decode cX1_takeBack 12 = .ok (.getfield 42, 3) := by decide +kernel
theorem dX1_takeBack_15 : decode cX1_takeBack 15 = .ok (.iconst 1, 1) := by decide +kernel
theorem dX1_takeBack_16 : decode cX1_takeBack 16 = .ok (.isub, 1) := by decide +kernel
theorem dX1_takeBack_17 : decode cX1_takeBack 17 = .ok (.putfield 42, 3) := by decide +kernel
theorem dX1_takeBack_20 : decode cX1_takeBack 20 = .ok (.aload_n 0, 1) := by decide +kernel
theorem dX1_takeBack_21 : decode cX1_takeBack 21 = .ok (.aload_n 0, 1) := by decide +kernel
theorem dX1_takeBack_22 : decode cX1_takeBack 22 = .ok (.getfield 15, 3) := by decide +kernel
theorem dX1_takeBack_25 : decode cX1_takeBack 25 = .ok (.bipush 16, 2) := by decide +kernel
theorem dX1_takeBack_27 : decode cX1_takeBack 27 = .ok (.iadd, 1) := by decide +kernel
theorem dX1_takeBack_28 : decode cX1_takeBack 28 = .ok (.iconst 1, 1) := by decide +kernel
theorem dX1_takeBack_29 : decode cX1_takeBack 29 = .ok (.isub, 1) := by decide +kernel
theorem dX1_takeBack_30 : decode cX1_takeBack 30 = .ok (.bipush 16, 2) := by decide +kernel
theorem dX1_takeBack_32 : decode cX1_takeBack 32 = .ok (.irem, 1) := by decide +kernel
theorem dX1_takeBack_33 : decode cX1_takeBack 33 = .ok (.putfield 15, 3) := by decide +kernel
theorem dX1_takeBack_36 : decode cX1_takeBack 36 = .ok (.aload_n 0, 1) := by decide +kernel
theorem dX1_takeBack_37 : decode cX1_takeBack 37 = .ok (.getfield 15, 3) := by decide +kernel
theorem dX1_takeBack_40 : decode cX1_takeBack 40 = .ok (.bipush 12, 2) := by decide +kernel
theorem dX1_takeBack_42 : decode cX1_takeBack 42 = .ok (.imul, 1) := by decide +kernel
theorem dX1_takeBack_43 : decode cX1_takeBack 43 = .ok (.istore_n 2, 1) := by decide +kernel
theorem dX1_takeBack_44 : decode cX1_takeBack 44 = .ok (.aload_n 1, 1) := by decide +kernel
theorem dX1_takeBack_45 : decode cX1_takeBack 45 = .ok (.aload_n 0, 1) := by decide +kernel
theorem dX1_takeBack_46 : decode cX1_takeBack 46 = .ok (.getfield 11, 3) := by decide +kernel
theorem dX1_takeBack_49 : decode cX1_takeBack 49 = .ok (.iload_n 2, 1) := by decide +kernel
theorem dX1_takeBack_50 : decode cX1_takeBack 50 = .ok (.iconst 1, 1) := by decide +kernel
theorem dX1_takeBack_51 : decode cX1_takeBack 51 = .ok (.iadd, 1) := by decide +kernel
theorem dX1_takeBack_52 : decode cX1_takeBack 52 = .ok (.iaload, 1) := by decide +kernel
theorem dX1_takeBack_53 : decode cX1_takeBack 53 = .ok (.aload_n 0, 1) := by decide +kernel
theorem dX1_takeBack_54 : decode cX1_takeBack 54 = .ok (.getfield 11, 3) := by decide +kernel
theorem dX1_takeBack_57 : decode cX1_takeBack 57 = .ok (.iload_n 2, 1) := by decide +kernel
theorem dX1_takeBack_58 : decode cX1_takeBack 58 = .ok (.iconst 2, 1) := by decide +kernel
theorem dX1_takeBack_59 : decode cX1_takeBack 59 = .ok (.iadd, 1) := by decide +kernel
theorem dX1_takeBack_60 : decode cX1_takeBack 60 = .ok (.iaload, 1) := by decide +kernel
theorem dX1_takeBack_61 : decode cX1_takeBack 61 = .ok (.aload_n 0, 1) := by decide +kernel
theorem dX1_takeBack_62 : decode cX1_takeBack 62 = .ok (.getfield 11, 3) := by decide +kernel
theorem dX1_takeBack_65 : decode cX1_takeBack 65 = .ok (.iload_n 2, 1) := by decide +kernel
theorem dX1_takeBack_66 : decode cX1_takeBack 66 = .ok (.iconst 3, 1) := by decide +kernel
theorem dX1_takeBack_67 : decode cX1_takeBack 67 = .ok (.iadd, 1) := by decide +kernel
theorem dX1_takeBack_68 : decode cX1_takeBack 68 = .ok (.iaload, 1) := by decide +kernel
theorem dX1_takeBack_69 : decode cX1_takeBack 69 = .ok (.aload_n 0, 1) := by decide +kernel
theorem dX1_takeBack_70 : decode cX1_takeBack 70 = .ok (.getfield 11, 3) := by decide +kernel
theorem dX1_takeBack_73 : decode cX1_takeBack 73 = .ok (.iload_n 2, 1) := by decide +kernel
theorem dX1_takeBack_74 : decode cX1_takeBack 74 = .ok (.iconst 4, 1) := by decide +kernel
theorem dX1_takeBack_75 : decode cX1_takeBack 75 = .ok (.iadd, 1) := by decide +kernel
theorem dX1_takeBack_76 : decode cX1_takeBack 76 = .ok (.iaload, 1) := by decide +kernel
theorem dX1_takeBack_77 : decode cX1_takeBack 77 = .ok (.invokevirtual 51, 3) := by decide +kernel
theorem dX1_takeBack_80 : decode cX1_takeBack 80 = .ok (.aload_n 1, 1) := by decide +kernel
theorem dX1_takeBack_81 : decode cX1_takeBack 81 = .ok (.getfield 30, 3) := by decide +kernel
theorem dX1_takeBack_84 : decode cX1_takeBack 84 = .ok (.iconst 0, 1) := by decide +kernel
theorem dX1_takeBack_85 : decode cX1_takeBack 85 = .ok (.aload_n 0, 1) := by decide +kernel
theorem dX1_takeBack_86 : decode cX1_takeBack 86 = .ok (.getfield 11, 3) := by decide +kernel
theorem dX1_takeBack_89 : decode cX1_takeBack 89 = .ok (.iload_n 2, 1) := by decide +kernel
theorem dX1_takeBack_90 : decode cX1_takeBack 90 = .ok (.iconst 5, 1) := by decide +kernel
theorem dX1_takeBack_91 : decode cX1_takeBack 91 = .ok (.iadd, 1) := by decide +kernel
theorem dX1_takeBack_92 : decode cX1_takeBack 92 = .ok (.iaload, 1) := by decide +kernel
theorem dX1_takeBack_93 : decode cX1_takeBack 93 = .ok (.iastore, 1) := by decide +kernel
theorem dX1_takeBack_94 : decode cX1_takeBack 94 = .ok (.aload_n 0, 1) := by decide +kernel
theorem dX1_takeBack_95 : decode cX1_takeBack 95 = .ok (.getfield 11, 3) := by decide +kernel
theorem dX1_takeBack_98 : decode cX1_takeBack 98 = .ok (.iload_n 2, 1) := by decide +kernel
theorem dX1_takeBack_99 : decode cX1_takeBack 99 = .ok (.bipush 6, 2) := by decide +kernel
theorem dX1_takeBack_101 : decode cX1_takeBack 101 = .ok (.iadd, 1) := by decide +kernel
theorem dX1_takeBack_102 : decode cX1_takeBack 102 = .ok (.aload_n 1, 1) := by decide +kernel
theorem dX1_takeBack_103 : decode cX1_takeBack 103 = .ok (.getfield 33, 3) := by decide +kernel
theorem dX1_takeBack_106 : decode cX1_takeBack 106 = .ok (.iconst 0, 1) := by decide +kernel
theorem dX1_takeBack_107 : decode cX1_takeBack 107 = .ok (.bipush 6, 2) := by decide +kernel
theorem dX1_takeBack_109 : decode cX1_takeBack 109 = .ok (.invokestatic 36, 3) := by decide +kernel
theorem dX1_takeBack_112 : decode cX1_takeBack 112 = .ok (.aload_n 0, 1) := by decide +kernel
theorem dX1_takeBack_113 : decode cX1_takeBack 113 = .ok (.getfield 11, 3) := by decide +kernel
theorem dX1_takeBack_116 : decode cX1_takeBack 116 = .ok (.iload_n 2, 1) := by decide +kernel
theorem dX1_takeBack_117 : decode cX1_takeBack 117 = .ok (.iaload, 1) := by decide +kernel
theorem dX1_takeBack_118 : decode cX1_takeBack 118 = .ok (.ireturn, 1) := by decide +kernel
theorem ydf1_takeBack : ph_yd yX1_takeBack 1 := ⟨by decide, by decide, by decide +kernel⟩
def f1_takeBack (S : ph_Sh) (M : ph_Mem) (c : Nat) (p0 : Nat) : Option (Int32 × ph_Mem) :=
  if (M.1 c 2) = 0 then (some ((-3 : Int32), M)) else (ph_let (ph_wi M c 2 ((M.1 c 2) - (1 : Int32))) fun M1 => ph_let (ph_wi M1 c 1 ((((M1.1 c 1) + (16 : Int32)) - (1 : Int32)) - (((M1.1 c 1) + (16 : Int32)) - (1 : Int32)) / (16 : Int32) * (16 : Int32))) fun M2 => ph_let ((M2.1 c 1) * (12 : Int32)) fun z3 => cond (ph_ib (z3 + (1 : Int32)) 192) (cond (ph_ib (z3 + (2 : Int32)) 192) (cond (ph_ib (z3 + (3 : Int32)) 192) (cond (ph_ib (z3 + (4 : Int32)) 192) ((f9_setState S M2 p0 (M2.1 (c + 1) (z3 + (1 : Int32)).toNatClampNeg) (M2.1 (c + 1) (z3 + (2 : Int32)).toNatClampNeg) (M2.1 (c + 1) (z3 + (3 : Int32)).toNatClampNeg) (M2.1 (c + 1) (z3 + (4 : Int32)).toNatClampNeg)).bind fun q4 => cond (ph_ib (z3 + (5 : Int32)) 192) (ph_let (ph_wi q4 (p0 + 10) 0 (q4.1 (c + 1) (z3 + (5 : Int32)).toNatClampNeg)) fun M5 => cond (ph_cpk (z3 + (6 : Int32)) (0 : Int32) (6 : Int32) 192 6) (ph_let (ph_cp M5 (c + 1) (z3 + (6 : Int32)).toNatClampNeg (p0 + 1) (0 : Int32).toNatClampNeg (6 : Int32).toNatClampNeg) fun M6 => cond (ph_ib z3 192) (some ((M6.1 (c + 1) z3.toNatClampNeg), M6)) none) none) none) none) none) none) none)
set_option maxHeartbeats 4000000 in
theorem cf1_takeBack {tb adK adV : Nat → Nat} {S : ph_Sh} {c : Nat} {p0 : Nat} {l : Launch} {D : va_G} {cA : Nat → ClassId} {ad : Nat → Nat} (hinj : ∀ i j, i < S.2 → j < S.2 → ad i = ad j → i = j) (hS : ph_SX S) (hc : ph_isL c) (hp0 : ph_isS p0) {M : ph_Mem} {r : Int32} {M' : ph_Mem} (hf : f1_takeBack S M c p0 = some (r, M')) : ph_C (ph_ZX tb adK adV) l 1 yX1_takeBack cX1_takeBack 3 (some .int) D cA S.1 S.2 ad [.ref (ad c), .ref (ad p0)] M (some (.int r)) M' := by
  refine ph_mk ph_ZX_ok hinj (by decide) (Nat.le_of_ble_eq_true rfl) fun X h fin hE => ?_
  refine (?_ : ph_J X S.1 S.2 ad ((r, M') : (Int32 × ph_Mem)) 0 [(0, .ref (ad c)), (1, .ref (ad p0))] [] M (f1_takeBack S M c p0)) hf
  unfold f1_takeBack
  refine j_aload_n h dX1_takeBack_0 rfl 0 rfl ?_
  refine j_get (c := c) (j := 2) (v := .int (M.1 c 2)) h (ph_L0n hS hc) (ph_L0 hS hc) rfl ph_inX1 rfl (by decide) tw_150 rfl rfl dX1_takeBack_1 ?_
  refine j_if_ne h 10 dX1_takeBack_4 (by decide) ?_ ?_
  · refine j_aload_n h dX1_takeBack_10 rfl 0 rfl ?_
    refine j_dup h dX1_takeBack_11 rfl ?_
    refine j_get (c := c) (j := 2) (v := .int (M.1 c 2)) h (ph_L0n hS hc) (ph_L0 hS hc) rfl ph_inX1 rfl (by decide) tw_150 rfl rfl dX1_takeBack_12 ?_
    refine j_iconst (v := (1 : Int32)) h dX1_takeBack_15 (by decide) ?_
    refine j_isub h dX1_takeBack_16 ?_
    refine j_puti (c := c) (j := 2) (ty := .int) h (ph_L0n hS hc) (ph_L0 hS hc) rfl ph_inX1 tyX1 tyX1_ok nmX1 rfl (by decide) tw_150 rfl rfl (tyX1_ok 2 (by decide)) rfl rfl dX1_takeBack_17 ?_
    refine j_letM (fun M1 => ?_)
    refine j_aload_n h dX1_takeBack_20 rfl 0 rfl ?_
    refine j_aload_n h dX1_takeBack_21 rfl 0 rfl ?_
    refine j_get (c := c) (j := 1) (v := .int (M1.1 c 1)) h (ph_L0n hS hc) (ph_L0 hS hc) rfl ph_inX1 rfl (by decide) tw_149 rfl rfl dX1_takeBack_22 ?_
    refine j_bipush (v := (16 : Int32)) h dX1_takeBack_25 (by decide) ?_
    refine j_iadd h dX1_takeBack_27 ?_
    refine j_iconst (v := (1 : Int32)) h dX1_takeBack_28 (by decide) ?_
    refine j_isub h dX1_takeBack_29 ?_
    refine j_bipush (v := (16 : Int32)) h dX1_takeBack_30 (by decide) ?_
    refine j_iremK h dX1_takeBack_32 (by decide) ?_
    refine j_puti (c := c) (j := 1) (ty := .int) h (ph_L0n hS hc) (ph_L0 hS hc) rfl ph_inX1 tyX1 tyX1_ok nmX1 rfl (by decide) tw_149 rfl rfl (tyX1_ok 1 (by decide)) rfl rfl dX1_takeBack_33 ?_
    refine j_letM (fun M2 => ?_)
    refine j_aload_n h dX1_takeBack_36 rfl 0 rfl ?_
    refine j_get (c := c) (j := 1) (v := .int (M2.1 c 1)) h (ph_L0n hS hc) (ph_L0 hS hc) rfl ph_inX1 rfl (by decide) tw_149 rfl rfl dX1_takeBack_37 ?_
    refine j_bipush (v := (12 : Int32)) h dX1_takeBack_40 (by decide) ?_
    refine j_imul h dX1_takeBack_42 ?_
    refine j_istore_n h [(2, .int ((M2.1 c 1) * (12 : Int32))), (0, .ref (ad c)), (1, .ref (ad p0))] dX1_takeBack_43 rfl (by decide) rfl ?_
    refine j_letI (lvf := fun z3 => [(2, .int z3), (0, .ref (ad c)), (1, .ref (ad p0))]) (fun z3 => ?_)
    refine j_aload_n h dX1_takeBack_44 rfl 2 rfl ?_
    refine j_aload_n h dX1_takeBack_45 rfl 1 rfl ?_
    refine j_get (c := c) (j := 0) (v := .ref (ad (c + 1))) h (ph_L0n hS hc) (ph_L0 hS hc) rfl ph_inX1 rfl (by decide) tw_148 rfl rfl dX1_takeBack_46 ?_
    refine j_iload_n h dX1_takeBack_49 rfl 0 rfl ?_
    refine j_iconst (v := (1 : Int32)) h dX1_takeBack_50 (by decide) ?_
    refine j_iadd h dX1_takeBack_51 ?_
    refine j_iald (c := (c + 1)) (n := 192) h (ph_L1n hS hc) (ph_L1 hS hc) dX1_takeBack_52 ?_
    refine j_aload_n h dX1_takeBack_53 rfl 1 rfl ?_
    refine j_get (c := c) (j := 0) (v := .ref (ad (c + 1))) h (ph_L0n hS hc) (ph_L0 hS hc) rfl ph_inX1 rfl (by decide) tw_148 rfl rfl dX1_takeBack_54 ?_
    refine j_iload_n h dX1_takeBack_57 rfl 0 rfl ?_
    refine j_iconst (v := (2 : Int32)) h dX1_takeBack_58 (by decide) ?_
    refine j_iadd h dX1_takeBack_59 ?_
    refine j_iald (c := (c + 1)) (n := 192) h (ph_L1n hS hc) (ph_L1 hS hc) dX1_takeBack_60 ?_
    refine j_aload_n h dX1_takeBack_61 rfl 1 rfl ?_
    refine j_get (c := c) (j := 0) (v := .ref (ad (c + 1))) h (ph_L0n hS hc) (ph_L0 hS hc) rfl ph_inX1 rfl (by decide) tw_148 rfl rfl dX1_takeBack_62 ?_
    refine j_iload_n h dX1_takeBack_65 rfl 0 rfl ?_
    refine j_iconst (v := (3 : Int32)) h dX1_takeBack_66 (by decide) ?_
    refine j_iadd h dX1_takeBack_67 ?_
    refine j_iald (c := (c + 1)) (n := 192) h (ph_L1n hS hc) (ph_L1 hS hc) dX1_takeBack_68 ?_
    refine j_aload_n h dX1_takeBack_69 rfl 1 rfl ?_
    refine j_get (c := c) (j := 0) (v := .ref (ad (c + 1))) h (ph_L0n hS hc) (ph_L0 hS hc) rfl ph_inX1 rfl (by decide) tw_148 rfl rfl dX1_takeBack_70 ?_
    refine j_iload_n h dX1_takeBack_73 rfl 0 rfl ?_
    refine j_iconst (v := (4 : Int32)) h dX1_takeBack_74 (by decide) ?_
    refine j_iadd h dX1_takeBack_75 ?_
    refine j_iald (c := (c + 1)) (n := 192) h (ph_L1n hS hc) (ph_L1 hS hc) dX1_takeBack_76 ?_
    refine j_callVv (n := 4) (As := [.int (M2.1 (c + 1) (z3 + (1 : Int32)).toNatClampNeg), .int (M2.1 (c + 1) (z3 + (2 : Int32)).toNatClampNeg), .int (M2.1 (c + 1) (z3 + (3 : Int32)).toNatClampNeg), .int (M2.1 (c + 1) (z3 + (4 : Int32)).toNatClampNeg)]) (rest := []) h p0 tw_934 tw_880 tw_881 tw_3 tw_882 ydf9_setState (by decide) (by decide) (ph_S0n hS hp0) (ph_S0 hS hp0) rfl (fun q hq => cf9_setState (ph_okI h) hS hp0 hq) rfl (Nat.le_of_ble_eq_true rfl) rfl dX1_takeBack_77 (fun q4 => ?_)
    refine j_aload_n h dX1_takeBack_80 rfl 2 rfl ?_
    refine j_get (c := p0) (j := 11) (v := .ref (ad (p0 + 10))) h (ph_S0n hS hp0) (ph_S0 hS hp0) rfl ph_inX9 rfl (by decide) tw_101 rfl rfl dX1_takeBack_81 ?_
    refine j_iconst (v := (0 : Int32)) h dX1_takeBack_84 (by decide) ?_
    refine j_aload_n h dX1_takeBack_85 rfl 1 rfl ?_
    refine j_get (c := c) (j := 0) (v := .ref (ad (c + 1))) h (ph_L0n hS hc) (ph_L0 hS hc) rfl ph_inX1 rfl (by decide) tw_148 rfl rfl dX1_takeBack_86 ?_
    refine j_iload_n h dX1_takeBack_89 rfl 0 rfl ?_
    refine j_iconst (v := (5 : Int32)) h dX1_takeBack_90 (by decide) ?_
    refine j_iadd h dX1_takeBack_91 ?_
    refine j_iald (c := (c + 1)) (n := 192) h (ph_L1n hS hc) (ph_L1 hS hc) dX1_takeBack_92 ?_
    refine j_iastK (c := (p0 + 10)) (n := 5) (kn := 0) h (ph_S10n hS hp0) (ph_S10 hS hp0) rfl (by decide) dX1_takeBack_93 ?_
    refine j_letM (fun M5 => ?_)
    refine j_aload_n h dX1_takeBack_94 rfl 1 rfl ?_
    refine j_get (c := c) (j := 0) (v := .ref (ad (c + 1))) h (ph_L0n hS hc) (ph_L0 hS hc) rfl ph_inX1 rfl (by decide) tw_148 rfl rfl dX1_takeBack_95 ?_
    refine j_iload_n h dX1_takeBack_98 rfl 0 rfl ?_
    refine j_bipush (v := (6 : Int32)) h dX1_takeBack_99 (by decide) ?_
    refine j_iadd h dX1_takeBack_101 ?_
    refine j_aload_n h dX1_takeBack_102 rfl 2 rfl ?_
    refine j_get (c := p0) (j := 2) (v := .ref (ad (p0 + 1))) h (ph_S0n hS hp0) (ph_S0 hS hp0) rfl ph_inX9 rfl (by decide) tw_71 rfl rfl dX1_takeBack_103 ?_
    refine j_iconst (v := (0 : Int32)) h dX1_takeBack_106 (by decide) ?_
    refine j_bipush (v := (6 : Int32)) h dX1_takeBack_107 (by decide) ?_
    refine j_copy (a0 := (c + 1)) (a1 := (p0 + 1)) (n0 := 192) (n1 := 6) h (by decide) tw_837 tw_62 tw_61 tw_5 (ph_L1n hS hc) (ph_L1 hS hc) (ph_S1n hS hp0) (ph_S1 hS hp0) (Nat.le_of_ble_eq_true rfl) dX1_takeBack_109 ?_
    refine j_letM (fun M6 => ?_)
    refine j_aload_n h dX1_takeBack_112 rfl 1 rfl ?_
    refine j_get (c := c) (j := 0) (v := .ref (ad (c + 1))) h (ph_L0n hS hc) (ph_L0 hS hc) rfl ph_inX1 rfl (by decide) tw_148 rfl rfl dX1_takeBack_113 ?_
    refine j_iload_n h dX1_takeBack_116 rfl 0 rfl ?_
    refine j_iald (c := (c + 1)) (n := 192) h (ph_L1n hS hc) (ph_L1 hS hc) dX1_takeBack_117 ?_
    exact j_iret h rfl fin dX1_takeBack_118
  · refine j_bipush (v := (-3 : Int32)) h dX1_takeBack_7 (by decide) ?_
    exact j_iret h rfl fin dX1_takeBack_9
theorem dX1_forget_0 : decode cX1_forget 0 = .ok (.aload_n 0, 1) := by decide +kernel
theorem dX1_forget_1 : decode cX1_forget 1 = .ok (.iconst 0, 1) := by decide +kernel
theorem dX1_forget_2 : decode cX1_forget 2 = .ok (.putfield 42, 3) := by decide +kernel
theorem dX1_forget_5 : decode cX1_forget 5 = .ok (.return_, 1) := by decide +kernel
theorem ydf1_forget : ph_yd yX1_forget 0 := ⟨by decide, by decide, by decide +kernel⟩
def f1_forget (S : ph_Sh) (M : ph_Mem) (c : Nat) : Option ph_Mem :=
  ph_let (ph_wi M c 2 (0 : Int32)) fun M1 => some M1
set_option maxHeartbeats 4000000 in
theorem cf1_forget {tb adK adV : Nat → Nat} {S : ph_Sh} {c : Nat} {l : Launch} {D : va_G} {cA : Nat → ClassId} {ad : Nat → Nat} (hinj : ∀ i j, i < S.2 → j < S.2 → ad i = ad j → i = j) (hS : ph_SX S) (hc : ph_isL c) {M : ph_Mem} {M' : ph_Mem} (hf : f1_forget S M c = some M') : ph_C (ph_ZX tb adK adV) l 0 yX1_forget cX1_forget 1 none D cA S.1 S.2 ad [.ref (ad c)] M none M' := by
  refine ph_mk ph_ZX_ok hinj (by decide) (Nat.le_of_ble_eq_true rfl) fun X h fin hE => ?_
  refine (?_ : ph_J X S.1 S.2 ad (M' : ph_Mem) 0 [(0, .ref (ad c))] [] M (f1_forget S M c)) hf
  unfold f1_forget
  refine j_aload_n h dX1_forget_0 rfl 0 rfl ?_
  refine j_iconst (v := (0 : Int32)) h dX1_forget_1 (by decide) ?_
  refine j_puti (c := c) (j := 2) (ty := .int) h (ph_L0n hS hc) (ph_L0 hS hc) rfl ph_inX1 tyX1 tyX1_ok nmX1 rfl (by decide) tw_150 rfl rfl (tyX1_ok 2 (by decide)) rfl rfl dX1_forget_2 ?_
  refine j_letM (fun M1 => ?_)
  exact j_vret h rfl fin dX1_forget_5
theorem dX1_copyFrom_0 : decode cX1_copyFrom 0 = .ok (.aload_n 1, 1) := by decide +kernel
theorem dX1_copyFrom_1 : decode cX1_copyFrom 1 = .ok (.getfield 11, 3) := by decide +kernel
theorem dX1_copyFrom_4 : decode cX1_copyFrom 4 = .ok (.iconst 0, 1) := by decide +kernel
theorem dX1_copyFrom_5 : decode cX1_copyFrom 5 = .ok (.aload_n 0, 1) := by decide +kernel
theorem dX1_copyFrom_6 : decode cX1_copyFrom 6 = .ok (.getfield 11, 3) := by decide +kernel
theorem dX1_copyFrom_9 : decode cX1_copyFrom 9 = .ok (.iconst 0, 1) := by decide +kernel
theorem dX1_copyFrom_10 : decode cX1_copyFrom 10 = .ok (.sipush 192, 3) := by decide +kernel
theorem dX1_copyFrom_13 : decode cX1_copyFrom 13 = .ok (.invokestatic 36, 3) := by decide +kernel
theorem dX1_copyFrom_16 : decode cX1_copyFrom 16 = .ok (.aload_n 0, 1) := by decide +kernel
theorem dX1_copyFrom_17 : decode cX1_copyFrom 17 = .ok (.aload_n 1, 1) := by decide +kernel
theorem dX1_copyFrom_18 : decode cX1_copyFrom 18 = .ok (.getfield 15, 3) := by decide +kernel
theorem dX1_copyFrom_21 : decode cX1_copyFrom 21 = .ok (.putfield 15, 3) := by decide +kernel
theorem dX1_copyFrom_24 : decode cX1_copyFrom 24 = .ok (.aload_n 0, 1) := by decide +kernel
theorem dX1_copyFrom_25 : decode cX1_copyFrom 25 = .ok (.aload_n 1, 1) := by decide +kernel
theorem dX1_copyFrom_26 : decode cX1_copyFrom 26 = .ok (.getfield 42, 3) := by decide +kernel
theorem dX1_copyFrom_29 : decode cX1_copyFrom 29 = .ok (.putfield 42, 3) := by decide +kernel
theorem dX1_copyFrom_32 : decode cX1_copyFrom 32 = .ok (.return_, 1) := by decide +kernel
theorem ydf1_copyFrom : ph_yd yX1_copyFrom 1 := ⟨by decide, by decide, by decide +kernel⟩
def f1_copyFrom (S : ph_Sh) (M : ph_Mem) (c : Nat) (p0 : Nat) : Option ph_Mem :=
  cond (ph_cpk (0 : Int32) (0 : Int32) (192 : Int32) 192 192) (ph_let (ph_cp M (p0 + 1) (0 : Int32).toNatClampNeg (c + 1) (0 : Int32).toNatClampNeg (192 : Int32).toNatClampNeg) fun M1 => ph_let (ph_wi M1 c 1 (M1.1 p0 1)) fun M2 => ph_let (ph_wi M2 c 2 (M2.1 p0 2)) fun M3 => some M3) none
set_option maxHeartbeats 4000000 in
theorem cf1_copyFrom {tb adK adV : Nat → Nat} {S : ph_Sh} {c : Nat} {p0 : Nat} {l : Launch} {D : va_G} {cA : Nat → ClassId} {ad : Nat → Nat} (hinj : ∀ i j, i < S.2 → j < S.2 → ad i = ad j → i = j) (hS : ph_SX S) (hc : ph_isL c) (hp0 : ph_isL p0) {M : ph_Mem} {M' : ph_Mem} (hf : f1_copyFrom S M c p0 = some M') : ph_C (ph_ZX tb adK adV) l 1 yX1_copyFrom cX1_copyFrom 2 none D cA S.1 S.2 ad [.ref (ad c), .ref (ad p0)] M none M' := by
  refine ph_mk ph_ZX_ok hinj (by decide) (Nat.le_of_ble_eq_true rfl) fun X h fin hE => ?_
  refine (?_ : ph_J X S.1 S.2 ad (M' : ph_Mem) 0 [(0, .ref (ad c)), (1, .ref (ad p0))] [] M (f1_copyFrom S M c p0)) hf
  unfold f1_copyFrom
  refine j_aload_n h dX1_copyFrom_0 rfl 1 rfl ?_
  refine j_get (c := p0) (j := 0) (v := .ref (ad (p0 + 1))) h (ph_L0n hS hp0) (ph_L0 hS hp0) rfl ph_inX1 rfl (by decide) tw_148 rfl rfl dX1_copyFrom_1 ?_
  refine j_iconst (v := (0 : Int32)) h dX1_copyFrom_4 (by decide) ?_
  refine j_aload_n h dX1_copyFrom_5 rfl 0 rfl ?_
  refine j_get (c := c) (j := 0) (v := .ref (ad (c + 1))) h (ph_L0n hS hc) (ph_L0 hS hc) rfl ph_inX1 rfl (by decide) tw_148 rfl rfl dX1_copyFrom_6 ?_
  refine j_iconst (v := (0 : Int32)) h dX1_copyFrom_9 (by decide) ?_
  refine j_sipush (v := (192 : Int32)) h dX1_copyFrom_10 (by decide) ?_
  refine j_copy (a0 := (p0 + 1)) (a1 := (c + 1)) (n0 := 192) (n1 := 192) h (by decide) tw_837 tw_62 tw_61 tw_5 (ph_L1n hS hp0) (ph_L1 hS hp0) (ph_L1n hS hc) (ph_L1 hS hc) (Nat.le_of_ble_eq_true rfl) dX1_copyFrom_13 ?_
  refine j_letM (fun M1 => ?_)
  refine j_aload_n h dX1_copyFrom_16 rfl 0 rfl ?_
  refine j_aload_n h dX1_copyFrom_17 rfl 1 rfl ?_
  refine j_get (c := p0) (j := 1) (v := .int (M1.1 p0 1)) h (ph_L0n hS hp0) (ph_L0 hS hp0) rfl ph_inX1 rfl (by decide) tw_149 rfl rfl dX1_copyFrom_18 ?_
  refine j_puti (c := c) (j := 1) (ty := .int) h (ph_L0n hS hc) (ph_L0 hS hc) rfl ph_inX1 tyX1 tyX1_ok nmX1 rfl (by decide) tw_149 rfl rfl (tyX1_ok 1 (by decide)) rfl rfl dX1_copyFrom_21 ?_
  refine j_letM (fun M2 => ?_)
  refine j_aload_n h dX1_copyFrom_24 rfl 0 rfl ?_
  refine j_aload_n h dX1_copyFrom_25 rfl 1 rfl ?_
  refine j_get (c := p0) (j := 2) (v := .int (M2.1 p0 2)) h (ph_L0n hS hp0) (ph_L0 hS hp0) rfl ph_inX1 rfl (by decide) tw_150 rfl rfl dX1_copyFrom_26 ?_
  refine j_puti (c := c) (j := 2) (ty := .int) h (ph_L0n hS hc) (ph_L0 hS hc) rfl ph_inX1 tyX1 tyX1_ok nmX1 rfl (by decide) tw_150 rfl rfl (tyX1_ok 2 (by decide)) rfl rfl dX1_copyFrom_29 ?_
  refine j_letM (fun M3 => ?_)
  exact j_vret h rfl fin dX1_copyFrom_32
theorem dX4_endOf_0 : decode cX4_endOf 0 = .ok (.aload_n 0, 1) := by decide +kernel
theorem dX4_endOf_1 : decode cX4_endOf 1 = .ok (.getfield 13, 3) := by decide +kernel
theorem dX4_endOf_4 : decode cX4_endOf 4 = .ok (.iload_n 1, 1) := by decide +kernel
theorem dX4_endOf_5 : decode cX4_endOf 5 = .ok (.bipush 6, 2) := by decide +kernel
theorem dX4_endOf_7 : decode cX4_endOf 7 = .ok (.imul, 1) := by decide +kernel
theorem dX4_endOf_8 : decode cX4_endOf 8 = .ok (.iconst 2, 1) := by decide +kernel
theorem dX4_endOf_9 : decode cX4_endOf 9 = .ok (.iadd, 1) := by decide +kernel
theorem dX4_endOf_10 : decode cX4_endOf 10 = .ok (.iload_n 2, 1) := by decide +kernel
theorem dX4_endOf_11 : decode cX4_endOf 11 = .ok (.iadd, 1) := by decide +kernel
theorem dX4_endOf_12 : decode cX4_endOf 12 = .ok (.iconst 1, 1) := by decide +kernel
theorem dX4_endOf_13 : decode cX4_endOf 13 = .ok (.iadd, 1) := by decide +kernel
theorem dX4_endOf_14 : decode cX4_endOf 14 = .ok (.iaload, 1) := by decide +kernel
theorem dX4_endOf_15 : decode cX4_endOf 15 = .ok (.ireturn, 1) := by decide +kernel
theorem ydf4_endOf : ph_yd yX4_endOf 2 := ⟨by decide, by decide, by decide +kernel⟩
def f4_endOf (S : ph_Sh) (M : ph_Mem) (c : Nat) (p0 : Int32) (p1 : Int32) : Option Int32 :=
  cond (ph_ib ((((p0 * (6 : Int32)) + (2 : Int32)) + p1) + (1 : Int32)) (ph_len S (c + 1))) (some (M.1 (c + 1) ((((p0 * (6 : Int32)) + (2 : Int32)) + p1) + (1 : Int32)).toNatClampNeg)) none
set_option maxHeartbeats 4000000 in
theorem cf4_endOf {tb adK adV : Nat → Nat} {S : ph_Sh} {c : Nat} {l : Launch} {D : va_G} {cA : Nat → ClassId} {ad : Nat → Nat} (hinj : ∀ i j, i < S.2 → j < S.2 → ad i = ad j → i = j) (hS : ph_SX S) (hc : ph_isP S c) {M : ph_Mem} {p0 : Int32} {p1 : Int32} {r : Int32} (hf : f4_endOf S M c p0 p1 = some r) : ph_C (ph_ZX tb adK adV) l 0 yX4_endOf cX4_endOf 3 (some .int) D cA S.1 S.2 ad [.ref (ad c), .int p0, .int p1] M (some (.int r)) M := by
  refine ph_mk ph_ZX_ok hinj (by decide) (Nat.le_of_ble_eq_true rfl) fun X h fin hE => ?_
  refine (?_ : ph_J X S.1 S.2 ad (r : Int32) 0 [(0, .ref (ad c)), (1, .int p0), (2, .int p1)] [] M (f4_endOf S M c p0 p1)) hf
  unfold f4_endOf
  refine j_aload_n h dX4_endOf_0 rfl 0 rfl ?_
  refine j_get (c := c) (j := 1) (v := .ref (ad (c + 1))) h (ph_P0n hS hc) (ph_P0 hS hc) rfl ph_inX4 rfl (by decide) tw_814 rfl rfl dX4_endOf_1 ?_
  refine j_iload_n h dX4_endOf_4 rfl 1 rfl ?_
  refine j_bipush (v := (6 : Int32)) h dX4_endOf_5 (by decide) ?_
  refine j_imul h dX4_endOf_7 ?_
  refine j_iconst (v := (2 : Int32)) h dX4_endOf_8 (by decide) ?_
  refine j_iadd h dX4_endOf_9 ?_
  refine j_iload_n h dX4_endOf_10 rfl 2 rfl ?_
  refine j_iadd h dX4_endOf_11 ?_
  refine j_iconst (v := (1 : Int32)) h dX4_endOf_12 (by decide) ?_
  refine j_iadd h dX4_endOf_13 ?_
  refine j_iald (c := (c + 1)) (n := (ph_len S (c + 1))) h (ph_P1n hS hc) (ph_P1 hS hc) dX4_endOf_14 ?_
  exact j_iretP h rfl fin dX4_endOf_15
theorem dX4_startOf_0 : decode cX4_startOf 0 = .ok (.aload_n 0, 1) := by decide +kernel
theorem dX4_startOf_1 : decode cX4_startOf 1 = .ok (.getfield 13, 3) := by decide +kernel
theorem dX4_startOf_4 : decode cX4_startOf 4 = .ok (.iload_n 1, 1) := by decide +kernel
theorem dX4_startOf_5 : decode cX4_startOf 5 = .ok (.bipush 6, 2) := by decide +kernel
theorem dX4_startOf_7 : decode cX4_startOf 7 = .ok (.imul, 1) := by decide +kernel
theorem dX4_startOf_8 : decode cX4_startOf 8 = .ok (.iconst 2, 1) := by decide +kernel
theorem dX4_startOf_9 : decode cX4_startOf 9 = .ok (.iadd, 1) := by decide +kernel
theorem dX4_startOf_10 : decode cX4_startOf 10 = .ok (.iload_n 2, 1) := by decide +kernel
theorem dX4_startOf_11 : decode cX4_startOf 11 = .ok (.iadd, 1) := by decide +kernel
theorem dX4_startOf_12 : decode cX4_startOf 12 = .ok (.iaload, 1) := by decide +kernel
theorem dX4_startOf_13 : decode cX4_startOf 13 = .ok (.ireturn, 1) := by decide +kernel
theorem ydf4_startOf : ph_yd yX4_startOf 2 := ⟨by decide, by decide, by decide +kernel⟩
def f4_startOf (S : ph_Sh) (M : ph_Mem) (c : Nat) (p0 : Int32) (p1 : Int32) : Option Int32 :=
  cond (ph_ib (((p0 * (6 : Int32)) + (2 : Int32)) + p1) (ph_len S (c + 1))) (some (M.1 (c + 1) (((p0 * (6 : Int32)) + (2 : Int32)) + p1).toNatClampNeg)) none
set_option maxHeartbeats 4000000 in
theorem cf4_startOf {tb adK adV : Nat → Nat} {S : ph_Sh} {c : Nat} {l : Launch} {D : va_G} {cA : Nat → ClassId} {ad : Nat → Nat} (hinj : ∀ i j, i < S.2 → j < S.2 → ad i = ad j → i = j) (hS : ph_SX S) (hc : ph_isP S c) {M : ph_Mem} {p0 : Int32} {p1 : Int32} {r : Int32} (hf : f4_startOf S M c p0 p1 = some r) : ph_C (ph_ZX tb adK adV) l 0 yX4_startOf cX4_startOf 3 (some .int) D cA S.1 S.2 ad [.ref (ad c), .int p0, .int p1] M (some (.int r)) M := by
  refine ph_mk ph_ZX_ok hinj (by decide) (Nat.le_of_ble_eq_true rfl) fun X h fin hE => ?_
  refine (?_ : ph_J X S.1 S.2 ad (r : Int32) 0 [(0, .ref (ad c)), (1, .int p0), (2, .int p1)] [] M (f4_startOf S M c p0 p1)) hf
  unfold f4_startOf
  refine j_aload_n h dX4_startOf_0 rfl 0 rfl ?_
  refine j_get (c := c) (j := 1) (v := .ref (ad (c + 1))) h (ph_P0n hS hc) (ph_P0 hS hc) rfl ph_inX4 rfl (by decide) tw_814 rfl rfl dX4_startOf_1 ?_
  refine j_iload_n h dX4_startOf_4 rfl 1 rfl ?_
  refine j_bipush (v := (6 : Int32)) h dX4_startOf_5 (by decide) ?_
  refine j_imul h dX4_startOf_7 ?_
  refine j_iconst (v := (2 : Int32)) h dX4_startOf_8 (by decide) ?_
  refine j_iadd h dX4_startOf_9 ?_
  refine j_iload_n h dX4_startOf_10 rfl 2 rfl ?_
  refine j_iadd h dX4_startOf_11 ?_
  refine j_iald (c := (c + 1)) (n := (ph_len S (c + 1))) h (ph_P1n hS hc) (ph_P1 hS hc) dX4_startOf_12 ?_
  exact j_iretP h rfl fin dX4_startOf_13
theorem dX2_operand_0 : decode cX2_operand 0 = .ok (.iload_n 1, 1) := by decide +kernel
theorem dX2_operand_1 : decode cX2_operand 1 = .ok (.ifCond .ne 6, 3) := by decide +kernel
theorem dX2_operand_4 : decode cX2_operand 4 = .ok (.iload_n 2, 1) := by decide +kernel
theorem dX2_operand_5 : decode cX2_operand 5 = .ok (.i2l, 1) := by decide +kernel
theorem dX2_operand_6 : decode cX2_operand 6 = .ok (.lreturn, 1) := by decide +kernel
theorem dX2_operand_7 : decode cX2_operand 7 = .ok (.iload_n 1, 1) := by decide +kernel
theorem dX2_operand_8 : decode cX2_operand 8 = .ok (.iconst 1, 1) := by decide +kernel
theorem dX2_operand_9 : decode cX2_operand 9 = .ok (.if_icmp .ne 7, 3) := by decide +kernel
theorem dX2_operand_12 : decode cX2_operand 12 = .ok (.iload_n 2, 1) := by decide +kernel
theorem dX2_operand_13 : decode cX2_operand 13 = .ok (.goto 10, 3) := by decide +kernel
theorem dX2_operand_16 : decode cX2_operand 16 = .ok (.bipush 15, 2) := by decide +kernel
theorem dX2_operand_18 : decode cX2_operand 18 = .ok (.iload_n 2, 1) := by decide +kernel
theorem dX2_operand_19 : decode cX2_operand 19 = .ok (.bipush 8, 2) := by decide +kernel
theorem dX2_operand_21 : decode cX2_operand 21 = .ok (.idiv, 1) := by decide +kernel
theorem dX2_operand_22 : decode cX2_operand 22 = .ok (.iadd, 1) := by decide +kernel
theorem dX2_operand_23 : decode cX2_operand 23 = .ok (.istore_n 3, 1) := by decide +kernel
theorem dX2_operand_24 : decode cX2_operand 24 = .ok (.iload_n 3, 1) := by decide +kernel
theorem dX2_operand_25 : decode cX2_operand 25 = .ok (.aload_n 0, 1) := by decide +kernel
theorem dX2_operand_26 : decode cX2_operand 26 = .ok (.getfield 11, 3) := by decide +kernel
theorem dX2_operand_29 : decode cX2_operand 29 = .ok (.arraylength, 1) := by decide +kernel
theorem dX2_operand_30 : decode cX2_operand 30 = .ok (.if_icmp .ge 12, 3) := by decide +kernel
theorem dX2_operand_33 : decode cX2_operand 33 = .ok (.aload_n 0, 1) := by decide +kernel
theorem dX2_operand_34 : decode cX2_operand 34 = .ok (.getfield 11, 3) := by decide +kernel
theorem dX2_operand_37 : decode cX2_operand 37 = .ok (.iload_n 3, 1) := by decide +kernel
theorem dX2_operand_38 : decode cX2_operand 38 = .ok (.iaload, 1) := by decide +kernel
theorem dX2_operand_39 : decode cX2_operand 39 = .ok (.goto 4, 3) := by decide +kernel
theorem dX2_operand_42 : decode cX2_operand 42 = .ok (.iconst (-1), 1) := by decide +kernel
theorem dX2_operand_43 : decode cX2_operand 43 = .ok (.istore 4, 2) := by decide +kernel
theorem dX2_operand_45 : decode cX2_operand 45 = .ok (.iload_n 1, 1) := by decide +kernel
theorem dX2_operand_46 : decode cX2_operand 46 = .ok (.iconst 1, 1) := by decide +kernel
theorem dX2_operand_47 : decode cX2_operand 47 = .ok (.if_icmp .eq 9, 3) := by decide +kernel
theorem dX2_operand_50 : decode cX2_operand 50 = .ok (.iload 4, 2) := by decide +kernel
theorem dX2_operand_52 : decode cX2_operand 52 = .ok (.iconst (-1), 1) := by decide +kernel
theorem dX2_operand_53 : decode cX2_operand 53 = .ok (.if_icmp .ne 9, 3) := by decide +kernel
theorem dX2_operand_56 : decode cX2_operand 56 = .ok (.iload 4, 2) := by decide +kernel
theorem dX2_operand_58 : decode cX2_operand 58 = .ok (.i2l, 1) := by decide +kernel
theorem dX2_operand_59 : decode cX2_operand 59 = .ok (.goto 13, 3) := by decide +kernel
theorem dX2_operand_62 : decode cX2_operand 62 = .ok (.iload 4, 2) := by decide +kernel
theorem dX2_operand_64 : decode cX2_operand 64 = .ok (.iload_n 2, 1) := by decide +kernel
theorem dX2_operand_65 : decode cX2_operand 65 = .ok (.bipush 8, 2) := by decide +kernel
theorem dX2_operand_67 : decode cX2_operand 67 = .ok (.irem, 1) := by decide +kernel
theorem dX2_operand_68 : decode cX2_operand 68 = .ok (.ishr, 1) := by decide +kernel
theorem dX2_operand_69 : decode cX2_operand 69 = .ok (.iconst 1, 1) := by decide +kernel
theorem dX2_operand_70 : decode cX2_operand 70 = .ok (.iand, 1) := by decide +kernel
theorem dX2_operand_71 : decode cX2_operand 71 = .ok (.i2l, 1) := by decide +kernel
theorem dX2_operand_72 : decode cX2_operand 72 = .ok (.lreturn, 1) := by decide +kernel
def f2_operand_j43 (S : ph_Sh) (c : Nat) (M : ph_Mem) (x1 : Int32) (x2 : Int32) (s0 : Int32) : Option Int64 :=
  if x1 = (1 : Int32) then (some s0.toInt64) else (if s0 = (-1 : Int32) then (some s0.toInt64) else (some ((s0 >>> ((x2 - x2 / (8 : Int32) * (8 : Int32)) &&& 31)) &&& (1 : Int32)).toInt64))
set_option maxHeartbeats 4000000 in
theorem jb_f2_operand_j43 {tb adK adV : Nat → Nat} {S : ph_Sh} {c : Nat} {X : ph_X} {ad : Nat → Nat} {o : Int64} {M : ph_Mem} (h : ph_ok (ph_ZX tb adK adV) X cX2_operand RX2 (some .long) 5 0 S.2 ad) (fin : ph_fin X S.1 S.2 ad (some (.long o)) M) (hS : ph_SX S) (hc : ph_isM c) : ∀ (x1 : Int32) (x2 : Int32) (s0 : Int32), ph_J X S.1 S.2 ad o 43 [(1, .int x1), (2, .int x2)] [.int s0] M (f2_operand_j43 S c M x1 x2 s0) := by
  intro x1 x2 s0
  unfold f2_operand_j43
  refine j_istore h [(4, .int s0), (1, .int x1), (2, .int x2)] dX2_operand_43 (by decide) rfl ?_
  refine j_iload_n h dX2_operand_45 rfl 1 rfl ?_
  refine j_iconst (v := (1 : Int32)) h dX2_operand_46 (by decide) ?_
  refine j_icmp_eq h 56 dX2_operand_47 (by decide) ?_ ?_
  · refine j_iload h dX2_operand_56 0 rfl ?_
    refine j_i2l h dX2_operand_58 ?_
    refine j_goto h 72 dX2_operand_59 (by decide) ?_
    exact j_lretP h rfl fin dX2_operand_72
  · refine j_iload h dX2_operand_50 0 rfl ?_
    refine j_iconst (v := (-1 : Int32)) h dX2_operand_52 (by decide) ?_
    refine j_icmp_ne h 62 dX2_operand_53 (by decide) ?_ ?_
    · refine j_iload h dX2_operand_62 0 rfl ?_
      refine j_iload_n h dX2_operand_64 rfl 2 rfl ?_
      refine j_bipush (v := (8 : Int32)) h dX2_operand_65 (by decide) ?_
      refine j_iremK h dX2_operand_67 (by decide) ?_
      refine j_ishr h dX2_operand_68 ?_
      refine j_iconst (v := (1 : Int32)) h dX2_operand_69 (by decide) ?_
      refine j_iand h dX2_operand_70 ?_
      refine j_i2l h dX2_operand_71 ?_
      exact j_lretP h rfl fin dX2_operand_72
    · refine j_iload h dX2_operand_56 0 rfl ?_
      refine j_i2l h dX2_operand_58 ?_
      refine j_goto h 72 dX2_operand_59 (by decide) ?_
      exact j_lretP h rfl fin dX2_operand_72
def f2_operand_j23 (S : ph_Sh) (c : Nat) (M : ph_Mem) (x1 : Int32) (x2 : Int32) (s0 : Int32) : Option Int64 :=
  if (21 : Int32) ≤ s0 then (f2_operand_j43 S c M x1 x2 (-1 : Int32)) else (cond (ph_ib s0 21) (f2_operand_j43 S c M x1 x2 (M.1 (c + 1) s0.toNatClampNeg)) none)
set_option maxHeartbeats 4000000 in
theorem jb_f2_operand_j23 {tb adK adV : Nat → Nat} {S : ph_Sh} {c : Nat} {X : ph_X} {ad : Nat → Nat} {o : Int64} {M : ph_Mem} (h : ph_ok (ph_ZX tb adK adV) X cX2_operand RX2 (some .long) 5 0 S.2 ad) (fin : ph_fin X S.1 S.2 ad (some (.long o)) M) (hS : ph_SX S) (hc : ph_isM c) : ∀ (x1 : Int32) (x2 : Int32) (s0 : Int32), ph_J X S.1 S.2 ad o 23 [(0, .ref (ad c)), (1, .int x1), (2, .int x2)] [.int s0] M (f2_operand_j23 S c M x1 x2 s0) := by
  intro x1 x2 s0
  unfold f2_operand_j23
  refine j_istore_n h [(3, .int s0), (0, .ref (ad c)), (1, .int x1), (2, .int x2)] dX2_operand_23 rfl (by decide) rfl ?_
  refine j_iload_n h dX2_operand_24 rfl 0 rfl ?_
  refine j_aload_n h dX2_operand_25 rfl 1 rfl ?_
  refine j_get (c := c) (j := 0) (v := .ref (ad (c + 1))) h (ph_M0n hS hc) (ph_M0 hS hc) rfl ph_inX2 rfl (by decide) tw_36 rfl rfl dX2_operand_26 ?_
  refine j_alen (c := (c + 1)) (tn := 0) (v := (21 : Int32)) h (ph_M1n hS hc) (ph_M1 hS hc) rfl (by decide) dX2_operand_29 ?_
  refine j_icmp_ge h 42 dX2_operand_30 (by decide) ?_ ?_
  · refine j_iconst (v := (-1 : Int32)) h dX2_operand_42 (by decide) ?_
    refine j_sub [2, 3] rfl ?_
    exact jb_f2_operand_j43 h fin hS hc x1 x2 (-1 : Int32)
  · refine j_aload_n h dX2_operand_33 rfl 1 rfl ?_
    refine j_get (c := c) (j := 0) (v := .ref (ad (c + 1))) h (ph_M0n hS hc) (ph_M0 hS hc) rfl ph_inX2 rfl (by decide) tw_36 rfl rfl dX2_operand_34 ?_
    refine j_iload_n h dX2_operand_37 rfl 0 rfl ?_
    refine j_iald (c := (c + 1)) (n := 21) h (ph_M1n hS hc) (ph_M1 hS hc) dX2_operand_38 ?_
    refine j_goto h 43 dX2_operand_39 (by decide) ?_
    refine j_sub [2, 3] rfl ?_
    exact jb_f2_operand_j43 h fin hS hc x1 x2 (M.1 (c + 1) s0.toNatClampNeg)
theorem ydf2_operand : ph_yd yX2_operand 2 := ⟨by decide, by decide, by decide +kernel⟩
def f2_operand (S : ph_Sh) (M : ph_Mem) (c : Nat) (p0 : Int32) (p1 : Int32) : Option Int64 :=
  if p0 = 0 then (some p1.toInt64) else (if p0 = (1 : Int32) then (f2_operand_j23 S c M p0 p1 p1) else (f2_operand_j23 S c M p0 p1 ((15 : Int32) + (p1 / (8 : Int32)))))
set_option maxHeartbeats 4000000 in
theorem cf2_operand {tb adK adV : Nat → Nat} {S : ph_Sh} {c : Nat} {l : Launch} {D : va_G} {cA : Nat → ClassId} {ad : Nat → Nat} (hinj : ∀ i j, i < S.2 → j < S.2 → ad i = ad j → i = j) (hS : ph_SX S) (hc : ph_isM c) {M : ph_Mem} {p0 : Int32} {p1 : Int32} {r : Int64} (hf : f2_operand S M c p0 p1 = some r) : ph_C (ph_ZX tb adK adV) l 0 yX2_operand cX2_operand 5 (some .long) D cA S.1 S.2 ad [.ref (ad c), .int p0, .int p1] M (some (.long r)) M := by
  refine ph_mk ph_ZX_ok hinj (by decide) (Nat.le_of_ble_eq_true rfl) fun X h fin hE => ?_
  refine (?_ : ph_J X S.1 S.2 ad (r : Int64) 0 [(0, .ref (ad c)), (1, .int p0), (2, .int p1)] [] M (f2_operand S M c p0 p1)) hf
  unfold f2_operand
  refine j_iload_n h dX2_operand_0 rfl 1 rfl ?_
  refine j_if_ne h 7 dX2_operand_1 (by decide) ?_ ?_
  · refine j_iload_n h dX2_operand_7 rfl 1 rfl ?_
    refine j_iconst (v := (1 : Int32)) h dX2_operand_8 (by decide) ?_
    refine j_icmp_ne h 16 dX2_operand_9 (by decide) ?_ ?_
    · refine j_bipush (v := (15 : Int32)) h dX2_operand_16 (by decide) ?_
      refine j_iload_n h dX2_operand_18 rfl 2 rfl ?_
      refine j_bipush (v := (8 : Int32)) h dX2_operand_19 (by decide) ?_
      refine j_idivK h dX2_operand_21 (by decide) ?_
      refine j_iadd h dX2_operand_22 ?_
      refine j_sub [0, 1, 2] rfl ?_
      exact jb_f2_operand_j23 h fin hS hc p0 p1 ((15 : Int32) + (p1 / (8 : Int32)))
    · refine j_iload_n h dX2_operand_12 rfl 2 rfl ?_
      refine j_goto h 23 dX2_operand_13 (by decide) ?_
      refine j_sub [0, 1, 2] rfl ?_
      exact jb_f2_operand_j23 h fin hS hc p0 p1 p1
  · refine j_iload_n h dX2_operand_4 rfl 2 rfl ?_
    refine j_i2l h dX2_operand_5 ?_
    exact j_lretP h rfl fin dX2_operand_6
theorem dJ9_max_7cf53_0 : decode cJ9_max_7cf53 0 = .ok (.iload_n 0, 1) := by decide +kernel
theorem dJ9_max_7cf53_1 : decode cJ9_max_7cf53 1 = .ok (.iload_n 1, 1) := by decide +kernel
theorem dJ9_max_7cf53_2 : decode cJ9_max_7cf53 2 = .ok (.if_icmp .lt 7, 3) := by decide +kernel
theorem dJ9_max_7cf53_5 : decode cJ9_max_7cf53 5 = .ok (.iload_n 0, 1) := by decide +kernel
theorem dJ9_max_7cf53_6 : decode cJ9_max_7cf53 6 = .ok (.goto 4, 3) := by decide +kernel
theorem dJ9_max_7cf53_9 : decode cJ9_max_7cf53 9 = .ok (.iload_n 1, 1) := by decide +kernel
theorem dJ9_max_7cf53_10 : decode cJ9_max_7cf53 10 = .ok (.ireturn, 1) := by decide +kernel
theorem ydf9_max_7cf53 : ph_yd yJ9_max_7cf53 2 := ⟨by decide, by decide, by decide +kernel⟩
def f9_max_7cf53 (S : ph_Sh) (M : ph_Mem) (p0 : Int32) (p1 : Int32) : Option Int32 :=
  if p0 < p1 then (some p1) else (some p0)
set_option maxHeartbeats 4000000 in
theorem cf9_max_7cf53 {tb adK adV : Nat → Nat} {S : ph_Sh} {l : Launch} {D : va_G} {cA : Nat → ClassId} {ad : Nat → Nat} (hinj : ∀ i j, i < S.2 → j < S.2 → ad i = ad j → i = j) (hS : True) {M : ph_Mem} {p0 : Int32} {p1 : Int32} {r : Int32} (hf : f9_max_7cf53 S M p0 p1 = some r) : ph_C (ph_ZX tb adK adV) l 0 yJ9_max_7cf53 cJ9_max_7cf53 2 (some .int) D cA S.1 S.2 ad [.int p0, .int p1] M (some (.int r)) M := by
  refine ph_mkF ph_ZX_ok hinj (by decide +kernel) (Nat.le_of_ble_eq_true rfl) fun X h fin hE => ?_
  refine (?_ : ph_J X S.1 S.2 ad (r : Int32) 0 [(0, .int p0), (1, .int p1)] [] M (f9_max_7cf53 S M p0 p1)) hf
  unfold f9_max_7cf53
  refine j_iload_n h dJ9_max_7cf53_0 rfl 0 rfl ?_
  refine j_iload_n h dJ9_max_7cf53_1 rfl 1 rfl ?_
  refine j_icmp_lt h 9 dJ9_max_7cf53_2 (by decide) ?_ ?_
  · refine j_iload_n h dJ9_max_7cf53_9 rfl 1 rfl ?_
    exact j_iretP h rfl fin dJ9_max_7cf53_10
  · refine j_iload_n h dJ9_max_7cf53_5 rfl 0 rfl ?_
    refine j_goto h 10 dJ9_max_7cf53_6 (by decide) ?_
    exact j_iretP h rfl fin dJ9_max_7cf53_10
theorem dX2_join_0 : decode cX2_join 0 = .ok (.lload_n 3, 1) := by decide +kernel
theorem dX2_join_1 : decode cX2_join 1 = .ok (.lconst 0, 1) := by decide +kernel
theorem dX2_join_2 : decode cX2_join 2 = .ok (.lcmp, 1) := by decide +kernel
theorem dX2_join_3 : decode cX2_join 3 = .ok (.ifCond .ne 19, 3) := by decide +kernel
theorem dX2_join_6 : decode cX2_join 6 = .ok (.iload_n 0, 1) := by decide +kernel
theorem dX2_join_7 : decode cX2_join 7 = .ok (.bipush 9, 2) := by decide +kernel
theorem dX2_join_9 : decode cX2_join 9 = .ok (.if_icmp .eq 9, 3) := by decide +kernel
theorem dX2_join_12 : decode cX2_join 12 = .ok (.iload_n 0, 1) := by decide +kernel
theorem dX2_join_13 : decode cX2_join 13 = .ok (.bipush 10, 2) := by decide +kernel
theorem dX2_join_15 : decode cX2_join 15 = .ok (.if_icmp .ne 7, 3) := by decide +kernel
theorem dX2_join_18 : decode cX2_join 18 = .ok (.ldc2_w 38, 3) := by decide +kernel
theorem dX2_join_21 : decode cX2_join 21 = .ok (.lreturn, 1) := by decide +kernel
theorem dX2_join_22 : decode cX2_join 22 = .ok (.iload_n 0, 1) := by decide +kernel
theorem dX2_join_23 : decode cX2_join 23 = .ok (.tableswitch 113 6 12 #[41, 49, 57, 65, 73, 81, 97], 41) := by decide +kernel
theorem dX2_join_64 : decode cX2_join 64 = .ok (.lload_n 1, 1) := by decide +kernel
theorem dX2_join_65 : decode cX2_join 65 = .ok (.lload_n 3, 1) := by decide +kernel
theorem dX2_join_66 : decode cX2_join 66 = .ok (.ladd, 1) := by decide +kernel
theorem dX2_join_67 : decode cX2_join 67 = .ok (.lstore 5, 2) := by decide +kernel
theorem dX2_join_69 : decode cX2_join 69 = .ok (.goto 80, 3) := by decide +kernel
theorem dX2_join_72 : decode cX2_join 72 = .ok (.lload_n 1, 1) := by decide +kernel
theorem dX2_join_73 : decode cX2_join 73 = .ok (.lload_n 3, 1) := by decide +kernel
theorem dX2_join_74 : decode cX2_join 74 = .ok (.lsub, 1) := by decide +kernel
theorem dX2_join_75 : decode cX2_join 75 = .ok (.lstore 5, 2) := by decide +kernel
theorem dX2_join_77 : decode cX2_join 77 = .ok (.goto 72, 3) := by decide +kernel
theorem dX2_join_80 : decode cX2_join 80 = .ok (.lload_n 1, 1) := by decide +kernel
theorem dX2_join_81 : decode cX2_join 81 = .ok (.lload_n 3, 1) := by decide +kernel
theorem dX2_join_82 : decode cX2_join 82 = .ok (.lmul, 1) := by decide +kernel
theorem dX2_join_83 : decode cX2_join 83 = .ok (.lstore 5, 2) := by decide +kernel
theorem dX2_join_85 : decode cX2_join 85 = .ok (.goto 64, 3) := by decide +kernel
theorem dX2_join_88 : decode cX2_join 88 = .ok (.lload_n 1, 1) := by decide +kernel
theorem dX2_join_89 : decode cX2_join 89 = .ok (.lload_n 3, 1) := by decide +kernel
theorem dX2_join_90 : decode cX2_join 90 = .ok (.ldiv, 1) := by decide +kernel
theorem dX2_join_91 : decode cX2_join 91 = .ok (.lstore 5, 2) := by decide +kernel
theorem dX2_join_93 : decode cX2_join 93 = .ok (.goto 56, 3) := by decide +kernel
theorem dX2_join_96 : decode cX2_join 96 = .ok (.lload_n 1, 1) := by decide +kernel
theorem dX2_join_97 : decode cX2_join 97 = .ok (.lload_n 3, 1) := by decide +kernel
theorem dX2_join_98 : decode cX2_join 98 = .ok (.lrem, 1) := by decide +kernel
theorem dX2_join_99 : decode cX2_join 99 = .ok (.lstore 5, 2) := by decide +kernel
theorem dX2_join_101 : decode cX2_join 101 = .ok (.goto 48, 3) := by decide +kernel
theorem dX2_join_104 : decode cX2_join 104 = .ok (.lload_n 1, 1) := by decide +kernel
theorem dX2_join_105 : decode cX2_join 105 = .ok (.lload_n 3, 1) := by decide +kernel
theorem dX2_join_106 : decode cX2_join 106 = .ok (.lcmp, 1) := by decide +kernel
theorem dX2_join_107 : decode cX2_join 107 = .ok (.ifCond .ge 7, 3) := by decide +kernel
theorem dX2_join_110 : decode cX2_join 110 = .ok (.lconst 1, 1) := by decide +kernel
theorem dX2_join_111 : decode cX2_join 111 = .ok (.goto 4, 3) := by decide +kernel
theorem dX2_join_114 : decode cX2_join 114 = .ok (.lconst 0, 1) := by decide +kernel
theorem dX2_join_115 : decode cX2_join 115 = .ok (.lstore 5, 2) := by decide +kernel
theorem dX2_join_117 : decode cX2_join 117 = .ok (.goto 32, 3) := by decide +kernel
theorem dX2_join_120 : decode cX2_join 120 = .ok (.lload_n 1, 1) := by decide +kernel
theorem dX2_join_121 : decode cX2_join 121 = .ok (.lload_n 3, 1) := by decide +kernel
theorem dX2_join_122 : decode cX2_join 122 = .ok (.lcmp, 1) := by decide +kernel
theorem dX2_join_123 : decode cX2_join 123 = .ok (.ifCond .le 7, 3) := by decide +kernel
theorem dX2_join_126 : decode cX2_join 126 = .ok (.lconst 1, 1) := by decide +kernel
theorem dX2_join_127 : decode cX2_join 127 = .ok (.goto 4, 3) := by decide +kernel
theorem dX2_join_130 : decode cX2_join 130 = .ok (.lconst 0, 1) := by decide +kernel
theorem dX2_join_131 : decode cX2_join 131 = .ok (.lstore 5, 2) := by decide +kernel
theorem dX2_join_133 : decode cX2_join 133 = .ok (.goto 16, 3) := by decide +kernel
theorem dX2_join_136 : decode cX2_join 136 = .ok (.lload_n 1, 1) := by decide +kernel
theorem dX2_join_137 : decode cX2_join 137 = .ok (.lload_n 3, 1) := by decide +kernel
theorem dX2_join_138 : decode cX2_join 138 = .ok (.lcmp, 1) := by decide +kernel
theorem dX2_join_139 : decode cX2_join 139 = .ok (.ifCond .ne 7, 3) := by decide +kernel
theorem dX2_join_142 : decode cX2_join 142 = .ok (.lconst 1, 1) := by decide +kernel
theorem dX2_join_143 : decode cX2_join 143 = .ok (.goto 4, 3) := by decide +kernel
theorem dX2_join_146 : decode cX2_join 146 = .ok (.lconst 0, 1) := by decide +kernel
theorem dX2_join_147 : decode cX2_join 147 = .ok (.lstore 5, 2) := by decide +kernel
theorem dX2_join_149 : decode cX2_join 149 = .ok (.lload 5, 2) := by decide +kernel
theorem dX2_join_151 : decode cX2_join 151 = .ok (.ldc2_w 51, 3) := by decide +kernel
theorem dX2_join_154 : decode cX2_join 154 = .ok (.lcmp, 1) := by decide +kernel
theorem dX2_join_155 : decode cX2_join 155 = .ok (.ifCond .gt 12, 3) := by decide +kernel
theorem dX2_join_158 : decode cX2_join 158 = .ok (.lload 5, 2) := by decide +kernel
theorem dX2_join_160 : decode cX2_join 160 = .ok (.ldc2_w 53, 3) := by decide +kernel
theorem dX2_join_163 : decode cX2_join 163 = .ok (.lcmp, 1) := by decide +kernel
theorem dX2_join_164 : decode cX2_join 164 = .ok (.ifCond .ge 9, 3) := by decide +kernel
theorem dX2_join_167 : decode cX2_join 167 = .ok (.ldc2_w 38, 3) := by decide +kernel
theorem dX2_join_170 : decode cX2_join 170 = .ok (.goto 5, 3) := by decide +kernel
theorem dX2_join_173 : decode cX2_join 173 = .ok (.lload 5, 2) := by decide +kernel
theorem dX2_join_175 : decode cX2_join 175 = .ok (.lreturn, 1) := by decide +kernel
def f2_join_j149 (S : ph_Sh) (M : ph_Mem) (x5 : Int64) : Option Int64 :=
  if 0 < (lg_cmp x5 (1000000000 : Int64)) then (some (-4000000000000000000 : Int64)) else (if 0 ≤ (lg_cmp x5 (-1000000000 : Int64)) then (some x5) else (some (-4000000000000000000 : Int64)))
set_option maxHeartbeats 4000000 in
theorem jb_f2_join_j149 {tb adK adV : Nat → Nat} {S : ph_Sh} {X : ph_X} {ad : Nat → Nat} {o : Int64} {M : ph_Mem} (h : ph_ok (ph_ZX tb adK adV) X cX2_join RX2 (some .long) 7 0 S.2 ad) (fin : ph_fin X S.1 S.2 ad (some (.long o)) M) (hS : ph_SX S) : ∀ (x5 : Int64), ph_J X S.1 S.2 ad o 149 [(5, .long x5)] [] M (f2_join_j149 S M x5) := by
  intro x5
  unfold f2_join_j149
  refine j_lload h dX2_join_149 0 rfl ?_
  refine j_ldc2 (v := (1000000000 : Int64)) h dX2_join_151 tw_522 ?_
  refine j_lcmp h dX2_join_154 ?_
  refine j_if_gt h 167 dX2_join_155 (by decide) ?_ ?_
  · refine j_ldc2 (v := (-4000000000000000000 : Int64)) h dX2_join_167 tw_511 ?_
    refine j_goto h 175 dX2_join_170 (by decide) ?_
    exact j_lretP h rfl fin dX2_join_175
  · refine j_lload h dX2_join_158 0 rfl ?_
    refine j_ldc2 (v := (-1000000000 : Int64)) h dX2_join_160 tw_523 ?_
    refine j_lcmp h dX2_join_163 ?_
    refine j_if_ge h 173 dX2_join_164 (by decide) ?_ ?_
    · refine j_lload h dX2_join_173 0 rfl ?_
      exact j_lretP h rfl fin dX2_join_175
    · refine j_ldc2 (v := (-4000000000000000000 : Int64)) h dX2_join_167 tw_511 ?_
      refine j_goto h 175 dX2_join_170 (by decide) ?_
      exact j_lretP h rfl fin dX2_join_175
def f2_join_j115 (S : ph_Sh) (M : ph_Mem) (s0 : Int64) : Option Int64 :=
  f2_join_j149 S M s0
set_option maxHeartbeats 4000000 in
theorem jb_f2_join_j115 {tb adK adV : Nat → Nat} {S : ph_Sh} {X : ph_X} {ad : Nat → Nat} {o : Int64} {M : ph_Mem} (h : ph_ok (ph_ZX tb adK adV) X cX2_join RX2 (some .long) 7 0 S.2 ad) (fin : ph_fin X S.1 S.2 ad (some (.long o)) M) (hS : ph_SX S) : ∀ (s0 : Int64), ph_J X S.1 S.2 ad o 115 [] [.long s0] M (f2_join_j115 S M s0) := by
  intro s0
  unfold f2_join_j115
  refine j_lstore h [(5, .long s0)] dX2_join_115 (by decide) rfl ?_
  refine j_goto h 149 dX2_join_117 (by decide) ?_
  refine j_sub [0] rfl ?_
  exact jb_f2_join_j149 h fin hS s0
def f2_join_j131 (S : ph_Sh) (M : ph_Mem) (s0 : Int64) : Option Int64 :=
  f2_join_j149 S M s0
set_option maxHeartbeats 4000000 in
theorem jb_f2_join_j131 {tb adK adV : Nat → Nat} {S : ph_Sh} {X : ph_X} {ad : Nat → Nat} {o : Int64} {M : ph_Mem} (h : ph_ok (ph_ZX tb adK adV) X cX2_join RX2 (some .long) 7 0 S.2 ad) (fin : ph_fin X S.1 S.2 ad (some (.long o)) M) (hS : ph_SX S) : ∀ (s0 : Int64), ph_J X S.1 S.2 ad o 131 [] [.long s0] M (f2_join_j131 S M s0) := by
  intro s0
  unfold f2_join_j131
  refine j_lstore h [(5, .long s0)] dX2_join_131 (by decide) rfl ?_
  refine j_goto h 149 dX2_join_133 (by decide) ?_
  refine j_sub [0] rfl ?_
  exact jb_f2_join_j149 h fin hS s0
def f2_join_j147 (S : ph_Sh) (M : ph_Mem) (s0 : Int64) : Option Int64 :=
  f2_join_j149 S M s0
set_option maxHeartbeats 4000000 in
theorem jb_f2_join_j147 {tb adK adV : Nat → Nat} {S : ph_Sh} {X : ph_X} {ad : Nat → Nat} {o : Int64} {M : ph_Mem} (h : ph_ok (ph_ZX tb adK adV) X cX2_join RX2 (some .long) 7 0 S.2 ad) (fin : ph_fin X S.1 S.2 ad (some (.long o)) M) (hS : ph_SX S) : ∀ (s0 : Int64), ph_J X S.1 S.2 ad o 147 [] [.long s0] M (f2_join_j147 S M s0) := by
  intro s0
  unfold f2_join_j147
  refine j_lstore h [(5, .long s0)] dX2_join_147 (by decide) rfl ?_
  refine j_sub [0] rfl ?_
  exact jb_f2_join_j149 h fin hS s0
def f2_join_j22 (S : ph_Sh) (M : ph_Mem) (x0 : Int32) (x1 : Int64) (x3 : Int64) : Option Int64 :=
  if x0 = (6 : Int32) then (f2_join_j149 S M (x1 + x3)) else (if x0 = (7 : Int32) then (f2_join_j149 S M (x1 - x3)) else (if x0 = (8 : Int32) then (f2_join_j149 S M (x1 * x3)) else (if x0 = (9 : Int32) then (if x3 = 0 then none else f2_join_j149 S M (x1 / x3)) else (if x0 = (10 : Int32) then (if x3 = 0 then none else f2_join_j149 S M (x1 - x1 / x3 * x3)) else (if x0 = (11 : Int32) then (if 0 ≤ (lg_cmp x1 x3) then (f2_join_j115 S M (0 : Int64)) else (f2_join_j115 S M (1 : Int64))) else (if x0 = (12 : Int32) then (if (lg_cmp x1 x3) ≤ 0 then (f2_join_j131 S M (0 : Int64)) else (f2_join_j131 S M (1 : Int64))) else (if (lg_cmp x1 x3) = 0 then (f2_join_j147 S M (1 : Int64)) else (f2_join_j147 S M (0 : Int64)))))))))
set_option maxHeartbeats 4000000 in
theorem jb_f2_join_j22 {tb adK adV : Nat → Nat} {S : ph_Sh} {X : ph_X} {ad : Nat → Nat} {o : Int64} {M : ph_Mem} (h : ph_ok (ph_ZX tb adK adV) X cX2_join RX2 (some .long) 7 0 S.2 ad) (fin : ph_fin X S.1 S.2 ad (some (.long o)) M) (hS : ph_SX S) : ∀ (x0 : Int32) (x1 : Int64) (x3 : Int64), ph_J X S.1 S.2 ad o 22 [(0, .int x0), (1, .long x1), (3, .long x3)] [] M (f2_join_j22 S M x0 x1 x3) := by
  intro x0 x1 x3
  unfold f2_join_j22
  refine j_iload_n h dX2_join_22 rfl 0 rfl ?_
  refine j_ite (fun c_0 => ?_) (fun c_0 => ?_)
  · refine j_tabIn h 64 (6 : Int32) dX2_join_23 c_0 (by decide) (by decide) rfl (by decide) ?_
    refine j_lload_n h dX2_join_64 rfl 1 rfl ?_
    refine j_lload_n h dX2_join_65 rfl 2 rfl ?_
    refine j_ladd h dX2_join_66 ?_
    refine j_lstore h [(5, .long (x1 + x3)), (0, .int x0), (1, .long x1), (3, .long x3)] dX2_join_67 (by decide) rfl ?_
    refine j_goto h 149 dX2_join_69 (by decide) ?_
    refine j_sub [0] rfl ?_
    exact jb_f2_join_j149 h fin hS (x1 + x3)
  · refine j_ite (fun c_1 => ?_) (fun c_1 => ?_)
    · refine j_tabIn h 72 (7 : Int32) dX2_join_23 c_1 (by decide) (by decide) rfl (by decide) ?_
      refine j_lload_n h dX2_join_72 rfl 1 rfl ?_
      refine j_lload_n h dX2_join_73 rfl 2 rfl ?_
      refine j_lsub h dX2_join_74 ?_
      refine j_lstore h [(5, .long (x1 - x3)), (0, .int x0), (1, .long x1), (3, .long x3)] dX2_join_75 (by decide) rfl ?_
      refine j_goto h 149 dX2_join_77 (by decide) ?_
      refine j_sub [0] rfl ?_
      exact jb_f2_join_j149 h fin hS (x1 - x3)
    · refine j_ite (fun c_2 => ?_) (fun c_2 => ?_)
      · refine j_tabIn h 80 (8 : Int32) dX2_join_23 c_2 (by decide) (by decide) rfl (by decide) ?_
        refine j_lload_n h dX2_join_80 rfl 1 rfl ?_
        refine j_lload_n h dX2_join_81 rfl 2 rfl ?_
        refine j_lmul h dX2_join_82 ?_
        refine j_lstore h [(5, .long (x1 * x3)), (0, .int x0), (1, .long x1), (3, .long x3)] dX2_join_83 (by decide) rfl ?_
        refine j_goto h 149 dX2_join_85 (by decide) ?_
        refine j_sub [0] rfl ?_
        exact jb_f2_join_j149 h fin hS (x1 * x3)
      · refine j_ite (fun c_3 => ?_) (fun c_3 => ?_)
        · refine j_tabIn h 88 (9 : Int32) dX2_join_23 c_3 (by decide) (by decide) rfl (by decide) ?_
          refine j_lload_n h dX2_join_88 rfl 1 rfl ?_
          refine j_lload_n h dX2_join_89 rfl 2 rfl ?_
          refine j_ldiv h dX2_join_90 ?_
          refine j_lstore h [(5, .long (x1 / x3)), (0, .int x0), (1, .long x1), (3, .long x3)] dX2_join_91 (by decide) rfl ?_
          refine j_goto h 149 dX2_join_93 (by decide) ?_
          refine j_sub [0] rfl ?_
          exact jb_f2_join_j149 h fin hS (x1 / x3)
        · refine j_ite (fun c_4 => ?_) (fun c_4 => ?_)
          · refine j_tabIn h 96 (10 : Int32) dX2_join_23 c_4 (by decide) (by decide) rfl (by decide) ?_
            refine j_lload_n h dX2_join_96 rfl 1 rfl ?_
            refine j_lload_n h dX2_join_97 rfl 2 rfl ?_
            refine j_lrem h dX2_join_98 ?_
            refine j_lstore h [(5, .long (x1 - x1 / x3 * x3)), (0, .int x0), (1, .long x1), (3, .long x3)] dX2_join_99 (by decide) rfl ?_
            refine j_goto h 149 dX2_join_101 (by decide) ?_
            refine j_sub [0] rfl ?_
            exact jb_f2_join_j149 h fin hS (x1 - x1 / x3 * x3)
          · refine j_ite (fun c_5 => ?_) (fun c_5 => ?_)
            · refine j_tabIn h 104 (11 : Int32) dX2_join_23 c_5 (by decide) (by decide) rfl (by decide) ?_
              refine j_lload_n h dX2_join_104 rfl 1 rfl ?_
              refine j_lload_n h dX2_join_105 rfl 2 rfl ?_
              refine j_lcmp h dX2_join_106 ?_
              refine j_if_ge h 114 dX2_join_107 (by decide) ?_ ?_
              · refine j_lconst (v := (0 : Int64)) h dX2_join_114 (by decide) ?_
                refine j_sub [] rfl ?_
                exact jb_f2_join_j115 h fin hS (0 : Int64)
              · refine j_lconst (v := (1 : Int64)) h dX2_join_110 (by decide) ?_
                refine j_goto h 115 dX2_join_111 (by decide) ?_
                refine j_sub [] rfl ?_
                exact jb_f2_join_j115 h fin hS (1 : Int64)
            · refine j_ite (fun c_6 => ?_) (fun c_6 => ?_)
              · refine j_tabIn h 120 (12 : Int32) dX2_join_23 c_6 (by decide) (by decide) rfl (by decide) ?_
                refine j_lload_n h dX2_join_120 rfl 1 rfl ?_
                refine j_lload_n h dX2_join_121 rfl 2 rfl ?_
                refine j_lcmp h dX2_join_122 ?_
                refine j_if_le h 130 dX2_join_123 (by decide) ?_ ?_
                · refine j_lconst (v := (0 : Int64)) h dX2_join_130 (by decide) ?_
                  refine j_sub [] rfl ?_
                  exact jb_f2_join_j131 h fin hS (0 : Int64)
                · refine j_lconst (v := (1 : Int64)) h dX2_join_126 (by decide) ?_
                  refine j_goto h 131 dX2_join_127 (by decide) ?_
                  refine j_sub [] rfl ?_
                  exact jb_f2_join_j131 h fin hS (1 : Int64)
              · have hq0 := lv_neT c_0 (a := 6) rfl
                have hq1 := lv_neT c_1 (a := 7) rfl
                have hq2 := lv_neT c_2 (a := 8) rfl
                have hq3 := lv_neT c_3 (a := 9) rfl
                have hq4 := lv_neT c_4 (a := 10) rfl
                have hq5 := lv_neT c_5 (a := 11) rfl
                have hq6 := lv_neT c_6 (a := 12) rfl
                refine j_tabOut h 136 dX2_join_23 (by omega) (by decide) ?_
                refine j_lload_n h dX2_join_136 rfl 1 rfl ?_
                refine j_lload_n h dX2_join_137 rfl 2 rfl ?_
                refine j_lcmp h dX2_join_138 ?_
                refine j_if_ne h 146 dX2_join_139 (by decide) ?_ ?_
                · refine j_lconst (v := (0 : Int64)) h dX2_join_146 (by decide) ?_
                  refine j_sub [] rfl ?_
                  exact jb_f2_join_j147 h fin hS (0 : Int64)
                · refine j_lconst (v := (1 : Int64)) h dX2_join_142 (by decide) ?_
                  refine j_goto h 147 dX2_join_143 (by decide) ?_
                  refine j_sub [] rfl ?_
                  exact jb_f2_join_j147 h fin hS (1 : Int64)
theorem ydf2_join : ph_yd yX2_join 3 := ⟨by decide, by decide, by decide +kernel⟩
def f2_join (S : ph_Sh) (M : ph_Mem) (p0 : Int32) (p1 : Int64) (p2 : Int64) : Option Int64 :=
  if (lg_cmp p2 (0 : Int64)) = 0 then (if p0 = (9 : Int32) then (some (-4000000000000000000 : Int64)) else (if p0 = (10 : Int32) then (some (-4000000000000000000 : Int64)) else (f2_join_j22 S M p0 p1 p2))) else (f2_join_j22 S M p0 p1 p2)
set_option maxHeartbeats 4000000 in
theorem cf2_join {tb adK adV : Nat → Nat} {S : ph_Sh} {l : Launch} {D : va_G} {cA : Nat → ClassId} {ad : Nat → Nat} (hinj : ∀ i j, i < S.2 → j < S.2 → ad i = ad j → i = j) (hS : ph_SX S) {M : ph_Mem} {p0 : Int32} {p1 : Int64} {p2 : Int64} {r : Int64} (hf : f2_join S M p0 p1 p2 = some r) : ph_C (ph_ZX tb adK adV) l 0 yX2_join cX2_join 7 (some .long) D cA S.1 S.2 ad [.int p0, .long p1, .long p2] M (some (.long r)) M := by
  refine ph_mk ph_ZX_ok hinj (by decide) (Nat.le_of_ble_eq_true rfl) fun X h fin hE => ?_
  refine (?_ : ph_J X S.1 S.2 ad (r : Int64) 0 [(0, .int p0), (1, .long p1), (3, .long p2)] [] M (f2_join S M p0 p1 p2)) hf
  unfold f2_join
  refine j_lload_n h dX2_join_0 rfl 2 rfl ?_
  refine j_lconst (v := (0 : Int64)) h dX2_join_1 (by decide) ?_
  refine j_lcmp h dX2_join_2 ?_
  refine j_if_ne h 22 dX2_join_3 (by decide) ?_ ?_
  · refine j_sub [0, 1, 2] rfl ?_
    exact jb_f2_join_j22 h fin hS p0 p1 p2
  · refine j_iload_n h dX2_join_6 rfl 0 rfl ?_
    refine j_bipush (v := (9 : Int32)) h dX2_join_7 (by decide) ?_
    refine j_icmp_eq h 18 dX2_join_9 (by decide) ?_ ?_
    · refine j_ldc2 (v := (-4000000000000000000 : Int64)) h dX2_join_18 tw_511 ?_
      exact j_lretP h rfl fin dX2_join_21
    · refine j_iload_n h dX2_join_12 rfl 0 rfl ?_
      refine j_bipush (v := (10 : Int32)) h dX2_join_13 (by decide) ?_
      refine j_icmp_ne h 22 dX2_join_15 (by decide) ?_ ?_
      · refine j_sub [0, 1, 2] rfl ?_
        exact jb_f2_join_j22 h fin hS p0 p1 p2
      · refine j_ldc2 (v := (-4000000000000000000 : Int64)) h dX2_join_18 tw_511 ?_
        exact j_lretP h rfl fin dX2_join_21
