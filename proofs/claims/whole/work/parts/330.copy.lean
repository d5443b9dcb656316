theorem dJ7_copyOf_59c91_0 : decode cJ7_copyOf_59c91 0 = .ok (.iload_n 1, 1) := by decide +kernel
theorem dJ7_copyOf_59c91_1 : decode cJ7_copyOf_59c91 1 = .ok (.aload_n 0, 1) := by decide +kernel
theorem dJ7_copyOf_59c91_2 : decode cJ7_copyOf_59c91 2 = .ok (.arraylength, 1) := by decide +kernel
theorem dJ7_copyOf_59c91_3 : decode cJ7_copyOf_59c91 3 = .ok (.if_icmp .ne 11, 3) := by decide +kernel
theorem dJ7_copyOf_59c91_6 : decode cJ7_copyOf_59c91 6 = .ok (.aload_n 0, 1) := by decide +kernel
theorem dJ7_copyOf_59c91_7 : decode cJ7_copyOf_59c91 7 = .ok (.invokevirtual 316, 3) := by decide +kernel
theorem dJ7_copyOf_59c91_10 : decode cJ7_copyOf_59c91 10 = .ok (.checkcast 317, 3) := by decide +kernel
theorem dJ7_copyOf_59c91_13 : decode cJ7_copyOf_59c91 13 = .ok (.areturn, 1) := by decide +kernel
theorem dJ7_copyOf_59c91_14 : decode cJ7_copyOf_59c91 14 = .ok (.iload_n 1, 1) := by decide +kernel
theorem dJ7_copyOf_59c91_15 : decode cJ7_copyOf_59c91 15 = .ok (.newarray .int, 2) := by decide +kernel
theorem dJ7_copyOf_59c91_17 : decode cJ7_copyOf_59c91 17 = .ok (.astore_n 2, 1) := by decide +kernel
theorem dJ7_copyOf_59c91_18 : decode cJ7_copyOf_59c91 18 = .ok (.aload_n 0, 1) := by decide +kernel
theorem dJ7_copyOf_59c91_19 : decode cJ7_copyOf_59c91 19 = .ok (.iconst 0, 1) := by decide +kernel
theorem dJ7_copyOf_59c91_20 : decode cJ7_copyOf_59c91 20 = .ok (.aload_n 2, 1) := by decide +kernel
theorem dJ7_copyOf_59c91_21 : decode cJ7_copyOf_59c91 21 = .ok (.iconst 0, 1) := by decide +kernel
theorem dJ7_copyOf_59c91_22 : decode cJ7_copyOf_59c91 22 = .ok (.aload_n 0, 1) := by decide +kernel
theorem dJ7_copyOf_59c91_23 : decode cJ7_copyOf_59c91 23 = .ok (.arraylength, 1) := by decide +kernel
theorem dJ7_copyOf_59c91_24 : decode cJ7_copyOf_59c91 24 = .ok (.iload_n 1, 1) := by decide +kernel
theorem dJ7_copyOf_59c91_25 : decode cJ7_copyOf_59c91 25 = .ok (.invokestatic 304, 3) := by decide +kernel
theorem dJ7_copyOf_59c91_28 : decode cJ7_copyOf_59c91 28 = .ok (.invokestatic 150, 3) := by decide +kernel
theorem dJ7_copyOf_59c91_31 : decode cJ7_copyOf_59c91 31 = .ok (.aload_n 2, 1) := by decide +kernel
theorem dJ7_copyOf_59c91_32 : decode cJ7_copyOf_59c91 32 = .ok (.areturn, 1) := by decide +kernel
set_option maxRecDepth 100000 in
theorem tw_798 : Cond.methodLink RJ7 316 ⟨"[I", "clone", "()Ljava/lang/Object;"⟩ ∈ ph_T := ph_T_t 798 (by decide +kernel) rfl
set_option maxRecDepth 100000 in
theorem tw_799 : Cond.sameMethod "[I" "java/lang/Object" "clone" "()Ljava/lang/Object;" ∈ ph_T := ph_T_t 799 (by decide +kernel) rfl
set_option maxRecDepth 100000 in
theorem tw_800 : Cond.native ⟨"java/lang/Object", "clone", "()Ljava/lang/Object;"⟩ ∈ ph_T := ph_T_t 800 (by decide +kernel) rfl
set_option maxRecDepth 100000 in
theorem tw_801 : Cond.instanceMethod ⟨"java/lang/Object", "clone", "()Ljava/lang/Object;"⟩ ∈ ph_T := ph_T_t 801 (by decide +kernel) rfl
set_option maxRecDepth 100000 in
theorem tw_802 : Cond.selects "[I" ⟨"[I", "clone", "()Ljava/lang/Object;"⟩ ⟨"java/lang/Object", "clone", "()Ljava/lang/Object;"⟩ ∈ ph_T := ph_T_t 802 (by decide +kernel) rfl
set_option maxRecDepth 100000 in
theorem tw_804 : Cond.classLink RJ7 317 "[I" ∈ ph_T := ph_T_t 804 (by decide +kernel) rfl
set_option maxRecDepth 100000 in
theorem tw_805 : Cond.methodLink RJ7 304 yJ9_min_7cf53 ∈ ph_T := ph_T_t 805 (by decide +kernel) rfl
set_option maxRecDepth 100000 in
theorem tw_806 : Cond.methodLink RJ7 150 arraycopyName ∈ ph_T := ph_T_t 806 (by decide +kernel) rfl

def kp_copy (D : va_G) (cA : Nat → ClassId) (a n m : Nat) (f : Nat → Int32) (A : Nat → Prop) (oc : Outcome) (H : Heap) : Prop := ∃ (q : Nat) (g : Nat → Int32), oc = .returned (some (.ref q)) ∧ (∀ j, j < m → g j = if j < n then f j else 0) ∧ va_P D ph_cl [(a, .inl (cA 0, n, .inl f)), (q, .inl (cA 0, m, .inl g))] H ∧ va_D A [(a, .inl (cA 0, n, .inl f)), (q, .inl (cA 0, m, .inl g))]
set_option maxHeartbeats 4000000 in
set_option maxRecDepth 100000 in
theorem k_copyOf {tb adK adV : Nat → Nat} {l : Launch} {D : va_G} {cA : Nat → ClassId} (a n m : Nat) (f : Nat → Int32) (hn : n ≤ 5000) (hm : m ≤ 5000) : ∀ sz, a < sz → Met l yJ7_copyOf_59c91 (.code yJ7_copyOf_59c91 cJ7_copyOf_59c91 3 (some (.array .int)) :: ph_T) (ph_rk 2 1 m) (va_Pc [.ref a, .int (nI m)] (fun U => U.heap.size = sz ∧ va_P D ph_cl [(a, .inl (cA 0, n, .inl f))] U.heap ∧ va_K D ph_cl (ph_tys cA) U ∧ ph_ZX tb adK adV (ph_A1 a sz) U)) (fun _ st oc t => kp_copy D cA a n m f (ph_A1 a sz) oc t.heap ∧ va_F (ph_A1 a sz) st t) 1 m (ph_A1 a sz) := by
  intro sz hsz0
  refine va_MetF (cc := cJ7_copyOf_59c91) (maxL := 3) (ret := some (.array .int)) (by decide +kernel) rfl ?_
  intro p e s m' args below meth c s₁ B hml hv
  obtain ⟨rfl, hsz, hP, hK, hZ0⟩ := hv
  have hx := B.exec
  have hb := B.bytes
  have hr := B.returns
  have hts0 := atoms_spec (ws := .code yJ7_copyOf_59c91 cJ7_copyOf_59c91 3 (some (.array .int)) :: ph_T) B.pre
  have hts : ∀ w ∈ ph_T, w.before _ s = true := fun w hw => hts0 w (List.mem_cons_of_mem _ hw)
  have hown : s.vm.findClass RJ7 = some m'.cls := findClass_of_methodNamed B.named
  have hlocks := B.notSynchronized
  subst hsz
  generalize hAe : ph_A1 a s.heap.size = A at hZ0 ⊢
  have hA : ∀ q : Nat, s.heap.size ≤ q → A q := fun q h => by rw [← hAe]; exact Or.inr h
  have hA0 : A a := by rw [← hAe]; exact Or.inl rfl
  have hD : va_D A [(a, .inl (cA 0, n, .inl f))] := ⟨fun i j p q hi hj _ => by
      have h1 := (List.getElem?_eq_some_iff.mp hi).1
      have h2 := (List.getElem?_eq_some_iff.mp hj).1
      simp at h1 h2
      omega, fun k q hk => by
      cases k with
      | zero => simp at hk; rw [← hk]; exact hA0
      | succ k => simp at hk⟩
  have hS : va_S A s.heap s.heap [] := va_S.rf
  have hl := lv_entry ([.ref a, .int (nI m)]) (n := 3) (Nat.le_of_ble_eq_true rfl)
  rw [lg_entry_eq]
  generalize (lg_sl ([.ref a, .int (nI m)]) ++ List.replicate (3 - (lg_sl ([.ref a, .int (nI m)])).length) Slot.unset).toArray = ls at hl ⊢
  have hl : lv_has ls 3 [(0, .ref a), (1, .int (nI m))] := hl
  obtain ⟨H, hH⟩ : ∃ H, H = s.heap := ⟨_, rfl⟩
  rw [← hH] at hP
  have hS : va_S A s.heap H [] := by rw [hH]; exact hS
  suffices hgo : W p l e (ph_rk 2 1 m) s m' _ below meth c H [] 0 0 (MQ below _ _ s 1 m A) (F0 m' 0 ls []) by rw [hH] at hgo; exact hgo
  refine lv_iload_n hx hb dJ7_copyOf_59c91_0 rfl (lv_at hl 1 rfl) ?_
  refine lv_aload_n hx hb dJ7_copyOf_59c91_1 rfl (lv_at hl 0 rfl) ?_
  refine va_alen (x := (n, .inl f)) (v := nI n) hx hb hK hP 0 0 rfl rfl rfl dJ7_copyOf_59c91_2 ?_
  refine lv_icmp_ne (tgt := 14) hx hb dJ7_copyOf_59c91_3 (by decide) (fun hne => ?_) (fun he => ?_)
  · refine lv_iload_n hx hb dJ7_copyOf_59c91_14 rfl (lv_at hl 1 rfl) ?_
    refine c_newa (atype := .int) (ty := .int) (n := nI m) (N' := m) (a0 := (m, .inl (fun _ => 0))) hx hb 0 rfl (Or.inl rfl) rfl hts tw_45 hK hP hD hS hA (fun _ => rfl) (nI_pos (by omega)) (nI_clamp (by omega)) (by show m * 4 ≤ 536870912; omega) (Nat.le_refl 1) (by show 0 + m ≤ m; omega) dJ7_copyOf_59c91_15 (fun q H hP hD hS => ?_)
    have hP : va_P D ph_cl [(a, .inl (cA 0, n, .inl f)), (q, .inl (cA 0, m, .inl (fun _ => 0)))] H := hP
    have hD : va_D A [(a, .inl (cA 0, n, .inl f)), (q, .inl (cA 0, m, .inl (fun _ => 0)))] := hD
    refine lv_astore_n (lv' := [(2, .ref q), (0, .ref a), (1, .int (nI m))]) hx hb dJ7_copyOf_59c91_17 rfl hl (by decide) rfl (fun ls hl => ?_)
    refine lv_aload_n hx hb dJ7_copyOf_59c91_18 rfl (lv_at hl 1 rfl) ?_
    refine lv_iconst (v := 0) hx hb dJ7_copyOf_59c91_19 (by decide) ?_
    refine lv_aload_n hx hb dJ7_copyOf_59c91_20 rfl (lv_at hl 0 rfl) ?_
    refine lv_iconst (v := 0) hx hb dJ7_copyOf_59c91_21 (by decide) ?_
    refine lv_aload_n hx hb dJ7_copyOf_59c91_22 rfl (lv_at hl 1 rfl) ?_
    refine va_alen (x := (n, .inl f)) (v := nI n) hx hb hK hP 0 0 rfl rfl rfl dJ7_copyOf_59c91_23 ?_
    refine lv_iload_n hx hb dJ7_copyOf_59c91_24 rfl (lv_at hl 2 rfl) ?_
    refine va_mmin hx hb (by rw [hml, hl.1]) hown (hts _ tw_805) (hts _ tw_508) (hts _ tw_16) (hts _ tw_509) (Nat.le_of_ble_eq_true rfl) (Nat.le_of_ble_eq_true rfl) (Nat.le_refl 1) (by show 0 + m ≤ m; omega) dJ7_copyOf_59c91_25 ?_
    have emin : (if nI m < nI n then nI m else nI n) = nI (min m n) := by
      by_cases hc : m < n
      · rw [if_pos (nI_lt hc (by omega)), Nat.min_eq_left (by omega)]
      · rw [if_neg (fun q => hc ((nI_ltI (by omega) (by omega)).mp q)), Nat.min_eq_right (by omega)]
    rw [emin]
    have emc : (nI (min m n)).toNatClampNeg = min m n := nI_clamp (by omega)
    have e0 : (0 : Int32).toNatClampNeg = 0 := by decide
    refine va_copyi (f := f) (g := fun _ => 0) (ty := .int) hx hb (by rw [hml, hl.1]) hown (hts _ tw_806) (hts _ tw_62) (hts _ tw_61) (hts _ tw_5) hK hP hD hS 0 1 0 0 rfl rfl rfl rfl rfl (by decide) (by decide) (nI_pos (by omega)) (by rw [emc, e0]; omega) (by rw [emc, e0]; omega) (fun _ _ => rfl) (Nat.le_of_ble_eq_true rfl) (Nat.le_of_ble_eq_true rfl) dJ7_copyOf_59c91_28 (fun H locs hP hD hS => ?_)
    rw [emc, e0] at hP hD
    have hP : va_P D ph_cl [(a, .inl (cA 0, n, .inl f)), (q, .inl (cA 0, m, .inl (va_cpy f (fun _ => 0) 0 0 (min m n))))] H := hP
    have hD : va_D A [(a, .inl (cA 0, n, .inl f)), (q, .inl (cA 0, m, .inl (va_cpy f (fun _ => 0) 0 0 (min m n))))] := hD
    refine lv_aload_n hx hb dJ7_copyOf_59c91_31 rfl (lv_at hl 0 rfl) ?_
    refine W.widen (k := 1) (n := m) (Nat.le_refl 1) (by omega) ?_
    refine W.aret hx hb hr (Or.inr ⟨_, rfl⟩) (Or.inr ⟨q, rfl⟩) (fun t ht hW => ⟨⟨q, _, rfl, fun j hj => ?_, by rw [ht]; exact hP, hD⟩, hS.F ht⟩) hS.2.2 dJ7_copyOf_59c91_32 hlocks
    unfold va_cpy
    by_cases hjn : j < n
    · rw [if_pos hjn, if_pos ⟨Nat.zero_le j, by omega⟩]
      simp
    · rw [if_neg hjn, if_neg (fun q => by omega)]
  · have hmn : m = n := (nI_eq (by omega) (by omega)).mp he
    subst hmn
    refine lv_aload_n hx hb dJ7_copyOf_59c91_6 rfl (lv_at hl 0 rfl) ?_
    refine va_clone (x := (m, .inl f)) (ty := .int) (ad := "[I") hx hb (by rw [hml, hl.1]) hown (hts _ tw_798) (hts _ tw_799) (hts _ tw_800) (hts _ tw_801) (hts _ tw_802) hZ0.2.2.2.2.2.1.1 hK hP hD hS hA 0 0 rfl rfl (va_nm_int (hK.2 0 (cA 0, .int) rfl).2) (fun i v hv => ?_) (Nat.le_of_ble_eq_true rfl) (Nat.le_of_ble_eq_true rfl) (Nat.le_refl 1) (by show 0 + m ≤ m; omega) dJ7_copyOf_59c91_7 (fun q H _ hP hD hS => ?_)
    · have hv1 : (arrV (cA 0) m (fun j => Value.int (f j))).slots[i]? = some v := hv
      have hi : i < m := by
        have := (Array.getElem?_eq_some_iff.mp hv1).1
        rwa [arrV_size] at this
      rw [arrV_read _ _ hi] at hv1
      cases hv1
      rfl
    have hP : va_P D ph_cl [(a, .inl (cA 0, m, .inl f)), (q, .inl (cA 0, m, .inl f))] H := hP
    have hD : va_D A [(a, .inl (cA 0, m, .inl f)), (q, .inl (cA 0, m, .inl f))] := hD
    refine va_castA hx hb hown (hts _ tw_804) hP 1 rfl (va_nm_int (hK.2 0 (cA 0, .int) rfl).2) dJ7_copyOf_59c91_10 ?_
    refine W.widen (k := 1) (n := m) (Nat.le_refl 1) (by show 0 + m ≤ m; omega) ?_
    exact W.aret hx hb hr (Or.inr ⟨_, rfl⟩) (Or.inr ⟨q, rfl⟩) (fun t ht hW => ⟨⟨q, f, rfl, fun j hj => by rw [if_pos hj], by rw [ht]; exact hP, hD⟩, hS.F ht⟩) hS.2.2 dJ7_copyOf_59c91_13 hlocks
