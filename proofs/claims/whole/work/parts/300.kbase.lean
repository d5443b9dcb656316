/-! LIST WORLDS, for the constructors -/
def ph_A1 (h0 sz : Nat) : Nat → Prop := fun q => q = h0 ∨ sz ≤ q
theorem ph_A1_va {h0 sz : Nat} {e : va_E} : va_A [(h0, e)] sz = ph_A1 h0 sz := by
  funext q
  apply propext
  constructor
  · rintro (⟨k, e', h⟩ | h)
    · cases k with
      | zero => simp at h; exact Or.inl h.1.symm
      | succ k => simp at h
    · exact Or.inr h
  · rintro (h | h)
    · exact Or.inl ⟨0, e, by simp [h]⟩
    · exact Or.inr h
def ph_rk (d mc ms : Nat) : Room := { frames := d, cells := mc, slots := ms, locals := 64 * d }
theorem ph_ZX_narrow {tb adK adV : Nat → Nat} {A B : Nat → Prop} {U : State} (hAB : ∀ q, B q → A q) (h : ph_ZX tb adK adV A U) : ph_ZX tb adK adV B U := by
  obtain ⟨h1, h2, h3, h4, h5, h7, h6⟩ := h
  exact ⟨h1, h2, fun k hk => ⟨(h3 k hk).1.narrow hAB, (h3 k hk).2.narrow hAB⟩, h4.narrow hAB, h5.narrow hAB, h7, fun i hi => ⟨(h6 i hi).1, (h6 i hi).2.1.narrow hAB, (h6 i hi).2.2.1.narrow hAB, (h6 i hi).2.2.2.1.narrow hAB, (h6 i hi).2.2.2.2.narrow hAB⟩⟩
/-- a constructor's contract: from the new object alone, with its fields fs, to what Post says -/
def ph_CT (l : Launch) (d mc ms : Nat) (y : MethodName) (b : ByteArray) (nL : Nat) (D : va_G) (cA : Nat → ClassId) (tb adK adV : Nat → Nat) (h0 ci : Nat) (fs args : List Value) (Post : (Nat → Prop) → Heap → Prop) : Prop :=
  ∀ sz, h0 < sz → Met l y (.code y b nL none :: ph_T) (ph_rk d mc ms) (va_Pc (.ref h0 :: args) (fun U => U.heap.size = sz ∧ va_P D ph_cl [(h0, .inr (ci, fs))] U.heap ∧ va_K D ph_cl (ph_tys cA) U ∧ ph_ZX tb adK adV (ph_A1 h0 sz) U)) (fun _ st oc t => (oc = .returned none ∧ Post (ph_A1 h0 sz) t.heap) ∧ va_F (ph_A1 h0 sz) st t) mc ms (ph_A1 h0 sz)
def ph_updl (f : Nat → Int32) : List (Nat × Int32) → Nat → Int32
  | [] => f
  | (i, x) :: r => ph_updl (upd f i x) r
section PHK
variable {p : Program} {l : Launch} {e : Env} {R : Room} {s : State} {m : MethodId} {args : Array Value} {below : List Frame} {meth : Method} {c : Code} {H : Heap} {locs : List Loc} {cells slots : Nat} {Q : State → Prop}
variable {cc : ByteArray} {pc : Nat} {ls : Array Slot} {rest st0 : List Value} {D : va_G} {cA : Nat → ClassId} {A : Nat → Prop} {ws : va_W} {H0 : Heap} {tb adK adV : Nat → Nat}
theorem ph_raP {s : State} {c1 c2 : ClassId} {ty : FieldType} (hty : ty = .int ∨ ty = .long ∨ ty = .byte ∨ ty = .boolean) (h1 : va_RA s c1 ty) (h2 : va_RA s c2 ty) : c1 = c2 := by
  rcases hty with rfl | rfl | rfl | rfl <;> exact Option.some.inj (Eq.trans (Eq.symm h1) h2)
theorem c_newa (hx : p.tables.exec = Jvm.exec) (hb : c.code = cc) (t : Nat) {atype : ArrayType} {ty : FieldType} (hty : newarray.typeOf atype = ty) (hp : ty = .int ∨ ty = .long ∨ ty = .byte ∨ ty = .boolean) (htt : (ph_tys cA)[t]? = some (cA t, ty)) (hts : ∀ w ∈ ph_T, w.before args s = true) (harr : Cond.arrayClass ty ∈ ph_T) (hK : va_K D ph_cl (ph_tys cA) s) (hP : va_P D ph_cl ws H) (hD : va_D A ws) (hS : va_S A H0 H locs) (hA : ∀ q, H0.size ≤ q → A q) {n : Int32} {N' : Nat} {a0 : vp_A} (ha : ∀ cA : ClassId, vp_cell cA a0 = arrV cA N' (fun _ => defaultValue ty)) (hn : ¬ n < 0) (hN : n.toNatClampNeg = N') (hbytes : N' * componentBytes ty ≤ 536870912) (hcells : cells + 1 ≤ R.cells) (hslots : slots + N' ≤ R.slots) (hdg : decode cc pc = .ok (.newarray atype, 2))
    (kk : ∀ (q : Nat) (H1 : Heap), va_P D ph_cl (ws ++ [(q, .inl (cA t, a0))]) H1 → va_D A (ws ++ [(q, .inl (cA t, a0))]) → va_S A H0 H1 locs → W p l e R s m args below meth c H1 locs (cells + 1) (slots + N') Q (F0 m (pc + 2) ls (.ref q :: rest))) : W p l e R s m args below meth c H locs cells slots Q (F0 m pc ls (.int n :: rest)) := by
  subst hty
  refine va_newa hx hb (hts _ harr) rfl hK hP hD hS hA ha hn hN hbytes hcells hslots hdg (fun q c1 H1 hK1 hP1 hD1 hS1 => ?_)
  have h6 : (ph_tys cA ++ [(c1, newarray.typeOf atype)])[6]? = some (c1, newarray.typeOf atype) := rfl
  have e1 : c1 = cA t := ph_raP hp (hK1.2 6 _ h6).2 (hK.2 t _ htt).2
  rw [e1] at hP1 hD1
  exact kk q H1 hP1 hD1 hS1
/-- behind a constructor -/
theorem c_ctor {h0 mc ms : Nat} {Post : (Nat → Prop) → Heap → Prop} {e0 : va_E} (hr : va_Run p l e R s m args below meth c H locs cells slots mc ms (F0 m pc ls st0) rest (fun st oc t => (oc = .returned none ∧ Post (ph_A1 h0 H.size) t.heap) ∧ va_F (ph_A1 h0 H.size) st t) (ph_A1 h0 H.size)) (hS : va_S A H0 H locs) (hF : ∀ q, va_A [(h0, e0)] H.size q → A q)
    (kk : ∀ (H1 : Heap) (locs1 : List Loc), Post (va_A [(h0, e0)] H.size) H1 → (∀ q : Nat, q < H.size → ¬ va_A [(h0, e0)] H.size q → H1[q]? = H[q]?) → va_S A H0 H1 locs1 → W p l e R s m args below meth c H1 locs1 (cells + mc) (slots + ms) Q (F0 m (pc + 3) ls rest)) : W p l e R s m args below meth c H locs cells slots Q (F0 m pc ls st0) := by
  rw [ph_A1_va] at hF kk
  intro T hT X
  obtain ⟨v, st₀, t, T', L, h1, X', hL, e1, e2, ⟨⟨hv, hp⟩, hz, hk⟩, st⟩ := hr T hT X
  cases hv
  rw [h1] at hz hk
  obtain ⟨t2, a1, b1⟩ := kk T'.heap (locs ++ L) (by rw [e1]; exact hp) (fun q g1 g2 => by rw [e1]; exact hk q g1 g2)
    ⟨Nat.le_trans hS.1 (by rw [e1]; exact hz), fun q g1 g2 => by rw [e1, hk q (Nat.lt_of_lt_of_le g1 hS.1) (fun z => g2 (hF q z))]; exact hS.2.1 q g1 g2, fun q hq => by
      rcases List.mem_append.mp hq with h | h
      · exact hS.2.2 q h
      · exact hF _ (hL q h)⟩ T' rfl X'
  exact ⟨t2, st t2 a1, b1⟩
theorem ph_raO {s : State} {c1 c2 : ClassId} {C : String} (h1 : va_RA s c1 (.object C)) (h2 : va_RA s c2 (.object C)) : c1 = c2 := by
  obtain ⟨k1, m1, -, -, -, e1⟩ := h1
  obtain ⟨k2, m2, -, -, -, e2⟩ := h2
  exact Option.some.inj (e1.symm.trans e2)
def ph_tf (k : Nat) : Nat → Int32 := fun j => (ph_tv k).getD j 0
theorem ph_nn {z : Int32} (hz : ¬ z < 0) : z.toInt = (z.toNatClampNeg : Int) := by
  have h0 : (0 : Int) ≤ z.toInt := by simpa using Int32.le_iff_toInt_le.mp (Int32.not_lt.mp hz)
  show z.toInt = ((z.toInt.toNat : Nat) : Int)
  omega
/-- System.arraycopy out of a table of ints that nobody writes, from its start -/
theorem c_copyt (hx : p.tables.exec = Jvm.exec) (hb : c.code = cc) (hml : c.maxLocals = ls.size) {own : String} {index : Nat} (hown : s.vm.findClass own = some m.cls) (hlink : (Cond.methodLink own index arraycopyName).before args s = true) (hnat : (Cond.native arraycopyName).before args s = true) (hstat : (Cond.static arraycopyName).before args s = true) (hini : (Cond.initialized "java/lang/System").before args s = true)
    (hK : va_K D ph_cl (ph_tys cA) s) (hP : va_P D ph_cl ws H) (hD : va_D A ws) (hS : va_S A s.heap H locs) {t n0 k n a : Nat} {f g : Nat → Int32} (hT : va_T .int t n0 (fun j => .int (f j)) A s s.heap) (hn0 : n ≤ n0) (ha : ws[k]? = some (a, .inl (cA 0, n, .inl g))) {nn : Int32} (hnn : ¬ nn < 0 ∧ nn.toNatClampNeg = n) (hframes : 1 ≤ R.frames) (hlocals : (rest.map fun v => v.category).sum + (nativeFrameWords "java/lang/System" "arraycopy" 5 + 11) ≤ R.locals) (hdg : decode cc pc = .ok (.invokestatic index, 3))
    (kk : ∀ (H1 : Heap) (locs1 : List Loc), va_P D ph_cl (ws.set k (a, .inl (cA 0, n, .inl (va_cpy f g 0 0 n)))) H1 → va_D A (ws.set k (a, .inl (cA 0, n, .inl (va_cpy f g 0 0 n)))) → va_S A s.heap H1 locs1 → W p l e R s m args below meth c H1 locs1 cells slots Q (F0 m (pc + 3) ls rest)) : W p l e R s m args below meth c H locs cells slots Q (F0 m pc ls (.int nn :: .int 0 :: .ref a :: .int 0 :: .ref t :: rest)) := by
  obtain ⟨hn1, hn2⟩ := hnn
  intro T hTh SX
  obtain ⟨src, s1, s2, s3, s4, -, s5, s6⟩ := hT
  have c0 : H[t]? = some src := by rw [hS.2.1 t (Array.getElem?_eq_some_iff.mp s1).1 s6]; exact s1
  have c1 : H[a]? = some (vp_cell (cA 0) (n, .inl g)) := hP k _ ha
  obtain ⟨k6, k0, hk0, m0, hm0⟩ := s2
  obtain ⟨-, k1, hk1, m1, hm1⟩ := (hK.2 0 (cA 0, .int) rfl).1 n (fun j => .int (g j))
  have z0 : ¬ (0 : Int32) < 0 := by decide
  have e0 : (0 : Int32).toNatClampNeg = 0 := by decide
  have eg : ∀ i, i < n → src.slots.getD (0 + i) .null = .int (f i) := fun i hi => by
    rw [Array.getD_eq_getD_getElem?, s5 _ (by omega), Nat.zero_add]
    rfl
  obtain ⟨vm', X', stp⟩ := SX.arraycopy hx hown hlink hnat hstat hini (src := t) (dst := a) (cs := src) (cd := vp_cell (cA 0) (n, .inl g)) (srcPos := 0) (destPos := 0) (n := nn) (by rw [hTh]; exact c0) (by rw [hTh]; exact c1)
    k6 (fun _ h => by cases h) s3 (fun h => by cases h) hk0 hk1 hm0 hm1 (by simp [refKind]) z0 z0 hn1
    (by rw [ph_nn z0, ph_nn hn1, e0, hn2]; omega)
    (by rw [ph_nn z0, ph_nn hn1, e0, hn2]; show ¬ _ > ((arrV (cA 0) n (fun j => .int (g j))).slots.size : Int); rw [arrV_size]; omega)
    (fun vm₁ _ i hi => by
      rw [e0, eg i (by rw [← hn2]; exact hi)]
      exact ⟨rfl, trivial⟩)
    (g := F0 m pc ls (.int nn :: .int 0 :: .ref a :: .int 0 :: .ref t :: rest)) rfl (by rw [hml]) (rest := rest) rfl (by rw [hb]; exact hdg) hframes (by show 2 * 0 + _ + _ ≤ _; omega)
  have e1 : copied src (vp_cell (cA 0) (n, .inl g)) 0 0 nn = vp_cell (cA 0) (n, .inl (va_cpy f g (0 : Int32).toNatClampNeg (0 : Int32).toNatClampNeg nn.toNatClampNeg)) := va_copiedX (fun z => .int z) src (cA 0) f g s5 (by rw [e0, hn2]; omega)
  rw [e0, hn2] at e1
  rw [e1] at X' stp
  have hl : a < H.size := (Array.getElem?_eq_some_iff.mp c1).1
  have hheap : ((T.setVm vm').setCell a (vp_cell (cA 0) (n, .inl (va_cpy f g 0 0 n)))).heap = H.setIfInBounds a (vp_cell (cA 0) (n, .inl (va_cpy f g 0 0 n))) := by rw [← hTh]; rfl
  have oq : ∀ q : Nat, q ≠ a → (H.setIfInBounds a (vp_cell (cA 0) (n, .inl (va_cpy f g 0 0 n))))[q]? = H[q]? := fun q hq => by simp [Array.getElem?_setIfInBounds, Ne.symm hq]
  obtain ⟨t2, a1, b1⟩ := kk _ _ (hP.set hD ha (show (H.setIfInBounds a _)[a]? = some _ by simp [Array.getElem?_setIfInBounds, hl]) oq) (hD.set ha) ⟨by simp; exact hS.1, fun q g1 g2 => by
      rw [oq q (fun e => g2 (by rw [e]; exact hD.2 k _ ha))]
      exact hS.2.1 q g1 g2, fun q hq => by
      rcases List.mem_append.mp hq with h | h
      · exact hS.2.2 q h
      · obtain ⟨z, -, hz⟩ := List.mem_map.mp h
        rw [← hz]
        exact hD.2 k _ ha⟩ _ hheap X'
  exact ⟨t2, stp t2 a1, b1⟩
/-- Arrays.fill of ints, as a function -/
theorem ph_fill_ok (S : ph_Sh) (a : Nat) (v : Int32) (hl : ph_len S a ≤ 5000) : ∀ (n i : Nat) (M : ph_Mem), i ≤ ph_len S a → ph_len S a < i + n → (∀ j, j < i → M.1 a j = v) → ∃ M', f7_fill_53178_l5 S a n v (nI i) (Int32.ofNat (ph_len S a)) M = some M' ∧ ∀ j, j < ph_len S a → M'.1 a j = v
  | 0, i, M, h1, h2, _ => by omega
  | n + 1, i, M, h1, h2, h3 => by
    have eL : Int32.ofNat (ph_len S a) = nI (ph_len S a) := rfl
    unfold f7_fill_53178_l5
    rw [eL]
    by_cases hi : ph_len S a ≤ i
    · have : i = ph_len S a := by omega
      subst this
      rw [if_pos (nI_le (Nat.le_refl _) (by omega))]
      exact ⟨M, rfl, h3⟩
    · rw [if_neg (fun q => hi ((nI_leI (by omega) (by omega)).mp q))]
      have hb : ph_ib (nI i) (ph_len S a) = true := by
        unfold ph_ib
        rw [nI_clamp (by omega)]
        simp only [Bool.not_eq_true', Bool.or_eq_false_iff, decide_eq_false_iff_not]
        exact ⟨nI_pos (by omega), hi⟩
      rw [hb]
      simp only [cond, ph_let, nI_clamp (show i < 2 ^ 31 by omega), nI_1]
      refine ph_fill_ok S a v hl n (i + 1) _ (by omega) (by omega) (fun j hj => ?_)
      by_cases hji : j = i
      · subst hji; simp [ph_wi, ph_u2]
      · simp only [ph_wi, ph_u2, if_true, hji, if_false]
        exact h3 j (by omega)
theorem c_fill (hx : p.tables.exec = Jvm.exec) (hb : c.code = cc) {nL : Nat} (hml : c.maxLocals = nL) {own : String} {index : Nat} (hown : s.vm.findClass own = some m.cls) (hts : ∀ w ∈ ph_T, w.before args s = true) (hlink : (Cond.methodLink own index yJ7_fill_53178).before args s = true) (hK : va_K D ph_cl (ph_tys cA) s) (hZ0 : ph_ZX tb adK adV A s) (hP : va_P D ph_cl ws H) (hD : va_D A ws) (hS : va_S A s.heap H locs) (hA : ∀ q, s.heap.size ≤ q → A q) {k n a : Nat} {f : Nat → Int32} {v : Int32} (ha : ws[k]? = some (a, .inl (cA 0, n, .inl f))) (hF : ∀ q, va_A [(a, .inl (cA 0, n, .inl f))] H.size q → A q) (hsz : ls.size = nL) (hW : 2 * (F0 m pc ls (.int v :: .ref a :: rest)).monitorRoom + (rest.map fun v => v.category).sum ≤ 8) (hn : n ≤ 5000) (hfr : 1 ≤ R.frames) (hlo : 23 ≤ R.locals) (hdg : decode cc pc = .ok (.invokestatic index, 3))
    (hcl : cells ≤ R.cells) (hsl : slots ≤ R.slots)
    (kk : ∀ (H1 : Heap) (locs1 : List Loc) (g : Nat → Int32), (∀ j, j < n → g j = v) → va_P D ph_cl (ws.set k (a, .inl (cA 0, n, .inl g))) H1 → va_D A (ws.set k (a, .inl (cA 0, n, .inl g))) → va_S A s.heap H1 locs1 → W p l e R s m args below meth c H1 locs1 cells slots Q (F0 m (pc + 3) ls rest)) : W p l e R s m args below meth c H locs cells slots Q (F0 m pc ls (.int v :: .ref a :: rest)) := by
  have hlen : ph_len ((fun _ => .inl (0, n), 1) : ph_Sh) 0 = n := rfl
  obtain ⟨M', hM, hg⟩ := ph_fill_ok ((fun _ => .inl (0, n), 1) : ph_Sh) 0 v (by rw [hlen]; exact hn) 10000 0 ((fun _ => f, fun _ _ => 0, fun _ _ => none) : ph_Mem) (Nat.zero_le _) (by rw [hlen]; omega) (fun j hj => absurd hj (Nat.not_lt_zero j))
  rw [hlen] at hg
  rw [nI_0] at hM
  have hM2 : f7_fill_53178 ((fun _ => .inl (0, n), 1) : ph_Sh) ((fun _ => f, fun _ _ => 0, fun _ _ => none) : ph_Mem) 0 v = some M' := by
    unfold f7_fill_53178
    simp only [ph_let]
    exact hM
  have hC := cf7_fill_53178 (tb := tb) (adK := adK) (adV := adV) (l := l) (D := D) (cA := cA) (ad := fun _ => a) (S := ((fun _ => .inl (0, n), 1) : ph_Sh)) (p0 := 0) (fun i j hi hj _ => by have h1 : i < 1 := hi; have h2 : j < 1 := hj; omega) trivial ⟨Nat.lt_succ_self 0, rfl⟩ (M := ((fun _ => f, fun _ _ => 0, fun _ _ => none) : ph_Mem)) (p1 := v) (M' := M') hM2
  have hPc : va_P D ph_cl [(a, .inl (cA 0, n, .inl f))] H := hP.sub [k] (by simp [ha])
  have hcode : Cond.code yJ7_fill_53178 cJ7_fill_53178 4 none ∈ ph_T := tw_57
  refine c_ctor (h0 := a) (e0 := .inl (cA 0, n, .inl f)) (mc := 0) (ms := 0) (Post := fun _ H1 => va_P D ph_cl [(a, .inl (cA 0, n, .inl (M'.1 0)))] H1) (va_runS (n := 2) (As := [.ref a, .int v]) (rest := rest) ⟨hx, hb, hml, hown, hts⟩ (hC (ph_A1 a H.size) H.size (fun _ _ => Or.inl rfl) (fun q hq => Or.inr hq)) ⟨callB_of 2 hts (ph_goodc hcode) rfl rfl rfl (hts _ tw_4) hlink ydf7_fill_53178 ⟨hfr, hlo⟩, hts _ tw_56⟩ ⟨fun a U g mk q => by obtain ⟨q0, q1, qP, qK, qZ⟩ := q; exact ⟨q0, q1, qP, va_K.moved (u := U) (U := U.calling g mk a) (Vm.Alike.refl U.vm) qK, ph_ZX_ok.2 _ U _ rfl rfl qZ⟩, fun U hU hW => ⟨rfl, by rw [hU], by rw [hU]; exact hPc, va_K.moved hW.alike hK, ph_ZX_narrow (fun q h => hF q (by rw [ph_A1_va]; exact h)) (ph_ZX_ok.1 _ _ _ hW (fun a h1 h2 => by rw [hU]; exact hS.2.1 a h1 h2) hZ0)⟩⟩ rfl rfl hsz rfl hW hdg ⟨hcl, hsl⟩) hS hF (fun H1 locs1 hpo hk1 hS1 => ?_)
  refine kk H1 locs1 (M'.1 0) hg (fun i q hi => ?_) (hD.set ha) hS1
  have hl := (List.getElem?_eq_some_iff.mp ha).1
  by_cases hik : i = k
  · subst hik
    rw [List.getElem?_set_self hl] at hi
    cases hi
    exact hpo 0 _ rfl
  · rw [List.getElem?_set_ne (Ne.symm hik)] at hi
    refine (hP i q hi).kept (hk1 q.1 (hP i q hi).lt (fun z => ?_))
    rcases z with ⟨j, e', h⟩ | h
    · cases j with
      | zero =>
        simp at h
        exact hik (hD.1 i k q _ hi ha (by rw [← h.1]))
      | succ j => simp at h
    · have := (hP i q hi).lt
      omega
end PHK
