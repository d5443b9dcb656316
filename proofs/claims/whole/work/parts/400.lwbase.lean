/-! THE CLAIM OUT OF ONE WALK OF THE LAW'S BODY. Your part is whole_start (and what it stands on); all else here is the same for every law, but numbers. -/
def R_law : String := "PawnedHoursLaw"
def lw_P (b : Addr) (xs : List Int32) (args : Array Value) (s : State) : Prop := args = #[.ref b] ∧ s.IntsAt b xs ∧ xs.length ≤ 3072 ∧ (Jvm.Cond.and given_1 narrow_1).before args s = true
def lw_Q (_ : Array Value) (s : State) (o : Outcome) (t : State) : Prop := o = .returned (some (.int 1)) ∧ Framed s o t [] 600000 7302250
def lw_Z (below : List Frame) (a : Array Value) (s : State) : State → Prop := fun t => ∃ o, t.status = .running ∧ Ended t below o ∧ lw_Q a s o t
/-- the law's own end, with 1 on the stack, nothing written that was there before, its room as the claim has it -/
theorem lw_ret {p : Program} {l : Launch} {e : Env} {s : State} {m : MethodId} {below : List Frame} {meth : Method} {c : Code} {b : Nat} (hx : p.tables.exec = Jvm.exec) (hb : c.code = code) (hr : meth.sig.returnType = ret) (hlocks : meth.locks = false) {pc : Nat} {H : Heap} {ls : Array Slot} (hdg : decode code pc = .ok (.ireturn, 1)) : W p l e room_1 s m #[Value.ref b] below meth c H [] 600000 7302250 (lw_Z below #[Value.ref b] s) (F0 m pc ls [.int 1]) := by
  intro T hT X
  obtain ⟨fs, hret, hrun, hended, hW, hframe⟩ := X.leave (v := some (.int 1)) (hlocks := hlocks) (fun h => by rw [hr] at h; cases h)
  have hmeth' : T.vm.method? m = some meth := X.method'
  refine ⟨T.setFrames fs, ?_, .returned (some (.int 1)), hrun, hended, rfl, ⟨_, rfl⟩, hW, hframe⟩
  jvm_step X.here [X.here.top, hx, hb, hdg, hmeth', hr, ret, narrow_b1]
  (try refine ⟨rfl, ?_⟩); (try refine ⟨rfl, ?_⟩)
  first | (intro acts; rw [hret _ acts rfl rfl rfl]) | rw [hret _ _ rfl rfl rfl]
  exact Steps.refl _
/-- what holds at the law's entry: the machine, the code, the tables' words (any of lw_tbl by 'hts w (by decide +kernel)'), the script of L ints xs at the cell b, what the Statement gives of the start (any of its parts by flat_of_before) -/
def lw_At (p : Program) (s : State) (m : MethodId) (meth : Method) (c : Code) (b L : Nat) (xs : Nat → Int32) : Prop :=
  p.tables.exec = Jvm.exec ∧ c.code = code ∧ meth.sig.returnType = ret ∧ c.maxLocals = 4 ∧ s.vm.findClass R_law = some m.cls ∧ (∀ w ∈ lw_tbl, w.before #[Value.ref b] s = true) ∧ va_X b L xs s s.heap ∧ b < s.heap.size ∧ meth.locks = false ∧ (Jvm.Cond.and given_1 narrow_1).before #[Value.ref b] s = true

/-- both worlds: the class's, the model's, apart from each other and from all that was there at the start -/
def lw_Wd (D : va_G) (cA : Nat → ClassId) (s : State) (S : ph_Sh) (ax : Nat → Nat) (X : ph_Mem) (am : Nat → Nat) (K : ph_Mem) (H : Heap) : Prop :=
  ph_SX S ∧ va_P D ph_cl (ph_ws cA S.1 S.2 ax X) H ∧ va_P D ph_cl (ph_ws cA ph_kdM ph_NM am K) H ∧ (∀ i j, i < S.2 → j < S.2 → ax i = ax j → i = j) ∧ (∀ i j, i < ph_NM → j < ph_NM → am i = am j → i = j) ∧ (∀ c, c < S.2 → s.heap.size ≤ ax c) ∧ (∀ c, c < ph_NM → s.heap.size ≤ am c) ∧ ∀ c c', c < S.2 → c' < ph_NM → ax c ≠ am c'
theorem lw_htsT {args : Array Value} {s : State} (h : ∀ w ∈ lw_tbl, w.before args s = true) : ∀ w ∈ ph_T, w.before args s = true := fun w hw => h w (List.mem_filter.mp hw).1
def lw_Ax (N : Nat) (ad : Nat → Nat) (sz : Nat) : Nat → Prop := fun q => (∃ c, c < N ∧ q = ad c) ∨ sz ≤ q
theorem ph_ws_lt {D : va_G} {cA : Nat → ClassId} {kd : Nat → ph_Kd} {N : Nat} {ad : Nat → Nat} {M : ph_Mem} {H : Heap} (hP : va_P D ph_cl (ph_ws cA kd N ad M) H) {c : Nat} (hc : c < N) : ad c < H.size := (hP c _ (ph_ws_at hc)).lt
theorem ph_ws_kept {D : va_G} {cA : Nat → ClassId} {kd : Nat → ph_Kd} {N : Nat} {ad : Nat → Nat} {M : ph_Mem} {H H1 : Heap} (hP : va_P D ph_cl (ph_ws cA kd N ad M) H) (hk : ∀ c, c < N → H1[ad c]? = H[ad c]?) : va_P D ph_cl (ph_ws cA kd N ad M) H1 := by
  refine hP.kept (fun k q hq => ?_)
  by_cases hn : k < N
  · rw [ph_ws_at hn] at hq
    cases hq
    exact hk k hn
  · rw [ph_ws_no hn] at hq
    cases hq
section LWB
variable {p : Program} {l : Launch} {e : Env} {s : State} {m : MethodId} {below : List Frame} {meth : Method} {c : Code} {b L : Nat} {xs : Nat → Int32} {H : Heap} {locs : List Loc} {kc ks : Nat} {Q : State → Prop} {D : va_G} {cA tb adK adV : Nat → Nat} {ls : Array Slot} {pc : Nat}
/-- a call of one of the two on its object, the other's world beside it -/
theorem lw_call (C0 : lw_At p s m meth c b L xs) {kd : Nat → ph_Kd} {N : Nat} {ad : Nat → Nat} {M : ph_Mem} {kd2 : Nat → ph_Kd} {N2 : Nat} {ad2 : Nat → Nat} {M2 : ph_Mem} (hK : va_K D ph_cl (ph_tys cA) s) (hZ : ph_ZX tb adK adV (fun q => s.heap.size ≤ q) s) (hP : va_P D ph_cl (ph_ws cA kd N ad M) H) (hP2 : va_P D ph_cl (ph_ws cA kd2 N2 ad2 M2) H) (hge : ∀ c, c < N → s.heap.size ≤ ad c) (hap : ∀ i j, i < N → j < N2 → ad i ≠ ad2 j) (hS : va_S (fun q => s.heap.size ≤ q) s.heap H locs) (hl : ls.size = 4)
    {y : MethodName} {bb : ByteArray} {nL d n index : Nat} {ret : Option FieldType} {As rest : List Value} {v : Option Value} {M' : ph_Mem} (hm : Cond.methodLink R_law index y ∈ ph_T) (hi : Cond.instanceMethod y ∈ ph_T) (hs : Cond.selects y.cls y y ∈ ph_T) (hn : Cond.initialized y.cls ∈ ph_T) (hcd : Cond.code y bb nL ret ∈ ph_T) (hyd : ph_yd y n) (hd : d ≤ 1000) (hnl : nL ≤ 45) (h0 : 0 < N) {ci : Nat} {sl : List (Nat × Nat)} {Tc : u_T} {Nf : Nat} (hk0 : kd 0 = .inr (ci, sl)) (hcl : ph_cl[ci]? = some (y.cls, Tc, Nf)) (hC : ph_C (ph_ZX tb adK adV) l d y bb nL ret D cA kd N ad (.ref (ad 0) :: As) M v M') (hlen : As.length = n) (hW : (rest.map fun v => v.category).sum ≤ 8) (hkc : kc ≤ 600000) (hks : ks ≤ 7302250) (hdg : decode code pc = .ok (.invokevirtual index, 3))
    (kk : ∀ (H1 : Heap) (locs1 : List Loc), va_P D ph_cl (ph_ws cA kd N ad M') H1 → va_P D ph_cl (ph_ws cA kd2 N2 ad2 M2) H1 → va_S (fun q => s.heap.size ≤ q) s.heap H1 locs1 → W p l e room_1 s m #[Value.ref b] below meth c H1 locs1 kc ks Q (F0 m (pc + 3) ls (v.toList ++ rest))) : W p l e room_1 s m #[Value.ref b] below meth c H locs kc ks Q (F0 m pc ls (As.reverse ++ .ref (ad 0) :: rest)) := by
  obtain ⟨hx, hb, hr, hml, hown, hts0, hX, hbl, hlk, hgv⟩ := C0
  have hts := lw_htsT hts0
  have hsub : ∀ q, lw_Ax N ad H.size q → s.heap.size ≤ q := fun q h => h.elim (fun ⟨c, h1, h2⟩ => by rw [h2]; exact hge c h1) (fun h => Nat.le_trans hS.1 h)
  have hroom : (ph_rm d).frames + 1 ≤ room_1.frames ∧ 8 + (nL + 11) + (ph_rm d).locals ≤ room_1.locals := ⟨by show d + 1 ≤ 2048; omega, by show 8 + (nL + 11) + 64 * d ≤ 84000; omega⟩
  have hrun := va_runV (C := y.cls) (l := l) (e := e) (below := below) (meth := meth) (locs := locs) (cells := kc) (slots := ks) (As := As) (rest := rest) (g := F0 m pc ls (As.reverse ++ .ref (ad 0) :: rest)) (n := n) ⟨hx, hb, hml, hown, hts⟩ (hC (lw_Ax N ad H.size) H.size (fun c hc => Or.inl ⟨c, hc, rfl⟩) (fun q hq => Or.inr hq)) ⟨callB_of n hts (ph_goodc hcd) rfl rfl rfl (hts _ hn) (hts _ hm) hyd hroom, hts _ hi, hts _ hs⟩ (H := H) ⟨fun a U g mk q => ?_, va_recv hK hP (ci := ci) (q0 := 0) (fs := ph_F ad M 0 0 sl) hcl (by rw [ph_ws_at h0, hk0]; rfl), fun U hU hW => ⟨rfl, by rw [hU], by rw [hU]; exact hP, va_K.moved hW.alike hK, ph_ZX_narrow hsub (ph_ZX_ok.1 _ _ _ hW (fun a h1 h2 => by rw [hU]; exact hS.2.1 a h1 h2) hZ)⟩⟩ rfl hlen hl rfl (lv_room hW) hdg ⟨hkc, hks⟩
  · intro T hT SX
    obtain ⟨v', st₀, t, T', Lo, g0, X', hL, e1, e2, ⟨⟨hv, hP1⟩, hz, hk⟩, stp⟩ := hrun T hT SX
    cases hv
    rw [g0] at hz hk
    obtain ⟨t2, a1, b1⟩ := kk T'.heap (locs ++ Lo) (by rw [e1]; exact hP1) (by
        rw [e1]
        exact ph_ws_kept hP2 (fun j hj => hk _ (ph_ws_lt hP2 hj) (fun z => z.elim (fun ⟨i, hi, he⟩ => hap i j hi hj he.symm) (fun z => by have := ph_ws_lt hP2 hj; omega)))) ⟨Nat.le_trans hS.1 (by rw [e1]; exact hz), fun q h1 h2 => by rw [e1, hk q (Nat.lt_of_lt_of_le h1 hS.1) (fun z => h2 (hsub q z))]; exact hS.2.1 q h1 h2, fun q hq => by
        rcases List.mem_append.mp hq with h | h
        · exact hS.2.2 q h
        · exact hsub _ (hL q h)⟩ T' rfl X'
    exact ⟨t2, stp t2 a1, b1⟩
  · obtain ⟨q0, q1, qP, qK, qZ⟩ := q
    exact ⟨q0, q1, qP, va_K.moved (u := U) (U := U.calling g mk a) (Vm.Alike.refl U.vm) qK, ph_ZX_ok.2 _ U _ rfl rfl qZ⟩
/-- law() and orders() of the class -/
theorem lw_callA (C0 : lw_At p s m meth c b L xs) {S : ph_Sh} {ad : Nat → Nat} {M : ph_Mem} {kd2 : Nat → ph_Kd} {N2 : Nat} {ad2 : Nat → Nat} {M2 : ph_Mem} (hSX : ph_SX S) (hK : va_K D ph_cl (ph_tys cA) s) (hZ : ph_ZX tb adK adV (fun q => s.heap.size ≤ q) s) (hP : va_P D ph_cl (ph_ws cA S.1 S.2 ad M) H) (hP2 : va_P D ph_cl (ph_ws cA kd2 N2 ad2 M2) H) (hge : ∀ c, c < S.2 → s.heap.size ≤ ad c) (hap : ∀ i j, i < S.2 → j < N2 → ad i ≠ ad2 j) (hS : va_S (fun q => s.heap.size ≤ q) s.heap H locs) (hl : ls.size = 4)
    {y : MethodName} {bb : ByteArray} {nL d index : Nat} {rest : List Value} {o : Int32 × ph_Mem × ph_Sh} (hm : Cond.methodLink R_law index y ∈ ph_T) (hi : Cond.instanceMethod y ∈ ph_T) (hs : Cond.selects y.cls y y ∈ ph_T) (hn : Cond.initialized y.cls ∈ ph_T) (hcd : Cond.code y bb nL (some .int) ∈ ph_T) (hyd : ph_yd y 0) (hyc : y.cls = RX11) (hd : d ≤ 1000) (hnl : nL ≤ 45) (hC : ∀ (A : Nat → Prop) (sz : Nat), (∀ c, c < S.2 → A (ad c)) → (∀ q, sz ≤ q → A q) → Met l y (.code y bb nL (some .int) :: ph_T) (ph_rk d 3 475) (va_Pc [.ref (ad 0)] (fun U => U.heap.size = sz ∧ va_P D ph_cl (ph_ws cA S.1 S.2 ad M) U.heap ∧ va_K D ph_cl (ph_tys cA) U ∧ ph_ZX tb adK adV A U)) (fun _ st oc t => ph_postL D cA A S ad o oc t.heap ∧ va_F A st t) 3 475 A) (hW : (rest.map fun v => v.category).sum ≤ 8) (hkc : kc + 3 ≤ 600000) (hks : ks + 475 ≤ 7302250) (hdg : decode code pc = .ok (.invokevirtual index, 3))
    (kk : ∀ (H1 : Heap) (locs1 : List Loc) (ad' : Nat → Nat), (∀ c, c < S.2 → ad' c = ad c) → (∀ i j, i < o.2.2.2 → j < o.2.2.2 → ad' i = ad' j → i = j) → (∀ c, c < o.2.2.2 → s.heap.size ≤ ad' c) → (∀ i j, i < o.2.2.2 → j < N2 → ad' i ≠ ad2 j) → va_P D ph_cl (ph_ws cA o.2.2.1 o.2.2.2 ad' o.2.1) H1 → va_P D ph_cl (ph_ws cA kd2 N2 ad2 M2) H1 → va_S (fun q => s.heap.size ≤ q) s.heap H1 locs1 → W p l e room_1 s m #[Value.ref b] below meth c H1 locs1 (kc + 3) (ks + 475) Q (F0 m (pc + 3) ls (.int o.1 :: rest))) : W p l e room_1 s m #[Value.ref b] below meth c H locs kc ks Q (F0 m pc ls (.ref (ad 0) :: rest)) := by
  obtain ⟨hx, hb, hr, hml, hown, hts0, hX, hbl, hlk, hgv⟩ := C0
  have hts := lw_htsT hts0
  have hsub : ∀ q, lw_Ax S.2 ad H.size q → s.heap.size ≤ q := fun q h => h.elim (fun ⟨c, h1, h2⟩ => by rw [h2]; exact hge c h1) (fun h => Nat.le_trans hS.1 h)
  have hroom : (ph_rk d 3 475).frames + 1 ≤ room_1.frames ∧ 8 + (nL + 11) + (ph_rk d 3 475).locals ≤ room_1.locals := ⟨by show d + 1 ≤ 2048; omega, by show 8 + (nL + 11) + 64 * d ≤ 84000; omega⟩
  have h0 : 0 < S.2 := by have := hSX.1; omega
  have hrun := va_runV (C := y.cls) (l := l) (e := e) (below := below) (meth := meth) (locs := locs) (cells := kc) (slots := ks) (As := []) (rest := rest) (g := F0 m pc ls (.ref (ad 0) :: rest)) (n := 0) ⟨hx, hb, hml, hown, hts⟩ (hC (lw_Ax S.2 ad H.size) H.size (fun c hc => Or.inl ⟨c, hc, rfl⟩) (fun q hq => Or.inr hq)) ⟨callB_of 0 hts (ph_goodc hcd) rfl rfl rfl (hts _ hn) (hts _ hm) hyd hroom, hts _ hi, hts _ hs⟩ (H := H) ⟨fun a U g mk q => ?_, by rw [hyc]; exact va_recv (q := (RX11, TX11, 19)) hK hP (ci := 11) (q0 := 0) rfl (by rw [ph_ws_at h0, ph_kc0 hSX]; rfl), fun U hU hW => ⟨rfl, by rw [hU], by rw [hU]; exact hP, va_K.moved hW.alike hK, ph_ZX_narrow hsub (ph_ZX_ok.1 _ _ _ hW (fun a h1 h2 => by rw [hU]; exact hS.2.1 a h1 h2) hZ)⟩⟩ rfl rfl hl rfl (lv_room hW) hdg ⟨hkc, hks⟩
  · intro T hT SX
    obtain ⟨v', st₀, t, T', Lo, g0, X', hL, e1, e2, ⟨⟨hv, ad', h1, h2, h3, hP1⟩, hz, hk⟩, stp⟩ := hrun T hT SX
    cases hv
    rw [g0] at hz hk
    obtain ⟨t2, a1, b1⟩ := kk T'.heap (locs ++ Lo) ad' h1 h2 (fun c hc => hsub _ (h3 c hc)) (fun i j hi hj he => (h3 i hi).elim (fun ⟨i', hi', he'⟩ => hap i' j hi' hj (he'.symm.trans he)) (fun z => by have := ph_ws_lt hP2 hj; omega)) (by rw [e1]; exact hP1) (by
        rw [e1]
        exact ph_ws_kept hP2 (fun j hj => hk _ (ph_ws_lt hP2 hj) (fun z => z.elim (fun ⟨i, hi, he⟩ => hap i j hi hj he.symm) (fun z => by have := ph_ws_lt hP2 hj; omega)))) ⟨Nat.le_trans hS.1 (by rw [e1]; exact hz), fun q h1 h2 => by rw [e1, hk q (Nat.lt_of_lt_of_le h1 hS.1) (fun z => h2 (hsub q z))]; exact hS.2.1 q h1 h2, fun q hq => by
        rcases List.mem_append.mp hq with h | h
        · exact hS.2.2 q h
        · exact hsub _ (hL q h)⟩ T' rfl X'
    exact ⟨t2, stp t2 a1, b1⟩
  · obtain ⟨q0, q1, qP, qK, qZ⟩ := q
    exact ⟨q0, q1, qP, va_K.moved (u := U) (U := U.calling g mk a) (Vm.Alike.refl U.vm) qK, ph_ZX_ok.2 _ U _ rfl rfl qZ⟩
/-- a load of the script -/
theorem lw_sld (C0 : lw_At p s m meth c b L xs) (hS : va_S (fun q => s.heap.size ≤ q) s.heap H locs) {i : Int32} {k : Nat} (hi : i = nI k) (hk : k < L) (hL : L ≤ 3072) {rest : List Value} (hdg : decode code pc = .ok (.iaload, 1)) (kk : W p l e room_1 s m #[Value.ref b] below meth c H locs kc ks Q (F0 m (pc + 1) ls (.int (xs k) :: rest))) : W p l e room_1 s m #[Value.ref b] below meth c H locs kc ks Q (F0 m pc ls (.int i :: .ref b :: rest)) := by
  obtain ⟨hx, hb, hr, hml, hown, hts0, hX, hbl, hlk, hgv⟩ := C0
  subst hi
  refine va_sld hx hb hX hbl (Nat.not_le.mpr hbl) hS (vp_in_nI hk (by omega)) hdg ?_
  rw [nI_clamp (by omega)]
  exact kk
end LWB
set_option maxRecDepth 100000 in
theorem tw_419 : Cond.methodLink R_law 13 yX11_person ∈ ph_T := ph_T_t 419 (by decide +kernel) rfl
set_option maxRecDepth 100000 in
theorem tw_420 : Cond.instanceMethod yX11_person ∈ ph_T := ph_T_t 420 (by decide +kernel) rfl
set_option maxRecDepth 100000 in
theorem tw_421 : Cond.selects yX11_person.cls yX11_person yX11_person ∈ ph_T := ph_T_t 421 (by decide +kernel) rfl
set_option maxRecDepth 100000 in
theorem tw_422 : Cond.code yX11_person cX11_person 1 (some .int) ∈ ph_T := ph_T_t 422 (by rfl) rfl
set_option maxRecDepth 100000 in
theorem tw_435 : Cond.methodLink R_law 18 yX11_put ∈ ph_T := ph_T_t 435 (by decide +kernel) rfl
set_option maxRecDepth 100000 in
theorem tw_436 : Cond.instanceMethod yX11_put ∈ ph_T := ph_T_t 436 (by decide +kernel) rfl
set_option maxRecDepth 100000 in
theorem tw_437 : Cond.selects yX11_put.cls yX11_put yX11_put ∈ ph_T := ph_T_t 437 (by decide +kernel) rfl
set_option maxRecDepth 100000 in
theorem tw_438 : Cond.code yX11_put cX11_put 5 (some .int) ∈ ph_T := ph_T_t 438 (by rfl) rfl
set_option maxRecDepth 100000 in
theorem tw_467 : Cond.methodLink R_law 23 yX11_hour ∈ ph_T := ph_T_t 467 (by decide +kernel) rfl
set_option maxRecDepth 100000 in
theorem tw_468 : Cond.instanceMethod yX11_hour ∈ ph_T := ph_T_t 468 (by decide +kernel) rfl
set_option maxRecDepth 100000 in
theorem tw_469 : Cond.selects yX11_hour.cls yX11_hour yX11_hour ∈ ph_T := ph_T_t 469 (by decide +kernel) rfl
set_option maxRecDepth 100000 in
theorem tw_470 : Cond.code yX11_hour cX11_hour 5 (some .int) ∈ ph_T := ph_T_t 470 (by rfl) rfl
set_option maxRecDepth 100000 in
theorem tw_533 : Cond.methodLink R_law 28 yX11_give ∈ ph_T := ph_T_t 533 (by decide +kernel) rfl
set_option maxRecDepth 100000 in
theorem tw_534 : Cond.instanceMethod yX11_give ∈ ph_T := ph_T_t 534 (by decide +kernel) rfl
set_option maxRecDepth 100000 in
theorem tw_535 : Cond.selects yX11_give.cls yX11_give yX11_give ∈ ph_T := ph_T_t 535 (by decide +kernel) rfl
set_option maxRecDepth 100000 in
theorem tw_536 : Cond.code yX11_give cX11_give 4 (some .int) ∈ ph_T := ph_T_t 536 (by rfl) rfl
set_option maxRecDepth 100000 in
theorem tw_538 : Cond.methodLink R_law 33 yX11_of ∈ ph_T := ph_T_t 538 (by decide +kernel) rfl
set_option maxRecDepth 100000 in
theorem tw_539 : Cond.instanceMethod yX11_of ∈ ph_T := ph_T_t 539 (by decide +kernel) rfl
set_option maxRecDepth 100000 in
theorem tw_540 : Cond.selects yX11_of.cls yX11_of yX11_of ∈ ph_T := ph_T_t 540 (by decide +kernel) rfl
set_option maxRecDepth 100000 in
theorem tw_541 : Cond.code yX11_of cX11_of 3 (some .int) ∈ ph_T := ph_T_t 541 (by rfl) rfl
set_option maxRecDepth 100000 in
theorem tw_559 : Cond.methodLink R_law 37 yX11_needs ∈ ph_T := ph_T_t 559 (by decide +kernel) rfl
set_option maxRecDepth 100000 in
theorem tw_560 : Cond.instanceMethod yX11_needs ∈ ph_T := ph_T_t 560 (by decide +kernel) rfl
set_option maxRecDepth 100000 in
theorem tw_561 : Cond.selects yX11_needs.cls yX11_needs yX11_needs ∈ ph_T := ph_T_t 561 (by decide +kernel) rfl
set_option maxRecDepth 100000 in
theorem tw_562 : Cond.code yX11_needs cX11_needs 4 (some .int) ∈ ph_T := ph_T_t 562 (by rfl) rfl
set_option maxRecDepth 100000 in
theorem tw_564 : Cond.methodLink R_law 41 yX11_terms ∈ ph_T := ph_T_t 564 (by decide +kernel) rfl
set_option maxRecDepth 100000 in
theorem tw_565 : Cond.instanceMethod yX11_terms ∈ ph_T := ph_T_t 565 (by decide +kernel) rfl
set_option maxRecDepth 100000 in
theorem tw_566 : Cond.selects yX11_terms.cls yX11_terms yX11_terms ∈ ph_T := ph_T_t 566 (by decide +kernel) rfl
set_option maxRecDepth 100000 in
theorem tw_567 : Cond.code yX11_terms cX11_terms 4 (some .int) ∈ ph_T := ph_T_t 567 (by rfl) rfl
set_option maxRecDepth 100000 in
theorem tw_577 : Cond.methodLink R_law 45 yX11_feed ∈ ph_T := ph_T_t 577 (by decide +kernel) rfl
set_option maxRecDepth 100000 in
theorem tw_578 : Cond.instanceMethod yX11_feed ∈ ph_T := ph_T_t 578 (by decide +kernel) rfl
set_option maxRecDepth 100000 in
theorem tw_579 : Cond.selects yX11_feed.cls yX11_feed yX11_feed ∈ ph_T := ph_T_t 579 (by decide +kernel) rfl
set_option maxRecDepth 100000 in
theorem tw_580 : Cond.code yX11_feed cX11_feed 6 (some .int) ∈ ph_T := ph_T_t 580 (by rfl) rfl
set_option maxRecDepth 100000 in
theorem tw_585 : Cond.methodLink R_law 50 yX11_end ∈ ph_T := ph_T_t 585 (by decide +kernel) rfl
set_option maxRecDepth 100000 in
theorem tw_586 : Cond.instanceMethod yX11_end ∈ ph_T := ph_T_t 586 (by decide +kernel) rfl
set_option maxRecDepth 100000 in
theorem tw_587 : Cond.selects yX11_end.cls yX11_end yX11_end ∈ ph_T := ph_T_t 587 (by decide +kernel) rfl
set_option maxRecDepth 100000 in
theorem tw_588 : Cond.code yX11_end cX11_end 2 (some .int) ∈ ph_T := ph_T_t 588 (by rfl) rfl
set_option maxRecDepth 100000 in
theorem tw_589 : Cond.methodLink R_law 55 yX11_row ∈ ph_T := ph_T_t 589 (by decide +kernel) rfl
set_option maxRecDepth 100000 in
theorem tw_590 : Cond.instanceMethod yX11_row ∈ ph_T := ph_T_t 590 (by decide +kernel) rfl
set_option maxRecDepth 100000 in
theorem tw_591 : Cond.selects yX11_row.cls yX11_row yX11_row ∈ ph_T := ph_T_t 591 (by decide +kernel) rfl
set_option maxRecDepth 100000 in
theorem tw_592 : Cond.code yX11_row cX11_row 5 (some .int) ∈ ph_T := ph_T_t 592 (by rfl) rfl
set_option maxRecDepth 100000 in
theorem tw_597 : Cond.methodLink R_law 59 yX11_rain ∈ ph_T := ph_T_t 597 (by decide +kernel) rfl
set_option maxRecDepth 100000 in
theorem tw_598 : Cond.instanceMethod yX11_rain ∈ ph_T := ph_T_t 598 (by decide +kernel) rfl
set_option maxRecDepth 100000 in
theorem tw_599 : Cond.selects yX11_rain.cls yX11_rain yX11_rain ∈ ph_T := ph_T_t 599 (by decide +kernel) rfl
set_option maxRecDepth 100000 in
theorem tw_600 : Cond.code yX11_rain cX11_rain 1 (some .int) ∈ ph_T := ph_T_t 600 (by rfl) rfl
set_option maxRecDepth 100000 in
theorem tw_601 : Cond.methodLink R_law 63 yX11_law ∈ ph_T := ph_T_t 601 (by decide +kernel) rfl
set_option maxRecDepth 100000 in
theorem tw_602 : Cond.instanceMethod yX11_law ∈ ph_T := ph_T_t 602 (by decide +kernel) rfl
set_option maxRecDepth 100000 in
theorem tw_603 : Cond.selects yX11_law.cls yX11_law yX11_law ∈ ph_T := ph_T_t 603 (by decide +kernel) rfl
set_option maxRecDepth 100000 in
theorem tw_604 : Cond.code yX11_law cX11_law 2 (some .int) ∈ ph_T := ph_T_t 604 (by rfl) rfl
set_option maxRecDepth 100000 in
theorem tw_825 : Cond.methodLink R_law 67 yX11_orders ∈ ph_T := ph_T_t 825 (by decide +kernel) rfl
set_option maxRecDepth 100000 in
theorem tw_826 : Cond.instanceMethod yX11_orders ∈ ph_T := ph_T_t 826 (by decide +kernel) rfl
set_option maxRecDepth 100000 in
theorem tw_827 : Cond.selects yX11_orders.cls yX11_orders yX11_orders ∈ ph_T := ph_T_t 827 (by decide +kernel) rfl
set_option maxRecDepth 100000 in
theorem tw_828 : Cond.code yX11_orders cX11_orders 2 (some .int) ∈ ph_T := ph_T_t 828 (by rfl) rfl
set_option maxRecDepth 100000 in
theorem tw_887 : Cond.methodLink R_law 71 yX11_fault ∈ ph_T := ph_T_t 887 (by decide +kernel) rfl
set_option maxRecDepth 100000 in
theorem tw_888 : Cond.instanceMethod yX11_fault ∈ ph_T := ph_T_t 888 (by decide +kernel) rfl
set_option maxRecDepth 100000 in
theorem tw_889 : Cond.selects yX11_fault.cls yX11_fault yX11_fault ∈ ph_T := ph_T_t 889 (by decide +kernel) rfl
set_option maxRecDepth 100000 in
theorem tw_890 : Cond.code yX11_fault cX11_fault 1 (some .int) ∈ ph_T := ph_T_t 890 (by rfl) rfl
set_option maxRecDepth 100000 in
theorem tw_891 : Cond.methodLink R_law 75 yX11_stopped ∈ ph_T := ph_T_t 891 (by decide +kernel) rfl
set_option maxRecDepth 100000 in
theorem tw_892 : Cond.instanceMethod yX11_stopped ∈ ph_T := ph_T_t 892 (by decide +kernel) rfl
set_option maxRecDepth 100000 in
theorem tw_893 : Cond.selects yX11_stopped.cls yX11_stopped yX11_stopped ∈ ph_T := ph_T_t 893 (by decide +kernel) rfl
set_option maxRecDepth 100000 in
theorem tw_894 : Cond.code yX11_stopped cX11_stopped 1 (some .int) ∈ ph_T := ph_T_t 894 (by rfl) rfl
set_option maxRecDepth 100000 in
theorem tw_895 : Cond.methodLink R_law 79 yX11_force ∈ ph_T := ph_T_t 895 (by decide +kernel) rfl
set_option maxRecDepth 100000 in
theorem tw_896 : Cond.instanceMethod yX11_force ∈ ph_T := ph_T_t 896 (by decide +kernel) rfl
set_option maxRecDepth 100000 in
theorem tw_897 : Cond.selects yX11_force.cls yX11_force yX11_force ∈ ph_T := ph_T_t 897 (by decide +kernel) rfl
set_option maxRecDepth 100000 in
theorem tw_898 : Cond.code yX11_force cX11_force 3 (some .int) ∈ ph_T := ph_T_t 898 (by rfl) rfl
set_option maxRecDepth 100000 in
theorem tw_899 : Cond.methodLink R_law 83 yX11_pawn ∈ ph_T := ph_T_t 899 (by decide +kernel) rfl
set_option maxRecDepth 100000 in
theorem tw_900 : Cond.instanceMethod yX11_pawn ∈ ph_T := ph_T_t 900 (by decide +kernel) rfl
set_option maxRecDepth 100000 in
theorem tw_901 : Cond.selects yX11_pawn.cls yX11_pawn yX11_pawn ∈ ph_T := ph_T_t 901 (by decide +kernel) rfl
set_option maxRecDepth 100000 in
theorem tw_902 : Cond.code yX11_pawn cX11_pawn 3 (some .int) ∈ ph_T := ph_T_t 902 (by rfl) rfl
set_option maxRecDepth 100000 in
theorem tw_908 : Cond.methodLink R_law 87 yX11_redeem ∈ ph_T := ph_T_t 908 (by decide +kernel) rfl
set_option maxRecDepth 100000 in
theorem tw_909 : Cond.instanceMethod yX11_redeem ∈ ph_T := ph_T_t 909 (by decide +kernel) rfl
set_option maxRecDepth 100000 in
theorem tw_910 : Cond.selects yX11_redeem.cls yX11_redeem yX11_redeem ∈ ph_T := ph_T_t 910 (by decide +kernel) rfl
set_option maxRecDepth 100000 in
theorem tw_911 : Cond.code yX11_redeem cX11_redeem 3 (some .int) ∈ ph_T := ph_T_t 911 (by rfl) rfl
set_option maxRecDepth 100000 in
theorem tw_913 : Cond.methodLink R_law 91 yX11_pass ∈ ph_T := ph_T_t 913 (by decide +kernel) rfl
set_option maxRecDepth 100000 in
theorem tw_914 : Cond.instanceMethod yX11_pass ∈ ph_T := ph_T_t 914 (by decide +kernel) rfl
set_option maxRecDepth 100000 in
theorem tw_915 : Cond.selects yX11_pass.cls yX11_pass yX11_pass ∈ ph_T := ph_T_t 915 (by decide +kernel) rfl
set_option maxRecDepth 100000 in
theorem tw_916 : Cond.code yX11_pass cX11_pass 1 (some .int) ∈ ph_T := ph_T_t 916 (by rfl) rfl
set_option maxRecDepth 100000 in
theorem tw_918 : Cond.methodLink R_law 95 yX11_auction ∈ ph_T := ph_T_t 918 (by decide +kernel) rfl
set_option maxRecDepth 100000 in
theorem tw_919 : Cond.instanceMethod yX11_auction ∈ ph_T := ph_T_t 919 (by decide +kernel) rfl
set_option maxRecDepth 100000 in
theorem tw_920 : Cond.selects yX11_auction.cls yX11_auction yX11_auction ∈ ph_T := ph_T_t 920 (by decide +kernel) rfl
set_option maxRecDepth 100000 in
theorem tw_921 : Cond.code yX11_auction cX11_auction 3 (some .int) ∈ ph_T := ph_T_t 921 (by rfl) rfl
set_option maxRecDepth 100000 in
theorem tw_926 : Cond.methodLink R_law 99 yX11_undo ∈ ph_T := ph_T_t 926 (by decide +kernel) rfl
set_option maxRecDepth 100000 in
theorem tw_927 : Cond.instanceMethod yX11_undo ∈ ph_T := ph_T_t 927 (by decide +kernel) rfl
set_option maxRecDepth 100000 in
theorem tw_928 : Cond.selects yX11_undo.cls yX11_undo yX11_undo ∈ ph_T := ph_T_t 928 (by decide +kernel) rfl
set_option maxRecDepth 100000 in
theorem tw_929 : Cond.code yX11_undo cX11_undo 1 (some .int) ∈ ph_T := ph_T_t 929 (by rfl) rfl
set_option maxRecDepth 100000 in
theorem tw_935 : Cond.methodLink R_law 103 yX11_met ∈ ph_T := ph_T_t 935 (by decide +kernel) rfl
set_option maxRecDepth 100000 in
theorem tw_936 : Cond.instanceMethod yX11_met ∈ ph_T := ph_T_t 936 (by decide +kernel) rfl
set_option maxRecDepth 100000 in
theorem tw_937 : Cond.selects yX11_met.cls yX11_met yX11_met ∈ ph_T := ph_T_t 937 (by decide +kernel) rfl
set_option maxRecDepth 100000 in
theorem tw_938 : Cond.code yX11_met cX11_met 4 (some .int) ∈ ph_T := ph_T_t 938 (by rfl) rfl
set_option maxRecDepth 100000 in
theorem tw_959 : Cond.methodLink R_law 107 yX11_learned ∈ ph_T := ph_T_t 959 (by decide +kernel) rfl
set_option maxRecDepth 100000 in
theorem tw_960 : Cond.instanceMethod yX11_learned ∈ ph_T := ph_T_t 960 (by decide +kernel) rfl
set_option maxRecDepth 100000 in
theorem tw_961 : Cond.selects yX11_learned.cls yX11_learned yX11_learned ∈ ph_T := ph_T_t 961 (by decide +kernel) rfl
set_option maxRecDepth 100000 in
theorem tw_962 : Cond.code yX11_learned cX11_learned 3 (some .int) ∈ ph_T := ph_T_t 962 (by rfl) rfl
set_option maxRecDepth 100000 in
theorem tw_964 : Cond.methodLink R_law 111 yX11_deep ∈ ph_T := ph_T_t 964 (by decide +kernel) rfl
set_option maxRecDepth 100000 in
theorem tw_965 : Cond.instanceMethod yX11_deep ∈ ph_T := ph_T_t 965 (by decide +kernel) rfl
set_option maxRecDepth 100000 in
theorem tw_966 : Cond.selects yX11_deep.cls yX11_deep yX11_deep ∈ ph_T := ph_T_t 966 (by decide +kernel) rfl
set_option maxRecDepth 100000 in
theorem tw_967 : Cond.code yX11_deep cX11_deep 2 (some .int) ∈ ph_T := ph_T_t 967 (by rfl) rfl
set_option maxRecDepth 100000 in
theorem tw_978 : Cond.methodLink R_law 115 yX11_lies ∈ ph_T := ph_T_t 978 (by decide +kernel) rfl
set_option maxRecDepth 100000 in
theorem tw_979 : Cond.instanceMethod yX11_lies ∈ ph_T := ph_T_t 979 (by decide +kernel) rfl
set_option maxRecDepth 100000 in
theorem tw_980 : Cond.selects yX11_lies.cls yX11_lies yX11_lies ∈ ph_T := ph_T_t 980 (by decide +kernel) rfl
set_option maxRecDepth 100000 in
theorem tw_981 : Cond.code yX11_lies cX11_lies 2 (some .int) ∈ ph_T := ph_T_t 981 (by rfl) rfl
set_option maxRecDepth 100000 in
theorem tw_1001 : Cond.methodLink R_law 119 yX11_forged ∈ ph_T := ph_T_t 1001 (by decide +kernel) rfl
set_option maxRecDepth 100000 in
theorem tw_1002 : Cond.instanceMethod yX11_forged ∈ ph_T := ph_T_t 1002 (by decide +kernel) rfl
set_option maxRecDepth 100000 in
theorem tw_1003 : Cond.selects yX11_forged.cls yX11_forged yX11_forged ∈ ph_T := ph_T_t 1003 (by decide +kernel) rfl
set_option maxRecDepth 100000 in
theorem tw_1004 : Cond.code yX11_forged cX11_forged 2 (some .int) ∈ ph_T := ph_T_t 1004 (by rfl) rfl
set_option maxRecDepth 100000 in
theorem tw_1024 : Cond.methodLink R_law 123 yX11_stray ∈ ph_T := ph_T_t 1024 (by decide +kernel) rfl
set_option maxRecDepth 100000 in
theorem tw_1025 : Cond.instanceMethod yX11_stray ∈ ph_T := ph_T_t 1025 (by decide +kernel) rfl
set_option maxRecDepth 100000 in
theorem tw_1026 : Cond.selects yX11_stray.cls yX11_stray yX11_stray ∈ ph_T := ph_T_t 1026 (by decide +kernel) rfl
set_option maxRecDepth 100000 in
theorem tw_1027 : Cond.code yX11_stray cX11_stray 3 (some .int) ∈ ph_T := ph_T_t 1027 (by rfl) rfl
set_option maxRecDepth 100000 in
theorem tw_1037 : Cond.methodLink R_law 127 yX11_raise ∈ ph_T := ph_T_t 1037 (by decide +kernel) rfl
set_option maxRecDepth 100000 in
theorem tw_1038 : Cond.instanceMethod yX11_raise ∈ ph_T := ph_T_t 1038 (by decide +kernel) rfl
set_option maxRecDepth 100000 in
theorem tw_1039 : Cond.selects yX11_raise.cls yX11_raise yX11_raise ∈ ph_T := ph_T_t 1039 (by decide +kernel) rfl
set_option maxRecDepth 100000 in
theorem tw_1040 : Cond.code yX11_raise cX11_raise 5 (some .int) ∈ ph_T := ph_T_t 1040 (by rfl) rfl
set_option maxRecDepth 100000 in
theorem tw_1059 : Cond.methodLink R_law 131 yX11_cheapest ∈ ph_T := ph_T_t 1059 (by decide +kernel) rfl
set_option maxRecDepth 100000 in
theorem tw_1060 : Cond.instanceMethod yX11_cheapest ∈ ph_T := ph_T_t 1060 (by decide +kernel) rfl
set_option maxRecDepth 100000 in
theorem tw_1061 : Cond.selects yX11_cheapest.cls yX11_cheapest yX11_cheapest ∈ ph_T := ph_T_t 1061 (by decide +kernel) rfl
set_option maxRecDepth 100000 in
theorem tw_1062 : Cond.code yX11_cheapest cX11_cheapest 3 (some .int) ∈ ph_T := ph_T_t 1062 (by rfl) rfl
set_option maxRecDepth 100000 in
theorem tw_1090 : Cond.methodLink R_law 135 yX11_bid ∈ ph_T := ph_T_t 1090 (by decide +kernel) rfl
set_option maxRecDepth 100000 in
theorem tw_1091 : Cond.instanceMethod yX11_bid ∈ ph_T := ph_T_t 1091 (by decide +kernel) rfl
set_option maxRecDepth 100000 in
theorem tw_1092 : Cond.selects yX11_bid.cls yX11_bid yX11_bid ∈ ph_T := ph_T_t 1092 (by decide +kernel) rfl
set_option maxRecDepth 100000 in
theorem tw_1093 : Cond.code yX11_bid cX11_bid 5 (some .int) ∈ ph_T := ph_T_t 1093 (by rfl) rfl
set_option maxRecDepth 100000 in
theorem tw_1094 : Cond.methodLink R_law 139 yX11_sale ∈ ph_T := ph_T_t 1094 (by decide +kernel) rfl
set_option maxRecDepth 100000 in
theorem tw_1095 : Cond.instanceMethod yX11_sale ∈ ph_T := ph_T_t 1095 (by decide +kernel) rfl
set_option maxRecDepth 100000 in
theorem tw_1096 : Cond.selects yX11_sale.cls yX11_sale yX11_sale ∈ ph_T := ph_T_t 1096 (by decide +kernel) rfl
set_option maxRecDepth 100000 in
theorem tw_1097 : Cond.code yX11_sale cX11_sale 2 (some .int) ∈ ph_T := ph_T_t 1097 (by rfl) rfl
set_option maxRecDepth 100000 in
theorem tw_1128 : Cond.methodLink R_law 143 yX11_lasting ∈ ph_T := ph_T_t 1128 (by decide +kernel) rfl
set_option maxRecDepth 100000 in
theorem tw_1129 : Cond.instanceMethod yX11_lasting ∈ ph_T := ph_T_t 1129 (by decide +kernel) rfl
set_option maxRecDepth 100000 in
theorem tw_1130 : Cond.selects yX11_lasting.cls yX11_lasting yX11_lasting ∈ ph_T := ph_T_t 1130 (by decide +kernel) rfl
set_option maxRecDepth 100000 in
theorem tw_1131 : Cond.code yX11_lasting cX11_lasting 4 (some .long) ∈ ph_T := ph_T_t 1131 (by rfl) rfl
set_option maxRecDepth 100000 in
theorem tw_1142 : Cond.methodLink R_law 148 yX11_years ∈ ph_T := ph_T_t 1142 (by decide +kernel) rfl
set_option maxRecDepth 100000 in
theorem tw_1143 : Cond.instanceMethod yX11_years ∈ ph_T := ph_T_t 1143 (by decide +kernel) rfl
set_option maxRecDepth 100000 in
theorem tw_1144 : Cond.selects yX11_years.cls yX11_years yX11_years ∈ ph_T := ph_T_t 1144 (by decide +kernel) rfl
set_option maxRecDepth 100000 in
theorem tw_1145 : Cond.code yX11_years cX11_years 3 (some .int) ∈ ph_T := ph_T_t 1145 (by rfl) rfl
set_option maxRecDepth 100000 in
theorem tw_1168 : Cond.methodLink R_law 152 yX11_drawn ∈ ph_T := ph_T_t 1168 (by decide +kernel) rfl
set_option maxRecDepth 100000 in
theorem tw_1169 : Cond.instanceMethod yX11_drawn ∈ ph_T := ph_T_t 1169 (by decide +kernel) rfl
set_option maxRecDepth 100000 in
theorem tw_1170 : Cond.selects yX11_drawn.cls yX11_drawn yX11_drawn ∈ ph_T := ph_T_t 1170 (by decide +kernel) rfl
set_option maxRecDepth 100000 in
theorem tw_1171 : Cond.code yX11_drawn cX11_drawn 3 (some .int) ∈ ph_T := ph_T_t 1171 (by rfl) rfl
set_option maxRecDepth 100000 in
theorem tw_1172 : Cond.methodLink R_law 156 yX11_image ∈ ph_T := ph_T_t 1172 (by decide +kernel) rfl
set_option maxRecDepth 100000 in
theorem tw_1173 : Cond.instanceMethod yX11_image ∈ ph_T := ph_T_t 1173 (by decide +kernel) rfl
set_option maxRecDepth 100000 in
theorem tw_1174 : Cond.selects yX11_image.cls yX11_image yX11_image ∈ ph_T := ph_T_t 1174 (by decide +kernel) rfl
set_option maxRecDepth 100000 in
theorem tw_1175 : Cond.code yX11_image cX11_image 2 (some .int) ∈ ph_T := ph_T_t 1175 (by rfl) rfl
set_option maxRecDepth 100000 in
theorem tw_1176 : Cond.methodLink R_law 160 yX11_back ∈ ph_T := ph_T_t 1176 (by decide +kernel) rfl
set_option maxRecDepth 100000 in
theorem tw_1177 : Cond.instanceMethod yX11_back ∈ ph_T := ph_T_t 1177 (by decide +kernel) rfl
set_option maxRecDepth 100000 in
theorem tw_1178 : Cond.selects yX11_back.cls yX11_back yX11_back ∈ ph_T := ph_T_t 1178 (by decide +kernel) rfl
set_option maxRecDepth 100000 in
theorem tw_1179 : Cond.code yX11_back cX11_back 2 (some .int) ∈ ph_T := ph_T_t 1179 (by rfl) rfl
set_option maxRecDepth 100000 in
theorem tw_1180 : Cond.methodLink R_law 164 yX11_count ∈ ph_T := ph_T_t 1180 (by decide +kernel) rfl
set_option maxRecDepth 100000 in
theorem tw_1181 : Cond.instanceMethod yX11_count ∈ ph_T := ph_T_t 1181 (by decide +kernel) rfl
set_option maxRecDepth 100000 in
theorem tw_1182 : Cond.selects yX11_count.cls yX11_count yX11_count ∈ ph_T := ph_T_t 1182 (by decide +kernel) rfl
set_option maxRecDepth 100000 in
theorem tw_1183 : Cond.code yX11_count cX11_count 2 (some .int) ∈ ph_T := ph_T_t 1183 (by rfl) rfl
set_option maxRecDepth 100000 in
theorem tw_1189 : Cond.methodLink R_law 168 yX11_status ∈ ph_T := ph_T_t 1189 (by decide +kernel) rfl
set_option maxRecDepth 100000 in
theorem tw_1190 : Cond.instanceMethod yX11_status ∈ ph_T := ph_T_t 1190 (by decide +kernel) rfl
set_option maxRecDepth 100000 in
theorem tw_1191 : Cond.selects yX11_status.cls yX11_status yX11_status ∈ ph_T := ph_T_t 1191 (by decide +kernel) rfl
set_option maxRecDepth 100000 in
theorem tw_1192 : Cond.code yX11_status cX11_status 1 (some .int) ∈ ph_T := ph_T_t 1192 (by rfl) rfl
set_option maxRecDepth 100000 in
theorem tw_1362 : Cond.methodLink R_law 159 yX12_image ∈ ph_T := ph_T_t 1362 (by decide +kernel) rfl
set_option maxRecDepth 100000 in
theorem tw_1363 : Cond.instanceMethod yX12_image ∈ ph_T := ph_T_t 1363 (by decide +kernel) rfl
set_option maxRecDepth 100000 in
theorem tw_1364 : Cond.selects yX12_image.cls yX12_image yX12_image ∈ ph_T := ph_T_t 1364 (by decide +kernel) rfl
set_option maxRecDepth 100000 in
theorem tw_1365 : Cond.code yX12_image cX12_image 3 (some .int) ∈ ph_T := ph_T_t 1365 (by rfl) rfl
set_option maxRecDepth 100000 in
theorem tw_1377 : Cond.methodLink R_law 163 yX12_back ∈ ph_T := ph_T_t 1377 (by decide +kernel) rfl
set_option maxRecDepth 100000 in
theorem tw_1378 : Cond.instanceMethod yX12_back ∈ ph_T := ph_T_t 1378 (by decide +kernel) rfl
set_option maxRecDepth 100000 in
theorem tw_1379 : Cond.selects yX12_back.cls yX12_back yX12_back ∈ ph_T := ph_T_t 1379 (by decide +kernel) rfl
set_option maxRecDepth 100000 in
theorem tw_1380 : Cond.code yX12_back cX12_back 3 (some .int) ∈ ph_T := ph_T_t 1380 (by rfl) rfl
set_option maxRecDepth 100000 in
theorem tw_1385 : Cond.methodLink R_law 17 yX12_person ∈ ph_T := ph_T_t 1385 (by decide +kernel) rfl
set_option maxRecDepth 100000 in
theorem tw_1386 : Cond.instanceMethod yX12_person ∈ ph_T := ph_T_t 1386 (by decide +kernel) rfl
set_option maxRecDepth 100000 in
theorem tw_1387 : Cond.selects yX12_person.cls yX12_person yX12_person ∈ ph_T := ph_T_t 1387 (by decide +kernel) rfl
set_option maxRecDepth 100000 in
theorem tw_1388 : Cond.code yX12_person cX12_person 4 (some .int) ∈ ph_T := ph_T_t 1388 (by rfl) rfl
set_option maxRecDepth 100000 in
theorem tw_1396 : Cond.methodLink R_law 22 yX12_put ∈ ph_T := ph_T_t 1396 (by decide +kernel) rfl
set_option maxRecDepth 100000 in
theorem tw_1397 : Cond.instanceMethod yX12_put ∈ ph_T := ph_T_t 1397 (by decide +kernel) rfl
set_option maxRecDepth 100000 in
theorem tw_1398 : Cond.selects yX12_put.cls yX12_put yX12_put ∈ ph_T := ph_T_t 1398 (by decide +kernel) rfl
set_option maxRecDepth 100000 in
theorem tw_1399 : Cond.code yX12_put cX12_put 7 (some .int) ∈ ph_T := ph_T_t 1399 (by rfl) rfl
set_option maxRecDepth 100000 in
theorem tw_1422 : Cond.methodLink R_law 27 yX12_hour ∈ ph_T := ph_T_t 1422 (by decide +kernel) rfl
set_option maxRecDepth 100000 in
theorem tw_1423 : Cond.instanceMethod yX12_hour ∈ ph_T := ph_T_t 1423 (by decide +kernel) rfl
set_option maxRecDepth 100000 in
theorem tw_1424 : Cond.selects yX12_hour.cls yX12_hour yX12_hour ∈ ph_T := ph_T_t 1424 (by decide +kernel) rfl
set_option maxRecDepth 100000 in
theorem tw_1425 : Cond.code yX12_hour cX12_hour 6 (some .int) ∈ ph_T := ph_T_t 1425 (by rfl) rfl
set_option maxRecDepth 100000 in
theorem tw_1507 : Cond.methodLink R_law 32 yX12_give ∈ ph_T := ph_T_t 1507 (by decide +kernel) rfl
set_option maxRecDepth 100000 in
theorem tw_1508 : Cond.instanceMethod yX12_give ∈ ph_T := ph_T_t 1508 (by decide +kernel) rfl
set_option maxRecDepth 100000 in
theorem tw_1509 : Cond.selects yX12_give.cls yX12_give yX12_give ∈ ph_T := ph_T_t 1509 (by decide +kernel) rfl
set_option maxRecDepth 100000 in
theorem tw_1510 : Cond.code yX12_give cX12_give 4 (some .int) ∈ ph_T := ph_T_t 1510 (by rfl) rfl
set_option maxRecDepth 100000 in
theorem tw_1512 : Cond.methodLink R_law 36 yX12_of ∈ ph_T := ph_T_t 1512 (by decide +kernel) rfl
set_option maxRecDepth 100000 in
theorem tw_1513 : Cond.instanceMethod yX12_of ∈ ph_T := ph_T_t 1513 (by decide +kernel) rfl
set_option maxRecDepth 100000 in
theorem tw_1514 : Cond.selects yX12_of.cls yX12_of yX12_of ∈ ph_T := ph_T_t 1514 (by decide +kernel) rfl
set_option maxRecDepth 100000 in
theorem tw_1515 : Cond.code yX12_of cX12_of 3 (some .int) ∈ ph_T := ph_T_t 1515 (by rfl) rfl
set_option maxRecDepth 100000 in
theorem tw_1516 : Cond.methodLink R_law 40 yX12_needs ∈ ph_T := ph_T_t 1516 (by decide +kernel) rfl
set_option maxRecDepth 100000 in
theorem tw_1517 : Cond.instanceMethod yX12_needs ∈ ph_T := ph_T_t 1517 (by decide +kernel) rfl
set_option maxRecDepth 100000 in
theorem tw_1518 : Cond.selects yX12_needs.cls yX12_needs yX12_needs ∈ ph_T := ph_T_t 1518 (by decide +kernel) rfl
set_option maxRecDepth 100000 in
theorem tw_1519 : Cond.code yX12_needs cX12_needs 4 (some .int) ∈ ph_T := ph_T_t 1519 (by rfl) rfl
set_option maxRecDepth 100000 in
theorem tw_1523 : Cond.methodLink R_law 44 yX12_terms ∈ ph_T := ph_T_t 1523 (by decide +kernel) rfl
set_option maxRecDepth 100000 in
theorem tw_1524 : Cond.instanceMethod yX12_terms ∈ ph_T := ph_T_t 1524 (by decide +kernel) rfl
set_option maxRecDepth 100000 in
theorem tw_1525 : Cond.selects yX12_terms.cls yX12_terms yX12_terms ∈ ph_T := ph_T_t 1525 (by decide +kernel) rfl
set_option maxRecDepth 100000 in
theorem tw_1526 : Cond.code yX12_terms cX12_terms 5 (some .int) ∈ ph_T := ph_T_t 1526 (by rfl) rfl
set_option maxRecDepth 100000 in
theorem tw_1530 : Cond.methodLink R_law 58 yX12_row ∈ ph_T := ph_T_t 1530 (by decide +kernel) rfl
set_option maxRecDepth 100000 in
theorem tw_1531 : Cond.instanceMethod yX12_row ∈ ph_T := ph_T_t 1531 (by decide +kernel) rfl
set_option maxRecDepth 100000 in
theorem tw_1532 : Cond.selects yX12_row.cls yX12_row yX12_row ∈ ph_T := ph_T_t 1532 (by decide +kernel) rfl
set_option maxRecDepth 100000 in
theorem tw_1533 : Cond.code yX12_row cX12_row 7 (some .int) ∈ ph_T := ph_T_t 1533 (by rfl) rfl
set_option maxRecDepth 100000 in
theorem tw_1534 : Cond.methodLink R_law 62 yX12_rain ∈ ph_T := ph_T_t 1534 (by decide +kernel) rfl
set_option maxRecDepth 100000 in
theorem tw_1535 : Cond.instanceMethod yX12_rain ∈ ph_T := ph_T_t 1535 (by decide +kernel) rfl
set_option maxRecDepth 100000 in
theorem tw_1536 : Cond.selects yX12_rain.cls yX12_rain yX12_rain ∈ ph_T := ph_T_t 1536 (by decide +kernel) rfl
set_option maxRecDepth 100000 in
theorem tw_1537 : Cond.code yX12_rain cX12_rain 1 (some .int) ∈ ph_T := ph_T_t 1537 (by rfl) rfl
set_option maxRecDepth 100000 in
theorem tw_1538 : Cond.methodLink R_law 49 yX12_feed ∈ ph_T := ph_T_t 1538 (by decide +kernel) rfl
set_option maxRecDepth 100000 in
theorem tw_1539 : Cond.instanceMethod yX12_feed ∈ ph_T := ph_T_t 1539 (by decide +kernel) rfl
set_option maxRecDepth 100000 in
theorem tw_1540 : Cond.selects yX12_feed.cls yX12_feed yX12_feed ∈ ph_T := ph_T_t 1540 (by decide +kernel) rfl
set_option maxRecDepth 100000 in
theorem tw_1541 : Cond.code yX12_feed cX12_feed 7 (some .int) ∈ ph_T := ph_T_t 1541 (by rfl) rfl
set_option maxRecDepth 100000 in
theorem tw_1542 : Cond.methodLink R_law 54 yX12_end ∈ ph_T := ph_T_t 1542 (by decide +kernel) rfl
set_option maxRecDepth 100000 in
theorem tw_1543 : Cond.instanceMethod yX12_end ∈ ph_T := ph_T_t 1543 (by decide +kernel) rfl
set_option maxRecDepth 100000 in
theorem tw_1544 : Cond.selects yX12_end.cls yX12_end yX12_end ∈ ph_T := ph_T_t 1544 (by decide +kernel) rfl
set_option maxRecDepth 100000 in
theorem tw_1545 : Cond.code yX12_end cX12_end 2 (some .int) ∈ ph_T := ph_T_t 1545 (by rfl) rfl
set_option maxRecDepth 100000 in
theorem tw_1546 : Cond.methodLink R_law 66 yX12_law ∈ ph_T := ph_T_t 1546 (by decide +kernel) rfl
set_option maxRecDepth 100000 in
theorem tw_1547 : Cond.instanceMethod yX12_law ∈ ph_T := ph_T_t 1547 (by decide +kernel) rfl
set_option maxRecDepth 100000 in
theorem tw_1548 : Cond.selects yX12_law.cls yX12_law yX12_law ∈ ph_T := ph_T_t 1548 (by decide +kernel) rfl
set_option maxRecDepth 100000 in
theorem tw_1549 : Cond.code yX12_law cX12_law 1 (some .int) ∈ ph_T := ph_T_t 1549 (by rfl) rfl
set_option maxRecDepth 100000 in
theorem tw_1637 : Cond.methodLink R_law 74 yX12_fault ∈ ph_T := ph_T_t 1637 (by decide +kernel) rfl
set_option maxRecDepth 100000 in
theorem tw_1638 : Cond.instanceMethod yX12_fault ∈ ph_T := ph_T_t 1638 (by decide +kernel) rfl
set_option maxRecDepth 100000 in
theorem tw_1639 : Cond.selects yX12_fault.cls yX12_fault yX12_fault ∈ ph_T := ph_T_t 1639 (by decide +kernel) rfl
set_option maxRecDepth 100000 in
theorem tw_1640 : Cond.code yX12_fault cX12_fault 1 (some .int) ∈ ph_T := ph_T_t 1640 (by rfl) rfl
set_option maxRecDepth 100000 in
theorem tw_1641 : Cond.methodLink R_law 82 yX12_force ∈ ph_T := ph_T_t 1641 (by decide +kernel) rfl
set_option maxRecDepth 100000 in
theorem tw_1642 : Cond.instanceMethod yX12_force ∈ ph_T := ph_T_t 1642 (by decide +kernel) rfl
set_option maxRecDepth 100000 in
theorem tw_1643 : Cond.selects yX12_force.cls yX12_force yX12_force ∈ ph_T := ph_T_t 1643 (by decide +kernel) rfl
set_option maxRecDepth 100000 in
theorem tw_1644 : Cond.code yX12_force cX12_force 3 (some .int) ∈ ph_T := ph_T_t 1644 (by rfl) rfl
set_option maxRecDepth 100000 in
theorem tw_1645 : Cond.methodLink R_law 102 yX12_undo ∈ ph_T := ph_T_t 1645 (by decide +kernel) rfl
set_option maxRecDepth 100000 in
theorem tw_1646 : Cond.instanceMethod yX12_undo ∈ ph_T := ph_T_t 1646 (by decide +kernel) rfl
set_option maxRecDepth 100000 in
theorem tw_1647 : Cond.selects yX12_undo.cls yX12_undo yX12_undo ∈ ph_T := ph_T_t 1647 (by decide +kernel) rfl
set_option maxRecDepth 100000 in
theorem tw_1648 : Cond.code yX12_undo cX12_undo 3 (some .int) ∈ ph_T := ph_T_t 1648 (by rfl) rfl
set_option maxRecDepth 100000 in
theorem tw_1649 : Cond.methodLink R_law 86 yX12_pawn ∈ ph_T := ph_T_t 1649 (by decide +kernel) rfl
set_option maxRecDepth 100000 in
theorem tw_1650 : Cond.instanceMethod yX12_pawn ∈ ph_T := ph_T_t 1650 (by decide +kernel) rfl
set_option maxRecDepth 100000 in
theorem tw_1651 : Cond.selects yX12_pawn.cls yX12_pawn yX12_pawn ∈ ph_T := ph_T_t 1651 (by decide +kernel) rfl
set_option maxRecDepth 100000 in
theorem tw_1652 : Cond.code yX12_pawn cX12_pawn 3 (some .int) ∈ ph_T := ph_T_t 1652 (by rfl) rfl
set_option maxRecDepth 100000 in
theorem tw_1684 : Cond.methodLink R_law 90 yX12_redeem ∈ ph_T := ph_T_t 1684 (by decide +kernel) rfl
set_option maxRecDepth 100000 in
theorem tw_1685 : Cond.instanceMethod yX12_redeem ∈ ph_T := ph_T_t 1685 (by decide +kernel) rfl
set_option maxRecDepth 100000 in
theorem tw_1686 : Cond.selects yX12_redeem.cls yX12_redeem yX12_redeem ∈ ph_T := ph_T_t 1686 (by decide +kernel) rfl
set_option maxRecDepth 100000 in
theorem tw_1687 : Cond.code yX12_redeem cX12_redeem 3 (some .int) ∈ ph_T := ph_T_t 1687 (by rfl) rfl
set_option maxRecDepth 100000 in
theorem tw_1700 : Cond.methodLink R_law 94 yX12_pass ∈ ph_T := ph_T_t 1700 (by decide +kernel) rfl
set_option maxRecDepth 100000 in
theorem tw_1701 : Cond.instanceMethod yX12_pass ∈ ph_T := ph_T_t 1701 (by decide +kernel) rfl
set_option maxRecDepth 100000 in
theorem tw_1702 : Cond.selects yX12_pass.cls yX12_pass yX12_pass ∈ ph_T := ph_T_t 1702 (by decide +kernel) rfl
set_option maxRecDepth 100000 in
theorem tw_1703 : Cond.code yX12_pass cX12_pass 1 (some .int) ∈ ph_T := ph_T_t 1703 (by rfl) rfl
set_option maxRecDepth 100000 in
theorem tw_1712 : Cond.methodLink R_law 98 yX12_auction ∈ ph_T := ph_T_t 1712 (by decide +kernel) rfl
set_option maxRecDepth 100000 in
theorem tw_1713 : Cond.instanceMethod yX12_auction ∈ ph_T := ph_T_t 1713 (by decide +kernel) rfl
set_option maxRecDepth 100000 in
theorem tw_1714 : Cond.selects yX12_auction.cls yX12_auction yX12_auction ∈ ph_T := ph_T_t 1714 (by decide +kernel) rfl
set_option maxRecDepth 100000 in
theorem tw_1715 : Cond.code yX12_auction cX12_auction 5 (some .int) ∈ ph_T := ph_T_t 1715 (by rfl) rfl
set_option maxRecDepth 100000 in
theorem tw_1716 : Cond.methodLink R_law 106 yX12_met ∈ ph_T := ph_T_t 1716 (by decide +kernel) rfl
set_option maxRecDepth 100000 in
theorem tw_1717 : Cond.instanceMethod yX12_met ∈ ph_T := ph_T_t 1717 (by decide +kernel) rfl
set_option maxRecDepth 100000 in
theorem tw_1718 : Cond.selects yX12_met.cls yX12_met yX12_met ∈ ph_T := ph_T_t 1718 (by decide +kernel) rfl
set_option maxRecDepth 100000 in
theorem tw_1719 : Cond.code yX12_met cX12_met 6 (some .int) ∈ ph_T := ph_T_t 1719 (by rfl) rfl
set_option maxRecDepth 100000 in
theorem tw_1740 : Cond.methodLink R_law 110 yX12_learned ∈ ph_T := ph_T_t 1740 (by decide +kernel) rfl
set_option maxRecDepth 100000 in
theorem tw_1741 : Cond.instanceMethod yX12_learned ∈ ph_T := ph_T_t 1741 (by decide +kernel) rfl
set_option maxRecDepth 100000 in
theorem tw_1742 : Cond.selects yX12_learned.cls yX12_learned yX12_learned ∈ ph_T := ph_T_t 1742 (by decide +kernel) rfl
set_option maxRecDepth 100000 in
theorem tw_1743 : Cond.code yX12_learned cX12_learned 3 (some .int) ∈ ph_T := ph_T_t 1743 (by rfl) rfl
set_option maxRecDepth 100000 in
theorem tw_1744 : Cond.methodLink R_law 114 yX12_deep ∈ ph_T := ph_T_t 1744 (by decide +kernel) rfl
set_option maxRecDepth 100000 in
theorem tw_1745 : Cond.instanceMethod yX12_deep ∈ ph_T := ph_T_t 1745 (by decide +kernel) rfl
set_option maxRecDepth 100000 in
theorem tw_1746 : Cond.selects yX12_deep.cls yX12_deep yX12_deep ∈ ph_T := ph_T_t 1746 (by decide +kernel) rfl
set_option maxRecDepth 100000 in
theorem tw_1747 : Cond.code yX12_deep cX12_deep 4 (some .int) ∈ ph_T := ph_T_t 1747 (by rfl) rfl
set_option maxRecDepth 100000 in
theorem tw_1756 : Cond.methodLink R_law 118 yX12_lies ∈ ph_T := ph_T_t 1756 (by decide +kernel) rfl
set_option maxRecDepth 100000 in
theorem tw_1757 : Cond.instanceMethod yX12_lies ∈ ph_T := ph_T_t 1757 (by decide +kernel) rfl
set_option maxRecDepth 100000 in
theorem tw_1758 : Cond.selects yX12_lies.cls yX12_lies yX12_lies ∈ ph_T := ph_T_t 1758 (by decide +kernel) rfl
set_option maxRecDepth 100000 in
theorem tw_1759 : Cond.code yX12_lies cX12_lies 6 (some .int) ∈ ph_T := ph_T_t 1759 (by rfl) rfl
set_option maxRecDepth 100000 in
theorem tw_1764 : Cond.methodLink R_law 122 yX12_forged ∈ ph_T := ph_T_t 1764 (by decide +kernel) rfl
set_option maxRecDepth 100000 in
theorem tw_1765 : Cond.instanceMethod yX12_forged ∈ ph_T := ph_T_t 1765 (by decide +kernel) rfl
set_option maxRecDepth 100000 in
theorem tw_1766 : Cond.selects yX12_forged.cls yX12_forged yX12_forged ∈ ph_T := ph_T_t 1766 (by decide +kernel) rfl
set_option maxRecDepth 100000 in
theorem tw_1767 : Cond.code yX12_forged cX12_forged 4 (some .int) ∈ ph_T := ph_T_t 1767 (by rfl) rfl
set_option maxRecDepth 100000 in
theorem tw_1772 : Cond.methodLink R_law 126 yX12_stray ∈ ph_T := ph_T_t 1772 (by decide +kernel) rfl
set_option maxRecDepth 100000 in
theorem tw_1773 : Cond.instanceMethod yX12_stray ∈ ph_T := ph_T_t 1773 (by decide +kernel) rfl
set_option maxRecDepth 100000 in
theorem tw_1774 : Cond.selects yX12_stray.cls yX12_stray yX12_stray ∈ ph_T := ph_T_t 1774 (by decide +kernel) rfl
set_option maxRecDepth 100000 in
theorem tw_1775 : Cond.code yX12_stray cX12_stray 7 (some .int) ∈ ph_T := ph_T_t 1775 (by rfl) rfl
set_option maxRecDepth 100000 in
theorem tw_1776 : Cond.methodLink R_law 130 yX12_raise ∈ ph_T := ph_T_t 1776 (by decide +kernel) rfl
set_option maxRecDepth 100000 in
theorem tw_1777 : Cond.instanceMethod yX12_raise ∈ ph_T := ph_T_t 1777 (by decide +kernel) rfl
set_option maxRecDepth 100000 in
theorem tw_1778 : Cond.selects yX12_raise.cls yX12_raise yX12_raise ∈ ph_T := ph_T_t 1778 (by decide +kernel) rfl
set_option maxRecDepth 100000 in
theorem tw_1779 : Cond.code yX12_raise cX12_raise 15 (some .int) ∈ ph_T := ph_T_t 1779 (by rfl) rfl
set_option maxRecDepth 100000 in
theorem tw_1780 : Cond.methodLink R_law 134 yX12_cheapest ∈ ph_T := ph_T_t 1780 (by decide +kernel) rfl
set_option maxRecDepth 100000 in
theorem tw_1781 : Cond.instanceMethod yX12_cheapest ∈ ph_T := ph_T_t 1781 (by decide +kernel) rfl
set_option maxRecDepth 100000 in
theorem tw_1782 : Cond.selects yX12_cheapest.cls yX12_cheapest yX12_cheapest ∈ ph_T := ph_T_t 1782 (by decide +kernel) rfl
set_option maxRecDepth 100000 in
theorem tw_1783 : Cond.code yX12_cheapest cX12_cheapest 4 (some .int) ∈ ph_T := ph_T_t 1783 (by rfl) rfl
set_option maxRecDepth 100000 in
theorem tw_1801 : Cond.methodLink R_law 138 yX12_bid ∈ ph_T := ph_T_t 1801 (by decide +kernel) rfl
set_option maxRecDepth 100000 in
theorem tw_1802 : Cond.instanceMethod yX12_bid ∈ ph_T := ph_T_t 1802 (by decide +kernel) rfl
set_option maxRecDepth 100000 in
theorem tw_1803 : Cond.selects yX12_bid.cls yX12_bid yX12_bid ∈ ph_T := ph_T_t 1803 (by decide +kernel) rfl
set_option maxRecDepth 100000 in
theorem tw_1804 : Cond.code yX12_bid cX12_bid 5 (some .int) ∈ ph_T := ph_T_t 1804 (by rfl) rfl
set_option maxRecDepth 100000 in
theorem tw_1805 : Cond.methodLink R_law 142 yX12_sale ∈ ph_T := ph_T_t 1805 (by decide +kernel) rfl
set_option maxRecDepth 100000 in
theorem tw_1806 : Cond.instanceMethod yX12_sale ∈ ph_T := ph_T_t 1806 (by decide +kernel) rfl
set_option maxRecDepth 100000 in
theorem tw_1807 : Cond.selects yX12_sale.cls yX12_sale yX12_sale ∈ ph_T := ph_T_t 1807 (by decide +kernel) rfl
set_option maxRecDepth 100000 in
theorem tw_1808 : Cond.code yX12_sale cX12_sale 5 (some .int) ∈ ph_T := ph_T_t 1808 (by rfl) rfl
set_option maxRecDepth 100000 in
theorem tw_1813 : Cond.methodLink R_law 147 yX12_lasting ∈ ph_T := ph_T_t 1813 (by decide +kernel) rfl
set_option maxRecDepth 100000 in
theorem tw_1814 : Cond.instanceMethod yX12_lasting ∈ ph_T := ph_T_t 1814 (by decide +kernel) rfl
set_option maxRecDepth 100000 in
theorem tw_1815 : Cond.selects yX12_lasting.cls yX12_lasting yX12_lasting ∈ ph_T := ph_T_t 1815 (by decide +kernel) rfl
set_option maxRecDepth 100000 in
theorem tw_1816 : Cond.code yX12_lasting cX12_lasting 11 (some .long) ∈ ph_T := ph_T_t 1816 (by rfl) rfl
set_option maxRecDepth 100000 in
theorem tw_1819 : Cond.methodLink R_law 78 yX12_stopped ∈ ph_T := ph_T_t 1819 (by decide +kernel) rfl
set_option maxRecDepth 100000 in
theorem tw_1820 : Cond.instanceMethod yX12_stopped ∈ ph_T := ph_T_t 1820 (by decide +kernel) rfl
set_option maxRecDepth 100000 in
theorem tw_1821 : Cond.selects yX12_stopped.cls yX12_stopped yX12_stopped ∈ ph_T := ph_T_t 1821 (by decide +kernel) rfl
set_option maxRecDepth 100000 in
theorem tw_1822 : Cond.code yX12_stopped cX12_stopped 1 (some .int) ∈ ph_T := ph_T_t 1822 (by rfl) rfl
set_option maxRecDepth 100000 in
theorem tw_1823 : Cond.methodLink R_law 70 yX12_orders ∈ ph_T := ph_T_t 1823 (by decide +kernel) rfl
set_option maxRecDepth 100000 in
theorem tw_1824 : Cond.instanceMethod yX12_orders ∈ ph_T := ph_T_t 1824 (by decide +kernel) rfl
set_option maxRecDepth 100000 in
theorem tw_1825 : Cond.selects yX12_orders.cls yX12_orders yX12_orders ∈ ph_T := ph_T_t 1825 (by decide +kernel) rfl
set_option maxRecDepth 100000 in
theorem tw_1826 : Cond.code yX12_orders cX12_orders 5 (some .int) ∈ ph_T := ph_T_t 1826 (by rfl) rfl
set_option maxRecDepth 100000 in
theorem tw_1843 : Cond.methodLink R_law 151 yX12_years ∈ ph_T := ph_T_t 1843 (by decide +kernel) rfl
set_option maxRecDepth 100000 in
theorem tw_1844 : Cond.instanceMethod yX12_years ∈ ph_T := ph_T_t 1844 (by decide +kernel) rfl
set_option maxRecDepth 100000 in
theorem tw_1845 : Cond.selects yX12_years.cls yX12_years yX12_years ∈ ph_T := ph_T_t 1845 (by decide +kernel) rfl
set_option maxRecDepth 100000 in
theorem tw_1846 : Cond.code yX12_years cX12_years 7 (some .int) ∈ ph_T := ph_T_t 1846 (by rfl) rfl
set_option maxRecDepth 100000 in
theorem tw_1854 : Cond.methodLink R_law 155 yX12_drawn ∈ ph_T := ph_T_t 1854 (by decide +kernel) rfl
set_option maxRecDepth 100000 in
theorem tw_1855 : Cond.instanceMethod yX12_drawn ∈ ph_T := ph_T_t 1855 (by decide +kernel) rfl
set_option maxRecDepth 100000 in
theorem tw_1856 : Cond.selects yX12_drawn.cls yX12_drawn yX12_drawn ∈ ph_T := ph_T_t 1856 (by decide +kernel) rfl
set_option maxRecDepth 100000 in
theorem tw_1857 : Cond.code yX12_drawn cX12_drawn 3 (some .int) ∈ ph_T := ph_T_t 1857 (by rfl) rfl
set_option maxRecDepth 100000 in
theorem tw_1858 : Cond.methodLink R_law 167 yX12_count ∈ ph_T := ph_T_t 1858 (by decide +kernel) rfl
set_option maxRecDepth 100000 in
theorem tw_1859 : Cond.instanceMethod yX12_count ∈ ph_T := ph_T_t 1859 (by decide +kernel) rfl
set_option maxRecDepth 100000 in
theorem tw_1860 : Cond.selects yX12_count.cls yX12_count yX12_count ∈ ph_T := ph_T_t 1860 (by decide +kernel) rfl
set_option maxRecDepth 100000 in
theorem tw_1861 : Cond.code yX12_count cX12_count 5 (some .int) ∈ ph_T := ph_T_t 1861 (by rfl) rfl
set_option maxRecDepth 100000 in
theorem tw_1862 : Cond.methodLink R_law 171 yX12_status ∈ ph_T := ph_T_t 1862 (by decide +kernel) rfl
set_option maxRecDepth 100000 in
theorem tw_1863 : Cond.instanceMethod yX12_status ∈ ph_T := ph_T_t 1863 (by decide +kernel) rfl
set_option maxRecDepth 100000 in
theorem tw_1864 : Cond.selects yX12_status.cls yX12_status yX12_status ∈ ph_T := ph_T_t 1864 (by decide +kernel) rfl
set_option maxRecDepth 100000 in
theorem tw_1865 : Cond.code yX12_status cX12_status 1 (some .int) ∈ ph_T := ph_T_t 1865 (by rfl) rfl
