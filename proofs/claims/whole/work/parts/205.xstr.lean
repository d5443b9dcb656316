theorem ph_mkF {Z : (Nat → Prop) → State → Prop} {l : Launch} {d : Nat} {y : MethodName} {b : ByteArray} {nL : Nat} {ret : Option FieldType} {D : va_G} {cA : Nat → ClassId} {kd : Nat → ph_Kd} {N : Nat} {ad : Nat → Nat} {vals : List Value} {M M' : ph_Mem} {v : Option Value} (hZ : ph_Zok Z) (hinj : ∀ i j, i < N → j < N → ad i = ad j → i = j) (hy : plainFor y = true) (hlen : (lg_sl vals).length ≤ nL)
    (body : ∀ X : ph_X, ph_ok Z X b y.cls ret nL d N ad → ph_fin X kd N ad v M' → ph_l X = l ∧ ph_d X = D ∧ ph_cA X = cA → ph_G X kd N ad 0 (lv_args 0 vals) [] M) : ph_C Z l d y b nL ret D cA kd N ad vals M v M' := by
  intro A sz hA hB
  refine va_MetF (cc := b) (maxL := nL) (ret := ret) hy rfl ?_
  intro p e s m args below meth c s₁ B hml hv
  obtain ⟨rfl, hsz, hP, hK, hZ0⟩ := hv
  have hl := lv_entry vals (n := nL) hlen
  rw [lg_entry_eq]
  have hts := atoms_spec (ws := .code y b nL ret :: ph_T) B.pre
  exact body (p, l, e, ph_rm d, s, m, vals.toArray, below, meth, c, D, cA, A, (fun _ st oc t => (oc = .returned v ∧ va_P D ph_cl (ph_ws cA kd N ad M') t.heap) ∧ va_F A st t), nL, 0, 0, 0, 0)
    ⟨B.exec, B.bytes, hml, rfl, ⟨rfl, rfl, Nat.le_refl _, Nat.le_refl _, Nat.le_refl _, Nat.le_refl _⟩, findClass_of_methodNamed B.named, fun w hw => hts w (List.mem_cons_of_mem _ hw), hK, hinj, hA, fun q hq => hB q (by rw [← hsz]; exact hq), B.notSynchronized, B.returns, hZ, hZ0⟩
    (fun H locs t hP hS ht hW => ⟨⟨rfl, by rw [ht]; exact hP⟩, hS.F ht⟩) ⟨rfl, rfl, rfl⟩ s.heap [] _ hP va_S.rf hl

/-! rows over String constants -/
def ph_isc (r : Int32) : Bool := decide ((r.toUInt32 % 65536).toInt32 = r)
theorem ph_narc {r : Int32} (h : ph_isc r = true) : narrow .char (.int r) = .int r := by
  have h1 : (r.toUInt32 % 65536).toInt32 = r := of_decide_eq_true h
  rw [← h1]
  exact pk_nc r
section PHS
variable {tb adK adV : Nat → Nat} {X : ph_X} {cc : ByteArray} {own : String} {ret : Option FieldType} {nL d N : Nat} {ad : Nat → Nat} {kd : Nat → ph_Kd} {α : Type} {o : α} {pc : Nat} {lv : List (Nat × Value)} {st : List Value} {M : ph_Mem} {e : Option α}
theorem j_i2c (h : ph_ok (ph_ZX tb adK adV) X cc own ret nL d N ad) {x : Int32} (hdg : decode cc pc = .ok (.i2c, 1)) (k : ph_J X kd N ad o (pc + 1) lv (.int (x.toUInt32 % 65536).toInt32 :: st) M e) : ph_J X kd N ad o pc lv (.int x :: st) M e := by
  obtain ⟨hx, hb, hml, hnl, hR, hown, hts, hK, hinj, hA, hB, hlk, hr, hZ, hZ0⟩ := h
  intro he H locs ls hP hS hl
  exact lv_i2c hx hb hdg rfl (k he H locs ls hP hS hl)
theorem j_getsC (h : ph_ok (ph_ZX tb adK adV) X cc own ret nL d N ad) {index : Nat} (hlink : Cond.fieldLink own index "java/lang/String" "COMPACT_STRINGS" "Z" ∈ ph_T) (hdg : decode cc pc = .ok (.getstatic index, 3)) (kk : ph_J X kd N ad o (pc + 3) lv (.int 1 :: st) M e) : ph_J X kd N ad o pc lv st M e := by
  obtain ⟨hx, hb, hml, hnl, hR, hown, hts, hK, hinj, hA, hB, hlk, hr, hZ, hZ0⟩ := h
  intro he H locs ls hP hS hl
  exact va_gets hx hb hZ0.2.2.2.1 hS hown (hts _ hlink) (fun _ h9 => h9) hdg (kk he H locs ls hP hS hl)
theorem j_getTV (h : ph_ok (ph_ZX tb adK adV) X cc own ret nL d N ad) {index i : Nat} (hi : i < 40) (hlink : Cond.fieldLink own index "java/lang/String" "value" "[B" ∈ ph_T) (hdg : decode cc pc = .ok (.getfield index, 3)) (kk : ph_J X kd N ad o (pc + 3) lv (.ref (adV i) :: st) M e) : ph_J X kd N ad o pc lv (.ref (adK i) :: st) M e := by
  obtain ⟨hx, hb, hml, hnl, hR, hown, hts, hK, hinj, hA, hB, hlk, hr, hZ, hZ0⟩ := h
  intro he H locs ls hP hS hl
  exact vk_getf hx hb (hZ0.2.2.2.2.2.2 i hi).2.2.2.1 hS hown (hts _ hlink) (fun _ h9 => h9) hdg (kk he H locs ls hP hS hl)
theorem j_getTC (h : ph_ok (ph_ZX tb adK adV) X cc own ret nL d N ad) {index i : Nat} (hi : i < 40) (hlink : Cond.fieldLink own index "java/lang/String" "coder" "B" ∈ ph_T) (hdg : decode cc pc = .ok (.getfield index, 3)) (kk : ph_J X kd N ad o (pc + 3) lv (.int 0 :: st) M e) : ph_J X kd N ad o pc lv (.ref (adK i) :: st) M e := by
  obtain ⟨hx, hb, hml, hnl, hR, hown, hts, hK, hinj, hA, hB, hlk, hr, hZ, hZ0⟩ := h
  intro he H locs ls hP hS hl
  exact vk_getf hx hb (hZ0.2.2.2.2.2.2 i hi).2.2.1 hS hown (hts _ hlink) (fun _ h9 => h9) hdg (kk he H locs ls hP hS hl)
theorem j_lenT (h : ph_ok (ph_ZX tb adK adV) X cc own ret nL d N ad) {i : Nat} (hi : i < 40) (hdg : decode cc pc = .ok (.arraylength, 1)) (kk : ph_J X kd N ad o (pc + 1) lv (.int (Int32.ofNat (ph_sl.getD i 0)) :: st) M e) : ph_J X kd N ad o pc lv (.ref (adV i) :: st) M e := by
  obtain ⟨hx, hb, hml, hnl, hR, hown, hts, hK, hinj, hA, hB, hlk, hr, hZ, hZ0⟩ := h
  intro he H locs ls hP hS hl
  exact va_tlen hx hb (hZ0.2.2.2.2.2.2 i hi).2.2.2.2 hS rfl hdg (kk he H locs ls hP hS hl)
theorem j_baldT (h : ph_ok (ph_ZX tb adK adV) X cc own ret nL d N ad) {i : Nat} {j : Int32} (hi : i < 40) (hdg : decode cc pc = .ok (.baload, 1)) (kk : ph_J X kd N ad o (pc + 1) lv (.int ((ph_sb.getD i []).getD j.toNatClampNeg 0) :: st) M e) : ph_J X kd N ad o pc lv (.int j :: .ref (adV i) :: st) M (cond (ph_ib j (ph_sl.getD i 0)) e none) := by
  obtain ⟨hx, hb, hml, hnl, hR, hown, hts, hK, hinj, hA, hB, hlk, hr, hZ, hZ0⟩ := h
  refine j_chk (fun hib => ?_)
  intro he H locs ls hP hS hl
  exact va_tb hx hb (hZ0.2.2.2.2.2.2 i hi).2.2.2.2 hS (ph_ib_in hib) rfl hdg (kk he H locs ls hP hS hl)
theorem j_cretP (h : ph_ok (ph_ZX tb adK adV) X cc own ret nL d N ad) {r o : Int32} (hr0 : ret = some .char) (hf : ph_fin X kd N ad (some (.int o)) M) (hdg : decode cc pc = .ok (.ireturn, 1)) : ph_J X kd N ad o pc lv [.int r] M (cond (ph_isc r) (some r) none) := by
  obtain ⟨hx, hb, hml, hnl, hR, hown, hts, hK, hinj, hA, hB, hlk, hr, hZ, hZ0⟩ := h
  refine j_chk (fun hc => ?_)
  intro he H locs ls hP hS hl
  cases he
  refine W.widen hR.2.2.2.2.1 hR.2.2.2.2.2 ?_
  exact W.zret (ty := .char) hx hb (by rw [hr, hr0]) (ph_narc hc) (fun t ht hW => hf H locs t hP hS ht hW) hS.2.2 hdg hlk
theorem j_bretPC (h : ph_ok (ph_ZX tb adK adV) X cc own ret nL d N ad) {r o : Int32} (hr0 : ret = some .byte) (hz : narrow .byte (.int r) = .int r) (hf : ph_fin X kd N ad (some (.int o)) M) (hdg : decode cc pc = .ok (.ireturn, 1)) : ph_J X kd N ad o pc lv [.int r] M (some r) := by
  obtain ⟨hx, hb, hml, hnl, hR, hown, hts, hK, hinj, hA, hB, hlk, hr, hZ, hZ0⟩ := h
  intro he H locs ls hP hS hl
  cases he
  refine W.widen hR.2.2.2.2.1 hR.2.2.2.2.2 ?_
  exact W.zret (ty := .byte) hx hb (by rw [hr, hr0]) hz (fun t ht hW => hf H locs t hP hS ht hW) hS.2.2 hdg hlk
theorem g_callT (h : ph_ok (ph_ZX tb adK adV) X cc own ret nL d N ad) (c : Nat) {y : MethodName} {b : ByteArray} {nL' d' n index : Nat} {ret' : Option FieldType} (hm : Cond.methodLink own index y ∈ ph_T) (hi : Cond.instanceMethod y ∈ ph_T) (hs : Cond.selects y.cls y y ∈ ph_T) (hn : Cond.initialized y.cls ∈ ph_T) (hcd : Cond.code y b nL' ret' ∈ ph_T) (hyd : ph_yd y n) (hd' : d' + 1 ≤ d) (hnl' : nL' ≤ 45) (hc : c < 40) (hyc : y.cls = "java/lang/String") {As rest : List Value} {v : Option Value} {M' : ph_Mem} (hC : ph_CX (ph_ZX tb adK adV) X d' y b nL' ret' kd N ad (.ref (adK c) :: As) M v M') (hlen : As.length = n) (hW : (rest.map fun v => v.category).sum ≤ 8) (hst : st = As.reverse ++ .ref (adK c) :: rest) (hdg : decode cc pc = .ok (.invokevirtual index, 3)) (k : ph_G X kd N ad (pc + 3) lv (v.toList ++ rest) M') : ph_G X kd N ad pc lv st M := by
  obtain ⟨hx, hb, hml, hnl, hR, hown, hts, hK, hinj, hA, hB, hlk, hr, hZ, hZ0⟩ := h
  intro H locs ls hP hS hl
  subst hst
  have hroom : (ph_rm d').frames + 1 ≤ (ph_R X).frames ∧ 8 + (nL' + 11) + (ph_rm d').locals ≤ (ph_R X).locals := by
    rw [hR.1, hR.2.1]
    exact ⟨hd', by show 8 + (nL' + 11) + 64 * d' ≤ 64 * d; omega⟩
  have hrv : ∃ cell : Cell, H[adK c]? = some cell ∧ cell.vm.isStatics = false ∧ (ph_s X).vm.findClass y.cls = some cell.cls := by
    obtain ⟨cell, h1, h2, h3, -⟩ := (hZ0.2.2.2.2.2.2 c hc).2.1.kept hS.2.1
    exact ⟨cell, h1, h2, by rw [hyc]; exact h3⟩
  have hrun := va_runV (C := y.cls) (l := ph_l X) (e := ph_e X) (below := ph_b X) (meth := ph_me X) (locs := locs) (cells := ph_kc X) (slots := ph_ks X) (As := As) (rest := rest) (g := F0 (ph_m X) pc ls (As.reverse ++ .ref (adK c) :: rest)) (n := n) ⟨hx, hb, hml, hown, hts⟩ (hC (ph_A X) H.size hA (fun q hq => hB q (Nat.le_trans hS.1 hq))) ⟨callB_of n hts (ph_goodc hcd) rfl rfl rfl (hts _ hn) (hts _ hm) hyd hroom, hts _ hi, hts _ hs⟩ (H := H) ⟨fun a U g mk q => ?_, hrv, fun U hU hW => ⟨rfl, by rw [hU], by rw [hU]; exact hP, va_K.moved hW.alike hK, hZ.1 _ _ _ hW (fun a h1 h2 => by rw [hU]; exact hS.2.1 a h1 h2) hZ0⟩⟩ rfl hlen (by rw [hl.1, hnl]) rfl (lv_room hW) hdg ⟨hR.2.2.1, hR.2.2.2.1⟩
  · intro T hT SX
    obtain ⟨v', st₀, t, T', L, h0, X', hL, e1, e2, ⟨⟨hv, hP1⟩, hz, hk⟩, stp⟩ := hrun T hT SX
    cases hv
    rw [h0] at hz hk
    obtain ⟨t2, a1, b1⟩ := k T'.heap (locs ++ L) ls (by rw [e1]; exact hP1) ⟨Nat.le_trans hS.1 (by rw [e1]; exact hz), fun q h1 h2 => by rw [e1, hk q (Nat.lt_of_lt_of_le h1 hS.1) h2]; exact hS.2.1 q h1 h2, fun q hq => by
      rcases List.mem_append.mp hq with h | h
      · exact hS.2.2 q h
      · exact hL q h⟩ hl T' rfl X'
    exact ⟨t2, stp t2 a1, b1⟩
  · obtain ⟨q0, q1, qP, qK, qZ⟩ := q
    exact ⟨q0, q1, qP, va_K.moved (u := U) (U := U.calling g mk a) (Vm.Alike.refl U.vm) qK, hZ.2 _ U _ rfl rfl qZ⟩
theorem j_callTiP (h : ph_ok (ph_ZX tb adK adV) X cc own ret nL d N ad) (c : Nat) {y : MethodName} {b : ByteArray} {nL' d' n index : Nat} {ret' : Option FieldType} (hm : Cond.methodLink own index y ∈ ph_T) (hi : Cond.instanceMethod y ∈ ph_T) (hs : Cond.selects y.cls y y ∈ ph_T) (hn : Cond.initialized y.cls ∈ ph_T) (hcd : Cond.code y b nL' ret' ∈ ph_T) (hyd : ph_yd y n) (hd' : d' + 1 ≤ d) (hnl' : nL' ≤ 45) (hc : c < 40) (hyc : y.cls = "java/lang/String") {As rest : List Value} {ge : Option Int32} {kf : Int32 → Option α} (hC : ∀ q, ge = some q → ph_CX (ph_ZX tb adK adV) X d' y b nL' ret' kd N ad (.ref (adK c) :: As) M (some (.int q)) M) (hlen : As.length = n) (hW : (rest.map fun v => v.category).sum ≤ 8) (hst : st = As.reverse ++ .ref (adK c) :: rest) (hdg : decode cc pc = .ok (.invokevirtual index, 3)) (k : ∀ q, ph_J X kd N ad o (pc + 3) lv (.int q :: rest) M (kf q)) : ph_J X kd N ad o pc lv st M (ge.bind kf) := by
  intro he
  cases hg : ge with
  | none => rw [hg] at he; cases he
  | some q =>
    rw [hg] at he
    exact g_callT h c hm hi hs hn hcd hyd hd' hnl' hc hyc (hC q hg) hlen hW hst hdg (k q he)
theorem j_getsQ (h : ph_ok (ph_ZX tb adK adV) X cc own ret nL d N ad) {index : Nat} (hlink : Cond.fieldLink own index "jdk/internal/util/Preconditions" "SIOOBE_FORMATTER" "Ljava/util/function/BiFunction;" ∈ ph_T) (hdg : decode cc pc = .ok (.getstatic index, 3)) (kk : ∀ x : Option Nat, ph_J X kd N ad o (pc + 3) lv (va_rf x :: st) M e) : ph_J X kd N ad o pc lv st M e := by
  obtain ⟨hx, hb, hml, hnl, hR, hown, hts, hK, hinj, hA, hB, hlk, hr, hZ, hZ0⟩ := h
  intro he H locs ls hP hS hl
  rcases hZ0.2.2.2.2.1 with hq | ⟨t, hq⟩
  · exact va_gets hx hb hq hS hown (hts _ hlink) (fun _ h9 => h9) hdg (kk none he H locs ls hP hS hl)
  · exact va_gets hx hb hq hS hown (hts _ hlink) (fun _ h9 => h9) hdg (kk (some t) he H locs ls hP hS hl)
theorem j_vretP (h : ph_ok (ph_ZX tb adK adV) X cc own ret nL d N ad) {o : Int32} (hr0 : ret = none) (hf : ph_fin X kd N ad none M) (hdg : decode cc pc = .ok (.return_, 1)) : ph_J X kd N ad o pc lv [] M (some (0 : Int32)) := by
  obtain ⟨hx, hb, hml, hnl, hR, hown, hts, hK, hinj, hA, hB, hlk, hr, hZ, hZ0⟩ := h
  intro he H locs ls hP hS hl
  refine W.widen hR.2.2.2.2.1 hR.2.2.2.2.2 ?_
  exact W.vret hx hb (by rw [hr, hr0]) (fun t ht hW => hf H locs t hP hS ht hW) hS.2.2 hdg hlk
theorem j_callSvP (h : ph_ok (ph_ZX tb adK adV) X cc own ret nL d N ad) {y : MethodName} {b : ByteArray} {nL' d' n index : Nat} {ret' : Option FieldType} (hm : Cond.methodLink own index y ∈ ph_T) (hs : Cond.static y ∈ ph_T) (hn : Cond.initialized y.cls ∈ ph_T) (hcd : Cond.code y b nL' ret' ∈ ph_T) (hyd : ph_yd y n) (hd' : d' + 1 ≤ d) (hnl' : nL' ≤ 45) {As rest : List Value} {ge : Option Int32} {kf : Int32 → Option α} (hC : ∀ q, ge = some q → ph_CX (ph_ZX tb adK adV) X d' y b nL' ret' kd N ad As M none M) (hlen : As.length = n) (hW : (rest.map fun v => v.category).sum ≤ 8) (hst : st = As.reverse ++ rest) (hdg : decode cc pc = .ok (.invokestatic index, 3)) (k : ∀ q, ph_J X kd N ad o (pc + 3) lv rest M (kf q)) : ph_J X kd N ad o pc lv st M (ge.bind kf) := by
  intro he
  cases hg : ge with
  | none => rw [hg] at he; cases he
  | some q =>
    rw [hg] at he
    exact g_callS h hm hs hn hcd hyd hd' hnl' (hC q hg) hlen hW hst hdg (k q he)
end PHS
