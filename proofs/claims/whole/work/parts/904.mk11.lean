set_option maxRecDepth 100000 in
set_option maxHeartbeats 4000000 in
theorem st_mkX11 {p : Program} {l : Launch} {e : Env} {s : State} {m : MethodId} {below : List Frame} {meth : Method} {c : Code} {b L : Nat} {xs : Nat → Int32} (C0 : lw_At p s m meth c b L xs) {D : va_G} {cA tb adK adV : Nat → Nat} (hK : va_K D ph_cl (ph_tys cA) s) (hZ : ph_ZX tb adK adV (fun q => s.heap.size ≤ q) s) {ws : va_W} {H : Heap} {locs : List Loc} {ls : Array Slot} {cells slots : Nat} {Q : State → Prop} (hP : va_P D ph_cl ws H) (hD : va_D (fun q => s.heap.size ≤ q) ws) (hS : va_S (fun q => s.heap.size ≤ q) s.heap H locs) (hl : ls.size = 4) (hc : cells + 1 + 87 ≤ 600000) (hsl : slots + 19 + 5430 ≤ 7302250)
    (kk : ∀ (q z : Nat) (H1 : Heap) (locs1 : List Loc), kp11_init D cA q (ph_A1 q z) H1 → va_P D ph_cl ws H1 → (∀ (k : Nat) (x : Nat × va_E), ws[k]? = some x → x.1 < z ∧ x.1 ≠ q) → s.heap.size ≤ q → s.heap.size ≤ z → va_S (fun q => s.heap.size ≤ q) s.heap H1 locs1 → W p l e room_1 s m #[Value.ref b] below meth c H1 locs1 (cells + 1 + 87) (slots + 19 + 5430) Q (F0 m 7 ls [.ref q])) : W p l e room_1 s m #[Value.ref b] below meth c H locs cells slots Q (F0 m 0 ls []) := by
  obtain ⟨hx, hb, hr, hml, hown, hts0, hX, hbl, hlk, hgv⟩ := C0
  have hts := lw_htsT hts0
  have hA : ∀ q : Nat, s.heap.size ≤ q → (fun q => s.heap.size ≤ q) q := fun q h => h
  have er1 : room_1.cells = 600000 := rfl
  have er2 : room_1.slots = 7302250 := rfl
  refine va_new (ci := 11) (fs := [.null, .null, .null, .null, .null, .null, .null, .null, .null, .null, .null, .null, .null, .null, .null, .int 0, .int 0, .int 0, .int 0]) (C := RX11) (T := TX11) (N := 19) hx hb hts ph_inX11 tyX11 tyX11_ok hown (hts _ sw_clX11) (hts _ sw_isX11) (hts _ sw_inX11) hK hP hD hS hA rfl (ph_dfX11) (by rw [er1]; omega) (by rw [er2]; omega) dlw_0 (fun q H1 hP1 hD1 hS1 => ?_)
  refine lv_dup hx hb dlw_3 rfl ?_
  have hlt : q < H1.size := (hP1 ws.length (q, .inr (11, [.null, .null, .null, .null, .null, .null, .null, .null, .null, .null, .null, .null, .null, .null, .null, .int 0, .int 0, .int 0, .int 0])) (by simp)).lt
  have hqs : s.heap.size ≤ q := hD1.2 ws.length (q, .inr (11, [.null, .null, .null, .null, .null, .null, .null, .null, .null, .null, .null, .null, .null, .null, .null, .int 0, .int 0, .int 0, .int 0])) (by simp)
  have hPc : va_P D ph_cl [(q, .inr (11, [.null, .null, .null, .null, .null, .null, .null, .null, .null, .null, .null, .null, .null, .null, .null, .int 0, .int 0, .int 0, .int 0]))] H1 := hP1.sub [ws.length] (by simp)
  have hFc : ∀ z, va_A [(q, .inr (11, [.null, .null, .null, .null, .null, .null, .null, .null, .null, .null, .null, .null, .null, .null, .null, .int 0, .int 0, .int 0, .int 0]))] H1.size z → s.heap.size ≤ z := fun z h => by
    rw [ph_A1_va] at h
    rcases h with h | h
    · rw [h]; exact hqs
    · exact Nat.le_trans hS1.1 h
  have hPw : va_P D ph_cl ws H1 := fun k x hk => hP1 k x (by rw [List.getElem?_append_left (List.getElem?_eq_some_iff.mp hk).1]; exact hk)
  have hne : ∀ (k : Nat) (x : Nat × va_E), ws[k]? = some x → x.1 < H1.size ∧ x.1 ≠ q := fun k x hk => ⟨(hPw k x hk).lt, fun he => by
    have hkl := (List.getElem?_eq_some_iff.mp hk).1
    have := hD1.1 k ws.length x (q, .inr (11, [.null, .null, .null, .null, .null, .null, .null, .null, .null, .null, .null, .null, .null, .null, .null, .int 0, .int 0, .int 0, .int 0])) (by rw [List.getElem?_append_left hkl]; exact hk) (by simp) he
    omega⟩
  refine c_ctor (h0 := q) (e0 := .inr (11, [.null, .null, .null, .null, .null, .null, .null, .null, .null, .null, .null, .null, .null, .null, .null, .int 0, .int 0, .int 0, .int 0])) (va_runI (n := 0) (As := []) (rest := [.ref q]) ⟨hx, hb, hml, hown, hts⟩ (k11_init (tb := tb) (adK := adK) (adV := adV) (l := l) (D := D) (cA := cA) q H1.size hlt) ⟨callB_of 0 hts (ph_goodc sw_cdX11) rfl rfl rfl (hts _ sw_inX11) (hts _ sw_mlX11) ydk11_init ⟨Nat.le_of_ble_eq_true rfl, Nat.le_of_ble_eq_true rfl⟩, rfl, hts _ sw_imX11⟩ ⟨fun a U g mk q => by obtain ⟨q0, q1, qP, qK, qZ⟩ := q; exact ⟨q0, q1, qP, va_K.moved (u := U) (U := U.calling g mk a) (Vm.Alike.refl U.vm) qK, ph_ZX_ok.2 _ U _ rfl rfl qZ⟩, fun U hU hW => ⟨rfl, by rw [hU], by rw [hU]; exact hPc, va_K.moved hW.alike hK, ph_ZX_narrow (fun q h => hFc q (by rw [ph_A1_va]; exact h)) (ph_ZX_ok.1 _ _ _ hW (fun a h1 h2 => by rw [hU]; exact hS1.2.1 a h1 h2) hZ)⟩⟩ rfl rfl hl rfl (lv_room (Nat.le_of_ble_eq_true rfl)) dlw_4 ⟨by rw [er1]; omega, by rw [er2]; omega⟩) hS1 hFc (fun H2 locs2 hpo hk1 hS2 => ?_)
  rw [ph_A1_va] at hpo hk1
  exact kk q H1.size H2 locs2 hpo (hPw.kept (fun k x hk => hk1 x.1 (hne k x hk).1 (fun h => by
    rcases h with h | h
    · exact (hne k x hk).2 h
    · have := (hne k x hk).1
      omega))) hne hqs hS1.1 hS2
