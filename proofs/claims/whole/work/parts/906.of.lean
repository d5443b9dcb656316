/-! THE START: the law from its entry -/
theorem ph_ws_va {A : Nat → Prop} {cA : Nat → ClassId} {kd : Nat → ph_Kd} {N : Nat} {ad : Nat → Nat} {M : ph_Mem} (h : va_D A (ph_ws cA kd N ad M)) : (∀ i j, i < N → j < N → ad i = ad j → i = j) ∧ ∀ c, c < N → A (ad c) := ⟨fun i j hi hj he => h.1 i j _ _ (ph_ws_at hi) (ph_ws_at hj) he, fun c hc => h.2 c _ (ph_ws_at hc)⟩
theorem ph_SX0 : ph_SX ((ph_kdX, 88) : ph_Sh) := ⟨Nat.le_refl _, fun _ _ => rfl⟩
/-- the law from its entry, for any relation that the calls keep and that the fresh objects are in -/
theorem whole_of {Rel : ph_Sh → ph_Mem → ph_Mem → Prop} (hall : lws Rel) (hini : ∀ f16 f17 f18 f19 f20 f38 f39 f40 f41 f42 f61 f62 f63 f64 f65 f83 f84 f85 f86 f87 f323 f279 : Nat → Int32, iniF11 f16 f17 f18 f19 f20 f38 f39 f40 f41 f42 f61 f62 f63 f64 f65 f83 f84 f85 f86 f87 → iniF12 f323 f279 → Rel (ph_kdX, 88) (ini11 f16 f17 f18 f19 f20 f38 f39 f40 f41 f42 f61 f62 f63 f64 f65 f83 f84 f85 f86 f87) (ini12 f323 f279)) {p : Program} {e : Env} {s : State} {m : MethodId} {below : List Frame} {meth : Method} {c : Code} (l : Launch) {b L : Nat} {xs : Nat → Int32} (hL : L ≤ 3072) (C0 : lw_At p s m meth c b L xs) : W p l e room_1 s m #[Value.ref b] below meth c s.heap [] 0 0 (lw_Z below #[Value.ref b] s) (entryFrame m ([Value.ref b] : List Value).toArray 4) := by
  obtain ⟨hx, hb, hr, hml, hown, hts0, hX, hbl, hlk, hgv⟩ := id C0
  obtain ⟨D, cA, hK⟩ := st_K hts0
  obtain ⟨tb, adK, adV, hZ⟩ := st_Z hts0 hgv
  have hl := lv_entry ([.ref b]) (n := 4) (Nat.le_of_ble_eq_true rfl)
  rw [lg_entry_eq]
  generalize (lg_sl ([.ref b]) ++ List.replicate (4 - (lg_sl ([.ref b])).length) Slot.unset).toArray = ls at hl ⊢
  have hl : lv_has ls 4 [(0, .ref b)] := hl
  refine st_mkX11 (ws := []) C0 hK hZ (fun k q hk => by simp at hk) ⟨fun i j p q hi _ _ => by simp at hi, fun k q hk => by simp at hk⟩ va_S.rf hl.1 (by omega) (by omega) (fun q z H1 locs1 hpo _ _ hq hz hS => ?_)
  obtain ⟨ax, f16, f17, f18, f19, f20, f38, f39, f40, f41, f42, f61, f62, f63, f64, f65, f83, f84, f85, f86, f87, e0, hF, hP, hD⟩ := ini11_ok hpo
  rw [← e0]
  have hge : ∀ x, ph_A1 q z x → s.heap.size ≤ x := fun x h => by
    rcases h with h | h
    · rw [h]; exact hq
    · exact Nat.le_trans hz h
  refine lv_astore_n (lv' := [(1, .ref (ax 0)), (0, .ref b)]) hx hb dlw_7 rfl hl (by decide) rfl (fun ls hl => ?_)
  refine st_mkX12 C0 hK hZ hP (hD.weaken (fun k x _ h => hge _ h)) hS hl.1 (by omega) (by omega) (fun q' z' H2 locs2 hpo2 hP2 hne hq' hz' hS2 => ?_)
  obtain ⟨am, f323, f279, e1, hF2, hPm, hDm⟩ := ini12_ok hpo2
  rw [← e1]
  have hge' : ∀ x, ph_A1 q' z' x → s.heap.size ≤ x := fun x h => by
    rcases h with h | h
    · rw [h]; exact hq'
    · exact Nat.le_trans hz' h
  refine lv_astore_n (lv' := [(2, .ref (am 0)), (1, .ref (ax 0)), (0, .ref b)]) hx hb dlw_15 rfl hl (by decide) rfl (fun ls hl => ?_)
  refine lv_iconst (v := 0) hx hb dlw_16 (by decide) ?_
  refine lv_istore_n (lv' := [(3, .int 0), (2, .ref (am 0)), (1, .ref (ax 0)), (0, .ref b)]) hx hb dlw_17 rfl hl (by decide) rfl (fun ls hl => ?_)
  obtain ⟨ix, gx⟩ := ph_ws_va hD
  obtain ⟨im, gm⟩ := ph_ws_va hDm
  have hwd : lw_Wd D cA s (ph_kdX, 88) ax (ini11 f16 f17 f18 f19 f20 f38 f39 f40 f41 f42 f61 f62 f63 f64 f65 f83 f84 f85 f86 f87) am (ini12 f323 f279) H2 := by
    refine ⟨ph_SX0, hP2, hPm, ix, im, fun c hc => hge _ (gx c hc), fun c hc => hge' _ (gm c hc), fun c c' hc hc' he => ?_⟩
    have h1 := hne c _ (ph_ws_at hc)
    rcases gm c' hc' with h | h
    · exact h1.2 (he.trans h)
    · have h2 : ax c < z' := h1.1
      rw [he] at h2
      omega
  refine W.widen (k := 115 + 3 * 0) (n := 33285 + 475 * 0) (by omega) (by omega) ?_
  exact law_loop hall hL C0 hK hZ 512 0 (by omega) (by omega) (ph_kdX, 88) ax _ _ H2 locs2 ls (hini f16 f17 f18 f19 f20 f38 f39 f40 f41 f42 f61 f62 f63 f64 f65 f83 f84 f85 f86 f87 f323 f279 hF hF2) hwd hS2 (lv_sub hl [3, 2, 1, 0] rfl)
theorem lws_all : lws RelF := ⟨t_person, t_put, t_hour, t_give, t_of, t_needs, t_terms, t_feed, t_end, t_row, t_rain, s_law, s_orders, t_fault, t_stopped, t_force, t_pawn, t_redeem, t_pass, t_auction, t_undo, t_met, t_learned, t_deep, t_lies, t_forged, t_stray, t_raise, t_cheapest, t_bid, t_sale, t_lasting, t_years, t_drawn, t_image, t_back, t_count, t_status⟩
theorem whole_start {p : Program} {e : Env} {s : State} {m : MethodId} {below : List Frame} {meth : Method} {c : Code} (l : Launch) {b L : Nat} {xs : Nat → Int32} (hL : L ≤ 3072) (C0 : lw_At p s m meth c b L xs) : W p l e room_1 s m #[Value.ref b] below meth c s.heap [] 0 0 (lw_Z below #[Value.ref b] s) (entryFrame m ([Value.ref b] : List Value).toArray 4) := whole_of lws_all ini_rel l hL C0
