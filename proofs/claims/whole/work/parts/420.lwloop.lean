def lws (Rel : ph_Sh → ph_Mem → ph_Mem → Prop) : Prop := lws_person Rel ∧ lws_put Rel ∧ lws_hour Rel ∧ lws_give Rel ∧ lws_of Rel ∧ lws_needs Rel ∧ lws_terms Rel ∧ lws_feed Rel ∧ lws_end Rel ∧ lws_row Rel ∧ lws_rain Rel ∧ lws_law Rel ∧ lws_orders Rel ∧ lws_fault Rel ∧ lws_stopped Rel ∧ lws_force Rel ∧ lws_pawn Rel ∧ lws_redeem Rel ∧ lws_pass Rel ∧ lws_auction Rel ∧ lws_undo Rel ∧ lws_met Rel ∧ lws_learned Rel ∧ lws_deep Rel ∧ lws_lies Rel ∧ lws_forged Rel ∧ lws_stray Rel ∧ lws_raise Rel ∧ lws_cheapest Rel ∧ lws_bid Rel ∧ lws_sale Rel ∧ lws_lasting Rel ∧ lws_years Rel ∧ lws_drawn Rel ∧ lws_image Rel ∧ lws_back Rel ∧ lws_count Rel ∧ lws_status Rel
theorem lw_bound {L i : Nat} (hL : L ≤ 3072) (hi : i ≤ 512) : (Int32.ofNat L - 6 < nI (6 * i)) ↔ L < 6 * i + 6 := by
  have e : Int32.ofNat L - 6 = nI L - nI 6 := rfl
  rw [e, Int32.lt_iff_toInt_lt, pk_sub_toInt (by omega) (by omega), nI_toInt (by omega)]
  omega
set_option maxRecDepth 100000 in
set_option maxHeartbeats 8000000 in
theorem lw_head {Rel : ph_Sh → ph_Mem → ph_Mem → Prop} (hall : lws Rel) {p : Program} {l : Launch} {e : Env} {s : State} {m : MethodId} {below : List Frame} {meth : Method} {c : Code} {b L : Nat} {xs : Nat → Int32} (hL : L ≤ 3072) (C0 : lw_At p s m meth c b L xs) {D : va_G} {cA tb adK adV : Nat → Nat} (hK : va_K D ph_cl (ph_tys cA) s) (hZ : ph_ZX tb adK adV (fun q => s.heap.size ≤ q) s) {am : Nat → Nat} {i : Nat} (hi : i ≤ 512)
    (hrec : 6 * i + 6 ≤ L → ∀ (S : ph_Sh) (ax : Nat → Nat) (X K : ph_Mem) (H : Heap) (locs : List Loc) (ls : Array Slot), Rel S X K → lw_Wd D cA s S ax X am K H → va_S (fun q => s.heap.size ≤ q) s.heap H locs → lv_has ls 4 [(0, .ref b), (1, .ref (ax 0)), (2, .ref (am 0)), (3, .int (nI (6 * (i + 1))))] → W p l e room_1 s m #[Value.ref b] below meth c H locs (115 + 3 * (i + 1)) (33285 + 475 * (i + 1)) (lw_Z below #[Value.ref b] s) (F0 m 18 ls []))
    {S : ph_Sh} {ax : Nat → Nat} {X K : ph_Mem} {H : Heap} {locs : List Loc} {ls : Array Slot} (hrel : Rel S X K) (hw : lw_Wd D cA s S ax X am K H) (hS : va_S (fun q => s.heap.size ≤ q) s.heap H locs) (hl : lv_has ls 4 [(0, .ref b), (1, .ref (ax 0)), (2, .ref (am 0)), (3, .int (nI (6 * i)))]) : W p l e room_1 s m #[Value.ref b] below meth c H locs (115 + 3 * i) (33285 + 475 * i) (lw_Z below #[Value.ref b] s) (F0 m 18 ls []) := by
  obtain ⟨hx, hb, hr, hml, hown, hts0, hX, hbl, hlk, hgv⟩ := id C0
  refine lv_iload_n hx hb dlw_18 rfl (lv_at hl 3 rfl) ?_
  refine lv_aload_n hx hb dlw_19 rfl (lv_at hl 0 rfl) ?_
  refine va_slen hx hb hX hbl (Nat.not_le.mpr hbl) hS dlw_20 ?_
  refine lv_bipush (v := 6) hx hb dlw_21 (by decide) ?_
  refine lv_isub hx hb dlw_23 ?_
  refine lv_icmp_gt (tgt := 1291) hx hb dlw_24 (by decide) (fun hc => ?_) (fun hc => ?_)
  · refine lv_iconst (v := 1) hx hb dlw_1291 (by decide) ?_
    refine va_forget (fun q hq => hS.2.2 q hq) ?_
    refine W.widen (k := 600000) (n := 7302250) (by omega) (by omega) ?_
    exact lw_ret hx hb hr hlk dlw_1292
  · have hlt : 6 * i + 6 ≤ L := by
      rcases Nat.lt_or_ge L (6 * i + 6) with h | h
      · exact absurd ((lw_bound hL hi).mpr h) hc
      · exact h
    refine lv_aload_n hx hb dlw_27 rfl (lv_at hl 0 rfl) ?_
    refine lv_iload_n hx hb dlw_28 rfl (lv_at hl 3 rfl) ?_
    refine lw_sld (k := 6 * i) C0 hS rfl (by omega) hL dlw_29 ?_
    refine lv_bipush (v := 63) hx hb dlw_30 (by decide) ?_
    refine lv_iand hx hb dlw_32 ?_
    obtain ⟨j, hj, ej⟩ := pk_andE (xs (6 * i)) (m := 63) 6 (by decide)
    rw [ej]
    have hnext : ∀ (S : ph_Sh) (ax : Nat → Nat) (X K : ph_Mem) (kc' ks' : Nat) (H : Heap) (locs : List Loc) (ls : Array Slot), kc' ≤ 115 + 3 * i + 3 → ks' ≤ 33285 + 475 * i + 475 → Rel S X K → lw_Wd D cA s S ax X am K H → va_S (fun q => s.heap.size ≤ q) s.heap H locs → lv_has ls 4 [(0, .ref b), (1, .ref (ax 0)), (2, .ref (am 0)), (3, .int (nI (6 * i)))] → W p l e room_1 s m #[Value.ref b] below meth c H locs kc' ks' (lw_Z below #[Value.ref b] s) (F0 m 1285 ls []) := by
      intro S ax X K kc' ks' H locs ls h1 h2 hrel hw hS hl
      refine lv_iinc (v := nI (6 * (i + 1))) (lv' := [(3, .int (nI (6 * (i + 1)))), (0, .ref b), (1, .ref (ax 0)), (2, .ref (am 0))]) hx hb dlw_1285 hl (k := 3) rfl (nI_add (6 * i) 6) (by decide) rfl (fun ls hl => ?_)
      refine lv_goto (tgt := 18) hx hb dlw_1288 (by decide) ?_
      refine W.widen (k := 115 + 3 * (i + 1)) (n := 33285 + 475 * (i + 1)) (by omega) (by omega) ?_
      exact hrec hlt S ax X K H locs ls hrel hw hS (lv_sub hl [1, 2, 3, 0] rfl)
    match j, hj with
    | 0, _ =>
      refine lv_tableIn (off := 167) (tgt := 200) hx hb dlw_33 (by decide) (by decide) (by decide) (by decide) ?_
      exact lwc_person (hall.1) hL C0 hK hZ hlt (by omega) (by omega) hnext hrel hw hS hl
    | 1, _ =>
      refine lv_tableIn (off := 180) (tgt := 213) hx hb dlw_33 (by decide) (by decide) (by decide) (by decide) ?_
      exact lwc_put (hall.2.1) hL C0 hK hZ hlt (by omega) (by omega) hnext hrel hw hS hl
    | 2, _ =>
      refine lv_tableIn (off := 233) (tgt := 266) hx hb dlw_33 (by decide) (by decide) (by decide) (by decide) ?_
      exact lwc_hour (hall.2.2.1) hL C0 hK hZ hlt (by omega) (by omega) hnext hrel hw hS hl
    | 3, _ =>
      refine lv_tableIn (off := 276) (tgt := 309) hx hb dlw_33 (by decide) (by decide) (by decide) (by decide) ?_
      exact lwc_give (hall.2.2.2.1) hL C0 hK hZ hlt (by omega) (by omega) hnext hrel hw hS hl
    | 4, _ =>
      refine lv_tableIn (off := 309) (tgt := 342) hx hb dlw_33 (by decide) (by decide) (by decide) (by decide) ?_
      exact lwc_of (hall.2.2.2.2.1) hL C0 hK hZ hlt (by omega) (by omega) hnext hrel hw hS hl
    | 5, _ =>
      refine lv_tableIn (off := 342) (tgt := 375) hx hb dlw_33 (by decide) (by decide) (by decide) (by decide) ?_
      exact lwc_needs (hall.2.2.2.2.2.1) hL C0 hK hZ hlt (by omega) (by omega) hnext hrel hw hS hl
    | 6, _ =>
      refine lv_tableIn (off := 375) (tgt := 408) hx hb dlw_33 (by decide) (by decide) (by decide) (by decide) ?_
      exact lwc_terms (hall.2.2.2.2.2.2.1) hL C0 hK hZ hlt (by omega) (by omega) hnext hrel hw hS hl
    | 7, _ =>
      refine lv_tableIn (off := 408) (tgt := 441) hx hb dlw_33 (by decide) (by decide) (by decide) (by decide) ?_
      exact lwc_feed (hall.2.2.2.2.2.2.2.1) hL C0 hK hZ hlt (by omega) (by omega) hnext hrel hw hS hl
    | 8, _ =>
      refine lv_tableIn (off := 471) (tgt := 504) hx hb dlw_33 (by decide) (by decide) (by decide) (by decide) ?_
      exact lwc_end (hall.2.2.2.2.2.2.2.2.1) hL C0 hK hZ hlt (by omega) (by omega) hnext hrel hw hS hl
    | 9, _ =>
      refine lv_tableIn (off := 494) (tgt := 527) hx hb dlw_33 (by decide) (by decide) (by decide) (by decide) ?_
      exact lwc_row (hall.2.2.2.2.2.2.2.2.2.1) hL C0 hK hZ hlt (by omega) (by omega) hnext hrel hw hS hl
    | 10, _ =>
      refine lv_tableIn (off := 517) (tgt := 550) hx hb dlw_33 (by decide) (by decide) (by decide) (by decide) ?_
      exact lwc_rain (hall.2.2.2.2.2.2.2.2.2.2.1) hL C0 hK hZ hlt (by omega) (by omega) hnext hrel hw hS hl
    | 11, _ =>
      refine lv_tableIn (off := 530) (tgt := 563) hx hb dlw_33 (by decide) (by decide) (by decide) (by decide) ?_
      exact lwc_law (hall.2.2.2.2.2.2.2.2.2.2.2.1) hL C0 hK hZ hlt (by omega) (by omega) hnext hrel hw hS hl
    | 12, _ =>
      refine lv_tableIn (off := 543) (tgt := 576) hx hb dlw_33 (by decide) (by decide) (by decide) (by decide) ?_
      exact lwc_orders (hall.2.2.2.2.2.2.2.2.2.2.2.2.1) hL C0 hK hZ hlt (by omega) (by omega) hnext hrel hw hS hl
    | 13, _ =>
      refine lv_tableIn (off := 556) (tgt := 589) hx hb dlw_33 (by decide) (by decide) (by decide) (by decide) ?_
      exact lwc_fault (hall.2.2.2.2.2.2.2.2.2.2.2.2.2.1) hL C0 hK hZ hlt (by omega) (by omega) hnext hrel hw hS hl
    | 14, _ =>
      refine lv_tableIn (off := 569) (tgt := 602) hx hb dlw_33 (by decide) (by decide) (by decide) (by decide) ?_
      exact lwc_stopped (hall.2.2.2.2.2.2.2.2.2.2.2.2.2.2.1) hL C0 hK hZ hlt (by omega) (by omega) hnext hrel hw hS hl
    | 15, _ =>
      refine lv_tableIn (off := 582) (tgt := 615) hx hb dlw_33 (by decide) (by decide) (by decide) (by decide) ?_
      exact lwc_force (hall.2.2.2.2.2.2.2.2.2.2.2.2.2.2.2.1) hL C0 hK hZ hlt (by omega) (by omega) hnext hrel hw hS hl
    | 16, _ =>
      refine lv_tableIn (off := 605) (tgt := 638) hx hb dlw_33 (by decide) (by decide) (by decide) (by decide) ?_
      exact lwc_pawn (hall.2.2.2.2.2.2.2.2.2.2.2.2.2.2.2.2.1) hL C0 hK hZ hlt (by omega) (by omega) hnext hrel hw hS hl
    | 17, _ =>
      refine lv_tableIn (off := 638) (tgt := 671) hx hb dlw_33 (by decide) (by decide) (by decide) (by decide) ?_
      exact lwc_redeem (hall.2.2.2.2.2.2.2.2.2.2.2.2.2.2.2.2.2.1) hL C0 hK hZ hlt (by omega) (by omega) hnext hrel hw hS hl
    | 18, _ =>
      refine lv_tableIn (off := 671) (tgt := 704) hx hb dlw_33 (by decide) (by decide) (by decide) (by decide) ?_
      exact lwc_pass (hall.2.2.2.2.2.2.2.2.2.2.2.2.2.2.2.2.2.2.1) hL C0 hK hZ hlt (by omega) (by omega) hnext hrel hw hS hl
    | 19, _ =>
      refine lv_tableIn (off := 684) (tgt := 717) hx hb dlw_33 (by decide) (by decide) (by decide) (by decide) ?_
      exact lwc_auction (hall.2.2.2.2.2.2.2.2.2.2.2.2.2.2.2.2.2.2.2.1) hL C0 hK hZ hlt (by omega) (by omega) hnext hrel hw hS hl
    | 20, _ =>
      refine lv_tableIn (off := 717) (tgt := 750) hx hb dlw_33 (by decide) (by decide) (by decide) (by decide) ?_
      exact lwc_undo (hall.2.2.2.2.2.2.2.2.2.2.2.2.2.2.2.2.2.2.2.2.1) hL C0 hK hZ hlt (by omega) (by omega) hnext hrel hw hS hl
    | 21, _ =>
      refine lv_tableIn (off := 730) (tgt := 763) hx hb dlw_33 (by decide) (by decide) (by decide) (by decide) ?_
      exact lwc_met (hall.2.2.2.2.2.2.2.2.2.2.2.2.2.2.2.2.2.2.2.2.2.1) hL C0 hK hZ hlt (by omega) (by omega) hnext hrel hw hS hl
    | 22, _ =>
      refine lv_tableIn (off := 773) (tgt := 806) hx hb dlw_33 (by decide) (by decide) (by decide) (by decide) ?_
      exact lwc_learned (hall.2.2.2.2.2.2.2.2.2.2.2.2.2.2.2.2.2.2.2.2.2.2.1) hL C0 hK hZ hlt (by omega) (by omega) hnext hrel hw hS hl
    | 23, _ =>
      refine lv_tableIn (off := 806) (tgt := 839) hx hb dlw_33 (by decide) (by decide) (by decide) (by decide) ?_
      exact lwc_deep (hall.2.2.2.2.2.2.2.2.2.2.2.2.2.2.2.2.2.2.2.2.2.2.2.1) hL C0 hK hZ hlt (by omega) (by omega) hnext hrel hw hS hl
    | 24, _ =>
      refine lv_tableIn (off := 829) (tgt := 862) hx hb dlw_33 (by decide) (by decide) (by decide) (by decide) ?_
      exact lwc_lies (hall.2.2.2.2.2.2.2.2.2.2.2.2.2.2.2.2.2.2.2.2.2.2.2.2.1) hL C0 hK hZ hlt (by omega) (by omega) hnext hrel hw hS hl
    | 25, _ =>
      refine lv_tableIn (off := 852) (tgt := 885) hx hb dlw_33 (by decide) (by decide) (by decide) (by decide) ?_
      exact lwc_forged (hall.2.2.2.2.2.2.2.2.2.2.2.2.2.2.2.2.2.2.2.2.2.2.2.2.2.1) hL C0 hK hZ hlt (by omega) (by omega) hnext hrel hw hS hl
    | 26, _ =>
      refine lv_tableIn (off := 875) (tgt := 908) hx hb dlw_33 (by decide) (by decide) (by decide) (by decide) ?_
      exact lwc_stray (hall.2.2.2.2.2.2.2.2.2.2.2.2.2.2.2.2.2.2.2.2.2.2.2.2.2.2.1) hL C0 hK hZ hlt (by omega) (by omega) hnext hrel hw hS hl
    | 27, _ =>
      refine lv_tableIn (off := 908) (tgt := 941) hx hb dlw_33 (by decide) (by decide) (by decide) (by decide) ?_
      exact lwc_raise (hall.2.2.2.2.2.2.2.2.2.2.2.2.2.2.2.2.2.2.2.2.2.2.2.2.2.2.2.1) hL C0 hK hZ hlt (by omega) (by omega) hnext hrel hw hS hl
    | 28, _ =>
      refine lv_tableIn (off := 961) (tgt := 994) hx hb dlw_33 (by decide) (by decide) (by decide) (by decide) ?_
      exact lwc_cheapest (hall.2.2.2.2.2.2.2.2.2.2.2.2.2.2.2.2.2.2.2.2.2.2.2.2.2.2.2.2.1) hL C0 hK hZ hlt (by omega) (by omega) hnext hrel hw hS hl
    | 29, _ =>
      refine lv_tableIn (off := 994) (tgt := 1027) hx hb dlw_33 (by decide) (by decide) (by decide) (by decide) ?_
      exact lwc_bid (hall.2.2.2.2.2.2.2.2.2.2.2.2.2.2.2.2.2.2.2.2.2.2.2.2.2.2.2.2.2.1) hL C0 hK hZ hlt (by omega) (by omega) hnext hrel hw hS hl
    | 30, _ =>
      refine lv_tableIn (off := 1037) (tgt := 1070) hx hb dlw_33 (by decide) (by decide) (by decide) (by decide) ?_
      exact lwc_sale (hall.2.2.2.2.2.2.2.2.2.2.2.2.2.2.2.2.2.2.2.2.2.2.2.2.2.2.2.2.2.2.1) hL C0 hK hZ hlt (by omega) (by omega) hnext hrel hw hS hl
    | 31, _ =>
      refine lv_tableIn (off := 1060) (tgt := 1093) hx hb dlw_33 (by decide) (by decide) (by decide) (by decide) ?_
      exact lwc_lasting (hall.2.2.2.2.2.2.2.2.2.2.2.2.2.2.2.2.2.2.2.2.2.2.2.2.2.2.2.2.2.2.2.1) hL C0 hK hZ hlt (by omega) (by omega) hnext hrel hw hS hl
    | 32, _ =>
      refine lv_tableIn (off := 1104) (tgt := 1137) hx hb dlw_33 (by decide) (by decide) (by decide) (by decide) ?_
      exact lwc_years (hall.2.2.2.2.2.2.2.2.2.2.2.2.2.2.2.2.2.2.2.2.2.2.2.2.2.2.2.2.2.2.2.2.1) hL C0 hK hZ hlt (by omega) (by omega) hnext hrel hw hS hl
    | 33, _ =>
      refine lv_tableIn (off := 1137) (tgt := 1170) hx hb dlw_33 (by decide) (by decide) (by decide) (by decide) ?_
      exact lwc_drawn (hall.2.2.2.2.2.2.2.2.2.2.2.2.2.2.2.2.2.2.2.2.2.2.2.2.2.2.2.2.2.2.2.2.2.1) hL C0 hK hZ hlt (by omega) (by omega) hnext hrel hw hS hl
    | 34, _ =>
      refine lv_tableIn (off := 1170) (tgt := 1203) hx hb dlw_33 (by decide) (by decide) (by decide) (by decide) ?_
      exact lwc_image (hall.2.2.2.2.2.2.2.2.2.2.2.2.2.2.2.2.2.2.2.2.2.2.2.2.2.2.2.2.2.2.2.2.2.2.1) hL C0 hK hZ hlt (by omega) (by omega) hnext hrel hw hS hl
    | 35, _ =>
      refine lv_tableIn (off := 1193) (tgt := 1226) hx hb dlw_33 (by decide) (by decide) (by decide) (by decide) ?_
      exact lwc_back (hall.2.2.2.2.2.2.2.2.2.2.2.2.2.2.2.2.2.2.2.2.2.2.2.2.2.2.2.2.2.2.2.2.2.2.2.1) hL C0 hK hZ hlt (by omega) (by omega) hnext hrel hw hS hl
    | 36, _ =>
      refine lv_tableIn (off := 1216) (tgt := 1249) hx hb dlw_33 (by decide) (by decide) (by decide) (by decide) ?_
      exact lwc_count (hall.2.2.2.2.2.2.2.2.2.2.2.2.2.2.2.2.2.2.2.2.2.2.2.2.2.2.2.2.2.2.2.2.2.2.2.2.1) hL C0 hK hZ hlt (by omega) (by omega) hnext hrel hw hS hl
    | 37, _ =>
      refine lv_tableIn (off := 1239) (tgt := 1272) hx hb dlw_33 (by decide) (by decide) (by decide) (by decide) ?_
      exact lwc_status (hall.2.2.2.2.2.2.2.2.2.2.2.2.2.2.2.2.2.2.2.2.2.2.2.2.2.2.2.2.2.2.2.2.2.2.2.2.2) hL C0 hK hZ hlt (by omega) (by omega) hnext hrel hw hS hl
    | j + 38, hj =>
      refine lv_tableOut (tgt := 1285) hx hb dlw_33 (Or.inr ?_) (by decide) ?_
      · rw [nI_toInt (by omega)]; omega
      · exact hnext S ax X K _ _ H locs ls (by omega) (by omega) hrel hw hS hl
/-- THE LAW'S LOOP -/
theorem law_loop {Rel : ph_Sh → ph_Mem → ph_Mem → Prop} (hall : lws Rel) {p : Program} {l : Launch} {e : Env} {s : State} {m : MethodId} {below : List Frame} {meth : Method} {c : Code} {b L : Nat} {xs : Nat → Int32} (hL : L ≤ 3072) (C0 : lw_At p s m meth c b L xs) {D : va_G} {cA tb adK adV : Nat → Nat} (hK : va_K D ph_cl (ph_tys cA) s) (hZ : ph_ZX tb adK adV (fun q => s.heap.size ≤ q) s) {am : Nat → Nat} :
    ∀ (n i : Nat), 512 ≤ i + n → i ≤ 512 → ∀ (S : ph_Sh) (ax : Nat → Nat) (X K : ph_Mem) (H : Heap) (locs : List Loc) (ls : Array Slot), Rel S X K → lw_Wd D cA s S ax X am K H → va_S (fun q => s.heap.size ≤ q) s.heap H locs → lv_has ls 4 [(0, .ref b), (1, .ref (ax 0)), (2, .ref (am 0)), (3, .int (nI (6 * i)))] → W p l e room_1 s m #[Value.ref b] below meth c H locs (115 + 3 * i) (33285 + 475 * i) (lw_Z below #[Value.ref b] s) (F0 m 18 ls [])
  | 0, i, h1, h2, S, ax, X, K, H, locs, ls, hrel, hw, hS, hl => lw_head hall hL C0 hK hZ h2 (fun h => absurd h (by omega)) hrel hw hS hl
  | n + 1, i, h1, h2, S, ax, X, K, H, locs, ls, hrel, hw, hS, hl => lw_head hall hL C0 hK hZ h2 (fun h S ax X K H locs ls hrel hw hS hl => law_loop hall hL C0 hK hZ n (i + 1) (by omega) (by omega) S ax X K H locs ls hrel hw hS hl) hrel hw hS hl
