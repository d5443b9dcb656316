theorem lw_cmp_self (x : Int64) : lg_cmp x x = 0 := by unfold lg_cmp; simp
def lws_person (Rel : ph_Sh → ph_Mem → ph_Mem → Prop) : Prop := ∀ S X K, Rel S X K → ∃ r X' K', f11_person S X = some (r, X') ∧ f12_person K = some (r, K') ∧ Rel S X' K'
def lws_put (Rel : ph_Sh → ph_Mem → ph_Mem → Prop) : Prop := ∀ S X K, Rel S X K → ∀ (a1 a2 a3 a4 : Int32), ∃ r X' K', f11_put S X a1 a2 a3 a4 = some (r, X') ∧ f12_put K a1 a2 a3 a4 = some (r, K') ∧ Rel S X' K'
def lws_hour (Rel : ph_Sh → ph_Mem → ph_Mem → Prop) : Prop := ∀ S X K, Rel S X K → ∀ (a1 a2 a3 : Int32), ∃ r X' K', f11_hour S X a1 a2 a3 = some (r, X') ∧ f12_hour K a1 a2 a3 = some (r, K') ∧ Rel S X' K'
def lws_give (Rel : ph_Sh → ph_Mem → ph_Mem → Prop) : Prop := ∀ S X K, Rel S X K → ∀ (a1 a2 : Int32), ∃ r X' K', f11_give S X a1 a2 = some (r, X') ∧ f12_give K a1 a2 = some (r, K') ∧ Rel S X' K'
def lws_of (Rel : ph_Sh → ph_Mem → ph_Mem → Prop) : Prop := ∀ S X K, Rel S X K → ∀ (a1 a2 : Int32), ∃ r K', f11_of S X a1 a2 = some r ∧ f12_of K a1 a2 = some (r, K') ∧ Rel S X K'
def lws_needs (Rel : ph_Sh → ph_Mem → ph_Mem → Prop) : Prop := ∀ S X K, Rel S X K → ∀ (a1 a2 : Int32), ∃ r X' K', f11_needs S X a1 a2 = some (r, X') ∧ f12_needs K a1 a2 = some (r, K') ∧ Rel S X' K'
def lws_terms (Rel : ph_Sh → ph_Mem → ph_Mem → Prop) : Prop := ∀ S X K, Rel S X K → ∀ (a1 a2 : Int32), ∃ r X' K', f11_terms S X a1 a2 = some (r, X') ∧ f12_terms K a1 a2 = some (r, K') ∧ Rel S X' K'
def lws_feed (Rel : ph_Sh → ph_Mem → ph_Mem → Prop) : Prop := ∀ S X K, Rel S X K → ∀ (a1 a2 a3 a4 a5 : Int32), ∃ r X' K', f11_feed S X a1 a2 a3 a4 a5 = some (r, X') ∧ f12_feed K a1 a2 a3 a4 a5 = some (r, K') ∧ Rel S X' K'
def lws_end (Rel : ph_Sh → ph_Mem → ph_Mem → Prop) : Prop := ∀ S X K, Rel S X K → ∀ (a1 : Int32), ∃ r X' K', f11_end S X a1 = some (r, X') ∧ f12_end K a1 = some (r, K') ∧ Rel S X' K'
def lws_row (Rel : ph_Sh → ph_Mem → ph_Mem → Prop) : Prop := ∀ S X K, Rel S X K → ∀ (a1 : Int32), ∃ r X' K', f11_row S X a1 = some (r, X') ∧ f12_row K a1 = some (r, K') ∧ Rel S X' K'
def lws_rain (Rel : ph_Sh → ph_Mem → ph_Mem → Prop) : Prop := ∀ S X K, Rel S X K → ∃ r, f11_rain S X = some r ∧ f12_rain K = some r ∧ Rel S X K
def lws_law (Rel : ph_Sh → ph_Mem → ph_Mem → Prop) : Prop := ∀ S X K, Rel S X K → ∃ r X' S' K', f11_law S X = some (r, X', S') ∧ f12_law K = some (r, K') ∧ ph_SX S' ∧ S.2 ≤ S'.2 ∧ Rel S' X' K'
def lws_orders (Rel : ph_Sh → ph_Mem → ph_Mem → Prop) : Prop := ∀ S X K, Rel S X K → ∃ r X' S' K', f11_orders S X = some (r, X', S') ∧ f12_orders K = some (r, K') ∧ ph_SX S' ∧ S.2 ≤ S'.2 ∧ Rel S' X' K'
def lws_fault (Rel : ph_Sh → ph_Mem → ph_Mem → Prop) : Prop := ∀ S X K, Rel S X K → ∃ r, f11_fault S X = some r ∧ f12_fault K = some r ∧ Rel S X K
def lws_stopped (Rel : ph_Sh → ph_Mem → ph_Mem → Prop) : Prop := ∀ S X K, Rel S X K → ∃ r, f11_stopped S X = some r ∧ f12_stopped K = some r ∧ Rel S X K
def lws_force (Rel : ph_Sh → ph_Mem → ph_Mem → Prop) : Prop := ∀ S X K, Rel S X K → ∀ (a1 : Int32), ∃ r X' K', f11_force S X a1 = some (r, X') ∧ f12_force K a1 = some (r, K') ∧ Rel S X' K'
def lws_pawn (Rel : ph_Sh → ph_Mem → ph_Mem → Prop) : Prop := ∀ S X K, Rel S X K → ∀ (a1 a2 : Int32), ∃ r X' K', f11_pawn S X a1 a2 = some (r, X') ∧ f12_pawn K a1 a2 = some (r, K') ∧ Rel S X' K'
def lws_redeem (Rel : ph_Sh → ph_Mem → ph_Mem → Prop) : Prop := ∀ S X K, Rel S X K → ∀ (a1 a2 : Int32), ∃ r X' K', f11_redeem S X a1 a2 = some (r, X') ∧ f12_redeem K a1 a2 = some (r, K') ∧ Rel S X' K'
def lws_pass (Rel : ph_Sh → ph_Mem → ph_Mem → Prop) : Prop := ∀ S X K, Rel S X K → ∃ r X' K', f11_pass S X = some (r, X') ∧ f12_pass K = some (r, K') ∧ Rel S X' K'
def lws_auction (Rel : ph_Sh → ph_Mem → ph_Mem → Prop) : Prop := ∀ S X K, Rel S X K → ∀ (a1 a2 : Int32), ∃ r X' K', f11_auction S X a1 a2 = some (r, X') ∧ f12_auction K a1 a2 = some (r, K') ∧ Rel S X' K'
def lws_undo (Rel : ph_Sh → ph_Mem → ph_Mem → Prop) : Prop := ∀ S X K, Rel S X K → ∃ r X' K', f11_undo S X = some (r, X') ∧ f12_undo K = some (r, K') ∧ Rel S X' K'
def lws_met (Rel : ph_Sh → ph_Mem → ph_Mem → Prop) : Prop := ∀ S X K, Rel S X K → ∀ (a1 a2 a3 : Int32), ∃ r K', f11_met S X a1 a2 a3 = some r ∧ f12_met K a1 a2 a3 = some (r, K') ∧ Rel S X K'
def lws_learned (Rel : ph_Sh → ph_Mem → ph_Mem → Prop) : Prop := ∀ S X K, Rel S X K → ∀ (a1 a2 : Int32), ∃ r K', f11_learned S X a1 a2 = some r ∧ f12_learned K a1 a2 = some (r, K') ∧ Rel S X K'
def lws_deep (Rel : ph_Sh → ph_Mem → ph_Mem → Prop) : Prop := ∀ S X K, Rel S X K → ∀ (a1 : Int32), ∃ r K', f11_deep S X a1 = some r ∧ f12_deep K a1 = some (r, K') ∧ Rel S X K'
def lws_lies (Rel : ph_Sh → ph_Mem → ph_Mem → Prop) : Prop := ∀ S X K, Rel S X K → ∀ (a1 : Int32), ∃ r, f11_lies S X a1 = some r ∧ f12_lies K a1 = some r ∧ Rel S X K
def lws_forged (Rel : ph_Sh → ph_Mem → ph_Mem → Prop) : Prop := ∀ S X K, Rel S X K → ∀ (a1 : Int32), ∃ r X', f11_forged S X a1 = some (r, X') ∧ f12_forged K a1 = some r ∧ Rel S X' K
def lws_stray (Rel : ph_Sh → ph_Mem → ph_Mem → Prop) : Prop := ∀ S X K, Rel S X K → ∀ (a1 a2 : Int32), ∃ r, f11_stray S X a1 a2 = some r ∧ f12_stray K a1 a2 = some r ∧ Rel S X K
def lws_raise (Rel : ph_Sh → ph_Mem → ph_Mem → Prop) : Prop := ∀ S X K, Rel S X K → ∀ (a1 a2 a3 a4 : Int32), ∃ r X' K', f11_raise S X a1 a2 a3 a4 = some (r, X') ∧ f12_raise K a1 a2 a3 a4 = some (r, K') ∧ Rel S X' K'
def lws_cheapest (Rel : ph_Sh → ph_Mem → ph_Mem → Prop) : Prop := ∀ S X K, Rel S X K → ∀ (a1 a2 : Int32), ∃ r X' K', f11_cheapest S X a1 a2 = some (r, X') ∧ f12_cheapest K a1 a2 = some (r, K') ∧ Rel S X' K'
def lws_bid (Rel : ph_Sh → ph_Mem → ph_Mem → Prop) : Prop := ∀ S X K, Rel S X K → ∀ (a1 a2 a3 : Int32), ∃ r X' K', f11_bid S X a1 a2 a3 = some (r, X') ∧ f12_bid K a1 a2 a3 = some (r, K') ∧ Rel S X' K'
def lws_sale (Rel : ph_Sh → ph_Mem → ph_Mem → Prop) : Prop := ∀ S X K, Rel S X K → ∀ (a1 : Int32), ∃ r X' K', f11_sale S X a1 = some (r, X') ∧ f12_sale K a1 = some (r, K') ∧ Rel S X' K'
def lws_lasting (Rel : ph_Sh → ph_Mem → ph_Mem → Prop) : Prop := ∀ S X K, Rel S X K → ∀ (a1 a2 a3 : Int32), ∃ r X' K', f11_lasting S X a1 a2 a3 = some (r, X') ∧ f12_lasting K a1 a2 a3 = some (r, K') ∧ Rel S X' K'
def lws_years (Rel : ph_Sh → ph_Mem → ph_Mem → Prop) : Prop := ∀ S X K, Rel S X K → ∀ (a1 a2 : Int32), ∃ r X' K', f11_years S X a1 a2 = some (r, X') ∧ f12_years K a1 a2 = some (r, K') ∧ Rel S X' K'
def lws_drawn (Rel : ph_Sh → ph_Mem → ph_Mem → Prop) : Prop := ∀ S X K, Rel S X K → ∀ (a1 a2 : Int32), ∃ r, f11_drawn S X a1 a2 = some r ∧ f12_drawn K a1 a2 = some r ∧ Rel S X K
def lws_image (Rel : ph_Sh → ph_Mem → ph_Mem → Prop) : Prop := ∀ S X K, Rel S X K → ∀ (a1 : Int32), ∃ r X' K', f11_image S X a1 = some (r, X') ∧ f12_image K a1 = some (r, K') ∧ Rel S X' K'
def lws_back (Rel : ph_Sh → ph_Mem → ph_Mem → Prop) : Prop := ∀ S X K, Rel S X K → ∀ (a1 : Int32), ∃ r X' K', f11_back S X a1 = some (r, X') ∧ f12_back K a1 = some (r, K') ∧ Rel S X' K'
def lws_count (Rel : ph_Sh → ph_Mem → ph_Mem → Prop) : Prop := ∀ S X K, Rel S X K → ∀ (a1 : Int32), ∃ r, f11_count S X a1 = some r ∧ f12_count K a1 = some r ∧ Rel S X K
def lws_status (Rel : ph_Sh → ph_Mem → ph_Mem → Prop) : Prop := ∀ S X K, Rel S X K → ∃ r, f11_status S X = some r ∧ f12_status K = some r ∧ Rel S X K
set_option maxHeartbeats 4000000 in
theorem lwc_person {Rel : ph_Sh → ph_Mem → ph_Mem → Prop} (hst : lws_person Rel) {p : Program} {l : Launch} {e : Env} {s : State} {m : MethodId} {below : List Frame} {meth : Method} {c : Code} {b L : Nat} {xs : Nat → Int32} (hL : L ≤ 3072) (C0 : lw_At p s m meth c b L xs) {D : va_G} {cA tb adK adV : Nat → Nat} (hK : va_K D ph_cl (ph_tys cA) s) (hZ : ph_ZX tb adK adV (fun q => s.heap.size ≤ q) s) {i kc ks : Nat} (hi : 6 * i + 6 ≤ L) (hkc : kc + 3 ≤ 600000) (hks : ks + 475 ≤ 7302250) {am : Nat → Nat} {Q : State → Prop} (hnext : ∀ (S : ph_Sh) (ax : Nat → Nat) (X K : ph_Mem) (kc' ks' : Nat) (H : Heap) (locs : List Loc) (ls : Array Slot), kc' ≤ kc + 3 → ks' ≤ ks + 475 → Rel S X K → lw_Wd D cA s S ax X am K H → va_S (fun q => s.heap.size ≤ q) s.heap H locs → lv_has ls 4 [(0, .ref b), (1, .ref (ax 0)), (2, .ref (am 0)), (3, .int (nI (6 * i)))] → W p l e room_1 s m #[Value.ref b] below meth c H locs kc' ks' Q (F0 m 1285 ls [])) {S : ph_Sh} {ax : Nat → Nat} {X K : ph_Mem} {H : Heap} {locs : List Loc} {ls : Array Slot} (hrel : Rel S X K) (hw : lw_Wd D cA s S ax X am K H) (hS : va_S (fun q => s.heap.size ≤ q) s.heap H locs) (hl : lv_has ls 4 [(0, .ref b), (1, .ref (ax 0)), (2, .ref (am 0)), (3, .int (nI (6 * i)))]) : W p l e room_1 s m #[Value.ref b] below meth c H locs kc ks Q (F0 m 200 ls []) := by
  obtain ⟨hx, hb, hr, hml, hown, hts0, hX, hbl, hlk, hgv⟩ := id C0
  obtain ⟨hSX, hPX, hPM, hiX, hiM, hgX, hgM, hap⟩ := hw
  obtain ⟨r, X', K', hfx, hfm, hrel'⟩ := hst S X K hrel 
  refine lv_aload_n hx hb dlw_200 rfl (lv_at hl 1 rfl) ?_
  refine lw_call (As := []) (rest := []) (n := 0) (v := some (.int r)) C0 hK hZ hPX hPM hgX hap hS hl.1 tw_419 tw_420 tw_421 tw_1 tw_422 ydf11_person (by decide) (by decide) (by have := hSX.1; omega) (ph_kc0 hSX) rfl (cf11_person hiX hSX hfx) rfl (by decide) (by omega) (by omega) dlw_201 (fun H locs hPX hPM hS => ?_)
  refine lv_aload_n hx hb dlw_204 rfl (lv_at hl 2 rfl) ?_
  refine lw_call (As := []) (rest := [.int r]) (n := 0) (v := some (.int r)) C0 hK hZ hPM hPX hgM (fun i j hi hj he => hap j i hj hi he.symm) hS hl.1 tw_1385 tw_1386 tw_1387 tw_14 tw_1388 ydf12_person (by decide) (by decide) (by decide) rfl rfl (cf12_person ph_ZX_ok hiM hfm) rfl (Nat.le_of_ble_eq_true rfl) (by omega) (by omega) dlw_205 (fun H locs hPM hPX hS => ?_)
  refine lv_icmp_eq (tgt := 1285) hx hb dlw_208 (by decide) (fun _ => ?_) (fun hne => absurd rfl hne)
  exact hnext S ax X' K' _ _ _ _ _ (by omega) (by omega) hrel' ⟨hSX, hPX, hPM, hiX, hiM, hgX, hgM, hap⟩ hS hl
set_option maxHeartbeats 4000000 in
theorem lwc_put {Rel : ph_Sh → ph_Mem → ph_Mem → Prop} (hst : lws_put Rel) {p : Program} {l : Launch} {e : Env} {s : State} {m : MethodId} {below : List Frame} {meth : Method} {c : Code} {b L : Nat} {xs : Nat → Int32} (hL : L ≤ 3072) (C0 : lw_At p s m meth c b L xs) {D : va_G} {cA tb adK adV : Nat → Nat} (hK : va_K D ph_cl (ph_tys cA) s) (hZ : ph_ZX tb adK adV (fun q => s.heap.size ≤ q) s) {i kc ks : Nat} (hi : 6 * i + 6 ≤ L) (hkc : kc + 3 ≤ 600000) (hks : ks + 475 ≤ 7302250) {am : Nat → Nat} {Q : State → Prop} (hnext : ∀ (S : ph_Sh) (ax : Nat → Nat) (X K : ph_Mem) (kc' ks' : Nat) (H : Heap) (locs : List Loc) (ls : Array Slot), kc' ≤ kc + 3 → ks' ≤ ks + 475 → Rel S X K → lw_Wd D cA s S ax X am K H → va_S (fun q => s.heap.size ≤ q) s.heap H locs → lv_has ls 4 [(0, .ref b), (1, .ref (ax 0)), (2, .ref (am 0)), (3, .int (nI (6 * i)))] → W p l e room_1 s m #[Value.ref b] below meth c H locs kc' ks' Q (F0 m 1285 ls [])) {S : ph_Sh} {ax : Nat → Nat} {X K : ph_Mem} {H : Heap} {locs : List Loc} {ls : Array Slot} (hrel : Rel S X K) (hw : lw_Wd D cA s S ax X am K H) (hS : va_S (fun q => s.heap.size ≤ q) s.heap H locs) (hl : lv_has ls 4 [(0, .ref b), (1, .ref (ax 0)), (2, .ref (am 0)), (3, .int (nI (6 * i)))]) : W p l e room_1 s m #[Value.ref b] below meth c H locs kc ks Q (F0 m 213 ls []) := by
  obtain ⟨hx, hb, hr, hml, hown, hts0, hX, hbl, hlk, hgv⟩ := id C0
  obtain ⟨hSX, hPX, hPM, hiX, hiM, hgX, hgM, hap⟩ := hw
  obtain ⟨r, X', K', hfx, hfm, hrel'⟩ := hst S X K hrel (xs (6 * i + 1)) (xs (6 * i + 2)) (xs (6 * i + 3)) (xs (6 * i + 4))
  refine lv_aload_n hx hb dlw_213 rfl (lv_at hl 1 rfl) ?_
  refine lv_aload_n hx hb dlw_214 rfl (lv_at hl 0 rfl) ?_
  refine lv_iload_n hx hb dlw_215 rfl (lv_at hl 3 rfl) ?_
  refine lv_iconst (v := 1) hx hb dlw_216 (by decide) ?_
  refine lv_iadd hx hb dlw_217 ?_
  refine lw_sld (k := 6 * i + 1) C0 hS (nI_add (6 * i) 1) (by omega) hL dlw_218 ?_
  refine lv_aload_n hx hb dlw_219 rfl (lv_at hl 0 rfl) ?_
  refine lv_iload_n hx hb dlw_220 rfl (lv_at hl 3 rfl) ?_
  refine lv_iconst (v := 2) hx hb dlw_221 (by decide) ?_
  refine lv_iadd hx hb dlw_222 ?_
  refine lw_sld (k := 6 * i + 2) C0 hS (nI_add (6 * i) 2) (by omega) hL dlw_223 ?_
  refine lv_aload_n hx hb dlw_224 rfl (lv_at hl 0 rfl) ?_
  refine lv_iload_n hx hb dlw_225 rfl (lv_at hl 3 rfl) ?_
  refine lv_iconst (v := 3) hx hb dlw_226 (by decide) ?_
  refine lv_iadd hx hb dlw_227 ?_
  refine lw_sld (k := 6 * i + 3) C0 hS (nI_add (6 * i) 3) (by omega) hL dlw_228 ?_
  refine lv_aload_n hx hb dlw_229 rfl (lv_at hl 0 rfl) ?_
  refine lv_iload_n hx hb dlw_230 rfl (lv_at hl 3 rfl) ?_
  refine lv_iconst (v := 4) hx hb dlw_231 (by decide) ?_
  refine lv_iadd hx hb dlw_232 ?_
  refine lw_sld (k := 6 * i + 4) C0 hS (nI_add (6 * i) 4) (by omega) hL dlw_233 ?_
  refine lw_call (As := [.int (xs (6 * i + 1)), .int (xs (6 * i + 2)), .int (xs (6 * i + 3)), .int (xs (6 * i + 4))]) (rest := []) (n := 4) (v := some (.int r)) C0 hK hZ hPX hPM hgX hap hS hl.1 tw_435 tw_436 tw_437 tw_1 tw_438 ydf11_put (by decide) (by decide) (by have := hSX.1; omega) (ph_kc0 hSX) rfl (cf11_put hiX hSX hfx) rfl (by decide) (by omega) (by omega) dlw_234 (fun H locs hPX hPM hS => ?_)
  refine lv_aload_n hx hb dlw_237 rfl (lv_at hl 2 rfl) ?_
  refine lv_aload_n hx hb dlw_238 rfl (lv_at hl 0 rfl) ?_
  refine lv_iload_n hx hb dlw_239 rfl (lv_at hl 3 rfl) ?_
  refine lv_iconst (v := 1) hx hb dlw_240 (by decide) ?_
  refine lv_iadd hx hb dlw_241 ?_
  refine lw_sld (k := 6 * i + 1) C0 hS (nI_add (6 * i) 1) (by omega) hL dlw_242 ?_
  refine lv_aload_n hx hb dlw_243 rfl (lv_at hl 0 rfl) ?_
  refine lv_iload_n hx hb dlw_244 rfl (lv_at hl 3 rfl) ?_
  refine lv_iconst (v := 2) hx hb dlw_245 (by decide) ?_
  refine lv_iadd hx hb dlw_246 ?_
  refine lw_sld (k := 6 * i + 2) C0 hS (nI_add (6 * i) 2) (by omega) hL dlw_247 ?_
  refine lv_aload_n hx hb dlw_248 rfl (lv_at hl 0 rfl) ?_
  refine lv_iload_n hx hb dlw_249 rfl (lv_at hl 3 rfl) ?_
  refine lv_iconst (v := 3) hx hb dlw_250 (by decide) ?_
  refine lv_iadd hx hb dlw_251 ?_
  refine lw_sld (k := 6 * i + 3) C0 hS (nI_add (6 * i) 3) (by omega) hL dlw_252 ?_
  refine lv_aload_n hx hb dlw_253 rfl (lv_at hl 0 rfl) ?_
  refine lv_iload_n hx hb dlw_254 rfl (lv_at hl 3 rfl) ?_
  refine lv_iconst (v := 4) hx hb dlw_255 (by decide) ?_
  refine lv_iadd hx hb dlw_256 ?_
  refine lw_sld (k := 6 * i + 4) C0 hS (nI_add (6 * i) 4) (by omega) hL dlw_257 ?_
  refine lw_call (As := [.int (xs (6 * i + 1)), .int (xs (6 * i + 2)), .int (xs (6 * i + 3)), .int (xs (6 * i + 4))]) (rest := [.int r]) (n := 4) (v := some (.int r)) C0 hK hZ hPM hPX hgM (fun i j hi hj he => hap j i hj hi he.symm) hS hl.1 tw_1396 tw_1397 tw_1398 tw_14 tw_1399 ydf12_put (by decide) (by decide) (by decide) rfl rfl (cf12_put ph_ZX_ok hiM hfm) rfl (Nat.le_of_ble_eq_true rfl) (by omega) (by omega) dlw_258 (fun H locs hPM hPX hS => ?_)
  refine lv_icmp_eq (tgt := 1285) hx hb dlw_261 (by decide) (fun _ => ?_) (fun hne => absurd rfl hne)
  exact hnext S ax X' K' _ _ _ _ _ (by omega) (by omega) hrel' ⟨hSX, hPX, hPM, hiX, hiM, hgX, hgM, hap⟩ hS hl
set_option maxHeartbeats 4000000 in
theorem lwc_hour {Rel : ph_Sh → ph_Mem → ph_Mem → Prop} (hst : lws_hour Rel) {p : Program} {l : Launch} {e : Env} {s : State} {m : MethodId} {below : List Frame} {meth : Method} {c : Code} {b L : Nat} {xs : Nat → Int32} (hL : L ≤ 3072) (C0 : lw_At p s m meth c b L xs) {D : va_G} {cA tb adK adV : Nat → Nat} (hK : va_K D ph_cl (ph_tys cA) s) (hZ : ph_ZX tb adK adV (fun q => s.heap.size ≤ q) s) {i kc ks : Nat} (hi : 6 * i + 6 ≤ L) (hkc : kc + 3 ≤ 600000) (hks : ks + 475 ≤ 7302250) {am : Nat → Nat} {Q : State → Prop} (hnext : ∀ (S : ph_Sh) (ax : Nat → Nat) (X K : ph_Mem) (kc' ks' : Nat) (H : Heap) (locs : List Loc) (ls : Array Slot), kc' ≤ kc + 3 → ks' ≤ ks + 475 → Rel S X K → lw_Wd D cA s S ax X am K H → va_S (fun q => s.heap.size ≤ q) s.heap H locs → lv_has ls 4 [(0, .ref b), (1, .ref (ax 0)), (2, .ref (am 0)), (3, .int (nI (6 * i)))] → W p l e room_1 s m #[Value.ref b] below meth c H locs kc' ks' Q (F0 m 1285 ls [])) {S : ph_Sh} {ax : Nat → Nat} {X K : ph_Mem} {H : Heap} {locs : List Loc} {ls : Array Slot} (hrel : Rel S X K) (hw : lw_Wd D cA s S ax X am K H) (hS : va_S (fun q => s.heap.size ≤ q) s.heap H locs) (hl : lv_has ls 4 [(0, .ref b), (1, .ref (ax 0)), (2, .ref (am 0)), (3, .int (nI (6 * i)))]) : W p l e room_1 s m #[Value.ref b] below meth c H locs kc ks Q (F0 m 266 ls []) := by
  obtain ⟨hx, hb, hr, hml, hown, hts0, hX, hbl, hlk, hgv⟩ := id C0
  obtain ⟨hSX, hPX, hPM, hiX, hiM, hgX, hgM, hap⟩ := hw
  obtain ⟨r, X', K', hfx, hfm, hrel'⟩ := hst S X K hrel (xs (6 * i + 1)) (xs (6 * i + 2)) (xs (6 * i + 3))
  refine lv_aload_n hx hb dlw_266 rfl (lv_at hl 1 rfl) ?_
  refine lv_aload_n hx hb dlw_267 rfl (lv_at hl 0 rfl) ?_
  refine lv_iload_n hx hb dlw_268 rfl (lv_at hl 3 rfl) ?_
  refine lv_iconst (v := 1) hx hb dlw_269 (by decide) ?_
  refine lv_iadd hx hb dlw_270 ?_
  refine lw_sld (k := 6 * i + 1) C0 hS (nI_add (6 * i) 1) (by omega) hL dlw_271 ?_
  refine lv_aload_n hx hb dlw_272 rfl (lv_at hl 0 rfl) ?_
  refine lv_iload_n hx hb dlw_273 rfl (lv_at hl 3 rfl) ?_
  refine lv_iconst (v := 2) hx hb dlw_274 (by decide) ?_
  refine lv_iadd hx hb dlw_275 ?_
  refine lw_sld (k := 6 * i + 2) C0 hS (nI_add (6 * i) 2) (by omega) hL dlw_276 ?_
  refine lv_aload_n hx hb dlw_277 rfl (lv_at hl 0 rfl) ?_
  refine lv_iload_n hx hb dlw_278 rfl (lv_at hl 3 rfl) ?_
  refine lv_iconst (v := 3) hx hb dlw_279 (by decide) ?_
  refine lv_iadd hx hb dlw_280 ?_
  refine lw_sld (k := 6 * i + 3) C0 hS (nI_add (6 * i) 3) (by omega) hL dlw_281 ?_
  refine lw_call (As := [.int (xs (6 * i + 1)), .int (xs (6 * i + 2)), .int (xs (6 * i + 3))]) (rest := []) (n := 3) (v := some (.int r)) C0 hK hZ hPX hPM hgX hap hS hl.1 tw_467 tw_468 tw_469 tw_1 tw_470 ydf11_hour (by decide) (by decide) (by have := hSX.1; omega) (ph_kc0 hSX) rfl (cf11_hour hiX hSX hfx) rfl (by decide) (by omega) (by omega) dlw_282 (fun H locs hPX hPM hS => ?_)
  refine lv_aload_n hx hb dlw_285 rfl (lv_at hl 2 rfl) ?_
  refine lv_aload_n hx hb dlw_286 rfl (lv_at hl 0 rfl) ?_
  refine lv_iload_n hx hb dlw_287 rfl (lv_at hl 3 rfl) ?_
  refine lv_iconst (v := 1) hx hb dlw_288 (by decide) ?_
  refine lv_iadd hx hb dlw_289 ?_
  refine lw_sld (k := 6 * i + 1) C0 hS (nI_add (6 * i) 1) (by omega) hL dlw_290 ?_
  refine lv_aload_n hx hb dlw_291 rfl (lv_at hl 0 rfl) ?_
  refine lv_iload_n hx hb dlw_292 rfl (lv_at hl 3 rfl) ?_
  refine lv_iconst (v := 2) hx hb dlw_293 (by decide) ?_
  refine lv_iadd hx hb dlw_294 ?_
  refine lw_sld (k := 6 * i + 2) C0 hS (nI_add (6 * i) 2) (by omega) hL dlw_295 ?_
  refine lv_aload_n hx hb dlw_296 rfl (lv_at hl 0 rfl) ?_
  refine lv_iload_n hx hb dlw_297 rfl (lv_at hl 3 rfl) ?_
  refine lv_iconst (v := 3) hx hb dlw_298 (by decide) ?_
  refine lv_iadd hx hb dlw_299 ?_
  refine lw_sld (k := 6 * i + 3) C0 hS (nI_add (6 * i) 3) (by omega) hL dlw_300 ?_
  refine lw_call (As := [.int (xs (6 * i + 1)), .int (xs (6 * i + 2)), .int (xs (6 * i + 3))]) (rest := [.int r]) (n := 3) (v := some (.int r)) C0 hK hZ hPM hPX hgM (fun i j hi hj he => hap j i hj hi he.symm) hS hl.1 tw_1422 tw_1423 tw_1424 tw_14 tw_1425 ydf12_hour (by decide) (by decide) (by decide) rfl rfl (cf12_hour ph_ZX_ok hiM hfm) rfl (Nat.le_of_ble_eq_true rfl) (by omega) (by omega) dlw_301 (fun H locs hPM hPX hS => ?_)
  refine lv_icmp_eq (tgt := 1285) hx hb dlw_304 (by decide) (fun _ => ?_) (fun hne => absurd rfl hne)
  exact hnext S ax X' K' _ _ _ _ _ (by omega) (by omega) hrel' ⟨hSX, hPX, hPM, hiX, hiM, hgX, hgM, hap⟩ hS hl
set_option maxHeartbeats 4000000 in
theorem lwc_give {Rel : ph_Sh → ph_Mem → ph_Mem → Prop} (hst : lws_give Rel) {p : Program} {l : Launch} {e : Env} {s : State} {m : MethodId} {below : List Frame} {meth : Method} {c : Code} {b L : Nat} {xs : Nat → Int32} (hL : L ≤ 3072) (C0 : lw_At p s m meth c b L xs) {D : va_G} {cA tb adK adV : Nat → Nat} (hK : va_K D ph_cl (ph_tys cA) s) (hZ : ph_ZX tb adK adV (fun q => s.heap.size ≤ q) s) {i kc ks : Nat} (hi : 6 * i + 6 ≤ L) (hkc : kc + 3 ≤ 600000) (hks : ks + 475 ≤ 7302250) {am : Nat → Nat} {Q : State → Prop} (hnext : ∀ (S : ph_Sh) (ax : Nat → Nat) (X K : ph_Mem) (kc' ks' : Nat) (H : Heap) (locs : List Loc) (ls : Array Slot), kc' ≤ kc + 3 → ks' ≤ ks + 475 → Rel S X K → lw_Wd D cA s S ax X am K H → va_S (fun q => s.heap.size ≤ q) s.heap H locs → lv_has ls 4 [(0, .ref b), (1, .ref (ax 0)), (2, .ref (am 0)), (3, .int (nI (6 * i)))] → W p l e room_1 s m #[Value.ref b] below meth c H locs kc' ks' Q (F0 m 1285 ls [])) {S : ph_Sh} {ax : Nat → Nat} {X K : ph_Mem} {H : Heap} {locs : List Loc} {ls : Array Slot} (hrel : Rel S X K) (hw : lw_Wd D cA s S ax X am K H) (hS : va_S (fun q => s.heap.size ≤ q) s.heap H locs) (hl : lv_has ls 4 [(0, .ref b), (1, .ref (ax 0)), (2, .ref (am 0)), (3, .int (nI (6 * i)))]) : W p l e room_1 s m #[Value.ref b] below meth c H locs kc ks Q (F0 m 309 ls []) := by
  obtain ⟨hx, hb, hr, hml, hown, hts0, hX, hbl, hlk, hgv⟩ := id C0
  obtain ⟨hSX, hPX, hPM, hiX, hiM, hgX, hgM, hap⟩ := hw
  obtain ⟨r, X', K', hfx, hfm, hrel'⟩ := hst S X K hrel (xs (6 * i + 1)) (xs (6 * i + 2))
  refine lv_aload_n hx hb dlw_309 rfl (lv_at hl 1 rfl) ?_
  refine lv_aload_n hx hb dlw_310 rfl (lv_at hl 0 rfl) ?_
  refine lv_iload_n hx hb dlw_311 rfl (lv_at hl 3 rfl) ?_
  refine lv_iconst (v := 1) hx hb dlw_312 (by decide) ?_
  refine lv_iadd hx hb dlw_313 ?_
  refine lw_sld (k := 6 * i + 1) C0 hS (nI_add (6 * i) 1) (by omega) hL dlw_314 ?_
  refine lv_aload_n hx hb dlw_315 rfl (lv_at hl 0 rfl) ?_
  refine lv_iload_n hx hb dlw_316 rfl (lv_at hl 3 rfl) ?_
  refine lv_iconst (v := 2) hx hb dlw_317 (by decide) ?_
  refine lv_iadd hx hb dlw_318 ?_
  refine lw_sld (k := 6 * i + 2) C0 hS (nI_add (6 * i) 2) (by omega) hL dlw_319 ?_
  refine lw_call (As := [.int (xs (6 * i + 1)), .int (xs (6 * i + 2))]) (rest := []) (n := 2) (v := some (.int r)) C0 hK hZ hPX hPM hgX hap hS hl.1 tw_533 tw_534 tw_535 tw_1 tw_536 ydf11_give (by decide) (by decide) (by have := hSX.1; omega) (ph_kc0 hSX) rfl (cf11_give hiX hSX hfx) rfl (by decide) (by omega) (by omega) dlw_320 (fun H locs hPX hPM hS => ?_)
  refine lv_aload_n hx hb dlw_323 rfl (lv_at hl 2 rfl) ?_
  refine lv_aload_n hx hb dlw_324 rfl (lv_at hl 0 rfl) ?_
  refine lv_iload_n hx hb dlw_325 rfl (lv_at hl 3 rfl) ?_
  refine lv_iconst (v := 1) hx hb dlw_326 (by decide) ?_
  refine lv_iadd hx hb dlw_327 ?_
  refine lw_sld (k := 6 * i + 1) C0 hS (nI_add (6 * i) 1) (by omega) hL dlw_328 ?_
  refine lv_aload_n hx hb dlw_329 rfl (lv_at hl 0 rfl) ?_
  refine lv_iload_n hx hb dlw_330 rfl (lv_at hl 3 rfl) ?_
  refine lv_iconst (v := 2) hx hb dlw_331 (by decide) ?_
  refine lv_iadd hx hb dlw_332 ?_
  refine lw_sld (k := 6 * i + 2) C0 hS (nI_add (6 * i) 2) (by omega) hL dlw_333 ?_
  refine lw_call (As := [.int (xs (6 * i + 1)), .int (xs (6 * i + 2))]) (rest := [.int r]) (n := 2) (v := some (.int r)) C0 hK hZ hPM hPX hgM (fun i j hi hj he => hap j i hj hi he.symm) hS hl.1 tw_1507 tw_1508 tw_1509 tw_14 tw_1510 ydf12_give (by decide) (by decide) (by decide) rfl rfl (cf12_give ph_ZX_ok hiM hfm) rfl (Nat.le_of_ble_eq_true rfl) (by omega) (by omega) dlw_334 (fun H locs hPM hPX hS => ?_)
  refine lv_icmp_eq (tgt := 1285) hx hb dlw_337 (by decide) (fun _ => ?_) (fun hne => absurd rfl hne)
  exact hnext S ax X' K' _ _ _ _ _ (by omega) (by omega) hrel' ⟨hSX, hPX, hPM, hiX, hiM, hgX, hgM, hap⟩ hS hl
set_option maxHeartbeats 4000000 in
theorem lwc_of {Rel : ph_Sh → ph_Mem → ph_Mem → Prop} (hst : lws_of Rel) {p : Program} {l : Launch} {e : Env} {s : State} {m : MethodId} {below : List Frame} {meth : Method} {c : Code} {b L : Nat} {xs : Nat → Int32} (hL : L ≤ 3072) (C0 : lw_At p s m meth c b L xs) {D : va_G} {cA tb adK adV : Nat → Nat} (hK : va_K D ph_cl (ph_tys cA) s) (hZ : ph_ZX tb adK adV (fun q => s.heap.size ≤ q) s) {i kc ks : Nat} (hi : 6 * i + 6 ≤ L) (hkc : kc + 3 ≤ 600000) (hks : ks + 475 ≤ 7302250) {am : Nat → Nat} {Q : State → Prop} (hnext : ∀ (S : ph_Sh) (ax : Nat → Nat) (X K : ph_Mem) (kc' ks' : Nat) (H : Heap) (locs : List Loc) (ls : Array Slot), kc' ≤ kc + 3 → ks' ≤ ks + 475 → Rel S X K → lw_Wd D cA s S ax X am K H → va_S (fun q => s.heap.size ≤ q) s.heap H locs → lv_has ls 4 [(0, .ref b), (1, .ref (ax 0)), (2, .ref (am 0)), (3, .int (nI (6 * i)))] → W p l e room_1 s m #[Value.ref b] below meth c H locs kc' ks' Q (F0 m 1285 ls [])) {S : ph_Sh} {ax : Nat → Nat} {X K : ph_Mem} {H : Heap} {locs : List Loc} {ls : Array Slot} (hrel : Rel S X K) (hw : lw_Wd D cA s S ax X am K H) (hS : va_S (fun q => s.heap.size ≤ q) s.heap H locs) (hl : lv_has ls 4 [(0, .ref b), (1, .ref (ax 0)), (2, .ref (am 0)), (3, .int (nI (6 * i)))]) : W p l e room_1 s m #[Value.ref b] below meth c H locs kc ks Q (F0 m 342 ls []) := by
  obtain ⟨hx, hb, hr, hml, hown, hts0, hX, hbl, hlk, hgv⟩ := id C0
  obtain ⟨hSX, hPX, hPM, hiX, hiM, hgX, hgM, hap⟩ := hw
  obtain ⟨r, K', hfx, hfm, hrel'⟩ := hst S X K hrel (xs (6 * i + 1)) (xs (6 * i + 2))
  refine lv_aload_n hx hb dlw_342 rfl (lv_at hl 1 rfl) ?_
  refine lv_aload_n hx hb dlw_343 rfl (lv_at hl 0 rfl) ?_
  refine lv_iload_n hx hb dlw_344 rfl (lv_at hl 3 rfl) ?_
  refine lv_iconst (v := 1) hx hb dlw_345 (by decide) ?_
  refine lv_iadd hx hb dlw_346 ?_
  refine lw_sld (k := 6 * i + 1) C0 hS (nI_add (6 * i) 1) (by omega) hL dlw_347 ?_
  refine lv_aload_n hx hb dlw_348 rfl (lv_at hl 0 rfl) ?_
  refine lv_iload_n hx hb dlw_349 rfl (lv_at hl 3 rfl) ?_
  refine lv_iconst (v := 2) hx hb dlw_350 (by decide) ?_
  refine lv_iadd hx hb dlw_351 ?_
  refine lw_sld (k := 6 * i + 2) C0 hS (nI_add (6 * i) 2) (by omega) hL dlw_352 ?_
  refine lw_call (As := [.int (xs (6 * i + 1)), .int (xs (6 * i + 2))]) (rest := []) (n := 2) (v := some (.int r)) C0 hK hZ hPX hPM hgX hap hS hl.1 tw_538 tw_539 tw_540 tw_1 tw_541 ydf11_of (by decide) (by decide) (by have := hSX.1; omega) (ph_kc0 hSX) rfl (cf11_of hiX hSX hfx) rfl (by decide) (by omega) (by omega) dlw_353 (fun H locs hPX hPM hS => ?_)
  refine lv_aload_n hx hb dlw_356 rfl (lv_at hl 2 rfl) ?_
  refine lv_aload_n hx hb dlw_357 rfl (lv_at hl 0 rfl) ?_
  refine lv_iload_n hx hb dlw_358 rfl (lv_at hl 3 rfl) ?_
  refine lv_iconst (v := 1) hx hb dlw_359 (by decide) ?_
  refine lv_iadd hx hb dlw_360 ?_
  refine lw_sld (k := 6 * i + 1) C0 hS (nI_add (6 * i) 1) (by omega) hL dlw_361 ?_
  refine lv_aload_n hx hb dlw_362 rfl (lv_at hl 0 rfl) ?_
  refine lv_iload_n hx hb dlw_363 rfl (lv_at hl 3 rfl) ?_
  refine lv_iconst (v := 2) hx hb dlw_364 (by decide) ?_
  refine lv_iadd hx hb dlw_365 ?_
  refine lw_sld (k := 6 * i + 2) C0 hS (nI_add (6 * i) 2) (by omega) hL dlw_366 ?_
  refine lw_call (As := [.int (xs (6 * i + 1)), .int (xs (6 * i + 2))]) (rest := [.int r]) (n := 2) (v := some (.int r)) C0 hK hZ hPM hPX hgM (fun i j hi hj he => hap j i hj hi he.symm) hS hl.1 tw_1512 tw_1513 tw_1514 tw_14 tw_1515 ydf12_of (by decide) (by decide) (by decide) rfl rfl (cf12_of ph_ZX_ok hiM hfm) rfl (Nat.le_of_ble_eq_true rfl) (by omega) (by omega) dlw_367 (fun H locs hPM hPX hS => ?_)
  refine lv_icmp_eq (tgt := 1285) hx hb dlw_370 (by decide) (fun _ => ?_) (fun hne => absurd rfl hne)
  exact hnext S ax X K' _ _ _ _ _ (by omega) (by omega) hrel' ⟨hSX, hPX, hPM, hiX, hiM, hgX, hgM, hap⟩ hS hl
set_option maxHeartbeats 4000000 in
theorem lwc_needs {Rel : ph_Sh → ph_Mem → ph_Mem → Prop} (hst : lws_needs Rel) {p : Program} {l : Launch} {e : Env} {s : State} {m : MethodId} {below : List Frame} {meth : Method} {c : Code} {b L : Nat} {xs : Nat → Int32} (hL : L ≤ 3072) (C0 : lw_At p s m meth c b L xs) {D : va_G} {cA tb adK adV : Nat → Nat} (hK : va_K D ph_cl (ph_tys cA) s) (hZ : ph_ZX tb adK adV (fun q => s.heap.size ≤ q) s) {i kc ks : Nat} (hi : 6 * i + 6 ≤ L) (hkc : kc + 3 ≤ 600000) (hks : ks + 475 ≤ 7302250) {am : Nat → Nat} {Q : State → Prop} (hnext : ∀ (S : ph_Sh) (ax : Nat → Nat) (X K : ph_Mem) (kc' ks' : Nat) (H : Heap) (locs : List Loc) (ls : Array Slot), kc' ≤ kc + 3 → ks' ≤ ks + 475 → Rel S X K → lw_Wd D cA s S ax X am K H → va_S (fun q => s.heap.size ≤ q) s.heap H locs → lv_has ls 4 [(0, .ref b), (1, .ref (ax 0)), (2, .ref (am 0)), (3, .int (nI (6 * i)))] → W p l e room_1 s m #[Value.ref b] below meth c H locs kc' ks' Q (F0 m 1285 ls [])) {S : ph_Sh} {ax : Nat → Nat} {X K : ph_Mem} {H : Heap} {locs : List Loc} {ls : Array Slot} (hrel : Rel S X K) (hw : lw_Wd D cA s S ax X am K H) (hS : va_S (fun q => s.heap.size ≤ q) s.heap H locs) (hl : lv_has ls 4 [(0, .ref b), (1, .ref (ax 0)), (2, .ref (am 0)), (3, .int (nI (6 * i)))]) : W p l e room_1 s m #[Value.ref b] below meth c H locs kc ks Q (F0 m 375 ls []) := by
  obtain ⟨hx, hb, hr, hml, hown, hts0, hX, hbl, hlk, hgv⟩ := id C0
  obtain ⟨hSX, hPX, hPM, hiX, hiM, hgX, hgM, hap⟩ := hw
  obtain ⟨r, X', K', hfx, hfm, hrel'⟩ := hst S X K hrel (xs (6 * i + 1)) (xs (6 * i + 2))
  refine lv_aload_n hx hb dlw_375 rfl (lv_at hl 1 rfl) ?_
  refine lv_aload_n hx hb dlw_376 rfl (lv_at hl 0 rfl) ?_
  refine lv_iload_n hx hb dlw_377 rfl (lv_at hl 3 rfl) ?_
  refine lv_iconst (v := 1) hx hb dlw_378 (by decide) ?_
  refine lv_iadd hx hb dlw_379 ?_
  refine lw_sld (k := 6 * i + 1) C0 hS (nI_add (6 * i) 1) (by omega) hL dlw_380 ?_
  refine lv_aload_n hx hb dlw_381 rfl (lv_at hl 0 rfl) ?_
  refine lv_iload_n hx hb dlw_382 rfl (lv_at hl 3 rfl) ?_
  refine lv_iconst (v := 2) hx hb dlw_383 (by decide) ?_
  refine lv_iadd hx hb dlw_384 ?_
  refine lw_sld (k := 6 * i + 2) C0 hS (nI_add (6 * i) 2) (by omega) hL dlw_385 ?_
  refine lw_call (As := [.int (xs (6 * i + 1)), .int (xs (6 * i + 2))]) (rest := []) (n := 2) (v := some (.int r)) C0 hK hZ hPX hPM hgX hap hS hl.1 tw_559 tw_560 tw_561 tw_1 tw_562 ydf11_needs (by decide) (by decide) (by have := hSX.1; omega) (ph_kc0 hSX) rfl (cf11_needs hiX hSX hfx) rfl (by decide) (by omega) (by omega) dlw_386 (fun H locs hPX hPM hS => ?_)
  refine lv_aload_n hx hb dlw_389 rfl (lv_at hl 2 rfl) ?_
  refine lv_aload_n hx hb dlw_390 rfl (lv_at hl 0 rfl) ?_
  refine lv_iload_n hx hb dlw_391 rfl (lv_at hl 3 rfl) ?_
  refine lv_iconst (v := 1) hx hb dlw_392 (by decide) ?_
  refine lv_iadd hx hb dlw_393 ?_
  refine lw_sld (k := 6 * i + 1) C0 hS (nI_add (6 * i) 1) (by omega) hL dlw_394 ?_
  refine lv_aload_n hx hb dlw_395 rfl (lv_at hl 0 rfl) ?_
  refine lv_iload_n hx hb dlw_396 rfl (lv_at hl 3 rfl) ?_
  refine lv_iconst (v := 2) hx hb dlw_397 (by decide) ?_
  refine lv_iadd hx hb dlw_398 ?_
  refine lw_sld (k := 6 * i + 2) C0 hS (nI_add (6 * i) 2) (by omega) hL dlw_399 ?_
  refine lw_call (As := [.int (xs (6 * i + 1)), .int (xs (6 * i + 2))]) (rest := [.int r]) (n := 2) (v := some (.int r)) C0 hK hZ hPM hPX hgM (fun i j hi hj he => hap j i hj hi he.symm) hS hl.1 tw_1516 tw_1517 tw_1518 tw_14 tw_1519 ydf12_needs (by decide) (by decide) (by decide) rfl rfl (cf12_needs ph_ZX_ok hiM hfm) rfl (Nat.le_of_ble_eq_true rfl) (by omega) (by omega) dlw_400 (fun H locs hPM hPX hS => ?_)
  refine lv_icmp_eq (tgt := 1285) hx hb dlw_403 (by decide) (fun _ => ?_) (fun hne => absurd rfl hne)
  exact hnext S ax X' K' _ _ _ _ _ (by omega) (by omega) hrel' ⟨hSX, hPX, hPM, hiX, hiM, hgX, hgM, hap⟩ hS hl
set_option maxHeartbeats 4000000 in
theorem lwc_terms {Rel : ph_Sh → ph_Mem → ph_Mem → Prop} (hst : lws_terms Rel) {p : Program} {l : Launch} {e : Env} {s : State} {m : MethodId} {below : List Frame} {meth : Method} {c : Code} {b L : Nat} {xs : Nat → Int32} (hL : L ≤ 3072) (C0 : lw_At p s m meth c b L xs) {D : va_G} {cA tb adK adV : Nat → Nat} (hK : va_K D ph_cl (ph_tys cA) s) (hZ : ph_ZX tb adK adV (fun q => s.heap.size ≤ q) s) {i kc ks : Nat} (hi : 6 * i + 6 ≤ L) (hkc : kc + 3 ≤ 600000) (hks : ks + 475 ≤ 7302250) {am : Nat → Nat} {Q : State → Prop} (hnext : ∀ (S : ph_Sh) (ax : Nat → Nat) (X K : ph_Mem) (kc' ks' : Nat) (H : Heap) (locs : List Loc) (ls : Array Slot), kc' ≤ kc + 3 → ks' ≤ ks + 475 → Rel S X K → lw_Wd D cA s S ax X am K H → va_S (fun q => s.heap.size ≤ q) s.heap H locs → lv_has ls 4 [(0, .ref b), (1, .ref (ax 0)), (2, .ref (am 0)), (3, .int (nI (6 * i)))] → W p l e room_1 s m #[Value.ref b] below meth c H locs kc' ks' Q (F0 m 1285 ls [])) {S : ph_Sh} {ax : Nat → Nat} {X K : ph_Mem} {H : Heap} {locs : List Loc} {ls : Array Slot} (hrel : Rel S X K) (hw : lw_Wd D cA s S ax X am K H) (hS : va_S (fun q => s.heap.size ≤ q) s.heap H locs) (hl : lv_has ls 4 [(0, .ref b), (1, .ref (ax 0)), (2, .ref (am 0)), (3, .int (nI (6 * i)))]) : W p l e room_1 s m #[Value.ref b] below meth c H locs kc ks Q (F0 m 408 ls []) := by
  obtain ⟨hx, hb, hr, hml, hown, hts0, hX, hbl, hlk, hgv⟩ := id C0
  obtain ⟨hSX, hPX, hPM, hiX, hiM, hgX, hgM, hap⟩ := hw
  obtain ⟨r, X', K', hfx, hfm, hrel'⟩ := hst S X K hrel (xs (6 * i + 1)) (xs (6 * i + 2))
  refine lv_aload_n hx hb dlw_408 rfl (lv_at hl 1 rfl) ?_
  refine lv_aload_n hx hb dlw_409 rfl (lv_at hl 0 rfl) ?_
  refine lv_iload_n hx hb dlw_410 rfl (lv_at hl 3 rfl) ?_
  refine lv_iconst (v := 1) hx hb dlw_411 (by decide) ?_
  refine lv_iadd hx hb dlw_412 ?_
  refine lw_sld (k := 6 * i + 1) C0 hS (nI_add (6 * i) 1) (by omega) hL dlw_413 ?_
  refine lv_aload_n hx hb dlw_414 rfl (lv_at hl 0 rfl) ?_
  refine lv_iload_n hx hb dlw_415 rfl (lv_at hl 3 rfl) ?_
  refine lv_iconst (v := 2) hx hb dlw_416 (by decide) ?_
  refine lv_iadd hx hb dlw_417 ?_
  refine lw_sld (k := 6 * i + 2) C0 hS (nI_add (6 * i) 2) (by omega) hL dlw_418 ?_
  refine lw_call (As := [.int (xs (6 * i + 1)), .int (xs (6 * i + 2))]) (rest := []) (n := 2) (v := some (.int r)) C0 hK hZ hPX hPM hgX hap hS hl.1 tw_564 tw_565 tw_566 tw_1 tw_567 ydf11_terms (by decide) (by decide) (by have := hSX.1; omega) (ph_kc0 hSX) rfl (cf11_terms hiX hSX hfx) rfl (by decide) (by omega) (by omega) dlw_419 (fun H locs hPX hPM hS => ?_)
  refine lv_aload_n hx hb dlw_422 rfl (lv_at hl 2 rfl) ?_
  refine lv_aload_n hx hb dlw_423 rfl (lv_at hl 0 rfl) ?_
  refine lv_iload_n hx hb dlw_424 rfl (lv_at hl 3 rfl) ?_
  refine lv_iconst (v := 1) hx hb dlw_425 (by decide) ?_
  refine lv_iadd hx hb dlw_426 ?_
  refine lw_sld (k := 6 * i + 1) C0 hS (nI_add (6 * i) 1) (by omega) hL dlw_427 ?_
  refine lv_aload_n hx hb dlw_428 rfl (lv_at hl 0 rfl) ?_
  refine lv_iload_n hx hb dlw_429 rfl (lv_at hl 3 rfl) ?_
  refine lv_iconst (v := 2) hx hb dlw_430 (by decide) ?_
  refine lv_iadd hx hb dlw_431 ?_
  refine lw_sld (k := 6 * i + 2) C0 hS (nI_add (6 * i) 2) (by omega) hL dlw_432 ?_
  refine lw_call (As := [.int (xs (6 * i + 1)), .int (xs (6 * i + 2))]) (rest := [.int r]) (n := 2) (v := some (.int r)) C0 hK hZ hPM hPX hgM (fun i j hi hj he => hap j i hj hi he.symm) hS hl.1 tw_1523 tw_1524 tw_1525 tw_14 tw_1526 ydf12_terms (by decide) (by decide) (by decide) rfl rfl (cf12_terms ph_ZX_ok hiM hfm) rfl (Nat.le_of_ble_eq_true rfl) (by omega) (by omega) dlw_433 (fun H locs hPM hPX hS => ?_)
  refine lv_icmp_eq (tgt := 1285) hx hb dlw_436 (by decide) (fun _ => ?_) (fun hne => absurd rfl hne)
  exact hnext S ax X' K' _ _ _ _ _ (by omega) (by omega) hrel' ⟨hSX, hPX, hPM, hiX, hiM, hgX, hgM, hap⟩ hS hl
set_option maxHeartbeats 4000000 in
theorem lwc_feed {Rel : ph_Sh → ph_Mem → ph_Mem → Prop} (hst : lws_feed Rel) {p : Program} {l : Launch} {e : Env} {s : State} {m : MethodId} {below : List Frame} {meth : Method} {c : Code} {b L : Nat} {xs : Nat → Int32} (hL : L ≤ 3072) (C0 : lw_At p s m meth c b L xs) {D : va_G} {cA tb adK adV : Nat → Nat} (hK : va_K D ph_cl (ph_tys cA) s) (hZ : ph_ZX tb adK adV (fun q => s.heap.size ≤ q) s) {i kc ks : Nat} (hi : 6 * i + 6 ≤ L) (hkc : kc + 3 ≤ 600000) (hks : ks + 475 ≤ 7302250) {am : Nat → Nat} {Q : State → Prop} (hnext : ∀ (S : ph_Sh) (ax : Nat → Nat) (X K : ph_Mem) (kc' ks' : Nat) (H : Heap) (locs : List Loc) (ls : Array Slot), kc' ≤ kc + 3 → ks' ≤ ks + 475 → Rel S X K → lw_Wd D cA s S ax X am K H → va_S (fun q => s.heap.size ≤ q) s.heap H locs → lv_has ls 4 [(0, .ref b), (1, .ref (ax 0)), (2, .ref (am 0)), (3, .int (nI (6 * i)))] → W p l e room_1 s m #[Value.ref b] below meth c H locs kc' ks' Q (F0 m 1285 ls [])) {S : ph_Sh} {ax : Nat → Nat} {X K : ph_Mem} {H : Heap} {locs : List Loc} {ls : Array Slot} (hrel : Rel S X K) (hw : lw_Wd D cA s S ax X am K H) (hS : va_S (fun q => s.heap.size ≤ q) s.heap H locs) (hl : lv_has ls 4 [(0, .ref b), (1, .ref (ax 0)), (2, .ref (am 0)), (3, .int (nI (6 * i)))]) : W p l e room_1 s m #[Value.ref b] below meth c H locs kc ks Q (F0 m 441 ls []) := by
  obtain ⟨hx, hb, hr, hml, hown, hts0, hX, hbl, hlk, hgv⟩ := id C0
  obtain ⟨hSX, hPX, hPM, hiX, hiM, hgX, hgM, hap⟩ := hw
  obtain ⟨r, X', K', hfx, hfm, hrel'⟩ := hst S X K hrel (xs (6 * i + 1)) (xs (6 * i + 2)) (xs (6 * i + 3)) (xs (6 * i + 4)) (xs (6 * i + 5))
  refine lv_aload_n hx hb dlw_441 rfl (lv_at hl 1 rfl) ?_
  refine lv_aload_n hx hb dlw_442 rfl (lv_at hl 0 rfl) ?_
  refine lv_iload_n hx hb dlw_443 rfl (lv_at hl 3 rfl) ?_
  refine lv_iconst (v := 1) hx hb dlw_444 (by decide) ?_
  refine lv_iadd hx hb dlw_445 ?_
  refine lw_sld (k := 6 * i + 1) C0 hS (nI_add (6 * i) 1) (by omega) hL dlw_446 ?_
  refine lv_aload_n hx hb dlw_447 rfl (lv_at hl 0 rfl) ?_
  refine lv_iload_n hx hb dlw_448 rfl (lv_at hl 3 rfl) ?_
  refine lv_iconst (v := 2) hx hb dlw_449 (by decide) ?_
  refine lv_iadd hx hb dlw_450 ?_
  refine lw_sld (k := 6 * i + 2) C0 hS (nI_add (6 * i) 2) (by omega) hL dlw_451 ?_
  refine lv_aload_n hx hb dlw_452 rfl (lv_at hl 0 rfl) ?_
  refine lv_iload_n hx hb dlw_453 rfl (lv_at hl 3 rfl) ?_
  refine lv_iconst (v := 3) hx hb dlw_454 (by decide) ?_
  refine lv_iadd hx hb dlw_455 ?_
  refine lw_sld (k := 6 * i + 3) C0 hS (nI_add (6 * i) 3) (by omega) hL dlw_456 ?_
  refine lv_aload_n hx hb dlw_457 rfl (lv_at hl 0 rfl) ?_
  refine lv_iload_n hx hb dlw_458 rfl (lv_at hl 3 rfl) ?_
  refine lv_iconst (v := 4) hx hb dlw_459 (by decide) ?_
  refine lv_iadd hx hb dlw_460 ?_
  refine lw_sld (k := 6 * i + 4) C0 hS (nI_add (6 * i) 4) (by omega) hL dlw_461 ?_
  refine lv_aload_n hx hb dlw_462 rfl (lv_at hl 0 rfl) ?_
  refine lv_iload_n hx hb dlw_463 rfl (lv_at hl 3 rfl) ?_
  refine lv_iconst (v := 5) hx hb dlw_464 (by decide) ?_
  refine lv_iadd hx hb dlw_465 ?_
  refine lw_sld (k := 6 * i + 5) C0 hS (nI_add (6 * i) 5) (by omega) hL dlw_466 ?_
  refine lw_call (As := [.int (xs (6 * i + 1)), .int (xs (6 * i + 2)), .int (xs (6 * i + 3)), .int (xs (6 * i + 4)), .int (xs (6 * i + 5))]) (rest := []) (n := 5) (v := some (.int r)) C0 hK hZ hPX hPM hgX hap hS hl.1 tw_577 tw_578 tw_579 tw_1 tw_580 ydf11_feed (by decide) (by decide) (by have := hSX.1; omega) (ph_kc0 hSX) rfl (cf11_feed hiX hSX hfx) rfl (by decide) (by omega) (by omega) dlw_467 (fun H locs hPX hPM hS => ?_)
  refine lv_aload_n hx hb dlw_470 rfl (lv_at hl 2 rfl) ?_
  refine lv_aload_n hx hb dlw_471 rfl (lv_at hl 0 rfl) ?_
  refine lv_iload_n hx hb dlw_472 rfl (lv_at hl 3 rfl) ?_
  refine lv_iconst (v := 1) hx hb dlw_473 (by decide) ?_
  refine lv_iadd hx hb dlw_474 ?_
  refine lw_sld (k := 6 * i + 1) C0 hS (nI_add (6 * i) 1) (by omega) hL dlw_475 ?_
  refine lv_aload_n hx hb dlw_476 rfl (lv_at hl 0 rfl) ?_
  refine lv_iload_n hx hb dlw_477 rfl (lv_at hl 3 rfl) ?_
  refine lv_iconst (v := 2) hx hb dlw_478 (by decide) ?_
  refine lv_iadd hx hb dlw_479 ?_
  refine lw_sld (k := 6 * i + 2) C0 hS (nI_add (6 * i) 2) (by omega) hL dlw_480 ?_
  refine lv_aload_n hx hb dlw_481 rfl (lv_at hl 0 rfl) ?_
  refine lv_iload_n hx hb dlw_482 rfl (lv_at hl 3 rfl) ?_
  refine lv_iconst (v := 3) hx hb dlw_483 (by decide) ?_
  refine lv_iadd hx hb dlw_484 ?_
  refine lw_sld (k := 6 * i + 3) C0 hS (nI_add (6 * i) 3) (by omega) hL dlw_485 ?_
  refine lv_aload_n hx hb dlw_486 rfl (lv_at hl 0 rfl) ?_
  refine lv_iload_n hx hb dlw_487 rfl (lv_at hl 3 rfl) ?_
  refine lv_iconst (v := 4) hx hb dlw_488 (by decide) ?_
  refine lv_iadd hx hb dlw_489 ?_
  refine lw_sld (k := 6 * i + 4) C0 hS (nI_add (6 * i) 4) (by omega) hL dlw_490 ?_
  refine lv_aload_n hx hb dlw_491 rfl (lv_at hl 0 rfl) ?_
  refine lv_iload_n hx hb dlw_492 rfl (lv_at hl 3 rfl) ?_
  refine lv_iconst (v := 5) hx hb dlw_493 (by decide) ?_
  refine lv_iadd hx hb dlw_494 ?_
  refine lw_sld (k := 6 * i + 5) C0 hS (nI_add (6 * i) 5) (by omega) hL dlw_495 ?_
  refine lw_call (As := [.int (xs (6 * i + 1)), .int (xs (6 * i + 2)), .int (xs (6 * i + 3)), .int (xs (6 * i + 4)), .int (xs (6 * i + 5))]) (rest := [.int r]) (n := 5) (v := some (.int r)) C0 hK hZ hPM hPX hgM (fun i j hi hj he => hap j i hj hi he.symm) hS hl.1 tw_1538 tw_1539 tw_1540 tw_14 tw_1541 ydf12_feed (by decide) (by decide) (by decide) rfl rfl (cf12_feed ph_ZX_ok hiM hfm) rfl (Nat.le_of_ble_eq_true rfl) (by omega) (by omega) dlw_496 (fun H locs hPM hPX hS => ?_)
  refine lv_icmp_eq (tgt := 1285) hx hb dlw_499 (by decide) (fun _ => ?_) (fun hne => absurd rfl hne)
  exact hnext S ax X' K' _ _ _ _ _ (by omega) (by omega) hrel' ⟨hSX, hPX, hPM, hiX, hiM, hgX, hgM, hap⟩ hS hl
set_option maxHeartbeats 4000000 in
theorem lwc_end {Rel : ph_Sh → ph_Mem → ph_Mem → Prop} (hst : lws_end Rel) {p : Program} {l : Launch} {e : Env} {s : State} {m : MethodId} {below : List Frame} {meth : Method} {c : Code} {b L : Nat} {xs : Nat → Int32} (hL : L ≤ 3072) (C0 : lw_At p s m meth c b L xs) {D : va_G} {cA tb adK adV : Nat → Nat} (hK : va_K D ph_cl (ph_tys cA) s) (hZ : ph_ZX tb adK adV (fun q => s.heap.size ≤ q) s) {i kc ks : Nat} (hi : 6 * i + 6 ≤ L) (hkc : kc + 3 ≤ 600000) (hks : ks + 475 ≤ 7302250) {am : Nat → Nat} {Q : State → Prop} (hnext : ∀ (S : ph_Sh) (ax : Nat → Nat) (X K : ph_Mem) (kc' ks' : Nat) (H : Heap) (locs : List Loc) (ls : Array Slot), kc' ≤ kc + 3 → ks' ≤ ks + 475 → Rel S X K → lw_Wd D cA s S ax X am K H → va_S (fun q => s.heap.size ≤ q) s.heap H locs → lv_has ls 4 [(0, .ref b), (1, .ref (ax 0)), (2, .ref (am 0)), (3, .int (nI (6 * i)))] → W p l e room_1 s m #[Value.ref b] below meth c H locs kc' ks' Q (F0 m 1285 ls [])) {S : ph_Sh} {ax : Nat → Nat} {X K : ph_Mem} {H : Heap} {locs : List Loc} {ls : Array Slot} (hrel : Rel S X K) (hw : lw_Wd D cA s S ax X am K H) (hS : va_S (fun q => s.heap.size ≤ q) s.heap H locs) (hl : lv_has ls 4 [(0, .ref b), (1, .ref (ax 0)), (2, .ref (am 0)), (3, .int (nI (6 * i)))]) : W p l e room_1 s m #[Value.ref b] below meth c H locs kc ks Q (F0 m 504 ls []) := by
  obtain ⟨hx, hb, hr, hml, hown, hts0, hX, hbl, hlk, hgv⟩ := id C0
  obtain ⟨hSX, hPX, hPM, hiX, hiM, hgX, hgM, hap⟩ := hw
  obtain ⟨r, X', K', hfx, hfm, hrel'⟩ := hst S X K hrel (xs (6 * i + 1))
  refine lv_aload_n hx hb dlw_504 rfl (lv_at hl 1 rfl) ?_
  refine lv_aload_n hx hb dlw_505 rfl (lv_at hl 0 rfl) ?_
  refine lv_iload_n hx hb dlw_506 rfl (lv_at hl 3 rfl) ?_
  refine lv_iconst (v := 1) hx hb dlw_507 (by decide) ?_
  refine lv_iadd hx hb dlw_508 ?_
  refine lw_sld (k := 6 * i + 1) C0 hS (nI_add (6 * i) 1) (by omega) hL dlw_509 ?_
  refine lw_call (As := [.int (xs (6 * i + 1))]) (rest := []) (n := 1) (v := some (.int r)) C0 hK hZ hPX hPM hgX hap hS hl.1 tw_585 tw_586 tw_587 tw_1 tw_588 ydf11_end (by decide) (by decide) (by have := hSX.1; omega) (ph_kc0 hSX) rfl (cf11_end hiX hSX hfx) rfl (by decide) (by omega) (by omega) dlw_510 (fun H locs hPX hPM hS => ?_)
  refine lv_aload_n hx hb dlw_513 rfl (lv_at hl 2 rfl) ?_
  refine lv_aload_n hx hb dlw_514 rfl (lv_at hl 0 rfl) ?_
  refine lv_iload_n hx hb dlw_515 rfl (lv_at hl 3 rfl) ?_
  refine lv_iconst (v := 1) hx hb dlw_516 (by decide) ?_
  refine lv_iadd hx hb dlw_517 ?_
  refine lw_sld (k := 6 * i + 1) C0 hS (nI_add (6 * i) 1) (by omega) hL dlw_518 ?_
  refine lw_call (As := [.int (xs (6 * i + 1))]) (rest := [.int r]) (n := 1) (v := some (.int r)) C0 hK hZ hPM hPX hgM (fun i j hi hj he => hap j i hj hi he.symm) hS hl.1 tw_1542 tw_1543 tw_1544 tw_14 tw_1545 ydf12_end (by decide) (by decide) (by decide) rfl rfl (cf12_end ph_ZX_ok hiM hfm) rfl (Nat.le_of_ble_eq_true rfl) (by omega) (by omega) dlw_519 (fun H locs hPM hPX hS => ?_)
  refine lv_icmp_eq (tgt := 1285) hx hb dlw_522 (by decide) (fun _ => ?_) (fun hne => absurd rfl hne)
  exact hnext S ax X' K' _ _ _ _ _ (by omega) (by omega) hrel' ⟨hSX, hPX, hPM, hiX, hiM, hgX, hgM, hap⟩ hS hl
set_option maxHeartbeats 4000000 in
theorem lwc_row {Rel : ph_Sh → ph_Mem → ph_Mem → Prop} (hst : lws_row Rel) {p : Program} {l : Launch} {e : Env} {s : State} {m : MethodId} {below : List Frame} {meth : Method} {c : Code} {b L : Nat} {xs : Nat → Int32} (hL : L ≤ 3072) (C0 : lw_At p s m meth c b L xs) {D : va_G} {cA tb adK adV : Nat → Nat} (hK : va_K D ph_cl (ph_tys cA) s) (hZ : ph_ZX tb adK adV (fun q => s.heap.size ≤ q) s) {i kc ks : Nat} (hi : 6 * i + 6 ≤ L) (hkc : kc + 3 ≤ 600000) (hks : ks + 475 ≤ 7302250) {am : Nat → Nat} {Q : State → Prop} (hnext : ∀ (S : ph_Sh) (ax : Nat → Nat) (X K : ph_Mem) (kc' ks' : Nat) (H : Heap) (locs : List Loc) (ls : Array Slot), kc' ≤ kc + 3 → ks' ≤ ks + 475 → Rel S X K → lw_Wd D cA s S ax X am K H → va_S (fun q => s.heap.size ≤ q) s.heap H locs → lv_has ls 4 [(0, .ref b), (1, .ref (ax 0)), (2, .ref (am 0)), (3, .int (nI (6 * i)))] → W p l e room_1 s m #[Value.ref b] below meth c H locs kc' ks' Q (F0 m 1285 ls [])) {S : ph_Sh} {ax : Nat → Nat} {X K : ph_Mem} {H : Heap} {locs : List Loc} {ls : Array Slot} (hrel : Rel S X K) (hw : lw_Wd D cA s S ax X am K H) (hS : va_S (fun q => s.heap.size ≤ q) s.heap H locs) (hl : lv_has ls 4 [(0, .ref b), (1, .ref (ax 0)), (2, .ref (am 0)), (3, .int (nI (6 * i)))]) : W p l e room_1 s m #[Value.ref b] below meth c H locs kc ks Q (F0 m 527 ls []) := by
  obtain ⟨hx, hb, hr, hml, hown, hts0, hX, hbl, hlk, hgv⟩ := id C0
  obtain ⟨hSX, hPX, hPM, hiX, hiM, hgX, hgM, hap⟩ := hw
  obtain ⟨r, X', K', hfx, hfm, hrel'⟩ := hst S X K hrel (xs (6 * i + 1))
  refine lv_aload_n hx hb dlw_527 rfl (lv_at hl 1 rfl) ?_
  refine lv_aload_n hx hb dlw_528 rfl (lv_at hl 0 rfl) ?_
  refine lv_iload_n hx hb dlw_529 rfl (lv_at hl 3 rfl) ?_
  refine lv_iconst (v := 1) hx hb dlw_530 (by decide) ?_
  refine lv_iadd hx hb dlw_531 ?_
  refine lw_sld (k := 6 * i + 1) C0 hS (nI_add (6 * i) 1) (by omega) hL dlw_532 ?_
  refine lw_call (As := [.int (xs (6 * i + 1))]) (rest := []) (n := 1) (v := some (.int r)) C0 hK hZ hPX hPM hgX hap hS hl.1 tw_589 tw_590 tw_591 tw_1 tw_592 ydf11_row (by decide) (by decide) (by have := hSX.1; omega) (ph_kc0 hSX) rfl (cf11_row hiX hSX hfx) rfl (by decide) (by omega) (by omega) dlw_533 (fun H locs hPX hPM hS => ?_)
  refine lv_aload_n hx hb dlw_536 rfl (lv_at hl 2 rfl) ?_
  refine lv_aload_n hx hb dlw_537 rfl (lv_at hl 0 rfl) ?_
  refine lv_iload_n hx hb dlw_538 rfl (lv_at hl 3 rfl) ?_
  refine lv_iconst (v := 1) hx hb dlw_539 (by decide) ?_
  refine lv_iadd hx hb dlw_540 ?_
  refine lw_sld (k := 6 * i + 1) C0 hS (nI_add (6 * i) 1) (by omega) hL dlw_541 ?_
  refine lw_call (As := [.int (xs (6 * i + 1))]) (rest := [.int r]) (n := 1) (v := some (.int r)) C0 hK hZ hPM hPX hgM (fun i j hi hj he => hap j i hj hi he.symm) hS hl.1 tw_1530 tw_1531 tw_1532 tw_14 tw_1533 ydf12_row (by decide) (by decide) (by decide) rfl rfl (cf12_row ph_ZX_ok hiM hfm) rfl (Nat.le_of_ble_eq_true rfl) (by omega) (by omega) dlw_542 (fun H locs hPM hPX hS => ?_)
  refine lv_icmp_eq (tgt := 1285) hx hb dlw_545 (by decide) (fun _ => ?_) (fun hne => absurd rfl hne)
  exact hnext S ax X' K' _ _ _ _ _ (by omega) (by omega) hrel' ⟨hSX, hPX, hPM, hiX, hiM, hgX, hgM, hap⟩ hS hl
set_option maxHeartbeats 4000000 in
theorem lwc_rain {Rel : ph_Sh → ph_Mem → ph_Mem → Prop} (hst : lws_rain Rel) {p : Program} {l : Launch} {e : Env} {s : State} {m : MethodId} {below : List Frame} {meth : Method} {c : Code} {b L : Nat} {xs : Nat → Int32} (hL : L ≤ 3072) (C0 : lw_At p s m meth c b L xs) {D : va_G} {cA tb adK adV : Nat → Nat} (hK : va_K D ph_cl (ph_tys cA) s) (hZ : ph_ZX tb adK adV (fun q => s.heap.size ≤ q) s) {i kc ks : Nat} (hi : 6 * i + 6 ≤ L) (hkc : kc + 3 ≤ 600000) (hks : ks + 475 ≤ 7302250) {am : Nat → Nat} {Q : State → Prop} (hnext : ∀ (S : ph_Sh) (ax : Nat → Nat) (X K : ph_Mem) (kc' ks' : Nat) (H : Heap) (locs : List Loc) (ls : Array Slot), kc' ≤ kc + 3 → ks' ≤ ks + 475 → Rel S X K → lw_Wd D cA s S ax X am K H → va_S (fun q => s.heap.size ≤ q) s.heap H locs → lv_has ls 4 [(0, .ref b), (1, .ref (ax 0)), (2, .ref (am 0)), (3, .int (nI (6 * i)))] → W p l e room_1 s m #[Value.ref b] below meth c H locs kc' ks' Q (F0 m 1285 ls [])) {S : ph_Sh} {ax : Nat → Nat} {X K : ph_Mem} {H : Heap} {locs : List Loc} {ls : Array Slot} (hrel : Rel S X K) (hw : lw_Wd D cA s S ax X am K H) (hS : va_S (fun q => s.heap.size ≤ q) s.heap H locs) (hl : lv_has ls 4 [(0, .ref b), (1, .ref (ax 0)), (2, .ref (am 0)), (3, .int (nI (6 * i)))]) : W p l e room_1 s m #[Value.ref b] below meth c H locs kc ks Q (F0 m 550 ls []) := by
  obtain ⟨hx, hb, hr, hml, hown, hts0, hX, hbl, hlk, hgv⟩ := id C0
  obtain ⟨hSX, hPX, hPM, hiX, hiM, hgX, hgM, hap⟩ := hw
  obtain ⟨r, hfx, hfm, hrel'⟩ := hst S X K hrel 
  refine lv_aload_n hx hb dlw_550 rfl (lv_at hl 1 rfl) ?_
  refine lw_call (As := []) (rest := []) (n := 0) (v := some (.int r)) C0 hK hZ hPX hPM hgX hap hS hl.1 tw_597 tw_598 tw_599 tw_1 tw_600 ydf11_rain (by decide) (by decide) (by have := hSX.1; omega) (ph_kc0 hSX) rfl (cf11_rain hiX hSX hfx) rfl (by decide) (by omega) (by omega) dlw_551 (fun H locs hPX hPM hS => ?_)
  refine lv_aload_n hx hb dlw_554 rfl (lv_at hl 2 rfl) ?_
  refine lw_call (As := []) (rest := [.int r]) (n := 0) (v := some (.int r)) C0 hK hZ hPM hPX hgM (fun i j hi hj he => hap j i hj hi he.symm) hS hl.1 tw_1534 tw_1535 tw_1536 tw_14 tw_1537 ydf12_rain (by decide) (by decide) (by decide) rfl rfl (cf12_rain ph_ZX_ok hiM hfm) rfl (Nat.le_of_ble_eq_true rfl) (by omega) (by omega) dlw_555 (fun H locs hPM hPX hS => ?_)
  refine lv_icmp_eq (tgt := 1285) hx hb dlw_558 (by decide) (fun _ => ?_) (fun hne => absurd rfl hne)
  exact hnext S ax X K _ _ _ _ _ (by omega) (by omega) hrel' ⟨hSX, hPX, hPM, hiX, hiM, hgX, hgM, hap⟩ hS hl
set_option maxHeartbeats 4000000 in
theorem lwc_law {Rel : ph_Sh → ph_Mem → ph_Mem → Prop} (hst : lws_law Rel) {p : Program} {l : Launch} {e : Env} {s : State} {m : MethodId} {below : List Frame} {meth : Method} {c : Code} {b L : Nat} {xs : Nat → Int32} (hL : L ≤ 3072) (C0 : lw_At p s m meth c b L xs) {D : va_G} {cA tb adK adV : Nat → Nat} (hK : va_K D ph_cl (ph_tys cA) s) (hZ : ph_ZX tb adK adV (fun q => s.heap.size ≤ q) s) {i kc ks : Nat} (hi : 6 * i + 6 ≤ L) (hkc : kc + 3 ≤ 600000) (hks : ks + 475 ≤ 7302250) {am : Nat → Nat} {Q : State → Prop} (hnext : ∀ (S : ph_Sh) (ax : Nat → Nat) (X K : ph_Mem) (kc' ks' : Nat) (H : Heap) (locs : List Loc) (ls : Array Slot), kc' ≤ kc + 3 → ks' ≤ ks + 475 → Rel S X K → lw_Wd D cA s S ax X am K H → va_S (fun q => s.heap.size ≤ q) s.heap H locs → lv_has ls 4 [(0, .ref b), (1, .ref (ax 0)), (2, .ref (am 0)), (3, .int (nI (6 * i)))] → W p l e room_1 s m #[Value.ref b] below meth c H locs kc' ks' Q (F0 m 1285 ls [])) {S : ph_Sh} {ax : Nat → Nat} {X K : ph_Mem} {H : Heap} {locs : List Loc} {ls : Array Slot} (hrel : Rel S X K) (hw : lw_Wd D cA s S ax X am K H) (hS : va_S (fun q => s.heap.size ≤ q) s.heap H locs) (hl : lv_has ls 4 [(0, .ref b), (1, .ref (ax 0)), (2, .ref (am 0)), (3, .int (nI (6 * i)))]) : W p l e room_1 s m #[Value.ref b] below meth c H locs kc ks Q (F0 m 563 ls []) := by
  obtain ⟨hx, hb, hr, hml, hown, hts0, hX, hbl, hlk, hgv⟩ := id C0
  obtain ⟨hSX, hPX, hPM, hiX, hiM, hgX, hgM, hap⟩ := hw
  obtain ⟨r, X', S', K', hfx, hfm, hSX', hle, hrel'⟩ := hst S X K hrel
  refine lv_aload_n hx hb dlw_563 rfl (lv_at hl 1 rfl) ?_
  refine lw_callA (rest := []) C0 hSX hK hZ hPX hPM hgX hap hS hl.1 tw_601 tw_602 tw_603 tw_1 tw_604 ydf11_law rfl (by decide) (by decide) (cf11_law hiX hSX hfx) (by decide) (by omega) (by omega) dlw_564 (fun H locs ax' hag hiX' hgX' hap' hPX hPM hS => ?_)
  refine lv_aload_n hx hb dlw_567 rfl (lv_at hl 2 rfl) ?_
  refine lw_call (As := []) (rest := [.int r]) (n := 0) (v := some (.int r)) C0 hK hZ hPM hPX hgM (fun i j hi hj he => hap' j i hj hi he.symm) hS hl.1 tw_1546 tw_1547 tw_1548 tw_14 tw_1549 ydf12_law (by decide) (by decide) (by decide) rfl rfl (cf12_law ph_ZX_ok hiM hfm) rfl (Nat.le_of_ble_eq_true rfl) (by omega) (by omega) dlw_568 (fun H locs hPM hPX hS => ?_)
  refine lv_icmp_eq (tgt := 1285) hx hb dlw_571 (by decide) (fun _ => ?_) (fun hne => absurd rfl hne)
  rw [← hag 0 (by have := hSX.1; omega)] at hl
  exact hnext S' ax' X' K' _ _ _ _ _ (Nat.le_refl _) (Nat.le_refl _) hrel' ⟨hSX', hPX, hPM, hiX', hiM, hgX', hgM, hap'⟩ hS hl
set_option maxHeartbeats 4000000 in
theorem lwc_orders {Rel : ph_Sh → ph_Mem → ph_Mem → Prop} (hst : lws_orders Rel) {p : Program} {l : Launch} {e : Env} {s : State} {m : MethodId} {below : List Frame} {meth : Method} {c : Code} {b L : Nat} {xs : Nat → Int32} (hL : L ≤ 3072) (C0 : lw_At p s m meth c b L xs) {D : va_G} {cA tb adK adV : Nat → Nat} (hK : va_K D ph_cl (ph_tys cA) s) (hZ : ph_ZX tb adK adV (fun q => s.heap.size ≤ q) s) {i kc ks : Nat} (hi : 6 * i + 6 ≤ L) (hkc : kc + 3 ≤ 600000) (hks : ks + 475 ≤ 7302250) {am : Nat → Nat} {Q : State → Prop} (hnext : ∀ (S : ph_Sh) (ax : Nat → Nat) (X K : ph_Mem) (kc' ks' : Nat) (H : Heap) (locs : List Loc) (ls : Array Slot), kc' ≤ kc + 3 → ks' ≤ ks + 475 → Rel S X K → lw_Wd D cA s S ax X am K H → va_S (fun q => s.heap.size ≤ q) s.heap H locs → lv_has ls 4 [(0, .ref b), (1, .ref (ax 0)), (2, .ref (am 0)), (3, .int (nI (6 * i)))] → W p l e room_1 s m #[Value.ref b] below meth c H locs kc' ks' Q (F0 m 1285 ls [])) {S : ph_Sh} {ax : Nat → Nat} {X K : ph_Mem} {H : Heap} {locs : List Loc} {ls : Array Slot} (hrel : Rel S X K) (hw : lw_Wd D cA s S ax X am K H) (hS : va_S (fun q => s.heap.size ≤ q) s.heap H locs) (hl : lv_has ls 4 [(0, .ref b), (1, .ref (ax 0)), (2, .ref (am 0)), (3, .int (nI (6 * i)))]) : W p l e room_1 s m #[Value.ref b] below meth c H locs kc ks Q (F0 m 576 ls []) := by
  obtain ⟨hx, hb, hr, hml, hown, hts0, hX, hbl, hlk, hgv⟩ := id C0
  obtain ⟨hSX, hPX, hPM, hiX, hiM, hgX, hgM, hap⟩ := hw
  obtain ⟨r, X', S', K', hfx, hfm, hSX', hle, hrel'⟩ := hst S X K hrel
  refine lv_aload_n hx hb dlw_576 rfl (lv_at hl 1 rfl) ?_
  refine lw_callA (rest := []) C0 hSX hK hZ hPX hPM hgX hap hS hl.1 tw_825 tw_826 tw_827 tw_1 tw_828 ydf11_orders rfl (by decide) (by decide) (cf11_orders hiX hSX hfx) (by decide) (by omega) (by omega) dlw_577 (fun H locs ax' hag hiX' hgX' hap' hPX hPM hS => ?_)
  refine lv_aload_n hx hb dlw_580 rfl (lv_at hl 2 rfl) ?_
  refine lw_call (As := []) (rest := [.int r]) (n := 0) (v := some (.int r)) C0 hK hZ hPM hPX hgM (fun i j hi hj he => hap' j i hj hi he.symm) hS hl.1 tw_1823 tw_1824 tw_1825 tw_14 tw_1826 ydf12_orders (by decide) (by decide) (by decide) rfl rfl (cf12_orders ph_ZX_ok hiM hfm) rfl (Nat.le_of_ble_eq_true rfl) (by omega) (by omega) dlw_581 (fun H locs hPM hPX hS => ?_)
  refine lv_icmp_eq (tgt := 1285) hx hb dlw_584 (by decide) (fun _ => ?_) (fun hne => absurd rfl hne)
  rw [← hag 0 (by have := hSX.1; omega)] at hl
  exact hnext S' ax' X' K' _ _ _ _ _ (Nat.le_refl _) (Nat.le_refl _) hrel' ⟨hSX', hPX, hPM, hiX', hiM, hgX', hgM, hap'⟩ hS hl
set_option maxHeartbeats 4000000 in
theorem lwc_fault {Rel : ph_Sh → ph_Mem → ph_Mem → Prop} (hst : lws_fault Rel) {p : Program} {l : Launch} {e : Env} {s : State} {m : MethodId} {below : List Frame} {meth : Method} {c : Code} {b L : Nat} {xs : Nat → Int32} (hL : L ≤ 3072) (C0 : lw_At p s m meth c b L xs) {D : va_G} {cA tb adK adV : Nat → Nat} (hK : va_K D ph_cl (ph_tys cA) s) (hZ : ph_ZX tb adK adV (fun q => s.heap.size ≤ q) s) {i kc ks : Nat} (hi : 6 * i + 6 ≤ L) (hkc : kc + 3 ≤ 600000) (hks : ks + 475 ≤ 7302250) {am : Nat → Nat} {Q : State → Prop} (hnext : ∀ (S : ph_Sh) (ax : Nat → Nat) (X K : ph_Mem) (kc' ks' : Nat) (H : Heap) (locs : List Loc) (ls : Array Slot), kc' ≤ kc + 3 → ks' ≤ ks + 475 → Rel S X K → lw_Wd D cA s S ax X am K H → va_S (fun q => s.heap.size ≤ q) s.heap H locs → lv_has ls 4 [(0, .ref b), (1, .ref (ax 0)), (2, .ref (am 0)), (3, .int (nI (6 * i)))] → W p l e room_1 s m #[Value.ref b] below meth c H locs kc' ks' Q (F0 m 1285 ls [])) {S : ph_Sh} {ax : Nat → Nat} {X K : ph_Mem} {H : Heap} {locs : List Loc} {ls : Array Slot} (hrel : Rel S X K) (hw : lw_Wd D cA s S ax X am K H) (hS : va_S (fun q => s.heap.size ≤ q) s.heap H locs) (hl : lv_has ls 4 [(0, .ref b), (1, .ref (ax 0)), (2, .ref (am 0)), (3, .int (nI (6 * i)))]) : W p l e room_1 s m #[Value.ref b] below meth c H locs kc ks Q (F0 m 589 ls []) := by
  obtain ⟨hx, hb, hr, hml, hown, hts0, hX, hbl, hlk, hgv⟩ := id C0
  obtain ⟨hSX, hPX, hPM, hiX, hiM, hgX, hgM, hap⟩ := hw
  obtain ⟨r, hfx, hfm, hrel'⟩ := hst S X K hrel 
  refine lv_aload_n hx hb dlw_589 rfl (lv_at hl 1 rfl) ?_
  refine lw_call (As := []) (rest := []) (n := 0) (v := some (.int r)) C0 hK hZ hPX hPM hgX hap hS hl.1 tw_887 tw_888 tw_889 tw_1 tw_890 ydf11_fault (by decide) (by decide) (by have := hSX.1; omega) (ph_kc0 hSX) rfl (cf11_fault hiX hSX hfx) rfl (by decide) (by omega) (by omega) dlw_590 (fun H locs hPX hPM hS => ?_)
  refine lv_aload_n hx hb dlw_593 rfl (lv_at hl 2 rfl) ?_
  refine lw_call (As := []) (rest := [.int r]) (n := 0) (v := some (.int r)) C0 hK hZ hPM hPX hgM (fun i j hi hj he => hap j i hj hi he.symm) hS hl.1 tw_1637 tw_1638 tw_1639 tw_14 tw_1640 ydf12_fault (by decide) (by decide) (by decide) rfl rfl (cf12_fault ph_ZX_ok hiM hfm) rfl (Nat.le_of_ble_eq_true rfl) (by omega) (by omega) dlw_594 (fun H locs hPM hPX hS => ?_)
  refine lv_icmp_eq (tgt := 1285) hx hb dlw_597 (by decide) (fun _ => ?_) (fun hne => absurd rfl hne)
  exact hnext S ax X K _ _ _ _ _ (by omega) (by omega) hrel' ⟨hSX, hPX, hPM, hiX, hiM, hgX, hgM, hap⟩ hS hl
set_option maxHeartbeats 4000000 in
theorem lwc_stopped {Rel : ph_Sh → ph_Mem → ph_Mem → Prop} (hst : lws_stopped Rel) {p : Program} {l : Launch} {e : Env} {s : State} {m : MethodId} {below : List Frame} {meth : Method} {c : Code} {b L : Nat} {xs : Nat → Int32} (hL : L ≤ 3072) (C0 : lw_At p s m meth c b L xs) {D : va_G} {cA tb adK adV : Nat → Nat} (hK : va_K D ph_cl (ph_tys cA) s) (hZ : ph_ZX tb adK adV (fun q => s.heap.size ≤ q) s) {i kc ks : Nat} (hi : 6 * i + 6 ≤ L) (hkc : kc + 3 ≤ 600000) (hks : ks + 475 ≤ 7302250) {am : Nat → Nat} {Q : State → Prop} (hnext : ∀ (S : ph_Sh) (ax : Nat → Nat) (X K : ph_Mem) (kc' ks' : Nat) (H : Heap) (locs : List Loc) (ls : Array Slot), kc' ≤ kc + 3 → ks' ≤ ks + 475 → Rel S X K → lw_Wd D cA s S ax X am K H → va_S (fun q => s.heap.size ≤ q) s.heap H locs → lv_has ls 4 [(0, .ref b), (1, .ref (ax 0)), (2, .ref (am 0)), (3, .int (nI (6 * i)))] → W p l e room_1 s m #[Value.ref b] below meth c H locs kc' ks' Q (F0 m 1285 ls [])) {S : ph_Sh} {ax : Nat → Nat} {X K : ph_Mem} {H : Heap} {locs : List Loc} {ls : Array Slot} (hrel : Rel S X K) (hw : lw_Wd D cA s S ax X am K H) (hS : va_S (fun q => s.heap.size ≤ q) s.heap H locs) (hl : lv_has ls 4 [(0, .ref b), (1, .ref (ax 0)), (2, .ref (am 0)), (3, .int (nI (6 * i)))]) : W p l e room_1 s m #[Value.ref b] below meth c H locs kc ks Q (F0 m 602 ls []) := by
  obtain ⟨hx, hb, hr, hml, hown, hts0, hX, hbl, hlk, hgv⟩ := id C0
  obtain ⟨hSX, hPX, hPM, hiX, hiM, hgX, hgM, hap⟩ := hw
  obtain ⟨r, hfx, hfm, hrel'⟩ := hst S X K hrel 
  refine lv_aload_n hx hb dlw_602 rfl (lv_at hl 1 rfl) ?_
  refine lw_call (As := []) (rest := []) (n := 0) (v := some (.int r)) C0 hK hZ hPX hPM hgX hap hS hl.1 tw_891 tw_892 tw_893 tw_1 tw_894 ydf11_stopped (by decide) (by decide) (by have := hSX.1; omega) (ph_kc0 hSX) rfl (cf11_stopped hiX hSX hfx) rfl (by decide) (by omega) (by omega) dlw_603 (fun H locs hPX hPM hS => ?_)
  refine lv_aload_n hx hb dlw_606 rfl (lv_at hl 2 rfl) ?_
  refine lw_call (As := []) (rest := [.int r]) (n := 0) (v := some (.int r)) C0 hK hZ hPM hPX hgM (fun i j hi hj he => hap j i hj hi he.symm) hS hl.1 tw_1819 tw_1820 tw_1821 tw_14 tw_1822 ydf12_stopped (by decide) (by decide) (by decide) rfl rfl (cf12_stopped ph_ZX_ok hiM hfm) rfl (Nat.le_of_ble_eq_true rfl) (by omega) (by omega) dlw_607 (fun H locs hPM hPX hS => ?_)
  refine lv_icmp_eq (tgt := 1285) hx hb dlw_610 (by decide) (fun _ => ?_) (fun hne => absurd rfl hne)
  exact hnext S ax X K _ _ _ _ _ (by omega) (by omega) hrel' ⟨hSX, hPX, hPM, hiX, hiM, hgX, hgM, hap⟩ hS hl
set_option maxHeartbeats 4000000 in
theorem lwc_force {Rel : ph_Sh → ph_Mem → ph_Mem → Prop} (hst : lws_force Rel) {p : Program} {l : Launch} {e : Env} {s : State} {m : MethodId} {below : List Frame} {meth : Method} {c : Code} {b L : Nat} {xs : Nat → Int32} (hL : L ≤ 3072) (C0 : lw_At p s m meth c b L xs) {D : va_G} {cA tb adK adV : Nat → Nat} (hK : va_K D ph_cl (ph_tys cA) s) (hZ : ph_ZX tb adK adV (fun q => s.heap.size ≤ q) s) {i kc ks : Nat} (hi : 6 * i + 6 ≤ L) (hkc : kc + 3 ≤ 600000) (hks : ks + 475 ≤ 7302250) {am : Nat → Nat} {Q : State → Prop} (hnext : ∀ (S : ph_Sh) (ax : Nat → Nat) (X K : ph_Mem) (kc' ks' : Nat) (H : Heap) (locs : List Loc) (ls : Array Slot), kc' ≤ kc + 3 → ks' ≤ ks + 475 → Rel S X K → lw_Wd D cA s S ax X am K H → va_S (fun q => s.heap.size ≤ q) s.heap H locs → lv_has ls 4 [(0, .ref b), (1, .ref (ax 0)), (2, .ref (am 0)), (3, .int (nI (6 * i)))] → W p l e room_1 s m #[Value.ref b] below meth c H locs kc' ks' Q (F0 m 1285 ls [])) {S : ph_Sh} {ax : Nat → Nat} {X K : ph_Mem} {H : Heap} {locs : List Loc} {ls : Array Slot} (hrel : Rel S X K) (hw : lw_Wd D cA s S ax X am K H) (hS : va_S (fun q => s.heap.size ≤ q) s.heap H locs) (hl : lv_has ls 4 [(0, .ref b), (1, .ref (ax 0)), (2, .ref (am 0)), (3, .int (nI (6 * i)))]) : W p l e room_1 s m #[Value.ref b] below meth c H locs kc ks Q (F0 m 615 ls []) := by
  obtain ⟨hx, hb, hr, hml, hown, hts0, hX, hbl, hlk, hgv⟩ := id C0
  obtain ⟨hSX, hPX, hPM, hiX, hiM, hgX, hgM, hap⟩ := hw
  obtain ⟨r, X', K', hfx, hfm, hrel'⟩ := hst S X K hrel (xs (6 * i + 1))
  refine lv_aload_n hx hb dlw_615 rfl (lv_at hl 1 rfl) ?_
  refine lv_aload_n hx hb dlw_616 rfl (lv_at hl 0 rfl) ?_
  refine lv_iload_n hx hb dlw_617 rfl (lv_at hl 3 rfl) ?_
  refine lv_iconst (v := 1) hx hb dlw_618 (by decide) ?_
  refine lv_iadd hx hb dlw_619 ?_
  refine lw_sld (k := 6 * i + 1) C0 hS (nI_add (6 * i) 1) (by omega) hL dlw_620 ?_
  refine lw_call (As := [.int (xs (6 * i + 1))]) (rest := []) (n := 1) (v := some (.int r)) C0 hK hZ hPX hPM hgX hap hS hl.1 tw_895 tw_896 tw_897 tw_1 tw_898 ydf11_force (by decide) (by decide) (by have := hSX.1; omega) (ph_kc0 hSX) rfl (cf11_force hiX hSX hfx) rfl (by decide) (by omega) (by omega) dlw_621 (fun H locs hPX hPM hS => ?_)
  refine lv_aload_n hx hb dlw_624 rfl (lv_at hl 2 rfl) ?_
  refine lv_aload_n hx hb dlw_625 rfl (lv_at hl 0 rfl) ?_
  refine lv_iload_n hx hb dlw_626 rfl (lv_at hl 3 rfl) ?_
  refine lv_iconst (v := 1) hx hb dlw_627 (by decide) ?_
  refine lv_iadd hx hb dlw_628 ?_
  refine lw_sld (k := 6 * i + 1) C0 hS (nI_add (6 * i) 1) (by omega) hL dlw_629 ?_
  refine lw_call (As := [.int (xs (6 * i + 1))]) (rest := [.int r]) (n := 1) (v := some (.int r)) C0 hK hZ hPM hPX hgM (fun i j hi hj he => hap j i hj hi he.symm) hS hl.1 tw_1641 tw_1642 tw_1643 tw_14 tw_1644 ydf12_force (by decide) (by decide) (by decide) rfl rfl (cf12_force ph_ZX_ok hiM hfm) rfl (Nat.le_of_ble_eq_true rfl) (by omega) (by omega) dlw_630 (fun H locs hPM hPX hS => ?_)
  refine lv_icmp_eq (tgt := 1285) hx hb dlw_633 (by decide) (fun _ => ?_) (fun hne => absurd rfl hne)
  exact hnext S ax X' K' _ _ _ _ _ (by omega) (by omega) hrel' ⟨hSX, hPX, hPM, hiX, hiM, hgX, hgM, hap⟩ hS hl
set_option maxHeartbeats 4000000 in
theorem lwc_pawn {Rel : ph_Sh → ph_Mem → ph_Mem → Prop} (hst : lws_pawn Rel) {p : Program} {l : Launch} {e : Env} {s : State} {m : MethodId} {below : List Frame} {meth : Method} {c : Code} {b L : Nat} {xs : Nat → Int32} (hL : L ≤ 3072) (C0 : lw_At p s m meth c b L xs) {D : va_G} {cA tb adK adV : Nat → Nat} (hK : va_K D ph_cl (ph_tys cA) s) (hZ : ph_ZX tb adK adV (fun q => s.heap.size ≤ q) s) {i kc ks : Nat} (hi : 6 * i + 6 ≤ L) (hkc : kc + 3 ≤ 600000) (hks : ks + 475 ≤ 7302250) {am : Nat → Nat} {Q : State → Prop} (hnext : ∀ (S : ph_Sh) (ax : Nat → Nat) (X K : ph_Mem) (kc' ks' : Nat) (H : Heap) (locs : List Loc) (ls : Array Slot), kc' ≤ kc + 3 → ks' ≤ ks + 475 → Rel S X K → lw_Wd D cA s S ax X am K H → va_S (fun q => s.heap.size ≤ q) s.heap H locs → lv_has ls 4 [(0, .ref b), (1, .ref (ax 0)), (2, .ref (am 0)), (3, .int (nI (6 * i)))] → W p l e room_1 s m #[Value.ref b] below meth c H locs kc' ks' Q (F0 m 1285 ls [])) {S : ph_Sh} {ax : Nat → Nat} {X K : ph_Mem} {H : Heap} {locs : List Loc} {ls : Array Slot} (hrel : Rel S X K) (hw : lw_Wd D cA s S ax X am K H) (hS : va_S (fun q => s.heap.size ≤ q) s.heap H locs) (hl : lv_has ls 4 [(0, .ref b), (1, .ref (ax 0)), (2, .ref (am 0)), (3, .int (nI (6 * i)))]) : W p l e room_1 s m #[Value.ref b] below meth c H locs kc ks Q (F0 m 638 ls []) := by
  obtain ⟨hx, hb, hr, hml, hown, hts0, hX, hbl, hlk, hgv⟩ := id C0
  obtain ⟨hSX, hPX, hPM, hiX, hiM, hgX, hgM, hap⟩ := hw
  obtain ⟨r, X', K', hfx, hfm, hrel'⟩ := hst S X K hrel (xs (6 * i + 1)) (xs (6 * i + 2))
  refine lv_aload_n hx hb dlw_638 rfl (lv_at hl 1 rfl) ?_
  refine lv_aload_n hx hb dlw_639 rfl (lv_at hl 0 rfl) ?_
  refine lv_iload_n hx hb dlw_640 rfl (lv_at hl 3 rfl) ?_
  refine lv_iconst (v := 1) hx hb dlw_641 (by decide) ?_
  refine lv_iadd hx hb dlw_642 ?_
  refine lw_sld (k := 6 * i + 1) C0 hS (nI_add (6 * i) 1) (by omega) hL dlw_643 ?_
  refine lv_aload_n hx hb dlw_644 rfl (lv_at hl 0 rfl) ?_
  refine lv_iload_n hx hb dlw_645 rfl (lv_at hl 3 rfl) ?_
  refine lv_iconst (v := 2) hx hb dlw_646 (by decide) ?_
  refine lv_iadd hx hb dlw_647 ?_
  refine lw_sld (k := 6 * i + 2) C0 hS (nI_add (6 * i) 2) (by omega) hL dlw_648 ?_
  refine lw_call (As := [.int (xs (6 * i + 1)), .int (xs (6 * i + 2))]) (rest := []) (n := 2) (v := some (.int r)) C0 hK hZ hPX hPM hgX hap hS hl.1 tw_899 tw_900 tw_901 tw_1 tw_902 ydf11_pawn (by decide) (by decide) (by have := hSX.1; omega) (ph_kc0 hSX) rfl (cf11_pawn hiX hSX hfx) rfl (by decide) (by omega) (by omega) dlw_649 (fun H locs hPX hPM hS => ?_)
  refine lv_aload_n hx hb dlw_652 rfl (lv_at hl 2 rfl) ?_
  refine lv_aload_n hx hb dlw_653 rfl (lv_at hl 0 rfl) ?_
  refine lv_iload_n hx hb dlw_654 rfl (lv_at hl 3 rfl) ?_
  refine lv_iconst (v := 1) hx hb dlw_655 (by decide) ?_
  refine lv_iadd hx hb dlw_656 ?_
  refine lw_sld (k := 6 * i + 1) C0 hS (nI_add (6 * i) 1) (by omega) hL dlw_657 ?_
  refine lv_aload_n hx hb dlw_658 rfl (lv_at hl 0 rfl) ?_
  refine lv_iload_n hx hb dlw_659 rfl (lv_at hl 3 rfl) ?_
  refine lv_iconst (v := 2) hx hb dlw_660 (by decide) ?_
  refine lv_iadd hx hb dlw_661 ?_
  refine lw_sld (k := 6 * i + 2) C0 hS (nI_add (6 * i) 2) (by omega) hL dlw_662 ?_
  refine lw_call (As := [.int (xs (6 * i + 1)), .int (xs (6 * i + 2))]) (rest := [.int r]) (n := 2) (v := some (.int r)) C0 hK hZ hPM hPX hgM (fun i j hi hj he => hap j i hj hi he.symm) hS hl.1 tw_1649 tw_1650 tw_1651 tw_14 tw_1652 ydf12_pawn (by decide) (by decide) (by decide) rfl rfl (cf12_pawn ph_ZX_ok hiM hfm) rfl (Nat.le_of_ble_eq_true rfl) (by omega) (by omega) dlw_663 (fun H locs hPM hPX hS => ?_)
  refine lv_icmp_eq (tgt := 1285) hx hb dlw_666 (by decide) (fun _ => ?_) (fun hne => absurd rfl hne)
  exact hnext S ax X' K' _ _ _ _ _ (by omega) (by omega) hrel' ⟨hSX, hPX, hPM, hiX, hiM, hgX, hgM, hap⟩ hS hl
set_option maxHeartbeats 4000000 in
theorem lwc_redeem {Rel : ph_Sh → ph_Mem → ph_Mem → Prop} (hst : lws_redeem Rel) {p : Program} {l : Launch} {e : Env} {s : State} {m : MethodId} {below : List Frame} {meth : Method} {c : Code} {b L : Nat} {xs : Nat → Int32} (hL : L ≤ 3072) (C0 : lw_At p s m meth c b L xs) {D : va_G} {cA tb adK adV : Nat → Nat} (hK : va_K D ph_cl (ph_tys cA) s) (hZ : ph_ZX tb adK adV (fun q => s.heap.size ≤ q) s) {i kc ks : Nat} (hi : 6 * i + 6 ≤ L) (hkc : kc + 3 ≤ 600000) (hks : ks + 475 ≤ 7302250) {am : Nat → Nat} {Q : State → Prop} (hnext : ∀ (S : ph_Sh) (ax : Nat → Nat) (X K : ph_Mem) (kc' ks' : Nat) (H : Heap) (locs : List Loc) (ls : Array Slot), kc' ≤ kc + 3 → ks' ≤ ks + 475 → Rel S X K → lw_Wd D cA s S ax X am K H → va_S (fun q => s.heap.size ≤ q) s.heap H locs → lv_has ls 4 [(0, .ref b), (1, .ref (ax 0)), (2, .ref (am 0)), (3, .int (nI (6 * i)))] → W p l e room_1 s m #[Value.ref b] below meth c H locs kc' ks' Q (F0 m 1285 ls [])) {S : ph_Sh} {ax : Nat → Nat} {X K : ph_Mem} {H : Heap} {locs : List Loc} {ls : Array Slot} (hrel : Rel S X K) (hw : lw_Wd D cA s S ax X am K H) (hS : va_S (fun q => s.heap.size ≤ q) s.heap H locs) (hl : lv_has ls 4 [(0, .ref b), (1, .ref (ax 0)), (2, .ref (am 0)), (3, .int (nI (6 * i)))]) : W p l e room_1 s m #[Value.ref b] below meth c H locs kc ks Q (F0 m 671 ls []) := by
  obtain ⟨hx, hb, hr, hml, hown, hts0, hX, hbl, hlk, hgv⟩ := id C0
  obtain ⟨hSX, hPX, hPM, hiX, hiM, hgX, hgM, hap⟩ := hw
  obtain ⟨r, X', K', hfx, hfm, hrel'⟩ := hst S X K hrel (xs (6 * i + 1)) (xs (6 * i + 2))
  refine lv_aload_n hx hb dlw_671 rfl (lv_at hl 1 rfl) ?_
  refine lv_aload_n hx hb dlw_672 rfl (lv_at hl 0 rfl) ?_
  refine lv_iload_n hx hb dlw_673 rfl (lv_at hl 3 rfl) ?_
  refine lv_iconst (v := 1) hx hb dlw_674 (by decide) ?_
  refine lv_iadd hx hb dlw_675 ?_
  refine lw_sld (k := 6 * i + 1) C0 hS (nI_add (6 * i) 1) (by omega) hL dlw_676 ?_
  refine lv_aload_n hx hb dlw_677 rfl (lv_at hl 0 rfl) ?_
  refine lv_iload_n hx hb dlw_678 rfl (lv_at hl 3 rfl) ?_
  refine lv_iconst (v := 2) hx hb dlw_679 (by decide) ?_
  refine lv_iadd hx hb dlw_680 ?_
  refine lw_sld (k := 6 * i + 2) C0 hS (nI_add (6 * i) 2) (by omega) hL dlw_681 ?_
  refine lw_call (As := [.int (xs (6 * i + 1)), .int (xs (6 * i + 2))]) (rest := []) (n := 2) (v := some (.int r)) C0 hK hZ hPX hPM hgX hap hS hl.1 tw_908 tw_909 tw_910 tw_1 tw_911 ydf11_redeem (by decide) (by decide) (by have := hSX.1; omega) (ph_kc0 hSX) rfl (cf11_redeem hiX hSX hfx) rfl (by decide) (by omega) (by omega) dlw_682 (fun H locs hPX hPM hS => ?_)
  refine lv_aload_n hx hb dlw_685 rfl (lv_at hl 2 rfl) ?_
  refine lv_aload_n hx hb dlw_686 rfl (lv_at hl 0 rfl) ?_
  refine lv_iload_n hx hb dlw_687 rfl (lv_at hl 3 rfl) ?_
  refine lv_iconst (v := 1) hx hb dlw_688 (by decide) ?_
  refine lv_iadd hx hb dlw_689 ?_
  refine lw_sld (k := 6 * i + 1) C0 hS (nI_add (6 * i) 1) (by omega) hL dlw_690 ?_
  refine lv_aload_n hx hb dlw_691 rfl (lv_at hl 0 rfl) ?_
  refine lv_iload_n hx hb dlw_692 rfl (lv_at hl 3 rfl) ?_
  refine lv_iconst (v := 2) hx hb dlw_693 (by decide) ?_
  refine lv_iadd hx hb dlw_694 ?_
  refine lw_sld (k := 6 * i + 2) C0 hS (nI_add (6 * i) 2) (by omega) hL dlw_695 ?_
  refine lw_call (As := [.int (xs (6 * i + 1)), .int (xs (6 * i + 2))]) (rest := [.int r]) (n := 2) (v := some (.int r)) C0 hK hZ hPM hPX hgM (fun i j hi hj he => hap j i hj hi he.symm) hS hl.1 tw_1684 tw_1685 tw_1686 tw_14 tw_1687 ydf12_redeem (by decide) (by decide) (by decide) rfl rfl (cf12_redeem ph_ZX_ok hiM hfm) rfl (Nat.le_of_ble_eq_true rfl) (by omega) (by omega) dlw_696 (fun H locs hPM hPX hS => ?_)
  refine lv_icmp_eq (tgt := 1285) hx hb dlw_699 (by decide) (fun _ => ?_) (fun hne => absurd rfl hne)
  exact hnext S ax X' K' _ _ _ _ _ (by omega) (by omega) hrel' ⟨hSX, hPX, hPM, hiX, hiM, hgX, hgM, hap⟩ hS hl
set_option maxHeartbeats 4000000 in
theorem lwc_pass {Rel : ph_Sh → ph_Mem → ph_Mem → Prop} (hst : lws_pass Rel) {p : Program} {l : Launch} {e : Env} {s : State} {m : MethodId} {below : List Frame} {meth : Method} {c : Code} {b L : Nat} {xs : Nat → Int32} (hL : L ≤ 3072) (C0 : lw_At p s m meth c b L xs) {D : va_G} {cA tb adK adV : Nat → Nat} (hK : va_K D ph_cl (ph_tys cA) s) (hZ : ph_ZX tb adK adV (fun q => s.heap.size ≤ q) s) {i kc ks : Nat} (hi : 6 * i + 6 ≤ L) (hkc : kc + 3 ≤ 600000) (hks : ks + 475 ≤ 7302250) {am : Nat → Nat} {Q : State → Prop} (hnext : ∀ (S : ph_Sh) (ax : Nat → Nat) (X K : ph_Mem) (kc' ks' : Nat) (H : Heap) (locs : List Loc) (ls : Array Slot), kc' ≤ kc + 3 → ks' ≤ ks + 475 → Rel S X K → lw_Wd D cA s S ax X am K H → va_S (fun q => s.heap.size ≤ q) s.heap H locs → lv_has ls 4 [(0, .ref b), (1, .ref (ax 0)), (2, .ref (am 0)), (3, .int (nI (6 * i)))] → W p l e room_1 s m #[Value.ref b] below meth c H locs kc' ks' Q (F0 m 1285 ls [])) {S : ph_Sh} {ax : Nat → Nat} {X K : ph_Mem} {H : Heap} {locs : List Loc} {ls : Array Slot} (hrel : Rel S X K) (hw : lw_Wd D cA s S ax X am K H) (hS : va_S (fun q => s.heap.size ≤ q) s.heap H locs) (hl : lv_has ls 4 [(0, .ref b), (1, .ref (ax 0)), (2, .ref (am 0)), (3, .int (nI (6 * i)))]) : W p l e room_1 s m #[Value.ref b] below meth c H locs kc ks Q (F0 m 704 ls []) := by
  obtain ⟨hx, hb, hr, hml, hown, hts0, hX, hbl, hlk, hgv⟩ := id C0
  obtain ⟨hSX, hPX, hPM, hiX, hiM, hgX, hgM, hap⟩ := hw
  obtain ⟨r, X', K', hfx, hfm, hrel'⟩ := hst S X K hrel 
  refine lv_aload_n hx hb dlw_704 rfl (lv_at hl 1 rfl) ?_
  refine lw_call (As := []) (rest := []) (n := 0) (v := some (.int r)) C0 hK hZ hPX hPM hgX hap hS hl.1 tw_913 tw_914 tw_915 tw_1 tw_916 ydf11_pass (by decide) (by decide) (by have := hSX.1; omega) (ph_kc0 hSX) rfl (cf11_pass hiX hSX hfx) rfl (by decide) (by omega) (by omega) dlw_705 (fun H locs hPX hPM hS => ?_)
  refine lv_aload_n hx hb dlw_708 rfl (lv_at hl 2 rfl) ?_
  refine lw_call (As := []) (rest := [.int r]) (n := 0) (v := some (.int r)) C0 hK hZ hPM hPX hgM (fun i j hi hj he => hap j i hj hi he.symm) hS hl.1 tw_1700 tw_1701 tw_1702 tw_14 tw_1703 ydf12_pass (by decide) (by decide) (by decide) rfl rfl (cf12_pass ph_ZX_ok hiM hfm) rfl (Nat.le_of_ble_eq_true rfl) (by omega) (by omega) dlw_709 (fun H locs hPM hPX hS => ?_)
  refine lv_icmp_eq (tgt := 1285) hx hb dlw_712 (by decide) (fun _ => ?_) (fun hne => absurd rfl hne)
  exact hnext S ax X' K' _ _ _ _ _ (by omega) (by omega) hrel' ⟨hSX, hPX, hPM, hiX, hiM, hgX, hgM, hap⟩ hS hl
set_option maxHeartbeats 4000000 in
theorem lwc_auction {Rel : ph_Sh → ph_Mem → ph_Mem → Prop} (hst : lws_auction Rel) {p : Program} {l : Launch} {e : Env} {s : State} {m : MethodId} {below : List Frame} {meth : Method} {c : Code} {b L : Nat} {xs : Nat → Int32} (hL : L ≤ 3072) (C0 : lw_At p s m meth c b L xs) {D : va_G} {cA tb adK adV : Nat → Nat} (hK : va_K D ph_cl (ph_tys cA) s) (hZ : ph_ZX tb adK adV (fun q => s.heap.size ≤ q) s) {i kc ks : Nat} (hi : 6 * i + 6 ≤ L) (hkc : kc + 3 ≤ 600000) (hks : ks + 475 ≤ 7302250) {am : Nat → Nat} {Q : State → Prop} (hnext : ∀ (S : ph_Sh) (ax : Nat → Nat) (X K : ph_Mem) (kc' ks' : Nat) (H : Heap) (locs : List Loc) (ls : Array Slot), kc' ≤ kc + 3 → ks' ≤ ks + 475 → Rel S X K → lw_Wd D cA s S ax X am K H → va_S (fun q => s.heap.size ≤ q) s.heap H locs → lv_has ls 4 [(0, .ref b), (1, .ref (ax 0)), (2, .ref (am 0)), (3, .int (nI (6 * i)))] → W p l e room_1 s m #[Value.ref b] below meth c H locs kc' ks' Q (F0 m 1285 ls [])) {S : ph_Sh} {ax : Nat → Nat} {X K : ph_Mem} {H : Heap} {locs : List Loc} {ls : Array Slot} (hrel : Rel S X K) (hw : lw_Wd D cA s S ax X am K H) (hS : va_S (fun q => s.heap.size ≤ q) s.heap H locs) (hl : lv_has ls 4 [(0, .ref b), (1, .ref (ax 0)), (2, .ref (am 0)), (3, .int (nI (6 * i)))]) : W p l e room_1 s m #[Value.ref b] below meth c H locs kc ks Q (F0 m 717 ls []) := by
  obtain ⟨hx, hb, hr, hml, hown, hts0, hX, hbl, hlk, hgv⟩ := id C0
  obtain ⟨hSX, hPX, hPM, hiX, hiM, hgX, hgM, hap⟩ := hw
  obtain ⟨r, X', K', hfx, hfm, hrel'⟩ := hst S X K hrel (xs (6 * i + 1)) (xs (6 * i + 2))
  refine lv_aload_n hx hb dlw_717 rfl (lv_at hl 1 rfl) ?_
  refine lv_aload_n hx hb dlw_718 rfl (lv_at hl 0 rfl) ?_
  refine lv_iload_n hx hb dlw_719 rfl (lv_at hl 3 rfl) ?_
  refine lv_iconst (v := 1) hx hb dlw_720 (by decide) ?_
  refine lv_iadd hx hb dlw_721 ?_
  refine lw_sld (k := 6 * i + 1) C0 hS (nI_add (6 * i) 1) (by omega) hL dlw_722 ?_
  refine lv_aload_n hx hb dlw_723 rfl (lv_at hl 0 rfl) ?_
  refine lv_iload_n hx hb dlw_724 rfl (lv_at hl 3 rfl) ?_
  refine lv_iconst (v := 2) hx hb dlw_725 (by decide) ?_
  refine lv_iadd hx hb dlw_726 ?_
  refine lw_sld (k := 6 * i + 2) C0 hS (nI_add (6 * i) 2) (by omega) hL dlw_727 ?_
  refine lw_call (As := [.int (xs (6 * i + 1)), .int (xs (6 * i + 2))]) (rest := []) (n := 2) (v := some (.int r)) C0 hK hZ hPX hPM hgX hap hS hl.1 tw_918 tw_919 tw_920 tw_1 tw_921 ydf11_auction (by decide) (by decide) (by have := hSX.1; omega) (ph_kc0 hSX) rfl (cf11_auction hiX hSX hfx) rfl (by decide) (by omega) (by omega) dlw_728 (fun H locs hPX hPM hS => ?_)
  refine lv_aload_n hx hb dlw_731 rfl (lv_at hl 2 rfl) ?_
  refine lv_aload_n hx hb dlw_732 rfl (lv_at hl 0 rfl) ?_
  refine lv_iload_n hx hb dlw_733 rfl (lv_at hl 3 rfl) ?_
  refine lv_iconst (v := 1) hx hb dlw_734 (by decide) ?_
  refine lv_iadd hx hb dlw_735 ?_
  refine lw_sld (k := 6 * i + 1) C0 hS (nI_add (6 * i) 1) (by omega) hL dlw_736 ?_
  refine lv_aload_n hx hb dlw_737 rfl (lv_at hl 0 rfl) ?_
  refine lv_iload_n hx hb dlw_738 rfl (lv_at hl 3 rfl) ?_
  refine lv_iconst (v := 2) hx hb dlw_739 (by decide) ?_
  refine lv_iadd hx hb dlw_740 ?_
  refine lw_sld (k := 6 * i + 2) C0 hS (nI_add (6 * i) 2) (by omega) hL dlw_741 ?_
  refine lw_call (As := [.int (xs (6 * i + 1)), .int (xs (6 * i + 2))]) (rest := [.int r]) (n := 2) (v := some (.int r)) C0 hK hZ hPM hPX hgM (fun i j hi hj he => hap j i hj hi he.symm) hS hl.1 tw_1712 tw_1713 tw_1714 tw_14 tw_1715 ydf12_auction (by decide) (by decide) (by decide) rfl rfl (cf12_auction ph_ZX_ok hiM hfm) rfl (Nat.le_of_ble_eq_true rfl) (by omega) (by omega) dlw_742 (fun H locs hPM hPX hS => ?_)
  refine lv_icmp_eq (tgt := 1285) hx hb dlw_745 (by decide) (fun _ => ?_) (fun hne => absurd rfl hne)
  exact hnext S ax X' K' _ _ _ _ _ (by omega) (by omega) hrel' ⟨hSX, hPX, hPM, hiX, hiM, hgX, hgM, hap⟩ hS hl
set_option maxHeartbeats 4000000 in
theorem lwc_undo {Rel : ph_Sh → ph_Mem → ph_Mem → Prop} (hst : lws_undo Rel) {p : Program} {l : Launch} {e : Env} {s : State} {m : MethodId} {below : List Frame} {meth : Method} {c : Code} {b L : Nat} {xs : Nat → Int32} (hL : L ≤ 3072) (C0 : lw_At p s m meth c b L xs) {D : va_G} {cA tb adK adV : Nat → Nat} (hK : va_K D ph_cl (ph_tys cA) s) (hZ : ph_ZX tb adK adV (fun q => s.heap.size ≤ q) s) {i kc ks : Nat} (hi : 6 * i + 6 ≤ L) (hkc : kc + 3 ≤ 600000) (hks : ks + 475 ≤ 7302250) {am : Nat → Nat} {Q : State → Prop} (hnext : ∀ (S : ph_Sh) (ax : Nat → Nat) (X K : ph_Mem) (kc' ks' : Nat) (H : Heap) (locs : List Loc) (ls : Array Slot), kc' ≤ kc + 3 → ks' ≤ ks + 475 → Rel S X K → lw_Wd D cA s S ax X am K H → va_S (fun q => s.heap.size ≤ q) s.heap H locs → lv_has ls 4 [(0, .ref b), (1, .ref (ax 0)), (2, .ref (am 0)), (3, .int (nI (6 * i)))] → W p l e room_1 s m #[Value.ref b] below meth c H locs kc' ks' Q (F0 m 1285 ls [])) {S : ph_Sh} {ax : Nat → Nat} {X K : ph_Mem} {H : Heap} {locs : List Loc} {ls : Array Slot} (hrel : Rel S X K) (hw : lw_Wd D cA s S ax X am K H) (hS : va_S (fun q => s.heap.size ≤ q) s.heap H locs) (hl : lv_has ls 4 [(0, .ref b), (1, .ref (ax 0)), (2, .ref (am 0)), (3, .int (nI (6 * i)))]) : W p l e room_1 s m #[Value.ref b] below meth c H locs kc ks Q (F0 m 750 ls []) := by
  obtain ⟨hx, hb, hr, hml, hown, hts0, hX, hbl, hlk, hgv⟩ := id C0
  obtain ⟨hSX, hPX, hPM, hiX, hiM, hgX, hgM, hap⟩ := hw
  obtain ⟨r, X', K', hfx, hfm, hrel'⟩ := hst S X K hrel 
  refine lv_aload_n hx hb dlw_750 rfl (lv_at hl 1 rfl) ?_
  refine lw_call (As := []) (rest := []) (n := 0) (v := some (.int r)) C0 hK hZ hPX hPM hgX hap hS hl.1 tw_926 tw_927 tw_928 tw_1 tw_929 ydf11_undo (by decide) (by decide) (by have := hSX.1; omega) (ph_kc0 hSX) rfl (cf11_undo hiX hSX hfx) rfl (by decide) (by omega) (by omega) dlw_751 (fun H locs hPX hPM hS => ?_)
  refine lv_aload_n hx hb dlw_754 rfl (lv_at hl 2 rfl) ?_
  refine lw_call (As := []) (rest := [.int r]) (n := 0) (v := some (.int r)) C0 hK hZ hPM hPX hgM (fun i j hi hj he => hap j i hj hi he.symm) hS hl.1 tw_1645 tw_1646 tw_1647 tw_14 tw_1648 ydf12_undo (by decide) (by decide) (by decide) rfl rfl (cf12_undo ph_ZX_ok hiM hfm) rfl (Nat.le_of_ble_eq_true rfl) (by omega) (by omega) dlw_755 (fun H locs hPM hPX hS => ?_)
  refine lv_icmp_eq (tgt := 1285) hx hb dlw_758 (by decide) (fun _ => ?_) (fun hne => absurd rfl hne)
  exact hnext S ax X' K' _ _ _ _ _ (by omega) (by omega) hrel' ⟨hSX, hPX, hPM, hiX, hiM, hgX, hgM, hap⟩ hS hl
set_option maxHeartbeats 4000000 in
theorem lwc_met {Rel : ph_Sh → ph_Mem → ph_Mem → Prop} (hst : lws_met Rel) {p : Program} {l : Launch} {e : Env} {s : State} {m : MethodId} {below : List Frame} {meth : Method} {c : Code} {b L : Nat} {xs : Nat → Int32} (hL : L ≤ 3072) (C0 : lw_At p s m meth c b L xs) {D : va_G} {cA tb adK adV : Nat → Nat} (hK : va_K D ph_cl (ph_tys cA) s) (hZ : ph_ZX tb adK adV (fun q => s.heap.size ≤ q) s) {i kc ks : Nat} (hi : 6 * i + 6 ≤ L) (hkc : kc + 3 ≤ 600000) (hks : ks + 475 ≤ 7302250) {am : Nat → Nat} {Q : State → Prop} (hnext : ∀ (S : ph_Sh) (ax : Nat → Nat) (X K : ph_Mem) (kc' ks' : Nat) (H : Heap) (locs : List Loc) (ls : Array Slot), kc' ≤ kc + 3 → ks' ≤ ks + 475 → Rel S X K → lw_Wd D cA s S ax X am K H → va_S (fun q => s.heap.size ≤ q) s.heap H locs → lv_has ls 4 [(0, .ref b), (1, .ref (ax 0)), (2, .ref (am 0)), (3, .int (nI (6 * i)))] → W p l e room_1 s m #[Value.ref b] below meth c H locs kc' ks' Q (F0 m 1285 ls [])) {S : ph_Sh} {ax : Nat → Nat} {X K : ph_Mem} {H : Heap} {locs : List Loc} {ls : Array Slot} (hrel : Rel S X K) (hw : lw_Wd D cA s S ax X am K H) (hS : va_S (fun q => s.heap.size ≤ q) s.heap H locs) (hl : lv_has ls 4 [(0, .ref b), (1, .ref (ax 0)), (2, .ref (am 0)), (3, .int (nI (6 * i)))]) : W p l e room_1 s m #[Value.ref b] below meth c H locs kc ks Q (F0 m 763 ls []) := by
  obtain ⟨hx, hb, hr, hml, hown, hts0, hX, hbl, hlk, hgv⟩ := id C0
  obtain ⟨hSX, hPX, hPM, hiX, hiM, hgX, hgM, hap⟩ := hw
  obtain ⟨r, K', hfx, hfm, hrel'⟩ := hst S X K hrel (xs (6 * i + 1)) (xs (6 * i + 2)) (xs (6 * i + 3))
  refine lv_aload_n hx hb dlw_763 rfl (lv_at hl 1 rfl) ?_
  refine lv_aload_n hx hb dlw_764 rfl (lv_at hl 0 rfl) ?_
  refine lv_iload_n hx hb dlw_765 rfl (lv_at hl 3 rfl) ?_
  refine lv_iconst (v := 1) hx hb dlw_766 (by decide) ?_
  refine lv_iadd hx hb dlw_767 ?_
  refine lw_sld (k := 6 * i + 1) C0 hS (nI_add (6 * i) 1) (by omega) hL dlw_768 ?_
  refine lv_aload_n hx hb dlw_769 rfl (lv_at hl 0 rfl) ?_
  refine lv_iload_n hx hb dlw_770 rfl (lv_at hl 3 rfl) ?_
  refine lv_iconst (v := 2) hx hb dlw_771 (by decide) ?_
  refine lv_iadd hx hb dlw_772 ?_
  refine lw_sld (k := 6 * i + 2) C0 hS (nI_add (6 * i) 2) (by omega) hL dlw_773 ?_
  refine lv_aload_n hx hb dlw_774 rfl (lv_at hl 0 rfl) ?_
  refine lv_iload_n hx hb dlw_775 rfl (lv_at hl 3 rfl) ?_
  refine lv_iconst (v := 3) hx hb dlw_776 (by decide) ?_
  refine lv_iadd hx hb dlw_777 ?_
  refine lw_sld (k := 6 * i + 3) C0 hS (nI_add (6 * i) 3) (by omega) hL dlw_778 ?_
  refine lw_call (As := [.int (xs (6 * i + 1)), .int (xs (6 * i + 2)), .int (xs (6 * i + 3))]) (rest := []) (n := 3) (v := some (.int r)) C0 hK hZ hPX hPM hgX hap hS hl.1 tw_935 tw_936 tw_937 tw_1 tw_938 ydf11_met (by decide) (by decide) (by have := hSX.1; omega) (ph_kc0 hSX) rfl (cf11_met hiX hSX hfx) rfl (by decide) (by omega) (by omega) dlw_779 (fun H locs hPX hPM hS => ?_)
  refine lv_aload_n hx hb dlw_782 rfl (lv_at hl 2 rfl) ?_
  refine lv_aload_n hx hb dlw_783 rfl (lv_at hl 0 rfl) ?_
  refine lv_iload_n hx hb dlw_784 rfl (lv_at hl 3 rfl) ?_
  refine lv_iconst (v := 1) hx hb dlw_785 (by decide) ?_
  refine lv_iadd hx hb dlw_786 ?_
  refine lw_sld (k := 6 * i + 1) C0 hS (nI_add (6 * i) 1) (by omega) hL dlw_787 ?_
  refine lv_aload_n hx hb dlw_788 rfl (lv_at hl 0 rfl) ?_
  refine lv_iload_n hx hb dlw_789 rfl (lv_at hl 3 rfl) ?_
  refine lv_iconst (v := 2) hx hb dlw_790 (by decide) ?_
  refine lv_iadd hx hb dlw_791 ?_
  refine lw_sld (k := 6 * i + 2) C0 hS (nI_add (6 * i) 2) (by omega) hL dlw_792 ?_
  refine lv_aload_n hx hb dlw_793 rfl (lv_at hl 0 rfl) ?_
  refine lv_iload_n hx hb dlw_794 rfl (lv_at hl 3 rfl) ?_
  refine lv_iconst (v := 3) hx hb dlw_795 (by decide) ?_
  refine lv_iadd hx hb dlw_796 ?_
  refine lw_sld (k := 6 * i + 3) C0 hS (nI_add (6 * i) 3) (by omega) hL dlw_797 ?_
  refine lw_call (As := [.int (xs (6 * i + 1)), .int (xs (6 * i + 2)), .int (xs (6 * i + 3))]) (rest := [.int r]) (n := 3) (v := some (.int r)) C0 hK hZ hPM hPX hgM (fun i j hi hj he => hap j i hj hi he.symm) hS hl.1 tw_1716 tw_1717 tw_1718 tw_14 tw_1719 ydf12_met (by decide) (by decide) (by decide) rfl rfl (cf12_met ph_ZX_ok hiM hfm) rfl (Nat.le_of_ble_eq_true rfl) (by omega) (by omega) dlw_798 (fun H locs hPM hPX hS => ?_)
  refine lv_icmp_eq (tgt := 1285) hx hb dlw_801 (by decide) (fun _ => ?_) (fun hne => absurd rfl hne)
  exact hnext S ax X K' _ _ _ _ _ (by omega) (by omega) hrel' ⟨hSX, hPX, hPM, hiX, hiM, hgX, hgM, hap⟩ hS hl
set_option maxHeartbeats 4000000 in
theorem lwc_learned {Rel : ph_Sh → ph_Mem → ph_Mem → Prop} (hst : lws_learned Rel) {p : Program} {l : Launch} {e : Env} {s : State} {m : MethodId} {below : List Frame} {meth : Method} {c : Code} {b L : Nat} {xs : Nat → Int32} (hL : L ≤ 3072) (C0 : lw_At p s m meth c b L xs) {D : va_G} {cA tb adK adV : Nat → Nat} (hK : va_K D ph_cl (ph_tys cA) s) (hZ : ph_ZX tb adK adV (fun q => s.heap.size ≤ q) s) {i kc ks : Nat} (hi : 6 * i + 6 ≤ L) (hkc : kc + 3 ≤ 600000) (hks : ks + 475 ≤ 7302250) {am : Nat → Nat} {Q : State → Prop} (hnext : ∀ (S : ph_Sh) (ax : Nat → Nat) (X K : ph_Mem) (kc' ks' : Nat) (H : Heap) (locs : List Loc) (ls : Array Slot), kc' ≤ kc + 3 → ks' ≤ ks + 475 → Rel S X K → lw_Wd D cA s S ax X am K H → va_S (fun q => s.heap.size ≤ q) s.heap H locs → lv_has ls 4 [(0, .ref b), (1, .ref (ax 0)), (2, .ref (am 0)), (3, .int (nI (6 * i)))] → W p l e room_1 s m #[Value.ref b] below meth c H locs kc' ks' Q (F0 m 1285 ls [])) {S : ph_Sh} {ax : Nat → Nat} {X K : ph_Mem} {H : Heap} {locs : List Loc} {ls : Array Slot} (hrel : Rel S X K) (hw : lw_Wd D cA s S ax X am K H) (hS : va_S (fun q => s.heap.size ≤ q) s.heap H locs) (hl : lv_has ls 4 [(0, .ref b), (1, .ref (ax 0)), (2, .ref (am 0)), (3, .int (nI (6 * i)))]) : W p l e room_1 s m #[Value.ref b] below meth c H locs kc ks Q (F0 m 806 ls []) := by
  obtain ⟨hx, hb, hr, hml, hown, hts0, hX, hbl, hlk, hgv⟩ := id C0
  obtain ⟨hSX, hPX, hPM, hiX, hiM, hgX, hgM, hap⟩ := hw
  obtain ⟨r, K', hfx, hfm, hrel'⟩ := hst S X K hrel (xs (6 * i + 1)) (xs (6 * i + 2))
  refine lv_aload_n hx hb dlw_806 rfl (lv_at hl 1 rfl) ?_
  refine lv_aload_n hx hb dlw_807 rfl (lv_at hl 0 rfl) ?_
  refine lv_iload_n hx hb dlw_808 rfl (lv_at hl 3 rfl) ?_
  refine lv_iconst (v := 1) hx hb dlw_809 (by decide) ?_
  refine lv_iadd hx hb dlw_810 ?_
  refine lw_sld (k := 6 * i + 1) C0 hS (nI_add (6 * i) 1) (by omega) hL dlw_811 ?_
  refine lv_aload_n hx hb dlw_812 rfl (lv_at hl 0 rfl) ?_
  refine lv_iload_n hx hb dlw_813 rfl (lv_at hl 3 rfl) ?_
  refine lv_iconst (v := 2) hx hb dlw_814 (by decide) ?_
  refine lv_iadd hx hb dlw_815 ?_
  refine lw_sld (k := 6 * i + 2) C0 hS (nI_add (6 * i) 2) (by omega) hL dlw_816 ?_
  refine lw_call (As := [.int (xs (6 * i + 1)), .int (xs (6 * i + 2))]) (rest := []) (n := 2) (v := some (.int r)) C0 hK hZ hPX hPM hgX hap hS hl.1 tw_959 tw_960 tw_961 tw_1 tw_962 ydf11_learned (by decide) (by decide) (by have := hSX.1; omega) (ph_kc0 hSX) rfl (cf11_learned hiX hSX hfx) rfl (by decide) (by omega) (by omega) dlw_817 (fun H locs hPX hPM hS => ?_)
  refine lv_aload_n hx hb dlw_820 rfl (lv_at hl 2 rfl) ?_
  refine lv_aload_n hx hb dlw_821 rfl (lv_at hl 0 rfl) ?_
  refine lv_iload_n hx hb dlw_822 rfl (lv_at hl 3 rfl) ?_
  refine lv_iconst (v := 1) hx hb dlw_823 (by decide) ?_
  refine lv_iadd hx hb dlw_824 ?_
  refine lw_sld (k := 6 * i + 1) C0 hS (nI_add (6 * i) 1) (by omega) hL dlw_825 ?_
  refine lv_aload_n hx hb dlw_826 rfl (lv_at hl 0 rfl) ?_
  refine lv_iload_n hx hb dlw_827 rfl (lv_at hl 3 rfl) ?_
  refine lv_iconst (v := 2) hx hb dlw_828 (by decide) ?_
  refine lv_iadd hx hb dlw_829 ?_
  refine lw_sld (k := 6 * i + 2) C0 hS (nI_add (6 * i) 2) (by omega) hL dlw_830 ?_
  refine lw_call (As := [.int (xs (6 * i + 1)), .int (xs (6 * i + 2))]) (rest := [.int r]) (n := 2) (v := some (.int r)) C0 hK hZ hPM hPX hgM (fun i j hi hj he => hap j i hj hi he.symm) hS hl.1 tw_1740 tw_1741 tw_1742 tw_14 tw_1743 ydf12_learned (by decide) (by decide) (by decide) rfl rfl (cf12_learned ph_ZX_ok hiM hfm) rfl (Nat.le_of_ble_eq_true rfl) (by omega) (by omega) dlw_831 (fun H locs hPM hPX hS => ?_)
  refine lv_icmp_eq (tgt := 1285) hx hb dlw_834 (by decide) (fun _ => ?_) (fun hne => absurd rfl hne)
  exact hnext S ax X K' _ _ _ _ _ (by omega) (by omega) hrel' ⟨hSX, hPX, hPM, hiX, hiM, hgX, hgM, hap⟩ hS hl
set_option maxHeartbeats 4000000 in
theorem lwc_deep {Rel : ph_Sh → ph_Mem → ph_Mem → Prop} (hst : lws_deep Rel) {p : Program} {l : Launch} {e : Env} {s : State} {m : MethodId} {below : List Frame} {meth : Method} {c : Code} {b L : Nat} {xs : Nat → Int32} (hL : L ≤ 3072) (C0 : lw_At p s m meth c b L xs) {D : va_G} {cA tb adK adV : Nat → Nat} (hK : va_K D ph_cl (ph_tys cA) s) (hZ : ph_ZX tb adK adV (fun q => s.heap.size ≤ q) s) {i kc ks : Nat} (hi : 6 * i + 6 ≤ L) (hkc : kc + 3 ≤ 600000) (hks : ks + 475 ≤ 7302250) {am : Nat → Nat} {Q : State → Prop} (hnext : ∀ (S : ph_Sh) (ax : Nat → Nat) (X K : ph_Mem) (kc' ks' : Nat) (H : Heap) (locs : List Loc) (ls : Array Slot), kc' ≤ kc + 3 → ks' ≤ ks + 475 → Rel S X K → lw_Wd D cA s S ax X am K H → va_S (fun q => s.heap.size ≤ q) s.heap H locs → lv_has ls 4 [(0, .ref b), (1, .ref (ax 0)), (2, .ref (am 0)), (3, .int (nI (6 * i)))] → W p l e room_1 s m #[Value.ref b] below meth c H locs kc' ks' Q (F0 m 1285 ls [])) {S : ph_Sh} {ax : Nat → Nat} {X K : ph_Mem} {H : Heap} {locs : List Loc} {ls : Array Slot} (hrel : Rel S X K) (hw : lw_Wd D cA s S ax X am K H) (hS : va_S (fun q => s.heap.size ≤ q) s.heap H locs) (hl : lv_has ls 4 [(0, .ref b), (1, .ref (ax 0)), (2, .ref (am 0)), (3, .int (nI (6 * i)))]) : W p l e room_1 s m #[Value.ref b] below meth c H locs kc ks Q (F0 m 839 ls []) := by
  obtain ⟨hx, hb, hr, hml, hown, hts0, hX, hbl, hlk, hgv⟩ := id C0
  obtain ⟨hSX, hPX, hPM, hiX, hiM, hgX, hgM, hap⟩ := hw
  obtain ⟨r, K', hfx, hfm, hrel'⟩ := hst S X K hrel (xs (6 * i + 1))
  refine lv_aload_n hx hb dlw_839 rfl (lv_at hl 1 rfl) ?_
  refine lv_aload_n hx hb dlw_840 rfl (lv_at hl 0 rfl) ?_
  refine lv_iload_n hx hb dlw_841 rfl (lv_at hl 3 rfl) ?_
  refine lv_iconst (v := 1) hx hb dlw_842 (by decide) ?_
  refine lv_iadd hx hb dlw_843 ?_
  refine lw_sld (k := 6 * i + 1) C0 hS (nI_add (6 * i) 1) (by omega) hL dlw_844 ?_
  refine lw_call (As := [.int (xs (6 * i + 1))]) (rest := []) (n := 1) (v := some (.int r)) C0 hK hZ hPX hPM hgX hap hS hl.1 tw_964 tw_965 tw_966 tw_1 tw_967 ydf11_deep (by decide) (by decide) (by have := hSX.1; omega) (ph_kc0 hSX) rfl (cf11_deep hiX hSX hfx) rfl (by decide) (by omega) (by omega) dlw_845 (fun H locs hPX hPM hS => ?_)
  refine lv_aload_n hx hb dlw_848 rfl (lv_at hl 2 rfl) ?_
  refine lv_aload_n hx hb dlw_849 rfl (lv_at hl 0 rfl) ?_
  refine lv_iload_n hx hb dlw_850 rfl (lv_at hl 3 rfl) ?_
  refine lv_iconst (v := 1) hx hb dlw_851 (by decide) ?_
  refine lv_iadd hx hb dlw_852 ?_
  refine lw_sld (k := 6 * i + 1) C0 hS (nI_add (6 * i) 1) (by omega) hL dlw_853 ?_
  refine lw_call (As := [.int (xs (6 * i + 1))]) (rest := [.int r]) (n := 1) (v := some (.int r)) C0 hK hZ hPM hPX hgM (fun i j hi hj he => hap j i hj hi he.symm) hS hl.1 tw_1744 tw_1745 tw_1746 tw_14 tw_1747 ydf12_deep (by decide) (by decide) (by decide) rfl rfl (cf12_deep ph_ZX_ok hiM hfm) rfl (Nat.le_of_ble_eq_true rfl) (by omega) (by omega) dlw_854 (fun H locs hPM hPX hS => ?_)
  refine lv_icmp_eq (tgt := 1285) hx hb dlw_857 (by decide) (fun _ => ?_) (fun hne => absurd rfl hne)
  exact hnext S ax X K' _ _ _ _ _ (by omega) (by omega) hrel' ⟨hSX, hPX, hPM, hiX, hiM, hgX, hgM, hap⟩ hS hl
set_option maxHeartbeats 4000000 in
theorem lwc_lies {Rel : ph_Sh → ph_Mem → ph_Mem → Prop} (hst : lws_lies Rel) {p : Program} {l : Launch} {e : Env} {s : State} {m : MethodId} {below : List Frame} {meth : Method} {c : Code} {b L : Nat} {xs : Nat → Int32} (hL : L ≤ 3072) (C0 : lw_At p s m meth c b L xs) {D : va_G} {cA tb adK adV : Nat → Nat} (hK : va_K D ph_cl (ph_tys cA) s) (hZ : ph_ZX tb adK adV (fun q => s.heap.size ≤ q) s) {i kc ks : Nat} (hi : 6 * i + 6 ≤ L) (hkc : kc + 3 ≤ 600000) (hks : ks + 475 ≤ 7302250) {am : Nat → Nat} {Q : State → Prop} (hnext : ∀ (S : ph_Sh) (ax : Nat → Nat) (X K : ph_Mem) (kc' ks' : Nat) (H : Heap) (locs : List Loc) (ls : Array Slot), kc' ≤ kc + 3 → ks' ≤ ks + 475 → Rel S X K → lw_Wd D cA s S ax X am K H → va_S (fun q => s.heap.size ≤ q) s.heap H locs → lv_has ls 4 [(0, .ref b), (1, .ref (ax 0)), (2, .ref (am 0)), (3, .int (nI (6 * i)))] → W p l e room_1 s m #[Value.ref b] below meth c H locs kc' ks' Q (F0 m 1285 ls [])) {S : ph_Sh} {ax : Nat → Nat} {X K : ph_Mem} {H : Heap} {locs : List Loc} {ls : Array Slot} (hrel : Rel S X K) (hw : lw_Wd D cA s S ax X am K H) (hS : va_S (fun q => s.heap.size ≤ q) s.heap H locs) (hl : lv_has ls 4 [(0, .ref b), (1, .ref (ax 0)), (2, .ref (am 0)), (3, .int (nI (6 * i)))]) : W p l e room_1 s m #[Value.ref b] below meth c H locs kc ks Q (F0 m 862 ls []) := by
  obtain ⟨hx, hb, hr, hml, hown, hts0, hX, hbl, hlk, hgv⟩ := id C0
  obtain ⟨hSX, hPX, hPM, hiX, hiM, hgX, hgM, hap⟩ := hw
  obtain ⟨r, hfx, hfm, hrel'⟩ := hst S X K hrel (xs (6 * i + 1))
  refine lv_aload_n hx hb dlw_862 rfl (lv_at hl 1 rfl) ?_
  refine lv_aload_n hx hb dlw_863 rfl (lv_at hl 0 rfl) ?_
  refine lv_iload_n hx hb dlw_864 rfl (lv_at hl 3 rfl) ?_
  refine lv_iconst (v := 1) hx hb dlw_865 (by decide) ?_
  refine lv_iadd hx hb dlw_866 ?_
  refine lw_sld (k := 6 * i + 1) C0 hS (nI_add (6 * i) 1) (by omega) hL dlw_867 ?_
  refine lw_call (As := [.int (xs (6 * i + 1))]) (rest := []) (n := 1) (v := some (.int r)) C0 hK hZ hPX hPM hgX hap hS hl.1 tw_978 tw_979 tw_980 tw_1 tw_981 ydf11_lies (by decide) (by decide) (by have := hSX.1; omega) (ph_kc0 hSX) rfl (cf11_lies hiX hSX hfx) rfl (by decide) (by omega) (by omega) dlw_868 (fun H locs hPX hPM hS => ?_)
  refine lv_aload_n hx hb dlw_871 rfl (lv_at hl 2 rfl) ?_
  refine lv_aload_n hx hb dlw_872 rfl (lv_at hl 0 rfl) ?_
  refine lv_iload_n hx hb dlw_873 rfl (lv_at hl 3 rfl) ?_
  refine lv_iconst (v := 1) hx hb dlw_874 (by decide) ?_
  refine lv_iadd hx hb dlw_875 ?_
  refine lw_sld (k := 6 * i + 1) C0 hS (nI_add (6 * i) 1) (by omega) hL dlw_876 ?_
  refine lw_call (As := [.int (xs (6 * i + 1))]) (rest := [.int r]) (n := 1) (v := some (.int r)) C0 hK hZ hPM hPX hgM (fun i j hi hj he => hap j i hj hi he.symm) hS hl.1 tw_1756 tw_1757 tw_1758 tw_14 tw_1759 ydf12_lies (by decide) (by decide) (by decide) rfl rfl (cf12_lies ph_ZX_ok hiM hfm) rfl (Nat.le_of_ble_eq_true rfl) (by omega) (by omega) dlw_877 (fun H locs hPM hPX hS => ?_)
  refine lv_icmp_eq (tgt := 1285) hx hb dlw_880 (by decide) (fun _ => ?_) (fun hne => absurd rfl hne)
  exact hnext S ax X K _ _ _ _ _ (by omega) (by omega) hrel' ⟨hSX, hPX, hPM, hiX, hiM, hgX, hgM, hap⟩ hS hl
set_option maxHeartbeats 4000000 in
theorem lwc_forged {Rel : ph_Sh → ph_Mem → ph_Mem → Prop} (hst : lws_forged Rel) {p : Program} {l : Launch} {e : Env} {s : State} {m : MethodId} {below : List Frame} {meth : Method} {c : Code} {b L : Nat} {xs : Nat → Int32} (hL : L ≤ 3072) (C0 : lw_At p s m meth c b L xs) {D : va_G} {cA tb adK adV : Nat → Nat} (hK : va_K D ph_cl (ph_tys cA) s) (hZ : ph_ZX tb adK adV (fun q => s.heap.size ≤ q) s) {i kc ks : Nat} (hi : 6 * i + 6 ≤ L) (hkc : kc + 3 ≤ 600000) (hks : ks + 475 ≤ 7302250) {am : Nat → Nat} {Q : State → Prop} (hnext : ∀ (S : ph_Sh) (ax : Nat → Nat) (X K : ph_Mem) (kc' ks' : Nat) (H : Heap) (locs : List Loc) (ls : Array Slot), kc' ≤ kc + 3 → ks' ≤ ks + 475 → Rel S X K → lw_Wd D cA s S ax X am K H → va_S (fun q => s.heap.size ≤ q) s.heap H locs → lv_has ls 4 [(0, .ref b), (1, .ref (ax 0)), (2, .ref (am 0)), (3, .int (nI (6 * i)))] → W p l e room_1 s m #[Value.ref b] below meth c H locs kc' ks' Q (F0 m 1285 ls [])) {S : ph_Sh} {ax : Nat → Nat} {X K : ph_Mem} {H : Heap} {locs : List Loc} {ls : Array Slot} (hrel : Rel S X K) (hw : lw_Wd D cA s S ax X am K H) (hS : va_S (fun q => s.heap.size ≤ q) s.heap H locs) (hl : lv_has ls 4 [(0, .ref b), (1, .ref (ax 0)), (2, .ref (am 0)), (3, .int (nI (6 * i)))]) : W p l e room_1 s m #[Value.ref b] below meth c H locs kc ks Q (F0 m 885 ls []) := by
  obtain ⟨hx, hb, hr, hml, hown, hts0, hX, hbl, hlk, hgv⟩ := id C0
  obtain ⟨hSX, hPX, hPM, hiX, hiM, hgX, hgM, hap⟩ := hw
  obtain ⟨r, X', hfx, hfm, hrel'⟩ := hst S X K hrel (xs (6 * i + 1))
  refine lv_aload_n hx hb dlw_885 rfl (lv_at hl 1 rfl) ?_
  refine lv_aload_n hx hb dlw_886 rfl (lv_at hl 0 rfl) ?_
  refine lv_iload_n hx hb dlw_887 rfl (lv_at hl 3 rfl) ?_
  refine lv_iconst (v := 1) hx hb dlw_888 (by decide) ?_
  refine lv_iadd hx hb dlw_889 ?_
  refine lw_sld (k := 6 * i + 1) C0 hS (nI_add (6 * i) 1) (by omega) hL dlw_890 ?_
  refine lw_call (As := [.int (xs (6 * i + 1))]) (rest := []) (n := 1) (v := some (.int r)) C0 hK hZ hPX hPM hgX hap hS hl.1 tw_1001 tw_1002 tw_1003 tw_1 tw_1004 ydf11_forged (by decide) (by decide) (by have := hSX.1; omega) (ph_kc0 hSX) rfl (cf11_forged hiX hSX hfx) rfl (by decide) (by omega) (by omega) dlw_891 (fun H locs hPX hPM hS => ?_)
  refine lv_aload_n hx hb dlw_894 rfl (lv_at hl 2 rfl) ?_
  refine lv_aload_n hx hb dlw_895 rfl (lv_at hl 0 rfl) ?_
  refine lv_iload_n hx hb dlw_896 rfl (lv_at hl 3 rfl) ?_
  refine lv_iconst (v := 1) hx hb dlw_897 (by decide) ?_
  refine lv_iadd hx hb dlw_898 ?_
  refine lw_sld (k := 6 * i + 1) C0 hS (nI_add (6 * i) 1) (by omega) hL dlw_899 ?_
  refine lw_call (As := [.int (xs (6 * i + 1))]) (rest := [.int r]) (n := 1) (v := some (.int r)) C0 hK hZ hPM hPX hgM (fun i j hi hj he => hap j i hj hi he.symm) hS hl.1 tw_1764 tw_1765 tw_1766 tw_14 tw_1767 ydf12_forged (by decide) (by decide) (by decide) rfl rfl (cf12_forged ph_ZX_ok hiM hfm) rfl (Nat.le_of_ble_eq_true rfl) (by omega) (by omega) dlw_900 (fun H locs hPM hPX hS => ?_)
  refine lv_icmp_eq (tgt := 1285) hx hb dlw_903 (by decide) (fun _ => ?_) (fun hne => absurd rfl hne)
  exact hnext S ax X' K _ _ _ _ _ (by omega) (by omega) hrel' ⟨hSX, hPX, hPM, hiX, hiM, hgX, hgM, hap⟩ hS hl
set_option maxHeartbeats 4000000 in
theorem lwc_stray {Rel : ph_Sh → ph_Mem → ph_Mem → Prop} (hst : lws_stray Rel) {p : Program} {l : Launch} {e : Env} {s : State} {m : MethodId} {below : List Frame} {meth : Method} {c : Code} {b L : Nat} {xs : Nat → Int32} (hL : L ≤ 3072) (C0 : lw_At p s m meth c b L xs) {D : va_G} {cA tb adK adV : Nat → Nat} (hK : va_K D ph_cl (ph_tys cA) s) (hZ : ph_ZX tb adK adV (fun q => s.heap.size ≤ q) s) {i kc ks : Nat} (hi : 6 * i + 6 ≤ L) (hkc : kc + 3 ≤ 600000) (hks : ks + 475 ≤ 7302250) {am : Nat → Nat} {Q : State → Prop} (hnext : ∀ (S : ph_Sh) (ax : Nat → Nat) (X K : ph_Mem) (kc' ks' : Nat) (H : Heap) (locs : List Loc) (ls : Array Slot), kc' ≤ kc + 3 → ks' ≤ ks + 475 → Rel S X K → lw_Wd D cA s S ax X am K H → va_S (fun q => s.heap.size ≤ q) s.heap H locs → lv_has ls 4 [(0, .ref b), (1, .ref (ax 0)), (2, .ref (am 0)), (3, .int (nI (6 * i)))] → W p l e room_1 s m #[Value.ref b] below meth c H locs kc' ks' Q (F0 m 1285 ls [])) {S : ph_Sh} {ax : Nat → Nat} {X K : ph_Mem} {H : Heap} {locs : List Loc} {ls : Array Slot} (hrel : Rel S X K) (hw : lw_Wd D cA s S ax X am K H) (hS : va_S (fun q => s.heap.size ≤ q) s.heap H locs) (hl : lv_has ls 4 [(0, .ref b), (1, .ref (ax 0)), (2, .ref (am 0)), (3, .int (nI (6 * i)))]) : W p l e room_1 s m #[Value.ref b] below meth c H locs kc ks Q (F0 m 908 ls []) := by
  obtain ⟨hx, hb, hr, hml, hown, hts0, hX, hbl, hlk, hgv⟩ := id C0
  obtain ⟨hSX, hPX, hPM, hiX, hiM, hgX, hgM, hap⟩ := hw
  obtain ⟨r, hfx, hfm, hrel'⟩ := hst S X K hrel (xs (6 * i + 1)) (xs (6 * i + 2))
  refine lv_aload_n hx hb dlw_908 rfl (lv_at hl 1 rfl) ?_
  refine lv_aload_n hx hb dlw_909 rfl (lv_at hl 0 rfl) ?_
  refine lv_iload_n hx hb dlw_910 rfl (lv_at hl 3 rfl) ?_
  refine lv_iconst (v := 1) hx hb dlw_911 (by decide) ?_
  refine lv_iadd hx hb dlw_912 ?_
  refine lw_sld (k := 6 * i + 1) C0 hS (nI_add (6 * i) 1) (by omega) hL dlw_913 ?_
  refine lv_aload_n hx hb dlw_914 rfl (lv_at hl 0 rfl) ?_
  refine lv_iload_n hx hb dlw_915 rfl (lv_at hl 3 rfl) ?_
  refine lv_iconst (v := 2) hx hb dlw_916 (by decide) ?_
  refine lv_iadd hx hb dlw_917 ?_
  refine lw_sld (k := 6 * i + 2) C0 hS (nI_add (6 * i) 2) (by omega) hL dlw_918 ?_
  refine lw_call (As := [.int (xs (6 * i + 1)), .int (xs (6 * i + 2))]) (rest := []) (n := 2) (v := some (.int r)) C0 hK hZ hPX hPM hgX hap hS hl.1 tw_1024 tw_1025 tw_1026 tw_1 tw_1027 ydf11_stray (by decide) (by decide) (by have := hSX.1; omega) (ph_kc0 hSX) rfl (cf11_stray hiX hSX hfx) rfl (by decide) (by omega) (by omega) dlw_919 (fun H locs hPX hPM hS => ?_)
  refine lv_aload_n hx hb dlw_922 rfl (lv_at hl 2 rfl) ?_
  refine lv_aload_n hx hb dlw_923 rfl (lv_at hl 0 rfl) ?_
  refine lv_iload_n hx hb dlw_924 rfl (lv_at hl 3 rfl) ?_
  refine lv_iconst (v := 1) hx hb dlw_925 (by decide) ?_
  refine lv_iadd hx hb dlw_926 ?_
  refine lw_sld (k := 6 * i + 1) C0 hS (nI_add (6 * i) 1) (by omega) hL dlw_927 ?_
  refine lv_aload_n hx hb dlw_928 rfl (lv_at hl 0 rfl) ?_
  refine lv_iload_n hx hb dlw_929 rfl (lv_at hl 3 rfl) ?_
  refine lv_iconst (v := 2) hx hb dlw_930 (by decide) ?_
  refine lv_iadd hx hb dlw_931 ?_
  refine lw_sld (k := 6 * i + 2) C0 hS (nI_add (6 * i) 2) (by omega) hL dlw_932 ?_
  refine lw_call (As := [.int (xs (6 * i + 1)), .int (xs (6 * i + 2))]) (rest := [.int r]) (n := 2) (v := some (.int r)) C0 hK hZ hPM hPX hgM (fun i j hi hj he => hap j i hj hi he.symm) hS hl.1 tw_1772 tw_1773 tw_1774 tw_14 tw_1775 ydf12_stray (by decide) (by decide) (by decide) rfl rfl (cf12_stray ph_ZX_ok hiM hfm) rfl (Nat.le_of_ble_eq_true rfl) (by omega) (by omega) dlw_933 (fun H locs hPM hPX hS => ?_)
  refine lv_icmp_eq (tgt := 1285) hx hb dlw_936 (by decide) (fun _ => ?_) (fun hne => absurd rfl hne)
  exact hnext S ax X K _ _ _ _ _ (by omega) (by omega) hrel' ⟨hSX, hPX, hPM, hiX, hiM, hgX, hgM, hap⟩ hS hl
set_option maxHeartbeats 4000000 in
theorem lwc_raise {Rel : ph_Sh → ph_Mem → ph_Mem → Prop} (hst : lws_raise Rel) {p : Program} {l : Launch} {e : Env} {s : State} {m : MethodId} {below : List Frame} {meth : Method} {c : Code} {b L : Nat} {xs : Nat → Int32} (hL : L ≤ 3072) (C0 : lw_At p s m meth c b L xs) {D : va_G} {cA tb adK adV : Nat → Nat} (hK : va_K D ph_cl (ph_tys cA) s) (hZ : ph_ZX tb adK adV (fun q => s.heap.size ≤ q) s) {i kc ks : Nat} (hi : 6 * i + 6 ≤ L) (hkc : kc + 3 ≤ 600000) (hks : ks + 475 ≤ 7302250) {am : Nat → Nat} {Q : State → Prop} (hnext : ∀ (S : ph_Sh) (ax : Nat → Nat) (X K : ph_Mem) (kc' ks' : Nat) (H : Heap) (locs : List Loc) (ls : Array Slot), kc' ≤ kc + 3 → ks' ≤ ks + 475 → Rel S X K → lw_Wd D cA s S ax X am K H → va_S (fun q => s.heap.size ≤ q) s.heap H locs → lv_has ls 4 [(0, .ref b), (1, .ref (ax 0)), (2, .ref (am 0)), (3, .int (nI (6 * i)))] → W p l e room_1 s m #[Value.ref b] below meth c H locs kc' ks' Q (F0 m 1285 ls [])) {S : ph_Sh} {ax : Nat → Nat} {X K : ph_Mem} {H : Heap} {locs : List Loc} {ls : Array Slot} (hrel : Rel S X K) (hw : lw_Wd D cA s S ax X am K H) (hS : va_S (fun q => s.heap.size ≤ q) s.heap H locs) (hl : lv_has ls 4 [(0, .ref b), (1, .ref (ax 0)), (2, .ref (am 0)), (3, .int (nI (6 * i)))]) : W p l e room_1 s m #[Value.ref b] below meth c H locs kc ks Q (F0 m 941 ls []) := by
  obtain ⟨hx, hb, hr, hml, hown, hts0, hX, hbl, hlk, hgv⟩ := id C0
  obtain ⟨hSX, hPX, hPM, hiX, hiM, hgX, hgM, hap⟩ := hw
  obtain ⟨r, X', K', hfx, hfm, hrel'⟩ := hst S X K hrel (xs (6 * i + 1)) (xs (6 * i + 2)) (xs (6 * i + 3)) (xs (6 * i + 4))
  refine lv_aload_n hx hb dlw_941 rfl (lv_at hl 1 rfl) ?_
  refine lv_aload_n hx hb dlw_942 rfl (lv_at hl 0 rfl) ?_
  refine lv_iload_n hx hb dlw_943 rfl (lv_at hl 3 rfl) ?_
  refine lv_iconst (v := 1) hx hb dlw_944 (by decide) ?_
  refine lv_iadd hx hb dlw_945 ?_
  refine lw_sld (k := 6 * i + 1) C0 hS (nI_add (6 * i) 1) (by omega) hL dlw_946 ?_
  refine lv_aload_n hx hb dlw_947 rfl (lv_at hl 0 rfl) ?_
  refine lv_iload_n hx hb dlw_948 rfl (lv_at hl 3 rfl) ?_
  refine lv_iconst (v := 2) hx hb dlw_949 (by decide) ?_
  refine lv_iadd hx hb dlw_950 ?_
  refine lw_sld (k := 6 * i + 2) C0 hS (nI_add (6 * i) 2) (by omega) hL dlw_951 ?_
  refine lv_aload_n hx hb dlw_952 rfl (lv_at hl 0 rfl) ?_
  refine lv_iload_n hx hb dlw_953 rfl (lv_at hl 3 rfl) ?_
  refine lv_iconst (v := 3) hx hb dlw_954 (by decide) ?_
  refine lv_iadd hx hb dlw_955 ?_
  refine lw_sld (k := 6 * i + 3) C0 hS (nI_add (6 * i) 3) (by omega) hL dlw_956 ?_
  refine lv_aload_n hx hb dlw_957 rfl (lv_at hl 0 rfl) ?_
  refine lv_iload_n hx hb dlw_958 rfl (lv_at hl 3 rfl) ?_
  refine lv_iconst (v := 4) hx hb dlw_959 (by decide) ?_
  refine lv_iadd hx hb dlw_960 ?_
  refine lw_sld (k := 6 * i + 4) C0 hS (nI_add (6 * i) 4) (by omega) hL dlw_961 ?_
  refine lw_call (As := [.int (xs (6 * i + 1)), .int (xs (6 * i + 2)), .int (xs (6 * i + 3)), .int (xs (6 * i + 4))]) (rest := []) (n := 4) (v := some (.int r)) C0 hK hZ hPX hPM hgX hap hS hl.1 tw_1037 tw_1038 tw_1039 tw_1 tw_1040 ydf11_raise (by decide) (by decide) (by have := hSX.1; omega) (ph_kc0 hSX) rfl (cf11_raise hiX hSX hfx) rfl (by decide) (by omega) (by omega) dlw_962 (fun H locs hPX hPM hS => ?_)
  refine lv_aload_n hx hb dlw_965 rfl (lv_at hl 2 rfl) ?_
  refine lv_aload_n hx hb dlw_966 rfl (lv_at hl 0 rfl) ?_
  refine lv_iload_n hx hb dlw_967 rfl (lv_at hl 3 rfl) ?_
  refine lv_iconst (v := 1) hx hb dlw_968 (by decide) ?_
  refine lv_iadd hx hb dlw_969 ?_
  refine lw_sld (k := 6 * i + 1) C0 hS (nI_add (6 * i) 1) (by omega) hL dlw_970 ?_
  refine lv_aload_n hx hb dlw_971 rfl (lv_at hl 0 rfl) ?_
  refine lv_iload_n hx hb dlw_972 rfl (lv_at hl 3 rfl) ?_
  refine lv_iconst (v := 2) hx hb dlw_973 (by decide) ?_
  refine lv_iadd hx hb dlw_974 ?_
  refine lw_sld (k := 6 * i + 2) C0 hS (nI_add (6 * i) 2) (by omega) hL dlw_975 ?_
  refine lv_aload_n hx hb dlw_976 rfl (lv_at hl 0 rfl) ?_
  refine lv_iload_n hx hb dlw_977 rfl (lv_at hl 3 rfl) ?_
  refine lv_iconst (v := 3) hx hb dlw_978 (by decide) ?_
  refine lv_iadd hx hb dlw_979 ?_
  refine lw_sld (k := 6 * i + 3) C0 hS (nI_add (6 * i) 3) (by omega) hL dlw_980 ?_
  refine lv_aload_n hx hb dlw_981 rfl (lv_at hl 0 rfl) ?_
  refine lv_iload_n hx hb dlw_982 rfl (lv_at hl 3 rfl) ?_
  refine lv_iconst (v := 4) hx hb dlw_983 (by decide) ?_
  refine lv_iadd hx hb dlw_984 ?_
  refine lw_sld (k := 6 * i + 4) C0 hS (nI_add (6 * i) 4) (by omega) hL dlw_985 ?_
  refine lw_call (As := [.int (xs (6 * i + 1)), .int (xs (6 * i + 2)), .int (xs (6 * i + 3)), .int (xs (6 * i + 4))]) (rest := [.int r]) (n := 4) (v := some (.int r)) C0 hK hZ hPM hPX hgM (fun i j hi hj he => hap j i hj hi he.symm) hS hl.1 tw_1776 tw_1777 tw_1778 tw_14 tw_1779 ydf12_raise (by decide) (by decide) (by decide) rfl rfl (cf12_raise ph_ZX_ok hiM hfm) rfl (Nat.le_of_ble_eq_true rfl) (by omega) (by omega) dlw_986 (fun H locs hPM hPX hS => ?_)
  refine lv_icmp_eq (tgt := 1285) hx hb dlw_989 (by decide) (fun _ => ?_) (fun hne => absurd rfl hne)
  exact hnext S ax X' K' _ _ _ _ _ (by omega) (by omega) hrel' ⟨hSX, hPX, hPM, hiX, hiM, hgX, hgM, hap⟩ hS hl
set_option maxHeartbeats 4000000 in
theorem lwc_cheapest {Rel : ph_Sh → ph_Mem → ph_Mem → Prop} (hst : lws_cheapest Rel) {p : Program} {l : Launch} {e : Env} {s : State} {m : MethodId} {below : List Frame} {meth : Method} {c : Code} {b L : Nat} {xs : Nat → Int32} (hL : L ≤ 3072) (C0 : lw_At p s m meth c b L xs) {D : va_G} {cA tb adK adV : Nat → Nat} (hK : va_K D ph_cl (ph_tys cA) s) (hZ : ph_ZX tb adK adV (fun q => s.heap.size ≤ q) s) {i kc ks : Nat} (hi : 6 * i + 6 ≤ L) (hkc : kc + 3 ≤ 600000) (hks : ks + 475 ≤ 7302250) {am : Nat → Nat} {Q : State → Prop} (hnext : ∀ (S : ph_Sh) (ax : Nat → Nat) (X K : ph_Mem) (kc' ks' : Nat) (H : Heap) (locs : List Loc) (ls : Array Slot), kc' ≤ kc + 3 → ks' ≤ ks + 475 → Rel S X K → lw_Wd D cA s S ax X am K H → va_S (fun q => s.heap.size ≤ q) s.heap H locs → lv_has ls 4 [(0, .ref b), (1, .ref (ax 0)), (2, .ref (am 0)), (3, .int (nI (6 * i)))] → W p l e room_1 s m #[Value.ref b] below meth c H locs kc' ks' Q (F0 m 1285 ls [])) {S : ph_Sh} {ax : Nat → Nat} {X K : ph_Mem} {H : Heap} {locs : List Loc} {ls : Array Slot} (hrel : Rel S X K) (hw : lw_Wd D cA s S ax X am K H) (hS : va_S (fun q => s.heap.size ≤ q) s.heap H locs) (hl : lv_has ls 4 [(0, .ref b), (1, .ref (ax 0)), (2, .ref (am 0)), (3, .int (nI (6 * i)))]) : W p l e room_1 s m #[Value.ref b] below meth c H locs kc ks Q (F0 m 994 ls []) := by
  obtain ⟨hx, hb, hr, hml, hown, hts0, hX, hbl, hlk, hgv⟩ := id C0
  obtain ⟨hSX, hPX, hPM, hiX, hiM, hgX, hgM, hap⟩ := hw
  obtain ⟨r, X', K', hfx, hfm, hrel'⟩ := hst S X K hrel (xs (6 * i + 1)) (xs (6 * i + 2))
  refine lv_aload_n hx hb dlw_994 rfl (lv_at hl 1 rfl) ?_
  refine lv_aload_n hx hb dlw_995 rfl (lv_at hl 0 rfl) ?_
  refine lv_iload_n hx hb dlw_996 rfl (lv_at hl 3 rfl) ?_
  refine lv_iconst (v := 1) hx hb dlw_997 (by decide) ?_
  refine lv_iadd hx hb dlw_998 ?_
  refine lw_sld (k := 6 * i + 1) C0 hS (nI_add (6 * i) 1) (by omega) hL dlw_999 ?_
  refine lv_aload_n hx hb dlw_1000 rfl (lv_at hl 0 rfl) ?_
  refine lv_iload_n hx hb dlw_1001 rfl (lv_at hl 3 rfl) ?_
  refine lv_iconst (v := 2) hx hb dlw_1002 (by decide) ?_
  refine lv_iadd hx hb dlw_1003 ?_
  refine lw_sld (k := 6 * i + 2) C0 hS (nI_add (6 * i) 2) (by omega) hL dlw_1004 ?_
  refine lw_call (As := [.int (xs (6 * i + 1)), .int (xs (6 * i + 2))]) (rest := []) (n := 2) (v := some (.int r)) C0 hK hZ hPX hPM hgX hap hS hl.1 tw_1059 tw_1060 tw_1061 tw_1 tw_1062 ydf11_cheapest (by decide) (by decide) (by have := hSX.1; omega) (ph_kc0 hSX) rfl (cf11_cheapest hiX hSX hfx) rfl (by decide) (by omega) (by omega) dlw_1005 (fun H locs hPX hPM hS => ?_)
  refine lv_aload_n hx hb dlw_1008 rfl (lv_at hl 2 rfl) ?_
  refine lv_aload_n hx hb dlw_1009 rfl (lv_at hl 0 rfl) ?_
  refine lv_iload_n hx hb dlw_1010 rfl (lv_at hl 3 rfl) ?_
  refine lv_iconst (v := 1) hx hb dlw_1011 (by decide) ?_
  refine lv_iadd hx hb dlw_1012 ?_
  refine lw_sld (k := 6 * i + 1) C0 hS (nI_add (6 * i) 1) (by omega) hL dlw_1013 ?_
  refine lv_aload_n hx hb dlw_1014 rfl (lv_at hl 0 rfl) ?_
  refine lv_iload_n hx hb dlw_1015 rfl (lv_at hl 3 rfl) ?_
  refine lv_iconst (v := 2) hx hb dlw_1016 (by decide) ?_
  refine lv_iadd hx hb dlw_1017 ?_
  refine lw_sld (k := 6 * i + 2) C0 hS (nI_add (6 * i) 2) (by omega) hL dlw_1018 ?_
  refine lw_call (As := [.int (xs (6 * i + 1)), .int (xs (6 * i + 2))]) (rest := [.int r]) (n := 2) (v := some (.int r)) C0 hK hZ hPM hPX hgM (fun i j hi hj he => hap j i hj hi he.symm) hS hl.1 tw_1780 tw_1781 tw_1782 tw_14 tw_1783 ydf12_cheapest (by decide) (by decide) (by decide) rfl rfl (cf12_cheapest ph_ZX_ok hiM hfm) rfl (Nat.le_of_ble_eq_true rfl) (by omega) (by omega) dlw_1019 (fun H locs hPM hPX hS => ?_)
  refine lv_icmp_eq (tgt := 1285) hx hb dlw_1022 (by decide) (fun _ => ?_) (fun hne => absurd rfl hne)
  exact hnext S ax X' K' _ _ _ _ _ (by omega) (by omega) hrel' ⟨hSX, hPX, hPM, hiX, hiM, hgX, hgM, hap⟩ hS hl
set_option maxHeartbeats 4000000 in
theorem lwc_bid {Rel : ph_Sh → ph_Mem → ph_Mem → Prop} (hst : lws_bid Rel) {p : Program} {l : Launch} {e : Env} {s : State} {m : MethodId} {below : List Frame} {meth : Method} {c : Code} {b L : Nat} {xs : Nat → Int32} (hL : L ≤ 3072) (C0 : lw_At p s m meth c b L xs) {D : va_G} {cA tb adK adV : Nat → Nat} (hK : va_K D ph_cl (ph_tys cA) s) (hZ : ph_ZX tb adK adV (fun q => s.heap.size ≤ q) s) {i kc ks : Nat} (hi : 6 * i + 6 ≤ L) (hkc : kc + 3 ≤ 600000) (hks : ks + 475 ≤ 7302250) {am : Nat → Nat} {Q : State → Prop} (hnext : ∀ (S : ph_Sh) (ax : Nat → Nat) (X K : ph_Mem) (kc' ks' : Nat) (H : Heap) (locs : List Loc) (ls : Array Slot), kc' ≤ kc + 3 → ks' ≤ ks + 475 → Rel S X K → lw_Wd D cA s S ax X am K H → va_S (fun q => s.heap.size ≤ q) s.heap H locs → lv_has ls 4 [(0, .ref b), (1, .ref (ax 0)), (2, .ref (am 0)), (3, .int (nI (6 * i)))] → W p l e room_1 s m #[Value.ref b] below meth c H locs kc' ks' Q (F0 m 1285 ls [])) {S : ph_Sh} {ax : Nat → Nat} {X K : ph_Mem} {H : Heap} {locs : List Loc} {ls : Array Slot} (hrel : Rel S X K) (hw : lw_Wd D cA s S ax X am K H) (hS : va_S (fun q => s.heap.size ≤ q) s.heap H locs) (hl : lv_has ls 4 [(0, .ref b), (1, .ref (ax 0)), (2, .ref (am 0)), (3, .int (nI (6 * i)))]) : W p l e room_1 s m #[Value.ref b] below meth c H locs kc ks Q (F0 m 1027 ls []) := by
  obtain ⟨hx, hb, hr, hml, hown, hts0, hX, hbl, hlk, hgv⟩ := id C0
  obtain ⟨hSX, hPX, hPM, hiX, hiM, hgX, hgM, hap⟩ := hw
  obtain ⟨r, X', K', hfx, hfm, hrel'⟩ := hst S X K hrel (xs (6 * i + 1)) (xs (6 * i + 2)) (xs (6 * i + 3))
  refine lv_aload_n hx hb dlw_1027 rfl (lv_at hl 1 rfl) ?_
  refine lv_aload_n hx hb dlw_1028 rfl (lv_at hl 0 rfl) ?_
  refine lv_iload_n hx hb dlw_1029 rfl (lv_at hl 3 rfl) ?_
  refine lv_iconst (v := 1) hx hb dlw_1030 (by decide) ?_
  refine lv_iadd hx hb dlw_1031 ?_
  refine lw_sld (k := 6 * i + 1) C0 hS (nI_add (6 * i) 1) (by omega) hL dlw_1032 ?_
  refine lv_aload_n hx hb dlw_1033 rfl (lv_at hl 0 rfl) ?_
  refine lv_iload_n hx hb dlw_1034 rfl (lv_at hl 3 rfl) ?_
  refine lv_iconst (v := 2) hx hb dlw_1035 (by decide) ?_
  refine lv_iadd hx hb dlw_1036 ?_
  refine lw_sld (k := 6 * i + 2) C0 hS (nI_add (6 * i) 2) (by omega) hL dlw_1037 ?_
  refine lv_aload_n hx hb dlw_1038 rfl (lv_at hl 0 rfl) ?_
  refine lv_iload_n hx hb dlw_1039 rfl (lv_at hl 3 rfl) ?_
  refine lv_iconst (v := 3) hx hb dlw_1040 (by decide) ?_
  refine lv_iadd hx hb dlw_1041 ?_
  refine lw_sld (k := 6 * i + 3) C0 hS (nI_add (6 * i) 3) (by omega) hL dlw_1042 ?_
  refine lw_call (As := [.int (xs (6 * i + 1)), .int (xs (6 * i + 2)), .int (xs (6 * i + 3))]) (rest := []) (n := 3) (v := some (.int r)) C0 hK hZ hPX hPM hgX hap hS hl.1 tw_1090 tw_1091 tw_1092 tw_1 tw_1093 ydf11_bid (by decide) (by decide) (by have := hSX.1; omega) (ph_kc0 hSX) rfl (cf11_bid hiX hSX hfx) rfl (by decide) (by omega) (by omega) dlw_1043 (fun H locs hPX hPM hS => ?_)
  refine lv_aload_n hx hb dlw_1046 rfl (lv_at hl 2 rfl) ?_
  refine lv_aload_n hx hb dlw_1047 rfl (lv_at hl 0 rfl) ?_
  refine lv_iload_n hx hb dlw_1048 rfl (lv_at hl 3 rfl) ?_
  refine lv_iconst (v := 1) hx hb dlw_1049 (by decide) ?_
  refine lv_iadd hx hb dlw_1050 ?_
  refine lw_sld (k := 6 * i + 1) C0 hS (nI_add (6 * i) 1) (by omega) hL dlw_1051 ?_
  refine lv_aload_n hx hb dlw_1052 rfl (lv_at hl 0 rfl) ?_
  refine lv_iload_n hx hb dlw_1053 rfl (lv_at hl 3 rfl) ?_
  refine lv_iconst (v := 2) hx hb dlw_1054 (by decide) ?_
  refine lv_iadd hx hb dlw_1055 ?_
  refine lw_sld (k := 6 * i + 2) C0 hS (nI_add (6 * i) 2) (by omega) hL dlw_1056 ?_
  refine lv_aload_n hx hb dlw_1057 rfl (lv_at hl 0 rfl) ?_
  refine lv_iload_n hx hb dlw_1058 rfl (lv_at hl 3 rfl) ?_
  refine lv_iconst (v := 3) hx hb dlw_1059 (by decide) ?_
  refine lv_iadd hx hb dlw_1060 ?_
  refine lw_sld (k := 6 * i + 3) C0 hS (nI_add (6 * i) 3) (by omega) hL dlw_1061 ?_
  refine lw_call (As := [.int (xs (6 * i + 1)), .int (xs (6 * i + 2)), .int (xs (6 * i + 3))]) (rest := [.int r]) (n := 3) (v := some (.int r)) C0 hK hZ hPM hPX hgM (fun i j hi hj he => hap j i hj hi he.symm) hS hl.1 tw_1801 tw_1802 tw_1803 tw_14 tw_1804 ydf12_bid (by decide) (by decide) (by decide) rfl rfl (cf12_bid ph_ZX_ok hiM hfm) rfl (Nat.le_of_ble_eq_true rfl) (by omega) (by omega) dlw_1062 (fun H locs hPM hPX hS => ?_)
  refine lv_icmp_eq (tgt := 1285) hx hb dlw_1065 (by decide) (fun _ => ?_) (fun hne => absurd rfl hne)
  exact hnext S ax X' K' _ _ _ _ _ (by omega) (by omega) hrel' ⟨hSX, hPX, hPM, hiX, hiM, hgX, hgM, hap⟩ hS hl
set_option maxHeartbeats 4000000 in
theorem lwc_sale {Rel : ph_Sh → ph_Mem → ph_Mem → Prop} (hst : lws_sale Rel) {p : Program} {l : Launch} {e : Env} {s : State} {m : MethodId} {below : List Frame} {meth : Method} {c : Code} {b L : Nat} {xs : Nat → Int32} (hL : L ≤ 3072) (C0 : lw_At p s m meth c b L xs) {D : va_G} {cA tb adK adV : Nat → Nat} (hK : va_K D ph_cl (ph_tys cA) s) (hZ : ph_ZX tb adK adV (fun q => s.heap.size ≤ q) s) {i kc ks : Nat} (hi : 6 * i + 6 ≤ L) (hkc : kc + 3 ≤ 600000) (hks : ks + 475 ≤ 7302250) {am : Nat → Nat} {Q : State → Prop} (hnext : ∀ (S : ph_Sh) (ax : Nat → Nat) (X K : ph_Mem) (kc' ks' : Nat) (H : Heap) (locs : List Loc) (ls : Array Slot), kc' ≤ kc + 3 → ks' ≤ ks + 475 → Rel S X K → lw_Wd D cA s S ax X am K H → va_S (fun q => s.heap.size ≤ q) s.heap H locs → lv_has ls 4 [(0, .ref b), (1, .ref (ax 0)), (2, .ref (am 0)), (3, .int (nI (6 * i)))] → W p l e room_1 s m #[Value.ref b] below meth c H locs kc' ks' Q (F0 m 1285 ls [])) {S : ph_Sh} {ax : Nat → Nat} {X K : ph_Mem} {H : Heap} {locs : List Loc} {ls : Array Slot} (hrel : Rel S X K) (hw : lw_Wd D cA s S ax X am K H) (hS : va_S (fun q => s.heap.size ≤ q) s.heap H locs) (hl : lv_has ls 4 [(0, .ref b), (1, .ref (ax 0)), (2, .ref (am 0)), (3, .int (nI (6 * i)))]) : W p l e room_1 s m #[Value.ref b] below meth c H locs kc ks Q (F0 m 1070 ls []) := by
  obtain ⟨hx, hb, hr, hml, hown, hts0, hX, hbl, hlk, hgv⟩ := id C0
  obtain ⟨hSX, hPX, hPM, hiX, hiM, hgX, hgM, hap⟩ := hw
  obtain ⟨r, X', K', hfx, hfm, hrel'⟩ := hst S X K hrel (xs (6 * i + 1))
  refine lv_aload_n hx hb dlw_1070 rfl (lv_at hl 1 rfl) ?_
  refine lv_aload_n hx hb dlw_1071 rfl (lv_at hl 0 rfl) ?_
  refine lv_iload_n hx hb dlw_1072 rfl (lv_at hl 3 rfl) ?_
  refine lv_iconst (v := 1) hx hb dlw_1073 (by decide) ?_
  refine lv_iadd hx hb dlw_1074 ?_
  refine lw_sld (k := 6 * i + 1) C0 hS (nI_add (6 * i) 1) (by omega) hL dlw_1075 ?_
  refine lw_call (As := [.int (xs (6 * i + 1))]) (rest := []) (n := 1) (v := some (.int r)) C0 hK hZ hPX hPM hgX hap hS hl.1 tw_1094 tw_1095 tw_1096 tw_1 tw_1097 ydf11_sale (by decide) (by decide) (by have := hSX.1; omega) (ph_kc0 hSX) rfl (cf11_sale hiX hSX hfx) rfl (by decide) (by omega) (by omega) dlw_1076 (fun H locs hPX hPM hS => ?_)
  refine lv_aload_n hx hb dlw_1079 rfl (lv_at hl 2 rfl) ?_
  refine lv_aload_n hx hb dlw_1080 rfl (lv_at hl 0 rfl) ?_
  refine lv_iload_n hx hb dlw_1081 rfl (lv_at hl 3 rfl) ?_
  refine lv_iconst (v := 1) hx hb dlw_1082 (by decide) ?_
  refine lv_iadd hx hb dlw_1083 ?_
  refine lw_sld (k := 6 * i + 1) C0 hS (nI_add (6 * i) 1) (by omega) hL dlw_1084 ?_
  refine lw_call (As := [.int (xs (6 * i + 1))]) (rest := [.int r]) (n := 1) (v := some (.int r)) C0 hK hZ hPM hPX hgM (fun i j hi hj he => hap j i hj hi he.symm) hS hl.1 tw_1805 tw_1806 tw_1807 tw_14 tw_1808 ydf12_sale (by decide) (by decide) (by decide) rfl rfl (cf12_sale ph_ZX_ok hiM hfm) rfl (Nat.le_of_ble_eq_true rfl) (by omega) (by omega) dlw_1085 (fun H locs hPM hPX hS => ?_)
  refine lv_icmp_eq (tgt := 1285) hx hb dlw_1088 (by decide) (fun _ => ?_) (fun hne => absurd rfl hne)
  exact hnext S ax X' K' _ _ _ _ _ (by omega) (by omega) hrel' ⟨hSX, hPX, hPM, hiX, hiM, hgX, hgM, hap⟩ hS hl
set_option maxHeartbeats 4000000 in
theorem lwc_lasting {Rel : ph_Sh → ph_Mem → ph_Mem → Prop} (hst : lws_lasting Rel) {p : Program} {l : Launch} {e : Env} {s : State} {m : MethodId} {below : List Frame} {meth : Method} {c : Code} {b L : Nat} {xs : Nat → Int32} (hL : L ≤ 3072) (C0 : lw_At p s m meth c b L xs) {D : va_G} {cA tb adK adV : Nat → Nat} (hK : va_K D ph_cl (ph_tys cA) s) (hZ : ph_ZX tb adK adV (fun q => s.heap.size ≤ q) s) {i kc ks : Nat} (hi : 6 * i + 6 ≤ L) (hkc : kc + 3 ≤ 600000) (hks : ks + 475 ≤ 7302250) {am : Nat → Nat} {Q : State → Prop} (hnext : ∀ (S : ph_Sh) (ax : Nat → Nat) (X K : ph_Mem) (kc' ks' : Nat) (H : Heap) (locs : List Loc) (ls : Array Slot), kc' ≤ kc + 3 → ks' ≤ ks + 475 → Rel S X K → lw_Wd D cA s S ax X am K H → va_S (fun q => s.heap.size ≤ q) s.heap H locs → lv_has ls 4 [(0, .ref b), (1, .ref (ax 0)), (2, .ref (am 0)), (3, .int (nI (6 * i)))] → W p l e room_1 s m #[Value.ref b] below meth c H locs kc' ks' Q (F0 m 1285 ls [])) {S : ph_Sh} {ax : Nat → Nat} {X K : ph_Mem} {H : Heap} {locs : List Loc} {ls : Array Slot} (hrel : Rel S X K) (hw : lw_Wd D cA s S ax X am K H) (hS : va_S (fun q => s.heap.size ≤ q) s.heap H locs) (hl : lv_has ls 4 [(0, .ref b), (1, .ref (ax 0)), (2, .ref (am 0)), (3, .int (nI (6 * i)))]) : W p l e room_1 s m #[Value.ref b] below meth c H locs kc ks Q (F0 m 1093 ls []) := by
  obtain ⟨hx, hb, hr, hml, hown, hts0, hX, hbl, hlk, hgv⟩ := id C0
  obtain ⟨hSX, hPX, hPM, hiX, hiM, hgX, hgM, hap⟩ := hw
  obtain ⟨r, X', K', hfx, hfm, hrel'⟩ := hst S X K hrel (xs (6 * i + 1)) (xs (6 * i + 2)) (xs (6 * i + 3))
  refine lv_aload_n hx hb dlw_1093 rfl (lv_at hl 1 rfl) ?_
  refine lv_aload_n hx hb dlw_1094 rfl (lv_at hl 0 rfl) ?_
  refine lv_iload_n hx hb dlw_1095 rfl (lv_at hl 3 rfl) ?_
  refine lv_iconst (v := 1) hx hb dlw_1096 (by decide) ?_
  refine lv_iadd hx hb dlw_1097 ?_
  refine lw_sld (k := 6 * i + 1) C0 hS (nI_add (6 * i) 1) (by omega) hL dlw_1098 ?_
  refine lv_aload_n hx hb dlw_1099 rfl (lv_at hl 0 rfl) ?_
  refine lv_iload_n hx hb dlw_1100 rfl (lv_at hl 3 rfl) ?_
  refine lv_iconst (v := 2) hx hb dlw_1101 (by decide) ?_
  refine lv_iadd hx hb dlw_1102 ?_
  refine lw_sld (k := 6 * i + 2) C0 hS (nI_add (6 * i) 2) (by omega) hL dlw_1103 ?_
  refine lv_aload_n hx hb dlw_1104 rfl (lv_at hl 0 rfl) ?_
  refine lv_iload_n hx hb dlw_1105 rfl (lv_at hl 3 rfl) ?_
  refine lv_iconst (v := 3) hx hb dlw_1106 (by decide) ?_
  refine lv_iadd hx hb dlw_1107 ?_
  refine lw_sld (k := 6 * i + 3) C0 hS (nI_add (6 * i) 3) (by omega) hL dlw_1108 ?_
  refine lw_call (As := [.int (xs (6 * i + 1)), .int (xs (6 * i + 2)), .int (xs (6 * i + 3))]) (rest := []) (n := 3) (v := some (.long r)) C0 hK hZ hPX hPM hgX hap hS hl.1 tw_1128 tw_1129 tw_1130 tw_1 tw_1131 ydf11_lasting (by decide) (by decide) (by have := hSX.1; omega) (ph_kc0 hSX) rfl (cf11_lasting hiX hSX hfx) rfl (by decide) (by omega) (by omega) dlw_1109 (fun H locs hPX hPM hS => ?_)
  refine lv_aload_n hx hb dlw_1112 rfl (lv_at hl 2 rfl) ?_
  refine lv_aload_n hx hb dlw_1113 rfl (lv_at hl 0 rfl) ?_
  refine lv_iload_n hx hb dlw_1114 rfl (lv_at hl 3 rfl) ?_
  refine lv_iconst (v := 1) hx hb dlw_1115 (by decide) ?_
  refine lv_iadd hx hb dlw_1116 ?_
  refine lw_sld (k := 6 * i + 1) C0 hS (nI_add (6 * i) 1) (by omega) hL dlw_1117 ?_
  refine lv_aload_n hx hb dlw_1118 rfl (lv_at hl 0 rfl) ?_
  refine lv_iload_n hx hb dlw_1119 rfl (lv_at hl 3 rfl) ?_
  refine lv_iconst (v := 2) hx hb dlw_1120 (by decide) ?_
  refine lv_iadd hx hb dlw_1121 ?_
  refine lw_sld (k := 6 * i + 2) C0 hS (nI_add (6 * i) 2) (by omega) hL dlw_1122 ?_
  refine lv_aload_n hx hb dlw_1123 rfl (lv_at hl 0 rfl) ?_
  refine lv_iload_n hx hb dlw_1124 rfl (lv_at hl 3 rfl) ?_
  refine lv_iconst (v := 3) hx hb dlw_1125 (by decide) ?_
  refine lv_iadd hx hb dlw_1126 ?_
  refine lw_sld (k := 6 * i + 3) C0 hS (nI_add (6 * i) 3) (by omega) hL dlw_1127 ?_
  refine lw_call (As := [.int (xs (6 * i + 1)), .int (xs (6 * i + 2)), .int (xs (6 * i + 3))]) (rest := [.long r]) (n := 3) (v := some (.long r)) C0 hK hZ hPM hPX hgM (fun i j hi hj he => hap j i hj hi he.symm) hS hl.1 tw_1813 tw_1814 tw_1815 tw_14 tw_1816 ydf12_lasting (by decide) (by decide) (by decide) rfl rfl (cf12_lasting ph_ZX_ok hiM hfm) rfl (Nat.le_of_ble_eq_true rfl) (by omega) (by omega) dlw_1128 (fun H locs hPM hPX hS => ?_)
  refine W.lcmp hx hb dlw_1131 ?_
  refine lv_if_eq (tgt := 1285) hx hb dlw_1132 (by decide) (fun _ => ?_) (fun hne => absurd (lw_cmp_self r) hne)
  exact hnext S ax X' K' _ _ _ _ _ (by omega) (by omega) hrel' ⟨hSX, hPX, hPM, hiX, hiM, hgX, hgM, hap⟩ hS hl
set_option maxHeartbeats 4000000 in
theorem lwc_years {Rel : ph_Sh → ph_Mem → ph_Mem → Prop} (hst : lws_years Rel) {p : Program} {l : Launch} {e : Env} {s : State} {m : MethodId} {below : List Frame} {meth : Method} {c : Code} {b L : Nat} {xs : Nat → Int32} (hL : L ≤ 3072) (C0 : lw_At p s m meth c b L xs) {D : va_G} {cA tb adK adV : Nat → Nat} (hK : va_K D ph_cl (ph_tys cA) s) (hZ : ph_ZX tb adK adV (fun q => s.heap.size ≤ q) s) {i kc ks : Nat} (hi : 6 * i + 6 ≤ L) (hkc : kc + 3 ≤ 600000) (hks : ks + 475 ≤ 7302250) {am : Nat → Nat} {Q : State → Prop} (hnext : ∀ (S : ph_Sh) (ax : Nat → Nat) (X K : ph_Mem) (kc' ks' : Nat) (H : Heap) (locs : List Loc) (ls : Array Slot), kc' ≤ kc + 3 → ks' ≤ ks + 475 → Rel S X K → lw_Wd D cA s S ax X am K H → va_S (fun q => s.heap.size ≤ q) s.heap H locs → lv_has ls 4 [(0, .ref b), (1, .ref (ax 0)), (2, .ref (am 0)), (3, .int (nI (6 * i)))] → W p l e room_1 s m #[Value.ref b] below meth c H locs kc' ks' Q (F0 m 1285 ls [])) {S : ph_Sh} {ax : Nat → Nat} {X K : ph_Mem} {H : Heap} {locs : List Loc} {ls : Array Slot} (hrel : Rel S X K) (hw : lw_Wd D cA s S ax X am K H) (hS : va_S (fun q => s.heap.size ≤ q) s.heap H locs) (hl : lv_has ls 4 [(0, .ref b), (1, .ref (ax 0)), (2, .ref (am 0)), (3, .int (nI (6 * i)))]) : W p l e room_1 s m #[Value.ref b] below meth c H locs kc ks Q (F0 m 1137 ls []) := by
  obtain ⟨hx, hb, hr, hml, hown, hts0, hX, hbl, hlk, hgv⟩ := id C0
  obtain ⟨hSX, hPX, hPM, hiX, hiM, hgX, hgM, hap⟩ := hw
  obtain ⟨r, X', K', hfx, hfm, hrel'⟩ := hst S X K hrel (xs (6 * i + 1)) (xs (6 * i + 2))
  refine lv_aload_n hx hb dlw_1137 rfl (lv_at hl 1 rfl) ?_
  refine lv_aload_n hx hb dlw_1138 rfl (lv_at hl 0 rfl) ?_
  refine lv_iload_n hx hb dlw_1139 rfl (lv_at hl 3 rfl) ?_
  refine lv_iconst (v := 1) hx hb dlw_1140 (by decide) ?_
  refine lv_iadd hx hb dlw_1141 ?_
  refine lw_sld (k := 6 * i + 1) C0 hS (nI_add (6 * i) 1) (by omega) hL dlw_1142 ?_
  refine lv_aload_n hx hb dlw_1143 rfl (lv_at hl 0 rfl) ?_
  refine lv_iload_n hx hb dlw_1144 rfl (lv_at hl 3 rfl) ?_
  refine lv_iconst (v := 2) hx hb dlw_1145 (by decide) ?_
  refine lv_iadd hx hb dlw_1146 ?_
  refine lw_sld (k := 6 * i + 2) C0 hS (nI_add (6 * i) 2) (by omega) hL dlw_1147 ?_
  refine lw_call (As := [.int (xs (6 * i + 1)), .int (xs (6 * i + 2))]) (rest := []) (n := 2) (v := some (.int r)) C0 hK hZ hPX hPM hgX hap hS hl.1 tw_1142 tw_1143 tw_1144 tw_1 tw_1145 ydf11_years (by decide) (by decide) (by have := hSX.1; omega) (ph_kc0 hSX) rfl (cf11_years hiX hSX hfx) rfl (by decide) (by omega) (by omega) dlw_1148 (fun H locs hPX hPM hS => ?_)
  refine lv_aload_n hx hb dlw_1151 rfl (lv_at hl 2 rfl) ?_
  refine lv_aload_n hx hb dlw_1152 rfl (lv_at hl 0 rfl) ?_
  refine lv_iload_n hx hb dlw_1153 rfl (lv_at hl 3 rfl) ?_
  refine lv_iconst (v := 1) hx hb dlw_1154 (by decide) ?_
  refine lv_iadd hx hb dlw_1155 ?_
  refine lw_sld (k := 6 * i + 1) C0 hS (nI_add (6 * i) 1) (by omega) hL dlw_1156 ?_
  refine lv_aload_n hx hb dlw_1157 rfl (lv_at hl 0 rfl) ?_
  refine lv_iload_n hx hb dlw_1158 rfl (lv_at hl 3 rfl) ?_
  refine lv_iconst (v := 2) hx hb dlw_1159 (by decide) ?_
  refine lv_iadd hx hb dlw_1160 ?_
  refine lw_sld (k := 6 * i + 2) C0 hS (nI_add (6 * i) 2) (by omega) hL dlw_1161 ?_
  refine lw_call (As := [.int (xs (6 * i + 1)), .int (xs (6 * i + 2))]) (rest := [.int r]) (n := 2) (v := some (.int r)) C0 hK hZ hPM hPX hgM (fun i j hi hj he => hap j i hj hi he.symm) hS hl.1 tw_1843 tw_1844 tw_1845 tw_14 tw_1846 ydf12_years (by decide) (by decide) (by decide) rfl rfl (cf12_years ph_ZX_ok hiM hfm) rfl (Nat.le_of_ble_eq_true rfl) (by omega) (by omega) dlw_1162 (fun H locs hPM hPX hS => ?_)
  refine lv_icmp_eq (tgt := 1285) hx hb dlw_1165 (by decide) (fun _ => ?_) (fun hne => absurd rfl hne)
  exact hnext S ax X' K' _ _ _ _ _ (by omega) (by omega) hrel' ⟨hSX, hPX, hPM, hiX, hiM, hgX, hgM, hap⟩ hS hl
set_option maxHeartbeats 4000000 in
theorem lwc_drawn {Rel : ph_Sh → ph_Mem → ph_Mem → Prop} (hst : lws_drawn Rel) {p : Program} {l : Launch} {e : Env} {s : State} {m : MethodId} {below : List Frame} {meth : Method} {c : Code} {b L : Nat} {xs : Nat → Int32} (hL : L ≤ 3072) (C0 : lw_At p s m meth c b L xs) {D : va_G} {cA tb adK adV : Nat → Nat} (hK : va_K D ph_cl (ph_tys cA) s) (hZ : ph_ZX tb adK adV (fun q => s.heap.size ≤ q) s) {i kc ks : Nat} (hi : 6 * i + 6 ≤ L) (hkc : kc + 3 ≤ 600000) (hks : ks + 475 ≤ 7302250) {am : Nat → Nat} {Q : State → Prop} (hnext : ∀ (S : ph_Sh) (ax : Nat → Nat) (X K : ph_Mem) (kc' ks' : Nat) (H : Heap) (locs : List Loc) (ls : Array Slot), kc' ≤ kc + 3 → ks' ≤ ks + 475 → Rel S X K → lw_Wd D cA s S ax X am K H → va_S (fun q => s.heap.size ≤ q) s.heap H locs → lv_has ls 4 [(0, .ref b), (1, .ref (ax 0)), (2, .ref (am 0)), (3, .int (nI (6 * i)))] → W p l e room_1 s m #[Value.ref b] below meth c H locs kc' ks' Q (F0 m 1285 ls [])) {S : ph_Sh} {ax : Nat → Nat} {X K : ph_Mem} {H : Heap} {locs : List Loc} {ls : Array Slot} (hrel : Rel S X K) (hw : lw_Wd D cA s S ax X am K H) (hS : va_S (fun q => s.heap.size ≤ q) s.heap H locs) (hl : lv_has ls 4 [(0, .ref b), (1, .ref (ax 0)), (2, .ref (am 0)), (3, .int (nI (6 * i)))]) : W p l e room_1 s m #[Value.ref b] below meth c H locs kc ks Q (F0 m 1170 ls []) := by
  obtain ⟨hx, hb, hr, hml, hown, hts0, hX, hbl, hlk, hgv⟩ := id C0
  obtain ⟨hSX, hPX, hPM, hiX, hiM, hgX, hgM, hap⟩ := hw
  obtain ⟨r, hfx, hfm, hrel'⟩ := hst S X K hrel (xs (6 * i + 1)) (xs (6 * i + 2))
  refine lv_aload_n hx hb dlw_1170 rfl (lv_at hl 1 rfl) ?_
  refine lv_aload_n hx hb dlw_1171 rfl (lv_at hl 0 rfl) ?_
  refine lv_iload_n hx hb dlw_1172 rfl (lv_at hl 3 rfl) ?_
  refine lv_iconst (v := 1) hx hb dlw_1173 (by decide) ?_
  refine lv_iadd hx hb dlw_1174 ?_
  refine lw_sld (k := 6 * i + 1) C0 hS (nI_add (6 * i) 1) (by omega) hL dlw_1175 ?_
  refine lv_aload_n hx hb dlw_1176 rfl (lv_at hl 0 rfl) ?_
  refine lv_iload_n hx hb dlw_1177 rfl (lv_at hl 3 rfl) ?_
  refine lv_iconst (v := 2) hx hb dlw_1178 (by decide) ?_
  refine lv_iadd hx hb dlw_1179 ?_
  refine lw_sld (k := 6 * i + 2) C0 hS (nI_add (6 * i) 2) (by omega) hL dlw_1180 ?_
  refine lw_call (As := [.int (xs (6 * i + 1)), .int (xs (6 * i + 2))]) (rest := []) (n := 2) (v := some (.int r)) C0 hK hZ hPX hPM hgX hap hS hl.1 tw_1168 tw_1169 tw_1170 tw_1 tw_1171 ydf11_drawn (by decide) (by decide) (by have := hSX.1; omega) (ph_kc0 hSX) rfl (cf11_drawn hiX hSX hfx) rfl (by decide) (by omega) (by omega) dlw_1181 (fun H locs hPX hPM hS => ?_)
  refine lv_aload_n hx hb dlw_1184 rfl (lv_at hl 2 rfl) ?_
  refine lv_aload_n hx hb dlw_1185 rfl (lv_at hl 0 rfl) ?_
  refine lv_iload_n hx hb dlw_1186 rfl (lv_at hl 3 rfl) ?_
  refine lv_iconst (v := 1) hx hb dlw_1187 (by decide) ?_
  refine lv_iadd hx hb dlw_1188 ?_
  refine lw_sld (k := 6 * i + 1) C0 hS (nI_add (6 * i) 1) (by omega) hL dlw_1189 ?_
  refine lv_aload_n hx hb dlw_1190 rfl (lv_at hl 0 rfl) ?_
  refine lv_iload_n hx hb dlw_1191 rfl (lv_at hl 3 rfl) ?_
  refine lv_iconst (v := 2) hx hb dlw_1192 (by decide) ?_
  refine lv_iadd hx hb dlw_1193 ?_
  refine lw_sld (k := 6 * i + 2) C0 hS (nI_add (6 * i) 2) (by omega) hL dlw_1194 ?_
  refine lw_call (As := [.int (xs (6 * i + 1)), .int (xs (6 * i + 2))]) (rest := [.int r]) (n := 2) (v := some (.int r)) C0 hK hZ hPM hPX hgM (fun i j hi hj he => hap j i hj hi he.symm) hS hl.1 tw_1854 tw_1855 tw_1856 tw_14 tw_1857 ydf12_drawn (by decide) (by decide) (by decide) rfl rfl (cf12_drawn ph_ZX_ok hiM hfm) rfl (Nat.le_of_ble_eq_true rfl) (by omega) (by omega) dlw_1195 (fun H locs hPM hPX hS => ?_)
  refine lv_icmp_eq (tgt := 1285) hx hb dlw_1198 (by decide) (fun _ => ?_) (fun hne => absurd rfl hne)
  exact hnext S ax X K _ _ _ _ _ (by omega) (by omega) hrel' ⟨hSX, hPX, hPM, hiX, hiM, hgX, hgM, hap⟩ hS hl
set_option maxHeartbeats 4000000 in
theorem lwc_image {Rel : ph_Sh → ph_Mem → ph_Mem → Prop} (hst : lws_image Rel) {p : Program} {l : Launch} {e : Env} {s : State} {m : MethodId} {below : List Frame} {meth : Method} {c : Code} {b L : Nat} {xs : Nat → Int32} (hL : L ≤ 3072) (C0 : lw_At p s m meth c b L xs) {D : va_G} {cA tb adK adV : Nat → Nat} (hK : va_K D ph_cl (ph_tys cA) s) (hZ : ph_ZX tb adK adV (fun q => s.heap.size ≤ q) s) {i kc ks : Nat} (hi : 6 * i + 6 ≤ L) (hkc : kc + 3 ≤ 600000) (hks : ks + 475 ≤ 7302250) {am : Nat → Nat} {Q : State → Prop} (hnext : ∀ (S : ph_Sh) (ax : Nat → Nat) (X K : ph_Mem) (kc' ks' : Nat) (H : Heap) (locs : List Loc) (ls : Array Slot), kc' ≤ kc + 3 → ks' ≤ ks + 475 → Rel S X K → lw_Wd D cA s S ax X am K H → va_S (fun q => s.heap.size ≤ q) s.heap H locs → lv_has ls 4 [(0, .ref b), (1, .ref (ax 0)), (2, .ref (am 0)), (3, .int (nI (6 * i)))] → W p l e room_1 s m #[Value.ref b] below meth c H locs kc' ks' Q (F0 m 1285 ls [])) {S : ph_Sh} {ax : Nat → Nat} {X K : ph_Mem} {H : Heap} {locs : List Loc} {ls : Array Slot} (hrel : Rel S X K) (hw : lw_Wd D cA s S ax X am K H) (hS : va_S (fun q => s.heap.size ≤ q) s.heap H locs) (hl : lv_has ls 4 [(0, .ref b), (1, .ref (ax 0)), (2, .ref (am 0)), (3, .int (nI (6 * i)))]) : W p l e room_1 s m #[Value.ref b] below meth c H locs kc ks Q (F0 m 1203 ls []) := by
  obtain ⟨hx, hb, hr, hml, hown, hts0, hX, hbl, hlk, hgv⟩ := id C0
  obtain ⟨hSX, hPX, hPM, hiX, hiM, hgX, hgM, hap⟩ := hw
  obtain ⟨r, X', K', hfx, hfm, hrel'⟩ := hst S X K hrel (xs (6 * i + 1))
  refine lv_aload_n hx hb dlw_1203 rfl (lv_at hl 1 rfl) ?_
  refine lv_aload_n hx hb dlw_1204 rfl (lv_at hl 0 rfl) ?_
  refine lv_iload_n hx hb dlw_1205 rfl (lv_at hl 3 rfl) ?_
  refine lv_iconst (v := 1) hx hb dlw_1206 (by decide) ?_
  refine lv_iadd hx hb dlw_1207 ?_
  refine lw_sld (k := 6 * i + 1) C0 hS (nI_add (6 * i) 1) (by omega) hL dlw_1208 ?_
  refine lw_call (As := [.int (xs (6 * i + 1))]) (rest := []) (n := 1) (v := some (.int r)) C0 hK hZ hPX hPM hgX hap hS hl.1 tw_1172 tw_1173 tw_1174 tw_1 tw_1175 ydf11_image (by decide) (by decide) (by have := hSX.1; omega) (ph_kc0 hSX) rfl (cf11_image hiX hSX hfx) rfl (by decide) (by omega) (by omega) dlw_1209 (fun H locs hPX hPM hS => ?_)
  refine lv_aload_n hx hb dlw_1212 rfl (lv_at hl 2 rfl) ?_
  refine lv_aload_n hx hb dlw_1213 rfl (lv_at hl 0 rfl) ?_
  refine lv_iload_n hx hb dlw_1214 rfl (lv_at hl 3 rfl) ?_
  refine lv_iconst (v := 1) hx hb dlw_1215 (by decide) ?_
  refine lv_iadd hx hb dlw_1216 ?_
  refine lw_sld (k := 6 * i + 1) C0 hS (nI_add (6 * i) 1) (by omega) hL dlw_1217 ?_
  refine lw_call (As := [.int (xs (6 * i + 1))]) (rest := [.int r]) (n := 1) (v := some (.int r)) C0 hK hZ hPM hPX hgM (fun i j hi hj he => hap j i hj hi he.symm) hS hl.1 tw_1362 tw_1363 tw_1364 tw_14 tw_1365 ydf12_image (by decide) (by decide) (by decide) rfl rfl (cf12_image ph_ZX_ok hiM hfm) rfl (Nat.le_of_ble_eq_true rfl) (by omega) (by omega) dlw_1218 (fun H locs hPM hPX hS => ?_)
  refine lv_icmp_eq (tgt := 1285) hx hb dlw_1221 (by decide) (fun _ => ?_) (fun hne => absurd rfl hne)
  exact hnext S ax X' K' _ _ _ _ _ (by omega) (by omega) hrel' ⟨hSX, hPX, hPM, hiX, hiM, hgX, hgM, hap⟩ hS hl
set_option maxHeartbeats 4000000 in
theorem lwc_back {Rel : ph_Sh → ph_Mem → ph_Mem → Prop} (hst : lws_back Rel) {p : Program} {l : Launch} {e : Env} {s : State} {m : MethodId} {below : List Frame} {meth : Method} {c : Code} {b L : Nat} {xs : Nat → Int32} (hL : L ≤ 3072) (C0 : lw_At p s m meth c b L xs) {D : va_G} {cA tb adK adV : Nat → Nat} (hK : va_K D ph_cl (ph_tys cA) s) (hZ : ph_ZX tb adK adV (fun q => s.heap.size ≤ q) s) {i kc ks : Nat} (hi : 6 * i + 6 ≤ L) (hkc : kc + 3 ≤ 600000) (hks : ks + 475 ≤ 7302250) {am : Nat → Nat} {Q : State → Prop} (hnext : ∀ (S : ph_Sh) (ax : Nat → Nat) (X K : ph_Mem) (kc' ks' : Nat) (H : Heap) (locs : List Loc) (ls : Array Slot), kc' ≤ kc + 3 → ks' ≤ ks + 475 → Rel S X K → lw_Wd D cA s S ax X am K H → va_S (fun q => s.heap.size ≤ q) s.heap H locs → lv_has ls 4 [(0, .ref b), (1, .ref (ax 0)), (2, .ref (am 0)), (3, .int (nI (6 * i)))] → W p l e room_1 s m #[Value.ref b] below meth c H locs kc' ks' Q (F0 m 1285 ls [])) {S : ph_Sh} {ax : Nat → Nat} {X K : ph_Mem} {H : Heap} {locs : List Loc} {ls : Array Slot} (hrel : Rel S X K) (hw : lw_Wd D cA s S ax X am K H) (hS : va_S (fun q => s.heap.size ≤ q) s.heap H locs) (hl : lv_has ls 4 [(0, .ref b), (1, .ref (ax 0)), (2, .ref (am 0)), (3, .int (nI (6 * i)))]) : W p l e room_1 s m #[Value.ref b] below meth c H locs kc ks Q (F0 m 1226 ls []) := by
  obtain ⟨hx, hb, hr, hml, hown, hts0, hX, hbl, hlk, hgv⟩ := id C0
  obtain ⟨hSX, hPX, hPM, hiX, hiM, hgX, hgM, hap⟩ := hw
  obtain ⟨r, X', K', hfx, hfm, hrel'⟩ := hst S X K hrel (xs (6 * i + 1))
  refine lv_aload_n hx hb dlw_1226 rfl (lv_at hl 1 rfl) ?_
  refine lv_aload_n hx hb dlw_1227 rfl (lv_at hl 0 rfl) ?_
  refine lv_iload_n hx hb dlw_1228 rfl (lv_at hl 3 rfl) ?_
  refine lv_iconst (v := 1) hx hb dlw_1229 (by decide) ?_
  refine lv_iadd hx hb dlw_1230 ?_
  refine lw_sld (k := 6 * i + 1) C0 hS (nI_add (6 * i) 1) (by omega) hL dlw_1231 ?_
  refine lw_call (As := [.int (xs (6 * i + 1))]) (rest := []) (n := 1) (v := some (.int r)) C0 hK hZ hPX hPM hgX hap hS hl.1 tw_1176 tw_1177 tw_1178 tw_1 tw_1179 ydf11_back (by decide) (by decide) (by have := hSX.1; omega) (ph_kc0 hSX) rfl (cf11_back hiX hSX hfx) rfl (by decide) (by omega) (by omega) dlw_1232 (fun H locs hPX hPM hS => ?_)
  refine lv_aload_n hx hb dlw_1235 rfl (lv_at hl 2 rfl) ?_
  refine lv_aload_n hx hb dlw_1236 rfl (lv_at hl 0 rfl) ?_
  refine lv_iload_n hx hb dlw_1237 rfl (lv_at hl 3 rfl) ?_
  refine lv_iconst (v := 1) hx hb dlw_1238 (by decide) ?_
  refine lv_iadd hx hb dlw_1239 ?_
  refine lw_sld (k := 6 * i + 1) C0 hS (nI_add (6 * i) 1) (by omega) hL dlw_1240 ?_
  refine lw_call (As := [.int (xs (6 * i + 1))]) (rest := [.int r]) (n := 1) (v := some (.int r)) C0 hK hZ hPM hPX hgM (fun i j hi hj he => hap j i hj hi he.symm) hS hl.1 tw_1377 tw_1378 tw_1379 tw_14 tw_1380 ydf12_back (by decide) (by decide) (by decide) rfl rfl (cf12_back ph_ZX_ok hiM hfm) rfl (Nat.le_of_ble_eq_true rfl) (by omega) (by omega) dlw_1241 (fun H locs hPM hPX hS => ?_)
  refine lv_icmp_eq (tgt := 1285) hx hb dlw_1244 (by decide) (fun _ => ?_) (fun hne => absurd rfl hne)
  exact hnext S ax X' K' _ _ _ _ _ (by omega) (by omega) hrel' ⟨hSX, hPX, hPM, hiX, hiM, hgX, hgM, hap⟩ hS hl
set_option maxHeartbeats 4000000 in
theorem lwc_count {Rel : ph_Sh → ph_Mem → ph_Mem → Prop} (hst : lws_count Rel) {p : Program} {l : Launch} {e : Env} {s : State} {m : MethodId} {below : List Frame} {meth : Method} {c : Code} {b L : Nat} {xs : Nat → Int32} (hL : L ≤ 3072) (C0 : lw_At p s m meth c b L xs) {D : va_G} {cA tb adK adV : Nat → Nat} (hK : va_K D ph_cl (ph_tys cA) s) (hZ : ph_ZX tb adK adV (fun q => s.heap.size ≤ q) s) {i kc ks : Nat} (hi : 6 * i + 6 ≤ L) (hkc : kc + 3 ≤ 600000) (hks : ks + 475 ≤ 7302250) {am : Nat → Nat} {Q : State → Prop} (hnext : ∀ (S : ph_Sh) (ax : Nat → Nat) (X K : ph_Mem) (kc' ks' : Nat) (H : Heap) (locs : List Loc) (ls : Array Slot), kc' ≤ kc + 3 → ks' ≤ ks + 475 → Rel S X K → lw_Wd D cA s S ax X am K H → va_S (fun q => s.heap.size ≤ q) s.heap H locs → lv_has ls 4 [(0, .ref b), (1, .ref (ax 0)), (2, .ref (am 0)), (3, .int (nI (6 * i)))] → W p l e room_1 s m #[Value.ref b] below meth c H locs kc' ks' Q (F0 m 1285 ls [])) {S : ph_Sh} {ax : Nat → Nat} {X K : ph_Mem} {H : Heap} {locs : List Loc} {ls : Array Slot} (hrel : Rel S X K) (hw : lw_Wd D cA s S ax X am K H) (hS : va_S (fun q => s.heap.size ≤ q) s.heap H locs) (hl : lv_has ls 4 [(0, .ref b), (1, .ref (ax 0)), (2, .ref (am 0)), (3, .int (nI (6 * i)))]) : W p l e room_1 s m #[Value.ref b] below meth c H locs kc ks Q (F0 m 1249 ls []) := by
  obtain ⟨hx, hb, hr, hml, hown, hts0, hX, hbl, hlk, hgv⟩ := id C0
  obtain ⟨hSX, hPX, hPM, hiX, hiM, hgX, hgM, hap⟩ := hw
  obtain ⟨r, hfx, hfm, hrel'⟩ := hst S X K hrel (xs (6 * i + 1))
  refine lv_aload_n hx hb dlw_1249 rfl (lv_at hl 1 rfl) ?_
  refine lv_aload_n hx hb dlw_1250 rfl (lv_at hl 0 rfl) ?_
  refine lv_iload_n hx hb dlw_1251 rfl (lv_at hl 3 rfl) ?_
  refine lv_iconst (v := 1) hx hb dlw_1252 (by decide) ?_
  refine lv_iadd hx hb dlw_1253 ?_
  refine lw_sld (k := 6 * i + 1) C0 hS (nI_add (6 * i) 1) (by omega) hL dlw_1254 ?_
  refine lw_call (As := [.int (xs (6 * i + 1))]) (rest := []) (n := 1) (v := some (.int r)) C0 hK hZ hPX hPM hgX hap hS hl.1 tw_1180 tw_1181 tw_1182 tw_1 tw_1183 ydf11_count (by decide) (by decide) (by have := hSX.1; omega) (ph_kc0 hSX) rfl (cf11_count hiX hSX hfx) rfl (by decide) (by omega) (by omega) dlw_1255 (fun H locs hPX hPM hS => ?_)
  refine lv_aload_n hx hb dlw_1258 rfl (lv_at hl 2 rfl) ?_
  refine lv_aload_n hx hb dlw_1259 rfl (lv_at hl 0 rfl) ?_
  refine lv_iload_n hx hb dlw_1260 rfl (lv_at hl 3 rfl) ?_
  refine lv_iconst (v := 1) hx hb dlw_1261 (by decide) ?_
  refine lv_iadd hx hb dlw_1262 ?_
  refine lw_sld (k := 6 * i + 1) C0 hS (nI_add (6 * i) 1) (by omega) hL dlw_1263 ?_
  refine lw_call (As := [.int (xs (6 * i + 1))]) (rest := [.int r]) (n := 1) (v := some (.int r)) C0 hK hZ hPM hPX hgM (fun i j hi hj he => hap j i hj hi he.symm) hS hl.1 tw_1858 tw_1859 tw_1860 tw_14 tw_1861 ydf12_count (by decide) (by decide) (by decide) rfl rfl (cf12_count ph_ZX_ok hiM hfm) rfl (Nat.le_of_ble_eq_true rfl) (by omega) (by omega) dlw_1264 (fun H locs hPM hPX hS => ?_)
  refine lv_icmp_eq (tgt := 1285) hx hb dlw_1267 (by decide) (fun _ => ?_) (fun hne => absurd rfl hne)
  exact hnext S ax X K _ _ _ _ _ (by omega) (by omega) hrel' ⟨hSX, hPX, hPM, hiX, hiM, hgX, hgM, hap⟩ hS hl
set_option maxHeartbeats 4000000 in
theorem lwc_status {Rel : ph_Sh → ph_Mem → ph_Mem → Prop} (hst : lws_status Rel) {p : Program} {l : Launch} {e : Env} {s : State} {m : MethodId} {below : List Frame} {meth : Method} {c : Code} {b L : Nat} {xs : Nat → Int32} (hL : L ≤ 3072) (C0 : lw_At p s m meth c b L xs) {D : va_G} {cA tb adK adV : Nat → Nat} (hK : va_K D ph_cl (ph_tys cA) s) (hZ : ph_ZX tb adK adV (fun q => s.heap.size ≤ q) s) {i kc ks : Nat} (hi : 6 * i + 6 ≤ L) (hkc : kc + 3 ≤ 600000) (hks : ks + 475 ≤ 7302250) {am : Nat → Nat} {Q : State → Prop} (hnext : ∀ (S : ph_Sh) (ax : Nat → Nat) (X K : ph_Mem) (kc' ks' : Nat) (H : Heap) (locs : List Loc) (ls : Array Slot), kc' ≤ kc + 3 → ks' ≤ ks + 475 → Rel S X K → lw_Wd D cA s S ax X am K H → va_S (fun q => s.heap.size ≤ q) s.heap H locs → lv_has ls 4 [(0, .ref b), (1, .ref (ax 0)), (2, .ref (am 0)), (3, .int (nI (6 * i)))] → W p l e room_1 s m #[Value.ref b] below meth c H locs kc' ks' Q (F0 m 1285 ls [])) {S : ph_Sh} {ax : Nat → Nat} {X K : ph_Mem} {H : Heap} {locs : List Loc} {ls : Array Slot} (hrel : Rel S X K) (hw : lw_Wd D cA s S ax X am K H) (hS : va_S (fun q => s.heap.size ≤ q) s.heap H locs) (hl : lv_has ls 4 [(0, .ref b), (1, .ref (ax 0)), (2, .ref (am 0)), (3, .int (nI (6 * i)))]) : W p l e room_1 s m #[Value.ref b] below meth c H locs kc ks Q (F0 m 1272 ls []) := by
  obtain ⟨hx, hb, hr, hml, hown, hts0, hX, hbl, hlk, hgv⟩ := id C0
  obtain ⟨hSX, hPX, hPM, hiX, hiM, hgX, hgM, hap⟩ := hw
  obtain ⟨r, hfx, hfm, hrel'⟩ := hst S X K hrel 
  refine lv_aload_n hx hb dlw_1272 rfl (lv_at hl 1 rfl) ?_
  refine lw_call (As := []) (rest := []) (n := 0) (v := some (.int r)) C0 hK hZ hPX hPM hgX hap hS hl.1 tw_1189 tw_1190 tw_1191 tw_1 tw_1192 ydf11_status (by decide) (by decide) (by have := hSX.1; omega) (ph_kc0 hSX) rfl (cf11_status hiX hSX hfx) rfl (by decide) (by omega) (by omega) dlw_1273 (fun H locs hPX hPM hS => ?_)
  refine lv_aload_n hx hb dlw_1276 rfl (lv_at hl 2 rfl) ?_
  refine lw_call (As := []) (rest := [.int r]) (n := 0) (v := some (.int r)) C0 hK hZ hPM hPX hgM (fun i j hi hj he => hap j i hj hi he.symm) hS hl.1 tw_1862 tw_1863 tw_1864 tw_14 tw_1865 ydf12_status (by decide) (by decide) (by decide) rfl rfl (cf12_status ph_ZX_ok hiM hfm) rfl (Nat.le_of_ble_eq_true rfl) (by omega) (by omega) dlw_1277 (fun H locs hPM hPX hS => ?_)
  refine lv_icmp_eq (tgt := 1285) hx hb dlw_1280 (by decide) (fun _ => ?_) (fun hne => absurd rfl hne)
  exact hnext S ax X K _ _ _ _ _ (by omega) (by omega) hrel' ⟨hSX, hPX, hPM, hiX, hiM, hgX, hgM, hap⟩ hS hl
