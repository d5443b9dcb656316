/-! PURE HALF: what holds between the class's memory and the model's -/
/-- NONE or a number below n -/
def rNo (n : Nat) (x : Int32) : Prop := x = -nI 1 ∨ ∃ f : Nat, f < n ∧ x = nI f
def rNat (m : Nat) (x : Int32) : Prop := ∃ v : Nat, v ≤ m ∧ x = nI v
/-- what is moved by pawning: states, loans, days, purses, the day; g: the model's row -/
abbrev rV : Type := (Nat → Int32) × (Nat → Int32) × (Nat → Int32) × (Nat → Int32) × Int32
def rMv (n : Nat) (v : rV) (g : Nat → Int32) : Prop :=
  (∃ d : Nat, d ≤ 999 ∧ v.2.2.2.2 = nI d ∧ g 222 = nI d ∧
    ∀ j, j < 12 * n → (v.1 j = g j ∧ rNat 2 (g j) ∧ (g j = nI 1 → v.2.1 j = g (72 + j) ∧ rNat 999 (g (72 + j)) ∧ v.2.2.1 j = g (144 + j) ∧ rNat d (g (144 + j))) ∧ (g j ≠ nI 1 → v.2.1 j = -nI 1 ∧ v.2.2.1 j = -nI 1))) ∧
  (∀ j, 12 * n ≤ j → j < 72 → v.1 j = nI 0 ∧ v.2.1 j = -nI 1 ∧ v.2.2.1 j = -nI 1 ∧ g j = nI 0) ∧
  (∀ p, p < 6 → v.2.2.2.1 p = g (216 + p) ∧ rNat 99999 (g (216 + p)) ∧ (n ≤ p → v.2.2.2.1 p = nI 0))
/-- of a street what is moved -/
def rVw (X : ph_Mem) (c : Nat) : rV := (X.1 (c + 5), X.1 (c + 6), X.1 (c + 7), X.1 (c + 1), X.1 (c + 10) 0)
/-- a law's relation: shape, memory, the program's cell, its place among the laws, the model's row -/
abbrev rLT : Type := ph_Sh → ph_Mem → Nat → Nat → (Nat → Int32) → Prop
/-- people, laws, the law in force -/
def rHd (X : ph_Mem) (c : Nat) (g : Nat → Int32) (n t : Nat) : Prop := n ≤ 6 ∧ t ≤ 6 ∧ X.1 c 1 = nI n ∧ g 475 = nI n ∧ X.1 c 13 = nI t ∧ g 476 = nI t ∧ X.1 c 14 = g 477 ∧ rNo t (g 477)
/-- hours: learned, with, worth -/
def rHr (X : ph_Mem) (c : Nat) (g : Nat → Int32) (n : Nat) : Prop :=
  (∀ j, j < 12 * n → X.1 (c + 2) j = g (223 + j) ∧ rNo 8 (g (223 + j)) ∧ X.1 (c + 3) j = g (295 + j) ∧ rNat (2 ^ n - 1) (g (295 + j)) ∧ X.1 (c + 4) j = g (367 + j) ∧ rNat 99 (g (367 + j))) ∧
  (∀ j, 12 * n ≤ j → j < 72 → X.1 (c + 2) j = -nI 1 ∧ X.1 (c + 3) j = nI 0 ∧ X.1 (c + 4) j = nI 1)
def rNd (X : ph_Mem) (c : Nat) (g : Nat → Int32) : Prop := ∀ f, f < 8 → X.1 (c + 8) f = g (439 + f) ∧ rNo 8 (g (439 + f))
def rBd (X : ph_Mem) (c : Nat) (g : Nat → Int32) : Prop := ∀ j, j < 24 → X.1 (c + 9) j = g (447 + j) ∧ rNat 999 (g (447 + j))
def rTm (X : ph_Mem) (c : Nat) (g : Nat → Int32) : Prop := (X.1 (c + 10) 1 = g 471 ∧ rNat 99 (g 471)) ∧ (X.1 (c + 10) 2 = g 472 ∧ rNat 99 (g 472)) ∧ (X.1 (c + 10) 3 = g 473 ∧ rNat 10 (g 473)) ∧ (X.1 (c + 10) 4 = g 474 ∧ rNat 9 (g 474))
def rLw (RL : rLT) (S : ph_Sh) (X : ph_Mem) (c : Nat) (g : Nat → Int32) (t : Nat) : Prop := (∀ i, i < 6 → ph_okN S (X.2.2 (c + 11) i) = true) ∧ ∀ i, i < t → ∃ q, X.2.2 (c + 11) i = some q ∧ RL S X q i g
def rSt (RL : rLT) (S : ph_Sh) (X : ph_Mem) (c : Nat) (g : Nat → Int32) (n t : Nat) : Prop :=
  rHd X c g n t ∧ rMv n (rVw X c) g ∧ rHr X c g n ∧ rNd X c g ∧ rBd X c g ∧ rTm X c g ∧ rLw RL S X c g t
/-- what can be undone: r entries, the class's next place, its rows E, the model's rows L -/
def rUn (n : Nat) (E L : Nat → Int32) : Nat → Nat → rV → Prop
  | 0, _, _ => True
  | r + 1, nx, v => ∃ pl kd : Nat, pl < 72 ∧ kd < 4 ∧ E (12 * ((nx + 15) % 16)) = nI kd ∧ L (224 * r + 223) = nI kd ∧ E (12 * ((nx + 15) % 16) + 1) = nI pl ∧
      rMv n (upd v.1 pl (E (12 * ((nx + 15) % 16) + 2)), upd v.2.1 pl (E (12 * ((nx + 15) % 16) + 3)), upd v.2.2.1 pl (E (12 * ((nx + 15) % 16) + 4)), (fun j => E (12 * ((nx + 15) % 16) + 6 + j)), E (12 * ((nx + 15) % 16) + 5)) (fun k => L (224 * r + k)) ∧
      rUn n E L r ((nx + 15) % 16) (upd v.1 pl (E (12 * ((nx + 15) % 16) + 2)), upd v.2.1 pl (E (12 * ((nx + 15) % 16) + 3)), upd v.2.2.1 pl (E (12 * ((nx + 15) % 16) + 4)), (fun j => E (12 * ((nx + 15) % 16) + 6 + j)), E (12 * ((nx + 15) % 16) + 5))
def rLog (X K : ph_Mem) (n : Nat) : Prop := ∃ nx sz : Nat, nx < 16 ∧ sz ≤ 16 ∧ X.1 59 1 = nI nx ∧ X.1 59 2 = nI sz ∧ K.1 0 28 = nI sz ∧ rUn n (X.1 60) (K.1 13) sz nx (rVw X 11)
/-- the image k -/
def rImg (RL : rLT) (S : ph_Sh) (X K : ph_Mem) (k : Nat) : Prop :=
  X.1 2 k = K.1 4 k ∧ (K.1 4 k = nI 0 ∨ (K.1 4 k = nI 1 ∧ ∃ n t, rSt RL S X (35 + 12 * k) (fun j => K.1 3 (6085 * k + j)) n t))
def rTape (X K : ph_Mem) : Prop := ∃ m : Nat, m ≤ 400 ∧ X.1 63 1 = nI m ∧ K.1 0 13 = nI m ∧ ∀ j, j < m → ∃ b : Nat, b < 256 ∧ X.1 64 j = nI b ∧ K.1 7 j = (nI b).toInt8.toInt32
def rWords (j : Nat) : Int32 := ([108, 101, 110, 100, 115, 32, 99, 111, 115, 116, 115, 32, 98, 97, 114, 115, 32, 105, 102, 32, 111, 114, 32, 97, 110, 100, 32, 110, 111, 116, 32, 112, 101, 114, 115, 111, 110, 32, 104, 111, 117, 114, 32, 102, 97, 99, 116, 32, 119, 105, 116, 104, 32, 119, 111, 114, 116, 104, 32, 108, 111, 97, 110, 32, 100, 97, 121, 115, 32, 116, 111, 100, 97, 121, 32, 109, 111, 111, 100, 32, 110, 111, 119, 32, 100, 111, 110, 101, 32, 108, 97, 115, 116, 32, 112, 117, 114, 115, 101, 32, 104, 101, 108, 100, 32, 107, 110, 111, 119, 115, 32, 112, 97, 119, 110, 32, 111, 102, 32, 114, 101, 100, 101, 101, 109, 32, 112, 97, 115, 115, 32, 116, 105, 109, 101, 115, 32] : List Int32).getD j 0
/-- what is shown of the latest calls, and what never changes -/
def rShow (X K : ph_Mem) : Prop :=
  X.1 0 18 = K.1 0 0 ∧ (∀ i, i < 7 → X.1 3 i = K.1 1 i) ∧ X.1 0 15 = K.1 0 6 ∧ X.1 0 16 = K.1 0 14 ∧ X.1 0 17 = K.1 0 40 ∧
  (∃ a b : Nat, a < 16 ∧ b ≤ 16 ∧ X.1 61 1 = nI a ∧ X.1 61 2 = nI b) ∧
  (∃ d : Nat, d ≤ 6 ∧ X.1 84 0 = nI d ∧ K.1 0 52 = nI d ∧ ∀ p, p < d → X.1 85 p = K.1 24 p ∧ X.1 86 p = K.1 25 p ∧ X.1 87 p = K.1 26 p) ∧
  X.1 75 0 = nI 0 ∧ (∀ j, 256 ≤ j → j < 320 → X.1 82 j = nI 0) ∧ X.2.2 1 0 = some 35 ∧ X.2.2 1 1 = some 47 ∧
  (∀ j, j < 137 → K.1 6 j = rWords j)
/-- a law's relation looks at its program's cells and at its own text in the model's row alone -/
def rLoc (RL : rLT) : Prop := ∀ (S S' : ph_Sh) (X X' : ph_Mem) (q i : Nat) (g g' : Nat → Int32), RL S X q i g → S.2 ≤ S'.2 → (∀ c, c < S.2 → S'.1 c = S.1 c) → (∀ c j, 88 ≤ c → c < S.2 → X'.1 c j = X.1 c j) → i < 6 → g' (478 + i) = g (478 + i) → (∀ k, k < 400 → g' (485 + 400 * i + k) = g (485 + 400 * i + k) ∧ g' (3285 + 400 * i + k) = g (3285 + 400 * i + k)) → RL S' X' q i g'
/-- all rows of laws hold programs or nothing -/
def rW (S : ph_Sh) (X : ph_Mem) : Prop := ∀ e i, (e = 22 ∨ e = 34 ∨ e = 46 ∨ e = 58) → i < 6 → ph_okN S (X.2.2 e i) = true
theorem rW_fr {S : ph_Sh} {X X' : ph_Mem} (h : rW S X) (hr : ∀ c j, c = 22 ∨ c = 34 ∨ c = 46 ∨ c = 58 → X'.2.2 c j = X.2.2 c j) : rW S X' := fun e i he hi => by rw [hr e i he]; exact h e i he hi
def Rel (RL : rLT) (S : ph_Sh) (X K : ph_Mem) : Prop := (ph_SX S ∧ rW S X) ∧ rShow X K ∧ rTape X K ∧ rImg RL S X K 0 ∧ rImg RL S X K 1 ∧ ∃ n t, rSt RL S X 11 (K.1 2) n t ∧ rLog X K n
/-- the places of the model's row that count -/
def rGj (j : Nat) : Prop := j < 484 ∨ (485 ≤ j ∧ j < 2885) ∨ (3285 ≤ j ∧ j < 5685)
theorem rMv_fr {n : Nat} {v v' : rV} {g g' : Nat → Int32} (h : rMv n v g) (hn : n ≤ 6) (hv : ∀ j, j < 72 → v'.1 j = v.1 j ∧ v'.2.1 j = v.2.1 j ∧ v'.2.2.1 j = v.2.2.1 j) (hp : ∀ p, p < 6 → v'.2.2.2.1 p = v.2.2.2.1 p) (hd : v'.2.2.2.2 = v.2.2.2.2) (hg : ∀ j, j < 223 → g' j = g j) : rMv n v' g' := by
  obtain ⟨⟨d, h1, h2, h3, h4⟩, h5, h6⟩ := h
  refine ⟨⟨d, h1, hd.trans h2, (hg 222 (by omega)).trans h3, fun j hj => ?_⟩, fun j hj hk => ?_, fun p hp' => ?_⟩
  · have e := h4 j hj
    have ev := hv j (by omega)
    rw [ev.1, ev.2.1, ev.2.2, hg j (by omega), hg (72 + j) (by omega), hg (144 + j) (by omega)]
    exact e
  · have ev := hv j hk
    rw [ev.1, ev.2.1, ev.2.2, hg j (by omega)]
    exact h5 j hj hk
  · rw [hp p hp', hg (216 + p) (by omega)]
    exact h6 p hp'
theorem rHd_fr {X X' : ph_Mem} {c c' : Nat} {g g' : Nat → Int32} {n t : Nat} (h : rHd X c g n t) (h0 : X'.1 c' 1 = X.1 c 1) (h1 : X'.1 c' 13 = X.1 c 13) (h2 : X'.1 c' 14 = X.1 c 14) (hg : ∀ j, 475 ≤ j → j < 478 → g' j = g j) : rHd X' c' g' n t := by
  obtain ⟨a1, a2, a3, a4, a5, a6, a7, a8⟩ := h
  refine ⟨a1, a2, h0.trans a3, (hg 475 (by omega) (by omega)).trans a4, h1.trans a5, (hg 476 (by omega) (by omega)).trans a6, ?_, ?_⟩
  · rw [h2, hg 477 (by omega) (by omega)]; exact a7
  · rw [hg 477 (by omega) (by omega)]; exact a8
theorem rHr_fr {X X' : ph_Mem} {c c' : Nat} {g g' : Nat → Int32} {n : Nat} (hn : n ≤ 6) (h : rHr X c g n) (h2 : ∀ d j, 2 ≤ d → d < 5 → j < 72 → X'.1 (c' + d) j = X.1 (c + d) j) (hg : ∀ j, 223 ≤ j → j < 439 → g' j = g j) : rHr X' c' g' n := by
  obtain ⟨b1, b2⟩ := h
  refine ⟨fun j hj => ?_, fun j hj hk => ?_⟩
  · rw [h2 2 j (by omega) (by omega) (by omega), h2 3 j (by omega) (by omega) (by omega), h2 4 j (by omega) (by omega) (by omega), hg _ (by omega) (by omega), hg _ (by omega) (by omega), hg _ (by omega) (by omega)]
    exact b1 j hj
  · rw [h2 2 j (by omega) (by omega) (by omega), h2 3 j (by omega) (by omega) (by omega), h2 4 j (by omega) (by omega) (by omega)]
    exact b2 j hj hk
theorem rNd_fr {X X' : ph_Mem} {c c' : Nat} {g g' : Nat → Int32} (h : rNd X c g) (h3 : ∀ j, j < 8 → X'.1 (c' + 8) j = X.1 (c + 8) j) (hg : ∀ j, 439 ≤ j → j < 447 → g' j = g j) : rNd X' c' g' := by
  intro f hf
  rw [h3 f hf, hg _ (by omega) (by omega)]; exact h f hf
theorem rBd_fr {X X' : ph_Mem} {c c' : Nat} {g g' : Nat → Int32} (h : rBd X c g) (h4 : ∀ j, j < 24 → X'.1 (c' + 9) j = X.1 (c + 9) j) (hg : ∀ j, 447 ≤ j → j < 471 → g' j = g j) : rBd X' c' g' := by
  intro f hf
  rw [h4 f hf, hg _ (by omega) (by omega)]; exact h f hf
theorem rTm_fr {X X' : ph_Mem} {c c' : Nat} {g g' : Nat → Int32} (h : rTm X c g) (h5 : ∀ j, 1 ≤ j → j < 5 → X'.1 (c' + 10) j = X.1 (c + 10) j) (hg : ∀ j, 471 ≤ j → j < 475 → g' j = g j) : rTm X' c' g' := by
  obtain ⟨b5, b6, b7, b8⟩ := h
  refine ⟨?_, ?_, ?_, ?_⟩
  · rw [h5 1 (by omega) (by omega), hg _ (by omega) (by omega)]; exact b5
  · rw [h5 2 (by omega) (by omega), hg _ (by omega) (by omega)]; exact b6
  · rw [h5 3 (by omega) (by omega), hg _ (by omega) (by omega)]; exact b7
  · rw [h5 4 (by omega) (by omega), hg _ (by omega) (by omega)]; exact b8
theorem rLw_fr {RL : rLT} (hRL : rLoc RL) {S : ph_Sh} {X X' : ph_Mem} {c c' : Nat} {g g' : Nat → Int32} {t : Nat} (ht : t ≤ 6) (h : rLw RL S X c g t) (h6 : ∀ i, i < 6 → X'.2.2 (c' + 11) i = X.2.2 (c + 11) i) (h7 : ∀ d j, 88 ≤ d → X'.1 d j = X.1 d j) (hg : ∀ j, (478 ≤ j ∧ j < 484) ∨ (485 ≤ j ∧ j < 2885) ∨ (3285 ≤ j ∧ j < 5685) → g' j = g j) : rLw RL S X' c' g' t := by
  refine ⟨fun i hi => by rw [h6 i hi]; exact h.1 i hi, fun i hi => ?_⟩
  obtain ⟨q, e1, e2⟩ := h.2 i hi
  exact ⟨q, (h6 i (by omega)).trans e1, hRL S S X X' q i g g' e2 (Nat.le_refl _) (fun _ _ => rfl) (fun d j hd _ => h7 d j hd) (by omega) (hg _ (by omega)) (fun k hk => ⟨hg _ (by omega), hg _ (by omega)⟩)⟩
theorem rSt_fr {RL : rLT} (hRL : rLoc RL) {S : ph_Sh} {X X' : ph_Mem} {c c' : Nat} {g g' : Nat → Int32} {n t : Nat} (h : rSt RL S X c g n t)
    (h0 : X'.1 c' 1 = X.1 c 1) (h0b : X'.1 c' 13 = X.1 c 13) (h0c : X'.1 c' 14 = X.1 c 14)
    (h1 : ∀ p, p < 6 → X'.1 (c' + 1) p = X.1 (c + 1) p) (h2 : ∀ d j, 2 ≤ d → d < 8 → j < 72 → X'.1 (c' + d) j = X.1 (c + d) j)
    (h3 : ∀ j, j < 8 → X'.1 (c' + 8) j = X.1 (c + 8) j) (h4 : ∀ j, j < 24 → X'.1 (c' + 9) j = X.1 (c + 9) j) (h5 : ∀ j, j < 5 → X'.1 (c' + 10) j = X.1 (c + 10) j)
    (h6 : ∀ i, i < 6 → X'.2.2 (c' + 11) i = X.2.2 (c + 11) i) (h7 : ∀ d j, 88 ≤ d → X'.1 d j = X.1 d j) (hg : ∀ j, rGj j → g' j = g j) : rSt RL S X' c' g' n t := by
  obtain ⟨a1, a9, b1, b3, b4, b5, b9⟩ := h
  have hg0 : ∀ j, j < 484 → g' j = g j := fun j hj => hg j (Or.inl hj)
  exact ⟨rHd_fr a1 h0 h0b h0c (fun j _ _ => hg0 j (by omega)), rMv_fr a9 a1.1 (fun j hj => ⟨h2 5 j (by omega) (by omega) hj, h2 6 j (by omega) (by omega) hj, h2 7 j (by omega) (by omega) hj⟩) h1 (h5 0 (by omega)) (fun j hj => hg0 j (by omega)),
    rHr_fr a1.1 b1 (fun d j _ _ hj => h2 d j (by omega) (by omega) hj) (fun j _ _ => hg0 j (by omega)), rNd_fr b3 h3 (fun j _ _ => hg0 j (by omega)), rBd_fr b4 h4 (fun j _ _ => hg0 j (by omega)), rTm_fr b5 (fun j _ hj => h5 j hj) (fun j _ _ => hg0 j (by omega)), rLw_fr hRL a1.2.1 b9 h6 h7 (fun j hj => hg j (by unfold rGj; omega))⟩
theorem rUn_fr {n : Nat} (hn : n ≤ 6) {E E' L L' : Nat → Int32} (hE : ∀ j, j < 192 → E' j = E j) : ∀ (r nx : Nat) (v v' : rV), r ≤ 16 → (∀ j, j < 224 * r → L' j = L j) → (∀ j, j < 72 → v'.1 j = v.1 j ∧ v'.2.1 j = v.2.1 j ∧ v'.2.2.1 j = v.2.2.1 j) → rUn n E L r nx v → rUn n E' L' r nx v'
  | 0, _, _, _, _, _, _, _ => trivial
  | r + 1, nx, v, v', hr, hL, hv, h => by
    have hm : (nx + 15) % 16 < 16 := Nat.mod_lt _ (by omega)
    obtain ⟨pl, kd, h1, h2, h3, h4, h5, h6, h7⟩ := h
    have hv' : ∀ j, j < 72 → (upd v'.1 pl (E' (12 * ((nx + 15) % 16) + 2))) j = (upd v.1 pl (E (12 * ((nx + 15) % 16) + 2))) j ∧ (upd v'.2.1 pl (E' (12 * ((nx + 15) % 16) + 3))) j = (upd v.2.1 pl (E (12 * ((nx + 15) % 16) + 3))) j ∧ (upd v'.2.2.1 pl (E' (12 * ((nx + 15) % 16) + 4))) j = (upd v.2.2.1 pl (E (12 * ((nx + 15) % 16) + 4))) j := by
      intro j hj
      unfold upd
      rw [hE _ (by omega), hE _ (by omega), hE _ (by omega), (hv j hj).1, (hv j hj).2.1, (hv j hj).2.2]
      exact ⟨rfl, rfl, rfl⟩
    refine ⟨pl, kd, h1, h2, (hE _ (by omega)).trans h3, (hL _ (by omega)).trans h4, (hE _ (by omega)).trans h5, rMv_fr h6 hn hv' (fun p hp => hE _ (by omega)) (hE _ (by omega)) (fun j hj => hL _ (by omega)), rUn_fr hn hE r _ _ _ (by omega) (fun j hj => hL j (by omega)) hv' h7⟩
theorem rLog_fr {X X' K K' : ph_Mem} {n : Nat} (hn : n ≤ 6) (h : rLog X K n) (h1 : X'.1 59 1 = X.1 59 1) (h2 : X'.1 59 2 = X.1 59 2) (h3 : K'.1 0 28 = K.1 0 28) (hE : ∀ j, j < 192 → X'.1 60 j = X.1 60 j) (hL : ∀ j, j < 3584 → K'.1 13 j = K.1 13 j) (hv : ∀ d j, 16 ≤ d → d < 19 → j < 72 → X'.1 d j = X.1 d j) : rLog X' K' n := by
  obtain ⟨nx, sz, a1, a2, a3, a4, a5, a6⟩ := h
  refine ⟨nx, sz, a1, a2, h1.trans a3, h2.trans a4, h3.trans a5, rUn_fr hn hE sz nx (rVw X 11) (rVw X' 11) a2 (fun j hj => hL j (by omega)) (fun j hj => ⟨hv 16 j (by omega) (by omega) hj, hv 17 j (by omega) (by omega) hj, hv 18 j (by omega) (by omega) hj⟩) a6⟩
theorem rLog_0 {X K : ph_Mem} {n : Nat} (nx : Nat) (hx : nx < 16) (h1 : X.1 59 1 = nI nx) (h2 : X.1 59 2 = nI 0) (h3 : K.1 0 28 = nI 0) : rLog X K n := ⟨nx, 0, hx, by omega, h1, h2, h3, trivial⟩
theorem rTape_fr {X X' K K' : ph_Mem} (h : rTape X K) (h1 : X'.1 63 1 = X.1 63 1) (h2 : K'.1 0 13 = K.1 0 13) (h3 : ∀ j, j < 400 → X'.1 64 j = X.1 64 j) (h4 : ∀ j, j < 400 → K'.1 7 j = K.1 7 j) : rTape X' K' := by
  obtain ⟨m, a1, a2, a3, a4⟩ := h
  refine ⟨m, a1, h1.trans a2, h2.trans a3, fun j hj => ?_⟩
  rw [h3 j (by omega), h4 j (by omega)]
  exact a4 j hj
theorem rImg_fr {RL : rLT} (hRL : rLoc RL) {S : ph_Sh} {X X' K K' : ph_Mem} {k : Nat} (hk : k < 2) (h : rImg RL S X K k) (h0 : X'.1 2 k = X.1 2 k) (h1 : K'.1 4 k = K.1 4 k)
    (hx : ∀ d j, 35 ≤ d → d < 59 → X'.1 d j = X.1 d j) (hr : ∀ d j, d = 46 ∨ d = 58 → X'.2.2 d j = X.2.2 d j) (h7 : ∀ d j, 88 ≤ d → X'.1 d j = X.1 d j) (hg : ∀ j, K'.1 3 j = K.1 3 j) : rImg RL S X' K' k := by
  obtain ⟨a1, a2⟩ := h
  refine ⟨h0.trans (a1.trans h1.symm), ?_⟩
  rw [h1]
  refine a2.imp id fun ⟨b, n, t, e⟩ => ⟨b, n, t, rSt_fr hRL e ?_ ?_ ?_ ?_ ?_ ?_ ?_ ?_ ?_ h7 (fun j _ => hg _)⟩
  · exact hx _ _ (by omega) (by omega)
  · exact hx _ _ (by omega) (by omega)
  · exact hx _ _ (by omega) (by omega)
  · exact fun p _ => hx _ _ (by omega) (by omega)
  · exact fun d j _ _ _ => hx _ _ (by omega) (by omega)
  · exact fun j _ => hx _ _ (by omega) (by omega)
  · exact fun j _ => hx _ _ (by omega) (by omega)
  · exact fun j _ => hx _ _ (by omega) (by omega)
  · exact fun i _ => hr _ _ (by omega)
/-- what of the class's memory counts -/
def rXj (c j : Nat) : Prop := (c = 0 ∧ 15 ≤ j) ∨ c = 2 ∨ c = 3 ∨ (11 ≤ c ∧ c < 23) ∨ (35 ≤ c ∧ c < 61) ∨ (c = 61 ∧ (j = 1 ∨ j = 2)) ∨ (c = 63 ∧ j = 1) ∨ c = 64 ∨ (c = 75 ∧ j = 0) ∨ (c = 82 ∧ 256 ≤ j) ∨ (c = 84 ∧ j = 0) ∨ 85 ≤ c
/-- what of the model's memory counts -/
def rKj (c j : Nat) : Prop := (c = 0 ∧ (j = 0 ∨ j = 6 ∨ j = 13 ∨ j = 14 ∨ j = 28 ∨ j = 40 ∨ j = 52)) ∨ c = 1 ∨ (c = 2 ∧ (j < 484 ∨ (485 ≤ j ∧ j < 2885) ∨ (3285 ≤ j ∧ j < 5685))) ∨ c = 3 ∨ c = 4 ∨ c = 6 ∨ c = 7 ∨ c = 13 ∨ c = 24 ∨ c = 25 ∨ c = 26
theorem rShow_fr {X X' K K' : ph_Mem} (h : rShow X K) (hx : ∀ c j, rXj c j → X'.1 c j = X.1 c j) (hr : ∀ j, X'.2.2 1 j = X.2.2 1 j) (hk : ∀ c j, rKj c j → K'.1 c j = K.1 c j) : rShow X' K' := by
  obtain ⟨a1, a2, a3, a4, a5, ⟨a, b, c1, c2, c3, c4⟩, ⟨d, d1, d2, d3, d4⟩, a8, a9, b1, b2, b3⟩ := h
  refine ⟨?_, fun i hi => ?_, ?_, ?_, ?_, ⟨a, b, c1, c2, ?_, ?_⟩, ⟨d, d1, ?_, ?_, fun p hp => ?_⟩, ?_, fun j h1 h2 => ?_, ?_, ?_, fun j hj => ?_⟩
  · rw [hx 0 18 (by unfold rXj; omega), hk 0 0 (by unfold rKj; omega)]; exact a1
  · rw [hx 3 i (by unfold rXj; omega), hk 1 i (by unfold rKj; omega)]; exact a2 i hi
  · rw [hx 0 15 (by unfold rXj; omega), hk 0 6 (by unfold rKj; omega)]; exact a3
  · rw [hx 0 16 (by unfold rXj; omega), hk 0 14 (by unfold rKj; omega)]; exact a4
  · rw [hx 0 17 (by unfold rXj; omega), hk 0 40 (by unfold rKj; omega)]; exact a5
  · rw [hx 61 1 (by unfold rXj; omega)]; exact c3
  · rw [hx 61 2 (by unfold rXj; omega)]; exact c4
  · rw [hx 84 0 (by unfold rXj; omega)]; exact d2
  · rw [hk 0 52 (by unfold rKj; omega)]; exact d3
  · rw [hx 85 p (by unfold rXj; omega), hx 86 p (by unfold rXj; omega), hx 87 p (by unfold rXj; omega), hk 24 p (by unfold rKj; omega), hk 25 p (by unfold rKj; omega), hk 26 p (by unfold rKj; omega)]; exact d4 p hp
  · rw [hx 75 0 (by unfold rXj; omega)]; exact a8
  · rw [hx 82 j (by unfold rXj; omega)]; exact a9 j h1 h2
  · rw [hr]; exact b1
  · rw [hr]; exact b2
  · rw [hk 6 j (by unfold rKj; omega)]; exact b3 j hj
/-- what doesn't count may change -/
theorem Rel_fr {RL : rLT} (hRL : rLoc RL) {S : ph_Sh} {X X' K K' : ph_Mem} (h : Rel RL S X K) (hx : ∀ c j, rXj c j → X'.1 c j = X.1 c j) (hr : ∀ c j, c = 1 ∨ c = 22 ∨ c = 34 ∨ c = 46 ∨ c = 58 → X'.2.2 c j = X.2.2 c j) (hk : ∀ c j, rKj c j → K'.1 c j = K.1 c j) : Rel RL S X' K' := by
  obtain ⟨h1, h2, h3, h4, h5, n, t, h6, h7⟩ := h
  have hx88 : ∀ d j, 88 ≤ d → X'.1 d j = X.1 d j := fun d j hd => hx d j (by unfold rXj; omega)
  have hxi : ∀ d j, 35 ≤ d → d < 59 → X'.1 d j = X.1 d j := fun d j hd _ => hx d j (by unfold rXj; omega)
  have hxs : ∀ d j, 11 ≤ d → d < 23 → X'.1 d j = X.1 d j := fun d j hd _ => hx d j (by unfold rXj; omega)
  refine ⟨⟨h1.1, rW_fr h1.2 (fun c j hc => hr c j (by omega))⟩, rShow_fr h2 hx (fun j => hr 1 j (by omega)) hk, rTape_fr h3 (hx _ _ (by unfold rXj; omega)) (hk _ _ (by unfold rKj; omega)) (fun j _ => hx _ _ (by unfold rXj; omega)) (fun j _ => hk _ _ (by unfold rKj; omega)), rImg_fr hRL (by omega) h4 (hx _ _ (by unfold rXj; omega)) (hk _ _ (by unfold rKj; omega)) hxi (fun d j hd => hr d j (by omega)) hx88 (fun j => hk _ _ (by unfold rKj; omega)), rImg_fr hRL (by omega) h5 (hx _ _ (by unfold rXj; omega)) (hk _ _ (by unfold rKj; omega)) hxi (fun d j hd => hr d j (by omega)) hx88 (fun j => hk _ _ (by unfold rKj; omega)), n, t, rSt_fr hRL h6 (hxs _ _ (by omega) (by omega)) (hxs _ _ (by omega) (by omega)) (hxs _ _ (by omega) (by omega)) (fun p _ => hxs _ _ (by omega) (by omega)) (fun d j _ _ _ => hxs _ _ (by omega) (by omega)) (fun j _ => hxs _ _ (by omega) (by omega)) (fun j _ => hxs _ _ (by omega) (by omega)) (fun j _ => hxs _ _ (by omega) (by omega)) (fun i _ => hr _ _ (by omega)) hx88 (fun j hj => hk _ _ (by unfold rGj at hj; unfold rKj; omega)), rLog_fr h6.1.1 h7 (hx _ _ (by unfold rXj; omega)) (hx _ _ (by unfold rXj; omega)) (hk _ _ (by unfold rKj; omega)) (fun j _ => hx _ _ (by unfold rXj; omega)) (fun j _ => hk _ _ (by unfold rKj; omega)) (fun d j _ _ _ => hxs _ _ (by omega) (by omega))⟩
