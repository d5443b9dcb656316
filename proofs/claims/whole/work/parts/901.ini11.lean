theorem ph_ws_of {D : va_G} {cA : Nat → ClassId} {kd : Nat → ph_Kd} {N : Nat} {ad : Nat → Nat} {M : ph_Mem} {H : Heap} {ws : va_W} {A : Nat → Prop} (is : Nat → Nat) (h : ∀ c, c < N → ws[is c]? = some (ad c, ph_E cA ad (kd c) M c)) (hi : ∀ c, c < N → ∀ d, d < N → is c = is d → c = d) (hP : va_P D ph_cl ws H) (hD : va_D A ws) : va_P D ph_cl (ph_ws cA kd N ad M) H ∧ va_D A (ph_ws cA kd N ad M) := by
  have g : ∀ k q, (ph_ws cA kd N ad M)[k]? = some q → k < N ∧ q = (ad k, ph_E cA ad (kd k) M k) := fun k q hk => by
    by_cases z : k < N
    · rw [ph_ws_at z] at hk
      injection hk with hk
      exact ⟨z, hk.symm⟩
    · rw [ph_ws_no z] at hk
      exact absurd hk (by simp)
  refine ⟨fun k q hk => ?_, fun i j p q h1 h2 he => ?_, fun k q hk => ?_⟩
  · obtain ⟨z, rfl⟩ := g k q hk
    exact hP _ _ (h k z)
  · obtain ⟨z1, rfl⟩ := g i p h1
    obtain ⟨z2, rfl⟩ := g j q h2
    exact hi i z1 j z2 (hD.1 _ _ _ _ (h i z1) (h j z2) he)
  · obtain ⟨z, rfl⟩ := g k q hk
    exact hD.2 _ _ (h k z)
def ini11_x (c : Nat) : Nat := ([0, 28, 53, 86, 87, 1, 2, 3, 66, 67, 68, 4, 5, 6, 7, 8, 9, 10, 11, 12, 13, 14, 15, 16, 17, 18, 19, 20, 21, 22, 23, 24, 25, 26, 27, 29, 30, 31, 32, 33, 34, 35, 36, 37, 38, 39, 40, 41, 42, 43, 44, 45, 46, 47, 48, 49, 50, 51, 52, 54, 55, 56, 57, 58, 59, 60, 61, 62, 63, 64, 65, 69, 70, 71, 72, 73, 74, 75, 76, 77, 78, 79, 80, 81, 82, 83, 84, 85] : List Nat).getD c 0
set_option maxRecDepth 100000 in
theorem ini11_xi : ∀ c, c < 88 → ∀ d, d < 88 → ini11_x c = ini11_x d → c = d := by decide +kernel
set_option maxRecDepth 100000 in
set_option maxHeartbeats 8000000 in
theorem ini11_ok {D : va_G} {cA : Nat → ClassId} {h0 : Nat} {A : Nat → Prop} {H : Heap} (h : kp11_init D cA h0 A H) : ∃ (ax : Nat → Nat) (f16 f17 f18 f19 f20 f38 f39 f40 f41 f42 f61 f62 f63 f64 f65 f83 f84 f85 f86 f87 : Nat → Int32), ax 0 = h0 ∧ iniF11 f16 f17 f18 f19 f20 f38 f39 f40 f41 f42 f61 f62 f63 f64 f65 f83 f84 f85 f86 f87 ∧ va_P D ph_cl (ph_ws cA ph_kdX 88 ax (ini11 f16 f17 f18 f19 f20 f38 f39 f40 f41 f42 f61 f62 f63 f64 f65 f83 f84 f85 f86 f87)) H ∧ va_D A (ph_ws cA ph_kdX 88 ax (ini11 f16 f17 f18 f19 f20 f38 f39 f40 f41 f42 f61 f62 f63 f64 f65 f83 f84 f85 f86 f87)) := by
  obtain ⟨q1, q2, q3, q4, q5, q6, q7, q8, q9, q10, q11, q12, q13, q14, q15, q26, q27, q28, q29, q30, q31, q32, q33, q34, q35, q36, q37, q48, q49, q50, q51, q52, q53, q54, q55, q56, q57, q58, q59, q60, q71, q72, q73, q74, q75, q76, q77, q78, q79, q80, q81, q82, q93, q94, q95, q96, q97, q98, q99, q100, q101, q102, q103, q104, q105, q106, q107, q108, q109, q110, q111, q112, q113, q114, q115, q116, q117, q118, q119, q120, q121, q122, q123, q124, q125, q126, q127, f16, f17, f18, f19, f20, f38, f39, f40, f41, f42, f61, f62, f63, f64, f65, f83, f84, f85, f86, f87, g0, g1, g2, g3, g4, g5, g6, g7, g8, g9, g10, g11, g12, g13, g14, g15, g16, g17, g18, g19, hP, hD⟩ := h
  have e : va_up (va_up (fun _ => none) 0 (some q49)) 1 (some q71) = fun j => ((if j = 1 then some 47 else if j = 0 then some 35 else none : Option Nat)).map (fun c => ([h0, q48, q93, q126, q127, q1, q2, q3, q106, q107, q108, q4, q5, q6, q7, q8, q9, q10, q11, q12, q13, q14, q15, q26, q27, q28, q29, q30, q31, q32, q33, q34, q35, q36, q37, q49, q50, q51, q52, q53, q54, q55, q56, q57, q58, q59, q60, q71, q72, q73, q74, q75, q76, q77, q78, q79, q80, q81, q82, q94, q95, q96, q97, q98, q99, q100, q101, q102, q103, q104, q105, q109, q110, q111, q112, q113, q114, q115, q116, q117, q118, q119, q120, q121, q122, q123, q124, q125] : List Nat).getD c 0) := by
    funext j
    by_cases h1 : j = 1
    · subst h1; rfl
    · by_cases h2 : j = 0
      · subst h2; rfl
      · simp [va_up, h1, h2]
  rw [e] at hP hD
  refine ⟨fun c => ([h0, q48, q93, q126, q127, q1, q2, q3, q106, q107, q108, q4, q5, q6, q7, q8, q9, q10, q11, q12, q13, q14, q15, q26, q27, q28, q29, q30, q31, q32, q33, q34, q35, q36, q37, q49, q50, q51, q52, q53, q54, q55, q56, q57, q58, q59, q60, q71, q72, q73, q74, q75, q76, q77, q78, q79, q80, q81, q82, q94, q95, q96, q97, q98, q99, q100, q101, q102, q103, q104, q105, q109, q110, q111, q112, q113, q114, q115, q116, q117, q118, q119, q120, q121, q122, q123, q124, q125] : List Nat).getD c 0, f16, f17, f18, f19, f20, f38, f39, f40, f41, f42, f61, f62, f63, f64, f65, f83, f84, f85, f86, f87, rfl, ⟨g0, g1, g2, g3, g4, g5, g6, g7, g8, g9, g10, g11, g12, g13, g14, g15, g16, g17, g18, g19⟩, ?_⟩
  refine ph_ws_of ini11_x (fun c hc => ?_) ini11_xi hP hD
  match c, hc with
  | 0, _ => exact rfl
  | 1, _ => exact rfl
  | 2, _ => exact rfl
  | 3, _ => exact rfl
  | 4, _ => exact rfl
  | 5, _ => exact rfl
  | 6, _ => exact rfl
  | 7, _ => exact rfl
  | 8, _ => exact rfl
  | 9, _ => exact rfl
  | 10, _ => exact rfl
  | 11, _ => exact rfl
  | 12, _ => exact rfl
  | 13, _ => exact rfl
  | 14, _ => exact rfl
  | 15, _ => exact rfl
  | 16, _ => exact rfl
  | 17, _ => exact rfl
  | 18, _ => exact rfl
  | 19, _ => exact rfl
  | 20, _ => exact rfl
  | 21, _ => exact rfl
  | 22, _ => exact rfl
  | 23, _ => exact rfl
  | 24, _ => exact rfl
  | 25, _ => exact rfl
  | 26, _ => exact rfl
  | 27, _ => exact rfl
  | 28, _ => exact rfl
  | 29, _ => exact rfl
  | 30, _ => exact rfl
  | 31, _ => exact rfl
  | 32, _ => exact rfl
  | 33, _ => exact rfl
  | 34, _ => exact rfl
  | 35, _ => exact rfl
  | 36, _ => exact rfl
  | 37, _ => exact rfl
  | 38, _ => exact rfl
  | 39, _ => exact rfl
  | 40, _ => exact rfl
  | 41, _ => exact rfl
  | 42, _ => exact rfl
  | 43, _ => exact rfl
  | 44, _ => exact rfl
  | 45, _ => exact rfl
  | 46, _ => exact rfl
  | 47, _ => exact rfl
  | 48, _ => exact rfl
  | 49, _ => exact rfl
  | 50, _ => exact rfl
  | 51, _ => exact rfl
  | 52, _ => exact rfl
  | 53, _ => exact rfl
  | 54, _ => exact rfl
  | 55, _ => exact rfl
  | 56, _ => exact rfl
  | 57, _ => exact rfl
  | 58, _ => exact rfl
  | 59, _ => exact rfl
  | 60, _ => exact rfl
  | 61, _ => exact rfl
  | 62, _ => exact rfl
  | 63, _ => exact rfl
  | 64, _ => exact rfl
  | 65, _ => exact rfl
  | 66, _ => exact rfl
  | 67, _ => exact rfl
  | 68, _ => exact rfl
  | 69, _ => exact rfl
  | 70, _ => exact rfl
  | 71, _ => exact rfl
  | 72, _ => exact rfl
  | 73, _ => exact rfl
  | 74, _ => exact rfl
  | 75, _ => exact rfl
  | 76, _ => exact rfl
  | 77, _ => exact rfl
  | 78, _ => exact rfl
  | 79, _ => exact rfl
  | 80, _ => exact rfl
  | 81, _ => exact rfl
  | 82, _ => exact rfl
  | 83, _ => exact rfl
  | 84, _ => exact rfl
  | 85, _ => exact rfl
  | 86, _ => exact rfl
  | 87, _ => exact rfl
  | c + 88, h => exact absurd h (by omega)
