theorem ph_ws_of {D : va_G} {cA : Nat → ClassId} {kd : Nat → ph_Kd} {N : Nat} {ad : Nat → Nat} {M : ph_Mem} {H : Heap} {ws : va_W} {A : Nat → Prop} (is : Nat → Nat) (h : ∀ c, c < N → ws[is c]? = some (ad c, ph_E cA ad (kd c) M c)) (hi : ∀ c, c < N → ∀ d, d < N → is c = is d → c = d) (hP : va_P D ph_cl ws H) (hD : va_D A ws) : va_P D ph_cl (ph_ws cA kd N ad M) H ∧ va_D A (ph_ws cA kd N ad M) := by
  have g : ∀ k q, (ph_ws cA kd N ad M)[k]? = some q → k < N ∧ q = (ad k, ph_E cA ad (kd k) M k) := fun k q hk => by
    by_cases z : k < N
    · rw [ph_ws_at z] at hk
      injection hk with hk
      exact ⟨z, hk.symm⟩
    · rw [ph_ws_no z] at hk
      exact absurd hk (by simp)
  refine ⟨fun k q hk => ?_, fun i j p q h1 h2 he => ?_, fun k q hk => ?_⟩
  · obtain ⟨z, rfl⟩ := g k q hk
    exact hP _ _ (h k z)
  · obtain ⟨z1, rfl⟩ := g i p h1
    obtain ⟨z2, rfl⟩ := g j q h2
    exact hi i z1 j z2 (hD.1 _ _ _ _ (h i z1) (h j z2) he)
  · obtain ⟨z, rfl⟩ := g k q hk
    exact hD.2 _ _ (h k z)
def ini11_x (c : Nat) : Nat := ([0, 28, 53, 86, 87, 1, 2, 3, 66, 67, 68, 4, 5, 6, 7, 8, 9, 10, 11, 12, 13, 14, 15, 16, 17, 18, 19, 20, 21, 22, 23, 24, 25, 26, 27, 29, 30, 31, 32, 33, 34, 35, 36, 37, 38, 39, 40, 41, 42, 43, 44, 45, 46, 47, 48, 49, 50, 51, 52, 54, 55, 56, 57, 58, 59, 60, 61, 62, 63, 64, 65, 69, 70, 71, 72, 73, 74, 75, 76, 77, 78, 79, 80, 81, 82, 83, 84, 85] : List Nat).getD c 0
set_option maxRecDepth 100000 in
theorem ini11_xi : ∀ c, c < 88 → ∀ d, d < 88 → ini11_x c = ini11_x d → c = d := by decide +kernel
set_option maxRecDepth 100000 in
set_option maxHeartbeats 8000000 in
theorem ini11_fin {D : va_G} {cA : Nat → ClassId} {h0 : Nat} {A : Nat → Prop} {H : Heap} (q1 : Nat) (q2 : Nat) (q3 : Nat) (q4 : Nat) (q5 : Nat) (q6 : Nat) (q7 : Nat) (q8 : Nat) (q9 : Nat) (q10 : Nat) (q11 : Nat) (q12 : Nat) (q13 : Nat) (q14 : Nat) (q15 : Nat) (q26 : Nat) (q27 : Nat) (q28 : Nat) (q29 : Nat) (q30 : Nat) (q31 : Nat) (q32 : Nat) (q33 : Nat) (q34 : Nat) (q35 : Nat) (q36 : Nat) (q37 : Nat) (q48 : Nat) (q49 : Nat) (q50 : Nat) (q51 : Nat) (q52 : Nat) (q53 : Nat) (q54 : Nat) (q55 : Nat) (q56 : Nat) (q57 : Nat) (q58 : Nat) (q59 : Nat) (q60 : Nat) (q71 : Nat) (q72 : Nat) (q73 : Nat) (q74 : Nat) (q75 : Nat) (q76 : Nat) (q77 : Nat) (q78 : Nat) (q79 : Nat) (q80 : Nat) (q81 : Nat) (q82 : Nat) (q93 : Nat) (q94 : Nat) (q95 : Nat) (q96 : Nat) (q97 : Nat) (q98 : Nat) (q99 : Nat) (q100 : Nat) (q101 : Nat) (q102 : Nat) (q103 : Nat) (q104 : Nat) (q105 : Nat) (q106 : Nat) (q107 : Nat) (q108 : Nat) (q109 : Nat) (q110 : Nat) (q111 : Nat) (q112 : Nat) (q113 : Nat) (q114 : Nat) (q115 : Nat) (q116 : Nat) (q117 : Nat) (q118 : Nat) (q119 : Nat) (q120 : Nat) (q121 : Nat) (q122 : Nat) (q123 : Nat) (q124 : Nat) (q125 : Nat) (q126 : Nat) (q127 : Nat) (f16 : Nat → Int32) (f17 : Nat → Int32) (f18 : Nat → Int32) (f19 : Nat → Int32) (f20 : Nat → Int32) (f38 : Nat → Int32) (f39 : Nat → Int32) (f40 : Nat → Int32) (f41 : Nat → Int32) (f42 : Nat → Int32) (f61 : Nat → Int32) (f62 : Nat → Int32) (f63 : Nat → Int32) (f64 : Nat → Int32) (f65 : Nat → Int32) (f83 : Nat → Int32) (f84 : Nat → Int32) (f85 : Nat → Int32) (f86 : Nat → Int32) (f87 : Nat → Int32) (hh : (∀ j, j < 72 → f16 j = (-1 : Int32)) ∧ (∀ j, j < 72 → f17 j = (1 : Int32)) ∧ (∀ j, j < 72 → f18 j = (-1 : Int32)) ∧ (∀ j, j < 72 → f19 j = (-1 : Int32)) ∧ (∀ j, j < 8 → f20 j = (-1 : Int32)) ∧ (∀ j, j < 72 → f38 j = (-1 : Int32)) ∧ (∀ j, j < 72 → f39 j = (1 : Int32)) ∧ (∀ j, j < 72 → f40 j = (-1 : Int32)) ∧ (∀ j, j < 72 → f41 j = (-1 : Int32)) ∧ (∀ j, j < 8 → f42 j = (-1 : Int32)) ∧ (∀ j, j < 72 → f61 j = (-1 : Int32)) ∧ (∀ j, j < 72 → f62 j = (1 : Int32)) ∧ (∀ j, j < 72 → f63 j = (-1 : Int32)) ∧ (∀ j, j < 72 → f64 j = (-1 : Int32)) ∧ (∀ j, j < 8 → f65 j = (-1 : Int32)) ∧ (∀ j, j < 72 → f83 j = (-1 : Int32)) ∧ (∀ j, j < 72 → f84 j = (1 : Int32)) ∧ (∀ j, j < 72 → f85 j = (-1 : Int32)) ∧ (∀ j, j < 72 → f86 j = (-1 : Int32)) ∧ (∀ j, j < 8 → f87 j = (-1 : Int32)) ∧ va_P D ph_cl [(h0, .inr (11, [.ref q4, .ref q26, .ref q48, .ref q93, .ref q94, .ref q96, .ref q98, .ref q105, .ref q109, .ref q111, .ref q114, .ref q119, .ref q122, .ref q126, .ref q127, .int (0 : Int32), .int (-1 : Int32), .int (-1 : Int32), .int (0 : Int32)])), (q1, .inr (2, [.ref q2, .ref q3])), (q2, .inl (cA 0, 21, .inl (fun _ => 0))), (q3, .inl (cA 3, 40, .inr (.inl (fun _ => 0)))), (q4, .inr (9, [.ref q1, .int 0, .ref q5, .ref q6, .ref q7, .ref q8, .ref q9, .ref q10, .ref q11, .ref q12, .ref q13, .ref q14, .ref q15, .int 0, .int (-1 : Int32)])), (q5, .inl (cA 0, 6, .inl (fun _ => 0))), (q6, .inl (cA 0, 72, .inl f16)), (q7, .inl (cA 0, 72, .inl (fun _ => 0))), (q8, .inl (cA 0, 72, .inl f17)), (q9, .inl (cA 0, 72, .inl (fun _ => 0))), (q10, .inl (cA 0, 72, .inl f18)), (q11, .inl (cA 0, 72, .inl f19)), (q12, .inl (cA 0, 8, .inl f20)), (q13, .inl (cA 0, 24, .inl (fun _ => 0))), (q14, .inl (cA 0, 5, .inl (va_cpy (ph_tf 3) (fun _ => 0) 0 0 5))), (q15, .inl (cA 5, 6, .inr (.inr (.inr (.inr (fun _ => none)))))), (q26, .inr (9, [.ref q1, .int 0, .ref q27, .ref q28, .ref q29, .ref q30, .ref q31, .ref q32, .ref q33, .ref q34, .ref q35, .ref q36, .ref q37, .int 0, .int (-1 : Int32)])), (q27, .inl (cA 0, 6, .inl (fun _ => 0))), (q28, .inl (cA 0, 72, .inl f38)), (q29, .inl (cA 0, 72, .inl (fun _ => 0))), (q30, .inl (cA 0, 72, .inl f39)), (q31, .inl (cA 0, 72, .inl (fun _ => 0))), (q32, .inl (cA 0, 72, .inl f40)), (q33, .inl (cA 0, 72, .inl f41)), (q34, .inl (cA 0, 8, .inl f42)), (q35, .inl (cA 0, 24, .inl (fun _ => 0))), (q36, .inl (cA 0, 5, .inl (va_cpy (ph_tf 3) (fun _ => 0) 0 0 5))), (q37, .inl (cA 5, 6, .inr (.inr (.inr (.inr (fun _ => none)))))), (q48, .inl (cA 4, 2, .inr (.inr (.inr (.inr (va_up (va_up (fun _ => none) 0 (some q49)) 1 (some q71))))))), (q49, .inr (9, [.ref q1, .int 0, .ref q50, .ref q51, .ref q52, .ref q53, .ref q54, .ref q55, .ref q56, .ref q57, .ref q58, .ref q59, .ref q60, .int 0, .int (-1 : Int32)])), (q50, .inl (cA 0, 6, .inl (fun _ => 0))), (q51, .inl (cA 0, 72, .inl f61)), (q52, .inl (cA 0, 72, .inl (fun _ => 0))), (q53, .inl (cA 0, 72, .inl f62)), (q54, .inl (cA 0, 72, .inl (fun _ => 0))), (q55, .inl (cA 0, 72, .inl f63)), (q56, .inl (cA 0, 72, .inl f64)), (q57, .inl (cA 0, 8, .inl f65)), (q58, .inl (cA 0, 24, .inl (fun _ => 0))), (q59, .inl (cA 0, 5, .inl (va_cpy (ph_tf 3) (fun _ => 0) 0 0 5))), (q60, .inl (cA 5, 6, .inr (.inr (.inr (.inr (fun _ => none)))))), (q71, .inr (9, [.ref q1, .int 0, .ref q72, .ref q73, .ref q74, .ref q75, .ref q76, .ref q77, .ref q78, .ref q79, .ref q80, .ref q81, .ref q82, .int 0, .int (-1 : Int32)])), (q72, .inl (cA 0, 6, .inl (fun _ => 0))), (q73, .inl (cA 0, 72, .inl f83)), (q74, .inl (cA 0, 72, .inl (fun _ => 0))), (q75, .inl (cA 0, 72, .inl f84)), (q76, .inl (cA 0, 72, .inl (fun _ => 0))), (q77, .inl (cA 0, 72, .inl f85)), (q78, .inl (cA 0, 72, .inl f86)), (q79, .inl (cA 0, 8, .inl f87)), (q80, .inl (cA 0, 24, .inl (fun _ => 0))), (q81, .inl (cA 0, 5, .inl (va_cpy (ph_tf 3) (fun _ => 0) 0 0 5))), (q82, .inl (cA 5, 6, .inr (.inr (.inr (.inr (fun _ => none)))))), (q93, .inl (cA 2, 2, .inl (fun _ => 0))), (q94, .inr (1, [.ref q95, .int 0, .int 0])), (q95, .inl (cA 0, 192, .inl (fun _ => 0))), (q96, .inr (1, [.ref q97, .int 0, .int 0])), (q97, .inl (cA 0, 192, .inl (fun _ => 0))), (q98, .inr (6, [.ref q99, .int 0, .int 0, .int 0, .ref q100, .ref q101, .ref q102, .int 0, .int 0, .int 0, .int 0, .int 0, .ref q103, .ref q104, .int 0])), (q99, .inl (cA 0, 400, .inl (fun _ => 0))), (q100, .inl (cA 0, 401, .inl (fun _ => 0))), (q101, .inl (cA 0, 401, .inl (fun _ => 0))), (q102, .inl (cA 0, 401, .inl (fun _ => 0))), (q103, .inl (cA 0, 72, .inl (fun _ => 0))), (q104, .inl (cA 0, 400, .inl (fun _ => 0))), (q105, .inr (8, [.ref q106, .int 0])), (q106, .inr (2, [.ref q107, .ref q108])), (q107, .inl (cA 0, 21, .inl (fun _ => 0))), (q108, .inl (cA 3, 40, .inr (.inl (fun _ => 0)))), (q109, .inr (0, [.ref q4, .ref q110])), (q110, .inl (cA 0, 6, .inl (fun _ => 0))), (q111, .inr (5, [.ref q4, .ref q112, .ref q113, .int 0, .int 0, .int 0, .int 0, .int 0, .int 0, .int 0])), (q112, .inl (cA 0, 12, .inl (fun _ => 0))), (q113, .inl (cA 0, 13, .inl (fun _ => 0))), (q114, .inr (7, [.ref q4, .ref q115, .ref q116, .ref q117, .ref q118, .int 0, .int 0, .int 0, .int 0])), (q115, .inl (cA 0, 6, .inl (fun _ => 0))), (q116, .inl (cA 0, 6, .inl (fun _ => 0))), (q117, .inl (cA 0, 6, .inl (fun _ => 0))), (q118, .inl (cA 0, 366, .inl (fun _ => 0))), (q119, .inr (3, [.ref q4, .ref q120, .ref q121])), (q120, .inl (cA 0, 320, .inl (fun _ => 0))), (q121, .inl (cA 0, 4, .inl (fun _ => 0))), (q122, .inr (10, [.int 0, .ref q123, .ref q124, .ref q125, .long 0])), (q123, .inl (cA 0, 6, .inl (fun _ => 0))), (q124, .inl (cA 0, 6, .inl (fun _ => 0))), (q125, .inl (cA 0, 6, .inl (fun _ => 0))), (q126, .inl (cA 0, 7, .inl (fun _ => 0))), (q127, .inl (cA 3, 41, .inr (.inl (fun _ => 0))))] H ∧ va_D A [(h0, .inr (11, [.ref q4, .ref q26, .ref q48, .ref q93, .ref q94, .ref q96, .ref q98, .ref q105, .ref q109, .ref q111, .ref q114, .ref q119, .ref q122, .ref q126, .ref q127, .int (0 : Int32), .int (-1 : Int32), .int (-1 : Int32), .int (0 : Int32)])), (q1, .inr (2, [.ref q2, .ref q3])), (q2, .inl (cA 0, 21, .inl (fun _ => 0))), (q3, .inl (cA 3, 40, .inr (.inl (fun _ => 0)))), (q4, .inr (9, [.ref q1, .int 0, .ref q5, .ref q6, .ref q7, .ref q8, .ref q9, .ref q10, .ref q11, .ref q12, .ref q13, .ref q14, .ref q15, .int 0, .int (-1 : Int32)])), (q5, .inl (cA 0, 6, .inl (fun _ => 0))), (q6, .inl (cA 0, 72, .inl f16)), (q7, .inl (cA 0, 72, .inl (fun _ => 0))), (q8, .inl (cA 0, 72, .inl f17)), (q9, .inl (cA 0, 72, .inl (fun _ => 0))), (q10, .inl (cA 0, 72, .inl f18)), (q11, .inl (cA 0, 72, .inl f19)), (q12, .inl (cA 0, 8, .inl f20)), (q13, .inl (cA 0, 24, .inl (fun _ => 0))), (q14, .inl (cA 0, 5, .inl (va_cpy (ph_tf 3) (fun _ => 0) 0 0 5))), (q15, .inl (cA 5, 6, .inr (.inr (.inr (.inr (fun _ => none)))))), (q26, .inr (9, [.ref q1, .int 0, .ref q27, .ref q28, .ref q29, .ref q30, .ref q31, .ref q32, .ref q33, .ref q34, .ref q35, .ref q36, .ref q37, .int 0, .int (-1 : Int32)])), (q27, .inl (cA 0, 6, .inl (fun _ => 0))), (q28, .inl (cA 0, 72, .inl f38)), (q29, .inl (cA 0, 72, .inl (fun _ => 0))), (q30, .inl (cA 0, 72, .inl f39)), (q31, .inl (cA 0, 72, .inl (fun _ => 0))), (q32, .inl (cA 0, 72, .inl f40)), (q33, .inl (cA 0, 72, .inl f41)), (q34, .inl (cA 0, 8, .inl f42)), (q35, .inl (cA 0, 24, .inl (fun _ => 0))), (q36, .inl (cA 0, 5, .inl (va_cpy (ph_tf 3) (fun _ => 0) 0 0 5))), (q37, .inl (cA 5, 6, .inr (.inr (.inr (.inr (fun _ => none)))))), (q48, .inl (cA 4, 2, .inr (.inr (.inr (.inr (va_up (va_up (fun _ => none) 0 (some q49)) 1 (some q71))))))), (q49, .inr (9, [.ref q1, .int 0, .ref q50, .ref q51, .ref q52, .ref q53, .ref q54, .ref q55, .ref q56, .ref q57, .ref q58, .ref q59, .ref q60, .int 0, .int (-1 : Int32)])), (q50, .inl (cA 0, 6, .inl (fun _ => 0))), (q51, .inl (cA 0, 72, .inl f61)), (q52, .inl (cA 0, 72, .inl (fun _ => 0))), (q53, .inl (cA 0, 72, .inl f62)), (q54, .inl (cA 0, 72, .inl (fun _ => 0))), (q55, .inl (cA 0, 72, .inl f63)), (q56, .inl (cA 0, 72, .inl f64)), (q57, .inl (cA 0, 8, .inl f65)), (q58, .inl (cA 0, 24, .inl (fun _ => 0))), (q59, .inl (cA 0, 5, .inl (va_cpy (ph_tf 3) (fun _ => 0) 0 0 5))), (q60, .inl (cA 5, 6, .inr (.inr (.inr (.inr (fun _ => none)))))), (q71, .inr (9, [.ref q1, .int 0, .ref q72, .ref q73, .ref q74, .ref q75, .ref q76, .ref q77, .ref q78, .ref q79, .ref q80, .ref q81, .ref q82, .int 0, .int (-1 : Int32)])), (q72, .inl (cA 0, 6, .inl (fun _ => 0))), (q73, .inl (cA 0, 72, .inl f83)), (q74, .inl (cA 0, 72, .inl (fun _ => 0))), (q75, .inl (cA 0, 72, .inl f84)), (q76, .inl (cA 0, 72, .inl (fun _ => 0))), (q77, .inl (cA 0, 72, .inl f85)), (q78, .inl (cA 0, 72, .inl f86)), (q79, .inl (cA 0, 8, .inl f87)), (q80, .inl (cA 0, 24, .inl (fun _ => 0))), (q81, .inl (cA 0, 5, .inl (va_cpy (ph_tf 3) (fun _ => 0) 0 0 5))), (q82, .inl (cA 5, 6, .inr (.inr (.inr (.inr (fun _ => none)))))), (q93, .inl (cA 2, 2, .inl (fun _ => 0))), (q94, .inr (1, [.ref q95, .int 0, .int 0])), (q95, .inl (cA 0, 192, .inl (fun _ => 0))), (q96, .inr (1, [.ref q97, .int 0, .int 0])), (q97, .inl (cA 0, 192, .inl (fun _ => 0))), (q98, .inr (6, [.ref q99, .int 0, .int 0, .int 0, .ref q100, .ref q101, .ref q102, .int 0, .int 0, .int 0, .int 0, .int 0, .ref q103, .ref q104, .int 0])), (q99, .inl (cA 0, 400, .inl (fun _ => 0))), (q100, .inl (cA 0, 401, .inl (fun _ => 0))), (q101, .inl (cA 0, 401, .inl (fun _ => 0))), (q102, .inl (cA 0, 401, .inl (fun _ => 0))), (q103, .inl (cA 0, 72, .inl (fun _ => 0))), (q104, .inl (cA 0, 400, .inl (fun _ => 0))), (q105, .inr (8, [.ref q106, .int 0])), (q106, .inr (2, [.ref q107, .ref q108])), (q107, .inl (cA 0, 21, .inl (fun _ => 0))), (q108, .inl (cA 3, 40, .inr (.inl (fun _ => 0)))), (q109, .inr (0, [.ref q4, .ref q110])), (q110, .inl (cA 0, 6, .inl (fun _ => 0))), (q111, .inr (5, [.ref q4, .ref q112, .ref q113, .int 0, .int 0, .int 0, .int 0, .int 0, .int 0, .int 0])), (q112, .inl (cA 0, 12, .inl (fun _ => 0))), (q113, .inl (cA 0, 13, .inl (fun _ => 0))), (q114, .inr (7, [.ref q4, .ref q115, .ref q116, .ref q117, .ref q118, .int 0, .int 0, .int 0, .int 0])), (q115, .inl (cA 0, 6, .inl (fun _ => 0))), (q116, .inl (cA 0, 6, .inl (fun _ => 0))), (q117, .inl (cA 0, 6, .inl (fun _ => 0))), (q118, .inl (cA 0, 366, .inl (fun _ => 0))), (q119, .inr (3, [.ref q4, .ref q120, .ref q121])), (q120, .inl (cA 0, 320, .inl (fun _ => 0))), (q121, .inl (cA 0, 4, .inl (fun _ => 0))), (q122, .inr (10, [.int 0, .ref q123, .ref q124, .ref q125, .long 0])), (q123, .inl (cA 0, 6, .inl (fun _ => 0))), (q124, .inl (cA 0, 6, .inl (fun _ => 0))), (q125, .inl (cA 0, 6, .inl (fun _ => 0))), (q126, .inl (cA 0, 7, .inl (fun _ => 0))), (q127, .inl (cA 3, 41, .inr (.inl (fun _ => 0))))]) : ∃ (ax : Nat → Nat) (f16 f17 f18 f19 f20 f38 f39 f40 f41 f42 f61 f62 f63 f64 f65 f83 f84 f85 f86 f87 : Nat → Int32), ax 0 = h0 ∧ iniF11 f16 f17 f18 f19 f20 f38 f39 f40 f41 f42 f61 f62 f63 f64 f65 f83 f84 f85 f86 f87 ∧ va_P D ph_cl (ph_ws cA ph_kdX 88 ax (ini11 f16 f17 f18 f19 f20 f38 f39 f40 f41 f42 f61 f62 f63 f64 f65 f83 f84 f85 f86 f87)) H ∧ va_D A (ph_ws cA ph_kdX 88 ax (ini11 f16 f17 f18 f19 f20 f38 f39 f40 f41 f42 f61 f62 f63 f64 f65 f83 f84 f85 f86 f87)) := by
  have g0 := hh.1
  have g1 := hh.2.1
  have g2 := hh.2.2.1
  have g3 := hh.2.2.2.1
  have g4 := hh.2.2.2.2.1
  have g5 := hh.2.2.2.2.2.1
  have g6 := hh.2.2.2.2.2.2.1
  have g7 := hh.2.2.2.2.2.2.2.1
  have g8 := hh.2.2.2.2.2.2.2.2.1
  have g9 := hh.2.2.2.2.2.2.2.2.2.1
  have g10 := hh.2.2.2.2.2.2.2.2.2.2.1
  have g11 := hh.2.2.2.2.2.2.2.2.2.2.2.1
  have g12 := hh.2.2.2.2.2.2.2.2.2.2.2.2.1
  have g13 := hh.2.2.2.2.2.2.2.2.2.2.2.2.2.1
  have g14 := hh.2.2.2.2.2.2.2.2.2.2.2.2.2.2.1
  have g15 := hh.2.2.2.2.2.2.2.2.2.2.2.2.2.2.2.1
  have g16 := hh.2.2.2.2.2.2.2.2.2.2.2.2.2.2.2.2.1
  have g17 := hh.2.2.2.2.2.2.2.2.2.2.2.2.2.2.2.2.2.1
  have g18 := hh.2.2.2.2.2.2.2.2.2.2.2.2.2.2.2.2.2.2.1
  have g19 := hh.2.2.2.2.2.2.2.2.2.2.2.2.2.2.2.2.2.2.2.1
  have hP := hh.2.2.2.2.2.2.2.2.2.2.2.2.2.2.2.2.2.2.2.2.1
  have hD := hh.2.2.2.2.2.2.2.2.2.2.2.2.2.2.2.2.2.2.2.2.2
  clear hh
  have e : va_up (va_up (fun _ => none) 0 (some q49)) 1 (some q71) = fun j => ((if j = 1 then some 47 else if j = 0 then some 35 else none : Option Nat)).map (fun c => ([h0, q48, q93, q126, q127, q1, q2, q3, q106, q107, q108, q4, q5, q6, q7, q8, q9, q10, q11, q12, q13, q14, q15, q26, q27, q28, q29, q30, q31, q32, q33, q34, q35, q36, q37, q49, q50, q51, q52, q53, q54, q55, q56, q57, q58, q59, q60, q71, q72, q73, q74, q75, q76, q77, q78, q79, q80, q81, q82, q94, q95, q96, q97, q98, q99, q100, q101, q102, q103, q104, q105, q109, q110, q111, q112, q113, q114, q115, q116, q117, q118, q119, q120, q121, q122, q123, q124, q125] : List Nat).getD c 0) := by
    funext j
    by_cases h1 : j = 1
    · subst h1; rfl
    · by_cases h2 : j = 0
      · subst h2; rfl
      · simp [va_up, h1, h2]
  rw [e] at hP hD
  refine ⟨fun c => ([h0, q48, q93, q126, q127, q1, q2, q3, q106, q107, q108, q4, q5, q6, q7, q8, q9, q10, q11, q12, q13, q14, q15, q26, q27, q28, q29, q30, q31, q32, q33, q34, q35, q36, q37, q49, q50, q51, q52, q53, q54, q55, q56, q57, q58, q59, q60, q71, q72, q73, q74, q75, q76, q77, q78, q79, q80, q81, q82, q94, q95, q96, q97, q98, q99, q100, q101, q102, q103, q104, q105, q109, q110, q111, q112, q113, q114, q115, q116, q117, q118, q119, q120, q121, q122, q123, q124, q125] : List Nat).getD c 0, f16, f17, f18, f19, f20, f38, f39, f40, f41, f42, f61, f62, f63, f64, f65, f83, f84, f85, f86, f87, rfl, ⟨g0, g1, g2, g3, g4, g5, g6, g7, g8, g9, g10, g11, g12, g13, g14, g15, g16, g17, g18, g19⟩, ?_⟩
  refine ph_ws_of ini11_x (fun c hc => ?_) ini11_xi hP hD
  match c, hc with
  | 0, _ => exact rfl
  | 1, _ => exact rfl
  | 2, _ => exact rfl
  | 3, _ => exact rfl
  | 4, _ => exact rfl
  | 5, _ => exact rfl
  | 6, _ => exact rfl
  | 7, _ => exact rfl
  | 8, _ => exact rfl
  | 9, _ => exact rfl
  | 10, _ => exact rfl
  | 11, _ => exact rfl
  | 12, _ => exact rfl
  | 13, _ => exact rfl
  | 14, _ => exact rfl
  | 15, _ => exact rfl
  | 16, _ => exact rfl
  | 17, _ => exact rfl
  | 18, _ => exact rfl
  | 19, _ => exact rfl
  | 20, _ => exact rfl
  | 21, _ => exact rfl
  | 22, _ => exact rfl
  | 23, _ => exact rfl
  | 24, _ => exact rfl
  | 25, _ => exact rfl
  | 26, _ => exact rfl
  | 27, _ => exact rfl
  | 28, _ => exact rfl
  | 29, _ => exact rfl
  | 30, _ => exact rfl
  | 31, _ => exact rfl
  | 32, _ => exact rfl
  | 33, _ => exact rfl
  | 34, _ => exact rfl
  | 35, _ => exact rfl
  | 36, _ => exact rfl
  | 37, _ => exact rfl
  | 38, _ => exact rfl
  | 39, _ => exact rfl
  | 40, _ => exact rfl
  | 41, _ => exact rfl
  | 42, _ => exact rfl
  | 43, _ => exact rfl
  | 44, _ => exact rfl
  | 45, _ => exact rfl
  | 46, _ => exact rfl
  | 47, _ => exact rfl
  | 48, _ => exact rfl
  | 49, _ => exact rfl
  | 50, _ => exact rfl
  | 51, _ => exact rfl
  | 52, _ => exact rfl
  | 53, _ => exact rfl
  | 54, _ => exact rfl
  | 55, _ => exact rfl
  | 56, _ => exact rfl
  | 57, _ => exact rfl
  | 58, _ => exact rfl
  | 59, _ => exact rfl
  | 60, _ => exact rfl
  | 61, _ => exact rfl
  | 62, _ => exact rfl
  | 63, _ => exact rfl
  | 64, _ => exact rfl
  | 65, _ => exact rfl
  | 66, _ => exact rfl
  | 67, _ => exact rfl
  | 68, _ => exact rfl
  | 69, _ => exact rfl
  | 70, _ => exact rfl
  | 71, _ => exact rfl
  | 72, _ => exact rfl
  | 73, _ => exact rfl
  | 74, _ => exact rfl
  | 75, _ => exact rfl
  | 76, _ => exact rfl
  | 77, _ => exact rfl
  | 78, _ => exact rfl
  | 79, _ => exact rfl
  | 80, _ => exact rfl
  | 81, _ => exact rfl
  | 82, _ => exact rfl
  | 83, _ => exact rfl
  | 84, _ => exact rfl
  | 85, _ => exact rfl
  | 86, _ => exact rfl
  | 87, _ => exact rfl
  | c + 88, h => exact absurd h (by omega)
