/-! what is made -/
theorem fty_0 : ∀ j, j < nfN 0 → fTy 0 j = .int ∨ fTy 0 j = .boolean ∨ (∃ C, fTy 0 j = .object C) ∨ ∃ t, fTy 0 j = .array t := by
  intro j hj
  have hj : j < 17 := hj
  match j, hj with
  | 0, _ => first | exact Or.inl rfl | exact Or.inr (Or.inl rfl) | exact Or.inr (Or.inr (Or.inl ⟨_, rfl⟩)) | exact Or.inr (Or.inr (Or.inr ⟨_, rfl⟩))
  | 1, _ => first | exact Or.inl rfl | exact Or.inr (Or.inl rfl) | exact Or.inr (Or.inr (Or.inl ⟨_, rfl⟩)) | exact Or.inr (Or.inr (Or.inr ⟨_, rfl⟩))
  | 2, _ => first | exact Or.inl rfl | exact Or.inr (Or.inl rfl) | exact Or.inr (Or.inr (Or.inl ⟨_, rfl⟩)) | exact Or.inr (Or.inr (Or.inr ⟨_, rfl⟩))
  | 3, _ => first | exact Or.inl rfl | exact Or.inr (Or.inl rfl) | exact Or.inr (Or.inr (Or.inl ⟨_, rfl⟩)) | exact Or.inr (Or.inr (Or.inr ⟨_, rfl⟩))
  | 4, _ => first | exact Or.inl rfl | exact Or.inr (Or.inl rfl) | exact Or.inr (Or.inr (Or.inl ⟨_, rfl⟩)) | exact Or.inr (Or.inr (Or.inr ⟨_, rfl⟩))
  | 5, _ => first | exact Or.inl rfl | exact Or.inr (Or.inl rfl) | exact Or.inr (Or.inr (Or.inl ⟨_, rfl⟩)) | exact Or.inr (Or.inr (Or.inr ⟨_, rfl⟩))
  | 6, _ => first | exact Or.inl rfl | exact Or.inr (Or.inl rfl) | exact Or.inr (Or.inr (Or.inl ⟨_, rfl⟩)) | exact Or.inr (Or.inr (Or.inr ⟨_, rfl⟩))
  | 7, _ => first | exact Or.inl rfl | exact Or.inr (Or.inl rfl) | exact Or.inr (Or.inr (Or.inl ⟨_, rfl⟩)) | exact Or.inr (Or.inr (Or.inr ⟨_, rfl⟩))
  | 8, _ => first | exact Or.inl rfl | exact Or.inr (Or.inl rfl) | exact Or.inr (Or.inr (Or.inl ⟨_, rfl⟩)) | exact Or.inr (Or.inr (Or.inr ⟨_, rfl⟩))
  | 9, _ => first | exact Or.inl rfl | exact Or.inr (Or.inl rfl) | exact Or.inr (Or.inr (Or.inl ⟨_, rfl⟩)) | exact Or.inr (Or.inr (Or.inr ⟨_, rfl⟩))
  | 10, _ => first | exact Or.inl rfl | exact Or.inr (Or.inl rfl) | exact Or.inr (Or.inr (Or.inl ⟨_, rfl⟩)) | exact Or.inr (Or.inr (Or.inr ⟨_, rfl⟩))
  | 11, _ => first | exact Or.inl rfl | exact Or.inr (Or.inl rfl) | exact Or.inr (Or.inr (Or.inl ⟨_, rfl⟩)) | exact Or.inr (Or.inr (Or.inr ⟨_, rfl⟩))
  | 12, _ => first | exact Or.inl rfl | exact Or.inr (Or.inl rfl) | exact Or.inr (Or.inr (Or.inl ⟨_, rfl⟩)) | exact Or.inr (Or.inr (Or.inr ⟨_, rfl⟩))
  | 13, _ => first | exact Or.inl rfl | exact Or.inr (Or.inl rfl) | exact Or.inr (Or.inr (Or.inl ⟨_, rfl⟩)) | exact Or.inr (Or.inr (Or.inr ⟨_, rfl⟩))
  | 14, _ => first | exact Or.inl rfl | exact Or.inr (Or.inl rfl) | exact Or.inr (Or.inr (Or.inl ⟨_, rfl⟩)) | exact Or.inr (Or.inr (Or.inr ⟨_, rfl⟩))
  | 15, _ => first | exact Or.inl rfl | exact Or.inr (Or.inl rfl) | exact Or.inr (Or.inr (Or.inl ⟨_, rfl⟩)) | exact Or.inr (Or.inr (Or.inr ⟨_, rfl⟩))
  | 16, _ => first | exact Or.inl rfl | exact Or.inr (Or.inl rfl) | exact Or.inr (Or.inr (Or.inl ⟨_, rfl⟩)) | exact Or.inr (Or.inr (Or.inr ⟨_, rfl⟩))
  | j + 17, h => exact absurd h (by omega)
theorem fty_1 : ∀ j, j < nfN 1 → fTy 1 j = .int ∨ fTy 1 j = .boolean ∨ (∃ C, fTy 1 j = .object C) ∨ ∃ t, fTy 1 j = .array t := by
  intro j hj
  have hj : j < 16 := hj
  match j, hj with
  | 0, _ => first | exact Or.inl rfl | exact Or.inr (Or.inl rfl) | exact Or.inr (Or.inr (Or.inl ⟨_, rfl⟩)) | exact Or.inr (Or.inr (Or.inr ⟨_, rfl⟩))
  | 1, _ => first | exact Or.inl rfl | exact Or.inr (Or.inl rfl) | exact Or.inr (Or.inr (Or.inl ⟨_, rfl⟩)) | exact Or.inr (Or.inr (Or.inr ⟨_, rfl⟩))
  | 2, _ => first | exact Or.inl rfl | exact Or.inr (Or.inl rfl) | exact Or.inr (Or.inr (Or.inl ⟨_, rfl⟩)) | exact Or.inr (Or.inr (Or.inr ⟨_, rfl⟩))
  | 3, _ => first | exact Or.inl rfl | exact Or.inr (Or.inl rfl) | exact Or.inr (Or.inr (Or.inl ⟨_, rfl⟩)) | exact Or.inr (Or.inr (Or.inr ⟨_, rfl⟩))
  | 4, _ => first | exact Or.inl rfl | exact Or.inr (Or.inl rfl) | exact Or.inr (Or.inr (Or.inl ⟨_, rfl⟩)) | exact Or.inr (Or.inr (Or.inr ⟨_, rfl⟩))
  | 5, _ => first | exact Or.inl rfl | exact Or.inr (Or.inl rfl) | exact Or.inr (Or.inr (Or.inl ⟨_, rfl⟩)) | exact Or.inr (Or.inr (Or.inr ⟨_, rfl⟩))
  | 6, _ => first | exact Or.inl rfl | exact Or.inr (Or.inl rfl) | exact Or.inr (Or.inr (Or.inl ⟨_, rfl⟩)) | exact Or.inr (Or.inr (Or.inr ⟨_, rfl⟩))
  | 7, _ => first | exact Or.inl rfl | exact Or.inr (Or.inl rfl) | exact Or.inr (Or.inr (Or.inl ⟨_, rfl⟩)) | exact Or.inr (Or.inr (Or.inr ⟨_, rfl⟩))
  | 8, _ => first | exact Or.inl rfl | exact Or.inr (Or.inl rfl) | exact Or.inr (Or.inr (Or.inl ⟨_, rfl⟩)) | exact Or.inr (Or.inr (Or.inr ⟨_, rfl⟩))
  | 9, _ => first | exact Or.inl rfl | exact Or.inr (Or.inl rfl) | exact Or.inr (Or.inr (Or.inl ⟨_, rfl⟩)) | exact Or.inr (Or.inr (Or.inr ⟨_, rfl⟩))
  | 10, _ => first | exact Or.inl rfl | exact Or.inr (Or.inl rfl) | exact Or.inr (Or.inr (Or.inl ⟨_, rfl⟩)) | exact Or.inr (Or.inr (Or.inr ⟨_, rfl⟩))
  | 11, _ => first | exact Or.inl rfl | exact Or.inr (Or.inl rfl) | exact Or.inr (Or.inr (Or.inl ⟨_, rfl⟩)) | exact Or.inr (Or.inr (Or.inr ⟨_, rfl⟩))
  | 12, _ => first | exact Or.inl rfl | exact Or.inr (Or.inl rfl) | exact Or.inr (Or.inr (Or.inl ⟨_, rfl⟩)) | exact Or.inr (Or.inr (Or.inr ⟨_, rfl⟩))
  | 13, _ => first | exact Or.inl rfl | exact Or.inr (Or.inl rfl) | exact Or.inr (Or.inr (Or.inl ⟨_, rfl⟩)) | exact Or.inr (Or.inr (Or.inr ⟨_, rfl⟩))
  | 14, _ => first | exact Or.inl rfl | exact Or.inr (Or.inl rfl) | exact Or.inr (Or.inr (Or.inl ⟨_, rfl⟩)) | exact Or.inr (Or.inr (Or.inr ⟨_, rfl⟩))
  | 15, _ => first | exact Or.inl rfl | exact Or.inr (Or.inl rfl) | exact Or.inr (Or.inr (Or.inl ⟨_, rfl⟩)) | exact Or.inr (Or.inr (Or.inr ⟨_, rfl⟩))
  | j + 16, h => exact absurd h (by omega)
theorem fty_2 : ∀ j, j < nfN 2 → fTy 2 j = .int ∨ fTy 2 j = .boolean ∨ (∃ C, fTy 2 j = .object C) ∨ ∃ t, fTy 2 j = .array t := by
  intro j hj
  have hj : j < 6 := hj
  match j, hj with
  | 0, _ => first | exact Or.inl rfl | exact Or.inr (Or.inl rfl) | exact Or.inr (Or.inr (Or.inl ⟨_, rfl⟩)) | exact Or.inr (Or.inr (Or.inr ⟨_, rfl⟩))
  | 1, _ => first | exact Or.inl rfl | exact Or.inr (Or.inl rfl) | exact Or.inr (Or.inr (Or.inl ⟨_, rfl⟩)) | exact Or.inr (Or.inr (Or.inr ⟨_, rfl⟩))
  | 2, _ => first | exact Or.inl rfl | exact Or.inr (Or.inl rfl) | exact Or.inr (Or.inr (Or.inl ⟨_, rfl⟩)) | exact Or.inr (Or.inr (Or.inr ⟨_, rfl⟩))
  | 3, _ => first | exact Or.inl rfl | exact Or.inr (Or.inl rfl) | exact Or.inr (Or.inr (Or.inl ⟨_, rfl⟩)) | exact Or.inr (Or.inr (Or.inr ⟨_, rfl⟩))
  | 4, _ => first | exact Or.inl rfl | exact Or.inr (Or.inl rfl) | exact Or.inr (Or.inr (Or.inl ⟨_, rfl⟩)) | exact Or.inr (Or.inr (Or.inr ⟨_, rfl⟩))
  | 5, _ => first | exact Or.inl rfl | exact Or.inr (Or.inl rfl) | exact Or.inr (Or.inr (Or.inl ⟨_, rfl⟩)) | exact Or.inr (Or.inr (Or.inr ⟨_, rfl⟩))
  | j + 6, h => exact absurd h (by omega)
theorem fty_3 : ∀ j, j < nfN 3 → fTy 3 j = .int ∨ fTy 3 j = .boolean ∨ (∃ C, fTy 3 j = .object C) ∨ ∃ t, fTy 3 j = .array t := by
  intro j hj
  have hj : j < 7 := hj
  match j, hj with
  | 0, _ => first | exact Or.inl rfl | exact Or.inr (Or.inl rfl) | exact Or.inr (Or.inr (Or.inl ⟨_, rfl⟩)) | exact Or.inr (Or.inr (Or.inr ⟨_, rfl⟩))
  | 1, _ => first | exact Or.inl rfl | exact Or.inr (Or.inl rfl) | exact Or.inr (Or.inr (Or.inl ⟨_, rfl⟩)) | exact Or.inr (Or.inr (Or.inr ⟨_, rfl⟩))
  | 2, _ => first | exact Or.inl rfl | exact Or.inr (Or.inl rfl) | exact Or.inr (Or.inr (Or.inl ⟨_, rfl⟩)) | exact Or.inr (Or.inr (Or.inr ⟨_, rfl⟩))
  | 3, _ => first | exact Or.inl rfl | exact Or.inr (Or.inl rfl) | exact Or.inr (Or.inr (Or.inl ⟨_, rfl⟩)) | exact Or.inr (Or.inr (Or.inr ⟨_, rfl⟩))
  | 4, _ => first | exact Or.inl rfl | exact Or.inr (Or.inl rfl) | exact Or.inr (Or.inr (Or.inl ⟨_, rfl⟩)) | exact Or.inr (Or.inr (Or.inr ⟨_, rfl⟩))
  | 5, _ => first | exact Or.inl rfl | exact Or.inr (Or.inl rfl) | exact Or.inr (Or.inr (Or.inl ⟨_, rfl⟩)) | exact Or.inr (Or.inr (Or.inr ⟨_, rfl⟩))
  | 6, _ => first | exact Or.inl rfl | exact Or.inr (Or.inl rfl) | exact Or.inr (Or.inr (Or.inl ⟨_, rfl⟩)) | exact Or.inr (Or.inr (Or.inr ⟨_, rfl⟩))
  | j + 7, h => exact absurd h (by omega)
theorem fty_4 : ∀ j, j < nfN 4 → fTy 4 j = .int ∨ fTy 4 j = .boolean ∨ (∃ C, fTy 4 j = .object C) ∨ ∃ t, fTy 4 j = .array t := by
  intro j hj
  have hj : j < 13 := hj
  match j, hj with
  | 0, _ => first | exact Or.inl rfl | exact Or.inr (Or.inl rfl) | exact Or.inr (Or.inr (Or.inl ⟨_, rfl⟩)) | exact Or.inr (Or.inr (Or.inr ⟨_, rfl⟩))
  | 1, _ => first | exact Or.inl rfl | exact Or.inr (Or.inl rfl) | exact Or.inr (Or.inr (Or.inl ⟨_, rfl⟩)) | exact Or.inr (Or.inr (Or.inr ⟨_, rfl⟩))
  | 2, _ => first | exact Or.inl rfl | exact Or.inr (Or.inl rfl) | exact Or.inr (Or.inr (Or.inl ⟨_, rfl⟩)) | exact Or.inr (Or.inr (Or.inr ⟨_, rfl⟩))
  | 3, _ => first | exact Or.inl rfl | exact Or.inr (Or.inl rfl) | exact Or.inr (Or.inr (Or.inl ⟨_, rfl⟩)) | exact Or.inr (Or.inr (Or.inr ⟨_, rfl⟩))
  | 4, _ => first | exact Or.inl rfl | exact Or.inr (Or.inl rfl) | exact Or.inr (Or.inr (Or.inl ⟨_, rfl⟩)) | exact Or.inr (Or.inr (Or.inr ⟨_, rfl⟩))
  | 5, _ => first | exact Or.inl rfl | exact Or.inr (Or.inl rfl) | exact Or.inr (Or.inr (Or.inl ⟨_, rfl⟩)) | exact Or.inr (Or.inr (Or.inr ⟨_, rfl⟩))
  | 6, _ => first | exact Or.inl rfl | exact Or.inr (Or.inl rfl) | exact Or.inr (Or.inr (Or.inl ⟨_, rfl⟩)) | exact Or.inr (Or.inr (Or.inr ⟨_, rfl⟩))
  | 7, _ => first | exact Or.inl rfl | exact Or.inr (Or.inl rfl) | exact Or.inr (Or.inr (Or.inl ⟨_, rfl⟩)) | exact Or.inr (Or.inr (Or.inr ⟨_, rfl⟩))
  | 8, _ => first | exact Or.inl rfl | exact Or.inr (Or.inl rfl) | exact Or.inr (Or.inr (Or.inl ⟨_, rfl⟩)) | exact Or.inr (Or.inr (Or.inr ⟨_, rfl⟩))
  | 9, _ => first | exact Or.inl rfl | exact Or.inr (Or.inl rfl) | exact Or.inr (Or.inr (Or.inl ⟨_, rfl⟩)) | exact Or.inr (Or.inr (Or.inr ⟨_, rfl⟩))
  | 10, _ => first | exact Or.inl rfl | exact Or.inr (Or.inl rfl) | exact Or.inr (Or.inr (Or.inl ⟨_, rfl⟩)) | exact Or.inr (Or.inr (Or.inr ⟨_, rfl⟩))
  | 11, _ => first | exact Or.inl rfl | exact Or.inr (Or.inl rfl) | exact Or.inr (Or.inr (Or.inl ⟨_, rfl⟩)) | exact Or.inr (Or.inr (Or.inr ⟨_, rfl⟩))
  | 12, _ => first | exact Or.inl rfl | exact Or.inr (Or.inl rfl) | exact Or.inr (Or.inr (Or.inl ⟨_, rfl⟩)) | exact Or.inr (Or.inr (Or.inr ⟨_, rfl⟩))
  | j + 13, h => exact absurd h (by omega)
theorem fty_5 : ∀ j, j < nfN 5 → fTy 5 j = .int ∨ fTy 5 j = .boolean ∨ (∃ C, fTy 5 j = .object C) ∨ ∃ t, fTy 5 j = .array t := by
  intro j hj
  have hj : j < 4 := hj
  match j, hj with
  | 0, _ => first | exact Or.inl rfl | exact Or.inr (Or.inl rfl) | exact Or.inr (Or.inr (Or.inl ⟨_, rfl⟩)) | exact Or.inr (Or.inr (Or.inr ⟨_, rfl⟩))
  | 1, _ => first | exact Or.inl rfl | exact Or.inr (Or.inl rfl) | exact Or.inr (Or.inr (Or.inl ⟨_, rfl⟩)) | exact Or.inr (Or.inr (Or.inr ⟨_, rfl⟩))
  | 2, _ => first | exact Or.inl rfl | exact Or.inr (Or.inl rfl) | exact Or.inr (Or.inr (Or.inl ⟨_, rfl⟩)) | exact Or.inr (Or.inr (Or.inr ⟨_, rfl⟩))
  | 3, _ => first | exact Or.inl rfl | exact Or.inr (Or.inl rfl) | exact Or.inr (Or.inr (Or.inl ⟨_, rfl⟩)) | exact Or.inr (Or.inr (Or.inr ⟨_, rfl⟩))
  | j + 4, h => exact absurd h (by omega)
theorem fty_6 : ∀ j, j < nfN 6 → fTy 6 j = .int ∨ fTy 6 j = .boolean ∨ (∃ C, fTy 6 j = .object C) ∨ ∃ t, fTy 6 j = .array t := by
  intro j hj
  have hj : j < 7 := hj
  match j, hj with
  | 0, _ => first | exact Or.inl rfl | exact Or.inr (Or.inl rfl) | exact Or.inr (Or.inr (Or.inl ⟨_, rfl⟩)) | exact Or.inr (Or.inr (Or.inr ⟨_, rfl⟩))
  | 1, _ => first | exact Or.inl rfl | exact Or.inr (Or.inl rfl) | exact Or.inr (Or.inr (Or.inl ⟨_, rfl⟩)) | exact Or.inr (Or.inr (Or.inr ⟨_, rfl⟩))
  | 2, _ => first | exact Or.inl rfl | exact Or.inr (Or.inl rfl) | exact Or.inr (Or.inr (Or.inl ⟨_, rfl⟩)) | exact Or.inr (Or.inr (Or.inr ⟨_, rfl⟩))
  | 3, _ => first | exact Or.inl rfl | exact Or.inr (Or.inl rfl) | exact Or.inr (Or.inr (Or.inl ⟨_, rfl⟩)) | exact Or.inr (Or.inr (Or.inr ⟨_, rfl⟩))
  | 4, _ => first | exact Or.inl rfl | exact Or.inr (Or.inl rfl) | exact Or.inr (Or.inr (Or.inl ⟨_, rfl⟩)) | exact Or.inr (Or.inr (Or.inr ⟨_, rfl⟩))
  | 5, _ => first | exact Or.inl rfl | exact Or.inr (Or.inl rfl) | exact Or.inr (Or.inr (Or.inl ⟨_, rfl⟩)) | exact Or.inr (Or.inr (Or.inr ⟨_, rfl⟩))
  | 6, _ => first | exact Or.inl rfl | exact Or.inr (Or.inl rfl) | exact Or.inr (Or.inr (Or.inl ⟨_, rfl⟩)) | exact Or.inr (Or.inr (Or.inr ⟨_, rfl⟩))
  | j + 7, h => exact absurd h (by omega)
theorem fty_7 : ∀ j, j < nfN 7 → fTy 7 j = .int ∨ fTy 7 j = .boolean ∨ (∃ C, fTy 7 j = .object C) ∨ ∃ t, fTy 7 j = .array t := by
  intro j hj
  have hj : j < 14 := hj
  match j, hj with
  | 0, _ => first | exact Or.inl rfl | exact Or.inr (Or.inl rfl) | exact Or.inr (Or.inr (Or.inl ⟨_, rfl⟩)) | exact Or.inr (Or.inr (Or.inr ⟨_, rfl⟩))
  | 1, _ => first | exact Or.inl rfl | exact Or.inr (Or.inl rfl) | exact Or.inr (Or.inr (Or.inl ⟨_, rfl⟩)) | exact Or.inr (Or.inr (Or.inr ⟨_, rfl⟩))
  | 2, _ => first | exact Or.inl rfl | exact Or.inr (Or.inl rfl) | exact Or.inr (Or.inr (Or.inl ⟨_, rfl⟩)) | exact Or.inr (Or.inr (Or.inr ⟨_, rfl⟩))
  | 3, _ => first | exact Or.inl rfl | exact Or.inr (Or.inl rfl) | exact Or.inr (Or.inr (Or.inl ⟨_, rfl⟩)) | exact Or.inr (Or.inr (Or.inr ⟨_, rfl⟩))
  | 4, _ => first | exact Or.inl rfl | exact Or.inr (Or.inl rfl) | exact Or.inr (Or.inr (Or.inl ⟨_, rfl⟩)) | exact Or.inr (Or.inr (Or.inr ⟨_, rfl⟩))
  | 5, _ => first | exact Or.inl rfl | exact Or.inr (Or.inl rfl) | exact Or.inr (Or.inr (Or.inl ⟨_, rfl⟩)) | exact Or.inr (Or.inr (Or.inr ⟨_, rfl⟩))
  | 6, _ => first | exact Or.inl rfl | exact Or.inr (Or.inl rfl) | exact Or.inr (Or.inr (Or.inl ⟨_, rfl⟩)) | exact Or.inr (Or.inr (Or.inr ⟨_, rfl⟩))
  | 7, _ => first | exact Or.inl rfl | exact Or.inr (Or.inl rfl) | exact Or.inr (Or.inr (Or.inl ⟨_, rfl⟩)) | exact Or.inr (Or.inr (Or.inr ⟨_, rfl⟩))
  | 8, _ => first | exact Or.inl rfl | exact Or.inr (Or.inl rfl) | exact Or.inr (Or.inr (Or.inl ⟨_, rfl⟩)) | exact Or.inr (Or.inr (Or.inr ⟨_, rfl⟩))
  | 9, _ => first | exact Or.inl rfl | exact Or.inr (Or.inl rfl) | exact Or.inr (Or.inr (Or.inl ⟨_, rfl⟩)) | exact Or.inr (Or.inr (Or.inr ⟨_, rfl⟩))
  | 10, _ => first | exact Or.inl rfl | exact Or.inr (Or.inl rfl) | exact Or.inr (Or.inr (Or.inl ⟨_, rfl⟩)) | exact Or.inr (Or.inr (Or.inr ⟨_, rfl⟩))
  | 11, _ => first | exact Or.inl rfl | exact Or.inr (Or.inl rfl) | exact Or.inr (Or.inr (Or.inl ⟨_, rfl⟩)) | exact Or.inr (Or.inr (Or.inr ⟨_, rfl⟩))
  | 12, _ => first | exact Or.inl rfl | exact Or.inr (Or.inl rfl) | exact Or.inr (Or.inr (Or.inl ⟨_, rfl⟩)) | exact Or.inr (Or.inr (Or.inr ⟨_, rfl⟩))
  | 13, _ => first | exact Or.inl rfl | exact Or.inr (Or.inl rfl) | exact Or.inr (Or.inr (Or.inl ⟨_, rfl⟩)) | exact Or.inr (Or.inr (Or.inr ⟨_, rfl⟩))
  | j + 14, h => exact absurd h (by omega)
theorem fty_8 : ∀ j, j < nfN 8 → fTy 8 j = .int ∨ fTy 8 j = .boolean ∨ (∃ C, fTy 8 j = .object C) ∨ ∃ t, fTy 8 j = .array t := by
  intro j hj
  have hj : j < 3 := hj
  match j, hj with
  | 0, _ => first | exact Or.inl rfl | exact Or.inr (Or.inl rfl) | exact Or.inr (Or.inr (Or.inl ⟨_, rfl⟩)) | exact Or.inr (Or.inr (Or.inr ⟨_, rfl⟩))
  | 1, _ => first | exact Or.inl rfl | exact Or.inr (Or.inl rfl) | exact Or.inr (Or.inr (Or.inl ⟨_, rfl⟩)) | exact Or.inr (Or.inr (Or.inr ⟨_, rfl⟩))
  | 2, _ => first | exact Or.inl rfl | exact Or.inr (Or.inl rfl) | exact Or.inr (Or.inr (Or.inl ⟨_, rfl⟩)) | exact Or.inr (Or.inr (Or.inr ⟨_, rfl⟩))
  | j + 3, h => exact absurd h (by omega)
theorem fty_9 : ∀ j, j < nfN 9 → fTy 9 j = .int ∨ fTy 9 j = .boolean ∨ (∃ C, fTy 9 j = .object C) ∨ ∃ t, fTy 9 j = .array t := by
  intro j hj
  have hj : j < 8 := hj
  match j, hj with
  | 0, _ => first | exact Or.inl rfl | exact Or.inr (Or.inl rfl) | exact Or.inr (Or.inr (Or.inl ⟨_, rfl⟩)) | exact Or.inr (Or.inr (Or.inr ⟨_, rfl⟩))
  | 1, _ => first | exact Or.inl rfl | exact Or.inr (Or.inl rfl) | exact Or.inr (Or.inr (Or.inl ⟨_, rfl⟩)) | exact Or.inr (Or.inr (Or.inr ⟨_, rfl⟩))
  | 2, _ => first | exact Or.inl rfl | exact Or.inr (Or.inl rfl) | exact Or.inr (Or.inr (Or.inl ⟨_, rfl⟩)) | exact Or.inr (Or.inr (Or.inr ⟨_, rfl⟩))
  | 3, _ => first | exact Or.inl rfl | exact Or.inr (Or.inl rfl) | exact Or.inr (Or.inr (Or.inl ⟨_, rfl⟩)) | exact Or.inr (Or.inr (Or.inr ⟨_, rfl⟩))
  | 4, _ => first | exact Or.inl rfl | exact Or.inr (Or.inl rfl) | exact Or.inr (Or.inr (Or.inl ⟨_, rfl⟩)) | exact Or.inr (Or.inr (Or.inr ⟨_, rfl⟩))
  | 5, _ => first | exact Or.inl rfl | exact Or.inr (Or.inl rfl) | exact Or.inr (Or.inr (Or.inl ⟨_, rfl⟩)) | exact Or.inr (Or.inr (Or.inr ⟨_, rfl⟩))
  | 6, _ => first | exact Or.inl rfl | exact Or.inr (Or.inl rfl) | exact Or.inr (Or.inr (Or.inl ⟨_, rfl⟩)) | exact Or.inr (Or.inr (Or.inr ⟨_, rfl⟩))
  | 7, _ => first | exact Or.inl rfl | exact Or.inr (Or.inl rfl) | exact Or.inr (Or.inr (Or.inl ⟨_, rfl⟩)) | exact Or.inr (Or.inr (Or.inr ⟨_, rfl⟩))
  | j + 8, h => exact absurd h (by omega)
theorem fty_10 : ∀ j, j < nfN 10 → fTy 10 j = .int ∨ fTy 10 j = .boolean ∨ (∃ C, fTy 10 j = .object C) ∨ ∃ t, fTy 10 j = .array t := by
  intro j hj
  have hj : j < 6 := hj
  match j, hj with
  | 0, _ => first | exact Or.inl rfl | exact Or.inr (Or.inl rfl) | exact Or.inr (Or.inr (Or.inl ⟨_, rfl⟩)) | exact Or.inr (Or.inr (Or.inr ⟨_, rfl⟩))
  | 1, _ => first | exact Or.inl rfl | exact Or.inr (Or.inl rfl) | exact Or.inr (Or.inr (Or.inl ⟨_, rfl⟩)) | exact Or.inr (Or.inr (Or.inr ⟨_, rfl⟩))
  | 2, _ => first | exact Or.inl rfl | exact Or.inr (Or.inl rfl) | exact Or.inr (Or.inr (Or.inl ⟨_, rfl⟩)) | exact Or.inr (Or.inr (Or.inr ⟨_, rfl⟩))
  | 3, _ => first | exact Or.inl rfl | exact Or.inr (Or.inl rfl) | exact Or.inr (Or.inr (Or.inl ⟨_, rfl⟩)) | exact Or.inr (Or.inr (Or.inr ⟨_, rfl⟩))
  | 4, _ => first | exact Or.inl rfl | exact Or.inr (Or.inl rfl) | exact Or.inr (Or.inr (Or.inl ⟨_, rfl⟩)) | exact Or.inr (Or.inr (Or.inr ⟨_, rfl⟩))
  | 5, _ => first | exact Or.inl rfl | exact Or.inr (Or.inl rfl) | exact Or.inr (Or.inr (Or.inl ⟨_, rfl⟩)) | exact Or.inr (Or.inr (Or.inr ⟨_, rfl⟩))
  | j + 6, h => exact absurd h (by omega)
theorem fty_11 : ∀ j, j < nfN 11 → fTy 11 j = .int ∨ fTy 11 j = .boolean ∨ (∃ C, fTy 11 j = .object C) ∨ ∃ t, fTy 11 j = .array t := by
  intro j hj
  have hj : j < 55 := hj
  match j, hj with
  | 0, _ => first | exact Or.inl rfl | exact Or.inr (Or.inl rfl) | exact Or.inr (Or.inr (Or.inl ⟨_, rfl⟩)) | exact Or.inr (Or.inr (Or.inr ⟨_, rfl⟩))
  | 1, _ => first | exact Or.inl rfl | exact Or.inr (Or.inl rfl) | exact Or.inr (Or.inr (Or.inl ⟨_, rfl⟩)) | exact Or.inr (Or.inr (Or.inr ⟨_, rfl⟩))
  | 2, _ => first | exact Or.inl rfl | exact Or.inr (Or.inl rfl) | exact Or.inr (Or.inr (Or.inl ⟨_, rfl⟩)) | exact Or.inr (Or.inr (Or.inr ⟨_, rfl⟩))
  | 3, _ => first | exact Or.inl rfl | exact Or.inr (Or.inl rfl) | exact Or.inr (Or.inr (Or.inl ⟨_, rfl⟩)) | exact Or.inr (Or.inr (Or.inr ⟨_, rfl⟩))
  | 4, _ => first | exact Or.inl rfl | exact Or.inr (Or.inl rfl) | exact Or.inr (Or.inr (Or.inl ⟨_, rfl⟩)) | exact Or.inr (Or.inr (Or.inr ⟨_, rfl⟩))
  | 5, _ => first | exact Or.inl rfl | exact Or.inr (Or.inl rfl) | exact Or.inr (Or.inr (Or.inl ⟨_, rfl⟩)) | exact Or.inr (Or.inr (Or.inr ⟨_, rfl⟩))
  | 6, _ => first | exact Or.inl rfl | exact Or.inr (Or.inl rfl) | exact Or.inr (Or.inr (Or.inl ⟨_, rfl⟩)) | exact Or.inr (Or.inr (Or.inr ⟨_, rfl⟩))
  | 7, _ => first | exact Or.inl rfl | exact Or.inr (Or.inl rfl) | exact Or.inr (Or.inr (Or.inl ⟨_, rfl⟩)) | exact Or.inr (Or.inr (Or.inr ⟨_, rfl⟩))
  | 8, _ => first | exact Or.inl rfl | exact Or.inr (Or.inl rfl) | exact Or.inr (Or.inr (Or.inl ⟨_, rfl⟩)) | exact Or.inr (Or.inr (Or.inr ⟨_, rfl⟩))
  | 9, _ => first | exact Or.inl rfl | exact Or.inr (Or.inl rfl) | exact Or.inr (Or.inr (Or.inl ⟨_, rfl⟩)) | exact Or.inr (Or.inr (Or.inr ⟨_, rfl⟩))
  | 10, _ => first | exact Or.inl rfl | exact Or.inr (Or.inl rfl) | exact Or.inr (Or.inr (Or.inl ⟨_, rfl⟩)) | exact Or.inr (Or.inr (Or.inr ⟨_, rfl⟩))
  | 11, _ => first | exact Or.inl rfl | exact Or.inr (Or.inl rfl) | exact Or.inr (Or.inr (Or.inl ⟨_, rfl⟩)) | exact Or.inr (Or.inr (Or.inr ⟨_, rfl⟩))
  | 12, _ => first | exact Or.inl rfl | exact Or.inr (Or.inl rfl) | exact Or.inr (Or.inr (Or.inl ⟨_, rfl⟩)) | exact Or.inr (Or.inr (Or.inr ⟨_, rfl⟩))
  | 13, _ => first | exact Or.inl rfl | exact Or.inr (Or.inl rfl) | exact Or.inr (Or.inr (Or.inl ⟨_, rfl⟩)) | exact Or.inr (Or.inr (Or.inr ⟨_, rfl⟩))
  | 14, _ => first | exact Or.inl rfl | exact Or.inr (Or.inl rfl) | exact Or.inr (Or.inr (Or.inl ⟨_, rfl⟩)) | exact Or.inr (Or.inr (Or.inr ⟨_, rfl⟩))
  | 15, _ => first | exact Or.inl rfl | exact Or.inr (Or.inl rfl) | exact Or.inr (Or.inr (Or.inl ⟨_, rfl⟩)) | exact Or.inr (Or.inr (Or.inr ⟨_, rfl⟩))
  | 16, _ => first | exact Or.inl rfl | exact Or.inr (Or.inl rfl) | exact Or.inr (Or.inr (Or.inl ⟨_, rfl⟩)) | exact Or.inr (Or.inr (Or.inr ⟨_, rfl⟩))
  | 17, _ => first | exact Or.inl rfl | exact Or.inr (Or.inl rfl) | exact Or.inr (Or.inr (Or.inl ⟨_, rfl⟩)) | exact Or.inr (Or.inr (Or.inr ⟨_, rfl⟩))
  | 18, _ => first | exact Or.inl rfl | exact Or.inr (Or.inl rfl) | exact Or.inr (Or.inr (Or.inl ⟨_, rfl⟩)) | exact Or.inr (Or.inr (Or.inr ⟨_, rfl⟩))
  | 19, _ => first | exact Or.inl rfl | exact Or.inr (Or.inl rfl) | exact Or.inr (Or.inr (Or.inl ⟨_, rfl⟩)) | exact Or.inr (Or.inr (Or.inr ⟨_, rfl⟩))
  | 20, _ => first | exact Or.inl rfl | exact Or.inr (Or.inl rfl) | exact Or.inr (Or.inr (Or.inl ⟨_, rfl⟩)) | exact Or.inr (Or.inr (Or.inr ⟨_, rfl⟩))
  | 21, _ => first | exact Or.inl rfl | exact Or.inr (Or.inl rfl) | exact Or.inr (Or.inr (Or.inl ⟨_, rfl⟩)) | exact Or.inr (Or.inr (Or.inr ⟨_, rfl⟩))
  | 22, _ => first | exact Or.inl rfl | exact Or.inr (Or.inl rfl) | exact Or.inr (Or.inr (Or.inl ⟨_, rfl⟩)) | exact Or.inr (Or.inr (Or.inr ⟨_, rfl⟩))
  | 23, _ => first | exact Or.inl rfl | exact Or.inr (Or.inl rfl) | exact Or.inr (Or.inr (Or.inl ⟨_, rfl⟩)) | exact Or.inr (Or.inr (Or.inr ⟨_, rfl⟩))
  | 24, _ => first | exact Or.inl rfl | exact Or.inr (Or.inl rfl) | exact Or.inr (Or.inr (Or.inl ⟨_, rfl⟩)) | exact Or.inr (Or.inr (Or.inr ⟨_, rfl⟩))
  | 25, _ => first | exact Or.inl rfl | exact Or.inr (Or.inl rfl) | exact Or.inr (Or.inr (Or.inl ⟨_, rfl⟩)) | exact Or.inr (Or.inr (Or.inr ⟨_, rfl⟩))
  | 26, _ => first | exact Or.inl rfl | exact Or.inr (Or.inl rfl) | exact Or.inr (Or.inr (Or.inl ⟨_, rfl⟩)) | exact Or.inr (Or.inr (Or.inr ⟨_, rfl⟩))
  | 27, _ => first | exact Or.inl rfl | exact Or.inr (Or.inl rfl) | exact Or.inr (Or.inr (Or.inl ⟨_, rfl⟩)) | exact Or.inr (Or.inr (Or.inr ⟨_, rfl⟩))
  | 28, _ => first | exact Or.inl rfl | exact Or.inr (Or.inl rfl) | exact Or.inr (Or.inr (Or.inl ⟨_, rfl⟩)) | exact Or.inr (Or.inr (Or.inr ⟨_, rfl⟩))
  | 29, _ => first | exact Or.inl rfl | exact Or.inr (Or.inl rfl) | exact Or.inr (Or.inr (Or.inl ⟨_, rfl⟩)) | exact Or.inr (Or.inr (Or.inr ⟨_, rfl⟩))
  | 30, _ => first | exact Or.inl rfl | exact Or.inr (Or.inl rfl) | exact Or.inr (Or.inr (Or.inl ⟨_, rfl⟩)) | exact Or.inr (Or.inr (Or.inr ⟨_, rfl⟩))
  | 31, _ => first | exact Or.inl rfl | exact Or.inr (Or.inl rfl) | exact Or.inr (Or.inr (Or.inl ⟨_, rfl⟩)) | exact Or.inr (Or.inr (Or.inr ⟨_, rfl⟩))
  | 32, _ => first | exact Or.inl rfl | exact Or.inr (Or.inl rfl) | exact Or.inr (Or.inr (Or.inl ⟨_, rfl⟩)) | exact Or.inr (Or.inr (Or.inr ⟨_, rfl⟩))
  | 33, _ => first | exact Or.inl rfl | exact Or.inr (Or.inl rfl) | exact Or.inr (Or.inr (Or.inl ⟨_, rfl⟩)) | exact Or.inr (Or.inr (Or.inr ⟨_, rfl⟩))
  | 34, _ => first | exact Or.inl rfl | exact Or.inr (Or.inl rfl) | exact Or.inr (Or.inr (Or.inl ⟨_, rfl⟩)) | exact Or.inr (Or.inr (Or.inr ⟨_, rfl⟩))
  | 35, _ => first | exact Or.inl rfl | exact Or.inr (Or.inl rfl) | exact Or.inr (Or.inr (Or.inl ⟨_, rfl⟩)) | exact Or.inr (Or.inr (Or.inr ⟨_, rfl⟩))
  | 36, _ => first | exact Or.inl rfl | exact Or.inr (Or.inl rfl) | exact Or.inr (Or.inr (Or.inl ⟨_, rfl⟩)) | exact Or.inr (Or.inr (Or.inr ⟨_, rfl⟩))
  | 37, _ => first | exact Or.inl rfl | exact Or.inr (Or.inl rfl) | exact Or.inr (Or.inr (Or.inl ⟨_, rfl⟩)) | exact Or.inr (Or.inr (Or.inr ⟨_, rfl⟩))
  | 38, _ => first | exact Or.inl rfl | exact Or.inr (Or.inl rfl) | exact Or.inr (Or.inr (Or.inl ⟨_, rfl⟩)) | exact Or.inr (Or.inr (Or.inr ⟨_, rfl⟩))
  | 39, _ => first | exact Or.inl rfl | exact Or.inr (Or.inl rfl) | exact Or.inr (Or.inr (Or.inl ⟨_, rfl⟩)) | exact Or.inr (Or.inr (Or.inr ⟨_, rfl⟩))
  | 40, _ => first | exact Or.inl rfl | exact Or.inr (Or.inl rfl) | exact Or.inr (Or.inr (Or.inl ⟨_, rfl⟩)) | exact Or.inr (Or.inr (Or.inr ⟨_, rfl⟩))
  | 41, _ => first | exact Or.inl rfl | exact Or.inr (Or.inl rfl) | exact Or.inr (Or.inr (Or.inl ⟨_, rfl⟩)) | exact Or.inr (Or.inr (Or.inr ⟨_, rfl⟩))
  | 42, _ => first | exact Or.inl rfl | exact Or.inr (Or.inl rfl) | exact Or.inr (Or.inr (Or.inl ⟨_, rfl⟩)) | exact Or.inr (Or.inr (Or.inr ⟨_, rfl⟩))
  | 43, _ => first | exact Or.inl rfl | exact Or.inr (Or.inl rfl) | exact Or.inr (Or.inr (Or.inl ⟨_, rfl⟩)) | exact Or.inr (Or.inr (Or.inr ⟨_, rfl⟩))
  | 44, _ => first | exact Or.inl rfl | exact Or.inr (Or.inl rfl) | exact Or.inr (Or.inr (Or.inl ⟨_, rfl⟩)) | exact Or.inr (Or.inr (Or.inr ⟨_, rfl⟩))
  | 45, _ => first | exact Or.inl rfl | exact Or.inr (Or.inl rfl) | exact Or.inr (Or.inr (Or.inl ⟨_, rfl⟩)) | exact Or.inr (Or.inr (Or.inr ⟨_, rfl⟩))
  | 46, _ => first | exact Or.inl rfl | exact Or.inr (Or.inl rfl) | exact Or.inr (Or.inr (Or.inl ⟨_, rfl⟩)) | exact Or.inr (Or.inr (Or.inr ⟨_, rfl⟩))
  | 47, _ => first | exact Or.inl rfl | exact Or.inr (Or.inl rfl) | exact Or.inr (Or.inr (Or.inl ⟨_, rfl⟩)) | exact Or.inr (Or.inr (Or.inr ⟨_, rfl⟩))
  | 48, _ => first | exact Or.inl rfl | exact Or.inr (Or.inl rfl) | exact Or.inr (Or.inr (Or.inl ⟨_, rfl⟩)) | exact Or.inr (Or.inr (Or.inr ⟨_, rfl⟩))
  | 49, _ => first | exact Or.inl rfl | exact Or.inr (Or.inl rfl) | exact Or.inr (Or.inr (Or.inl ⟨_, rfl⟩)) | exact Or.inr (Or.inr (Or.inr ⟨_, rfl⟩))
  | 50, _ => first | exact Or.inl rfl | exact Or.inr (Or.inl rfl) | exact Or.inr (Or.inr (Or.inl ⟨_, rfl⟩)) | exact Or.inr (Or.inr (Or.inr ⟨_, rfl⟩))
  | 51, _ => first | exact Or.inl rfl | exact Or.inr (Or.inl rfl) | exact Or.inr (Or.inr (Or.inl ⟨_, rfl⟩)) | exact Or.inr (Or.inr (Or.inr ⟨_, rfl⟩))
  | 52, _ => first | exact Or.inl rfl | exact Or.inr (Or.inl rfl) | exact Or.inr (Or.inr (Or.inl ⟨_, rfl⟩)) | exact Or.inr (Or.inr (Or.inr ⟨_, rfl⟩))
  | 53, _ => first | exact Or.inl rfl | exact Or.inr (Or.inl rfl) | exact Or.inr (Or.inr (Or.inl ⟨_, rfl⟩)) | exact Or.inr (Or.inr (Or.inr ⟨_, rfl⟩))
  | 54, _ => first | exact Or.inl rfl | exact Or.inr (Or.inl rfl) | exact Or.inr (Or.inr (Or.inl ⟨_, rfl⟩)) | exact Or.inr (Or.inr (Or.inr ⟨_, rfl⟩))
  | j + 55, h => exact absurd h (by omega)
section SF
variable {w : WP} {y : Nat} {p : Program} {l : Launch} {e : Env} {R : Room} {s : State} {m : MethodId} {args : Array Value} {below : List Frame} {meth : Method} {c : Code} {Q : State → Prop} {pc : Nat} {ls st : List V} {sh : Shp} {d : Dat}
def upR (ρ : Nat → Nat) (n q : Nat) : Nat → Nat := fun a => if a = n then q else ρ a
theorem upR_lt {ρ : Nat → Nat} {n q a : Nat} (h : a < n) : upR ρ n q a = ρ a := if_neg (by omega)
theorem upR_at {ρ : Nat → Nat} {n q : Nat} : upR ρ n q n = q := if_pos rfl
theorem knd_app {sh : Shp} {c : Nat × Nat × List Nat} {a : Nat} : knd (sh ++ [c]) a = if a = sh.length then c.1 else knd sh a := by
  unfold knd
  rw [List.getElem?_append]
  by_cases h : a < sh.length
  · rw [if_pos h, if_neg (by omega)]
  · rw [if_neg h]
    by_cases h2 : a = sh.length
    · rw [if_pos h2, h2, Nat.sub_self]
      rfl
    · rw [if_neg h2, List.getElem?_eq_none (by simp; omega), List.getElem?_eq_none (by omega)]
/-- one more cell -/
theorem GW.push {ρ : Nat → Nat} {H H1 : Heap} {locs : List Loc} {q : Nat} {c : Nat × Nat × List Nat} (hw : 10 ≤ w.2.2.2.1) (hG : GW w s ρ H locs sh d) (hc : okC (sh.length + 1) c) (h26 : c.1 < 26)
    (hP : va_P w.1 vwCl (wl ρ w.2.1 sh d ++ [(q, eE (upR ρ sh.length q) w.2.1 c (fun _ => 0))]) H1) (hD : va_D w.2.2.1 (wl ρ w.2.1 sh d ++ [(q, eE (upR ρ sh.length q) w.2.1 c (fun _ => 0))])) (hS : va_S w.2.2.1 s.heap H1 locs) : GW w s (upR ρ sh.length q) H1 locs (sh ++ [c]) (rset d sh.length (fun _ => 0)) := by
  have h10 : 10 ≤ sh.length := by have := hG.1.1; omega
  have e := wl_push (ρ := ρ) (ρ' := upR ρ sh.length q) (cA := w.2.1) (d := d) (fun a ha => upR_lt ha) h10 hG.2.2.1 c (fun _ => 0)
  rw [upR_at] at e
  rw [e] at hP hD
  have hl : (sh ++ [c]).length = sh.length + 1 := by simp
  refine ⟨⟨by rw [hl]; have := hG.1.1; omega, by rw [slS_app]; have := hG.1.2; omega⟩, ⟨?_, fun a ha => ?_, fun a ha => ?_⟩, ⟨fun z hz => ?_, fun z hz => ?_⟩, fun a i => ?_, hP, hD, hS⟩
  · rw [List.take_append_of_le_length h10]
    exact hG.2.1.1
  · unfold rset
    rw [if_neg (by omega)]
    exact hG.2.1.2.1 a ha
  · rw [upR_lt (by have := hG.1.1; omega)]
    exact hG.2.1.2.2 a ha
  · rw [hl]
    rcases List.mem_append.mp hz with q | q
    · exact okC_up (hG.2.2.1.1 z q) (by omega)
    · rw [List.mem_singleton.mp q]
      exact hc
  · rw [List.drop_append_of_le_length h10] at hz
    rcases List.mem_append.mp hz with q | q
    · exact hG.2.2.1.2 z q
    · rw [List.mem_singleton.mp q]
      exact h26
  · rw [knd_app]
    unfold rset
    by_cases ha : a = sh.length
    · rw [if_pos ha, if_pos ha]
      unfold okd
      split
      · exact ⟨by decide, by decide⟩
      · split
        · exact Or.inl rfl
        · exact in0
    · rw [if_neg ha, if_neg ha]
      exact hG.2.2.2.1 a i
theorem FR.newρ {ρ ρ' : Nat → Nat} {lsr : Array Slot} {sh' : Shp} {v : V} (h : FR y ρ lsr ls st sh) (ha : ∀ a, a < sh.length → ρ' a = ρ a) (hl : sh.length ≤ sh'.length) (hv : okV sh'.length v) {st' : List V} (hst : okVs sh.length st') : FR y ρ' lsr ls (v :: st') sh' := by
  have up : ∀ vs : List V, okVs sh.length vs → okVs sh'.length vs := by
    intro vs hvs z hz
    have hh := hvs z hz
    rcases z with x | x | a | u
    · exact hh
    · exact hh
    · exact Nat.lt_of_lt_of_le hh hl
    · trivial
  exact ⟨okVs_cons.mpr ⟨hv, up _ hst⟩, up _ h.2.1, h.2.2.1.agree ha h.2.1, h.2.2.2⟩
theorem x_new {idx n w1 w2 w3 : Nat} (E : EX w s) (X : CX y p s m args meth c) (hm : (mCl y, idx, n, w1, w2, w3) ∈ newL) (hd : decode (mCd y) pc = .ok (.new idx, 3)) (hcl : sh.length + 1 ≤ w.2.2.2.1 + R.cells) (hsl : slS (sh ++ [(n, nfN n, List.replicate (nfN n) 0)]) ≤ w.2.2.2.2.1 + R.slots)
    (K : PX w y p l e R s m args below meth c Q (pc + 3) ls (vR sh.length :: st) (sh ++ [(n, nfN n, List.replicate (nfN n) 0)]) (rset d sh.length (fun _ => 0))) : PX w y p l e R s m args below meth c Q pc ls st sh d := by
  intro ρ H locs lsr hG hF
  have hw := List.all_eq_true.mp new_ok _ hm
  simp only [Bool.and_eq_true, Nat.blt_eq] at hw
  obtain ⟨h1, h2, h3, hc⟩ := hw
  have hgl := hG.1.1
  have hgs := hG.1.2
  have es : slS (sh ++ [(n, nfN n, List.replicate (nfN n) 0)]) = slS sh + nfN n := by
    rw [slS_app]
    simp [slS]
  rw [es] at hsl
  refine va_new (D := w.1) (cl := vwCl) (tys := tysA w.2.1) (ws := wl ρ w.2.1 sh d) (A := w.2.2.1) (ci := n) (fs := fvL ρ n (nfN n) (List.replicate (nfN n) 0) (fun _ => 0)) X.1 X.2.1 X.2.2.2.2.1 (inT hc) (fTy n) (fnm hc).2.1 X.2.2.2.1 (X.2.2.2.2.1 _ (hasW_mem h1)) (X.2.2.2.2.1 _ (hasW_mem h2)) (X.2.2.2.2.1 _ (hasW_mem h3)) E.1 hG.2.2.2.2.1 hG.2.2.2.2.2.1 hG.2.2.2.2.2.2 E.2.2.2.2.2.1 (clT hc) (fun j hj => ?_) (by omega) (by omega) hd (fun q H1 hP hD hS => ?_)
  · show defaultValue (fTy n j) = (fvL ρ n (nfN n) (List.replicate (nfN n) 0) (fun _ => 0)).getD j .null
    rw [List.getD_eq_getElem?_getD, fvL_at hj, Option.getD_some]
    unfold fvV
    have hz : (List.replicate (nfN n) 0).getD j 0 = 0 := by
      rw [List.getD_eq_getElem?_getD, List.getElem?_replicate]
      split <;> rfl
    rw [hz]
    have hall : ∀ n, n < 12 → ∀ j, j < nfN n → fTy n j = .int ∨ fTy n j = .boolean ∨ (∃ C, fTy n j = .object C) ∨ ∃ t, fTy n j = .array t := by
      intro n hn
      match n, hn with
      | 0, _ => exact fty_0
      | 1, _ => exact fty_1
      | 2, _ => exact fty_2
      | 3, _ => exact fty_3
      | 4, _ => exact fty_4
      | 5, _ => exact fty_5
      | 6, _ => exact fty_6
      | 7, _ => exact fty_7
      | 8, _ => exact fty_8
      | 9, _ => exact fty_9
      | 10, _ => exact fty_10
      | 11, _ => exact fty_11
      | n + 12, h => exact absurd h (by omega)
    rcases hall n hc j hj with q | q | ⟨C, q⟩ | ⟨t, q⟩ <;> rw [q] <;> rfl
  · have eo : (Sum.inr (n, fvL ρ n (nfN n) (List.replicate (nfN n) 0) (fun _ => 0)) : va_E) = eE (upR ρ sh.length q) w.2.1 (n, nfN n, List.replicate (nfN n) 0) (fun _ => 0) := by
      have ef : fvL ρ n (nfN n) (List.replicate (nfN n) 0) (fun _ => 0) = fvL (upR ρ sh.length q) n (nfN n) (List.replicate (nfN n) 0) (fun _ => 0) := by
        unfold fvL
        apply List.map_congr_left
        intro j _
        unfold fvV
        have hz : (List.replicate (nfN n) 0).getD j 0 = 0 := by
          rw [List.getD_eq_getElem?_getD, List.getElem?_replicate]
          split <;> rfl
        rw [hz]
        rfl
      rw [eE_obj hc, ef]
    rw [eo] at hP hD
    have hok : okC (sh.length + 1) (n, nfN n, List.replicate (nfN n) 0) := ⟨fun r hr => by rw [(List.mem_replicate.mp hr).2]; omega, fun _ => rfl, fun _ => List.length_replicate⟩
    have g := hG.push E.2.2.2.2.2.2.2 hok (show n < 26 by omega) hP hD hS
    have hlen : (sh ++ [(n, nfN n, List.replicate (nfN n) 0)]).length = sh.length + 1 := by simp
    have hK := K _ H1 locs lsr g (hF.newρ (fun a ha => upR_lt ha) (by omega) (show sh.length < _ by omega) hF.1)
    rw [hlen, es, List.map_cons, rV, adV, if_neg (by have := E.2.2.2.2.2.2.2; omega), upR_at, rVs_agree (fun a ha => upR_lt ha) hF.1] at hK
    rw [show sh.length + 1 - w.2.2.2.1 = sh.length - w.2.2.2.1 + 1 by omega, show slS sh + nfN n - w.2.2.2.2.1 = slS sh - w.2.2.2.2.1 + nfN n by omega] at hK
    exact hK
theorem tys_one {cA : ClassId} {ty : FieldType} {t0 : Nat} {z : ClassId} (hK : va_K w.1 vwCl (tysA w.2.1 ++ [(cA, ty)]) s) (ht : (tysA w.2.1)[t0]? = some (z, ty)) (hE : va_K w.1 vwCl (tysA w.2.1) s) : cA = z := by
  have h1 := (hK.2 6 (cA, ty) rfl).2
  have h2 := (hE.2 t0 _ ht).2
  have key : ∀ x, va_RA s x ty → s.vm.findClass ("[" ++ ty.toString) = some x := by
    intro x hx
    unfold va_RA at hx
    split at hx
    · obtain ⟨_, _, _, _, _, h⟩ := hx
      exact h
    · exact hx
  have e := (key _ h1).symm.trans (key _ h2)
  exact Option.some.inj e
/-- a new array of numbers (ty, kind k, at place t0 of the tables) -/
theorem x_newarr {at0 : ArrayType} {ty : FieldType} {k t0 wi : Nat} {x : Int} (E : EX w s) (X : CX y p s m args meth c) (hty : newarray.typeOf at0 = ty) (hk : (k = 20 ∧ ty = .int) ∨ (k = 21 ∧ ty = .boolean) ∨ (k = 22 ∧ ty = .long)) (hwd : hasW wi (.arrayClass ty) = true) (ht0 : (tysA w.2.1)[t0]? = some (w.2.1 k, ty)) (hd : decode (mCd y) pc = .ok (.newarray at0, 2)) (hx0 : 0 ≤ x) (hx1 : x ≤ 5000) (hcl : sh.length + 1 ≤ w.2.2.2.1 + R.cells) (hsl : slS (sh ++ [(k, x.toNat, List.replicate x.toNat 0)]) ≤ w.2.2.2.2.1 + R.slots)
    (K : PX w y p l e R s m args below meth c Q (pc + 2) ls (vR sh.length :: st) (sh ++ [(k, x.toNat, List.replicate x.toNat 0)]) (rset d sh.length (fun _ => 0))) : PX w y p l e R s m args below meth c Q pc ls (.inl x :: st) sh d := by
  intro ρ H locs lsr hG hF
  have h0 := hF.1
  simp only [okVs_cons] at h0
  have hgl := hG.1.1
  have hgs := hG.1.2
  have es : slS (sh ++ [(k, x.toNat, List.replicate x.toNat 0)]) = slS sh + x.toNat := by
    rw [slS_app]
    simp [slS]
  rw [es] at hsl
  have hcell : ∀ (ρ' : Nat → Nat) (z : ClassId), (eE ρ' (fun _ => z) (k, x.toNat, List.replicate x.toNat 0) (fun _ => 0)) = .inl (z, x.toNat, (if k = 22 then .inr (.inl fun _ => Int64.ofInt 0) else .inl (fun _ => Int32.ofInt 0))) := by
    intro ρ' z
    rcases hk with ⟨rfl, -⟩ | ⟨rfl, -⟩ | ⟨rfl, -⟩ <;> rfl
  refine va_newa (D := w.1) (cl := vwCl) (tys := tysA w.2.1) (ws := wl ρ w.2.1 sh d) (A := w.2.2.1) (N' := x.toNat) (a0 := (x.toNat, (if k = 22 then .inr (.inl fun _ => Int64.ofInt 0) else .inl (fun _ => Int32.ofInt 0)))) X.1 X.2.1 (by rw [hty]; exact X.2.2.2.2.1 _ (hasW_mem hwd)) hty E.1 hG.2.2.2.2.1 hG.2.2.2.2.2.1 hG.2.2.2.2.2.2 E.2.2.2.2.2.1 (fun cA => ?_) (fun q => ?_) (clampI hx0 h0.1) ?_ (by omega) (by omega) hd (fun q cA H1 hK1 hP hD hS => ?_)
  · rcases hk with ⟨rfl, rfl⟩ | ⟨rfl, rfl⟩ | ⟨rfl, rfl⟩ <;> rfl
  · rw [show (0 : Int32) = Int32.ofInt 0 from rfl, i32_lt h0.1 in0] at q
    omega
  · rcases hk with ⟨rfl, rfl⟩ | ⟨rfl, rfl⟩ | ⟨rfl, rfl⟩
    · show x.toNat * 4 ≤ _; omega
    · show x.toNat * 1 ≤ _; omega
    · show x.toNat * 8 ≤ _; omega
  · have hcA := tys_one hK1 ht0 E.1
    subst hcA
    have eo : (Sum.inl (w.2.1 k, x.toNat, (if k = 22 then .inr (.inl fun _ => Int64.ofInt 0) else .inl (fun _ => Int32.ofInt 0))) : va_E) = eE (upR ρ sh.length q) w.2.1 (k, x.toNat, List.replicate x.toNat 0) (fun _ => 0) := by
      rcases hk with ⟨rfl, -⟩ | ⟨rfl, -⟩ | ⟨rfl, -⟩ <;> rfl
    rw [eo] at hP hD
    have hok : okC (sh.length + 1) (k, x.toNat, List.replicate x.toNat 0) := ⟨fun r hr => by rw [(List.mem_replicate.mp hr).2]; omega, fun z => by exfalso; have z : k < 12 := z; rcases hk with ⟨rfl, -⟩ | ⟨rfl, -⟩ | ⟨rfl, -⟩ <;> omega, fun _ => List.length_replicate⟩
    have g := hG.push E.2.2.2.2.2.2.2 hok (show k < 26 by rcases hk with ⟨rfl, -⟩ | ⟨rfl, -⟩ | ⟨rfl, -⟩ <;> omega) hP hD hS
    have hlen : (sh ++ [(k, x.toNat, List.replicate x.toNat 0)]).length = sh.length + 1 := by simp
    have hK := K _ H1 locs lsr g (hF.newρ (fun a ha => upR_lt ha) (by omega) (show sh.length < _ by omega) h0.2)
    rw [hlen, es, List.map_cons, rV, adV, if_neg (by have := E.2.2.2.2.2.2.2; omega), upR_at, rVs_agree (fun a ha => upR_lt ha) h0.2] at hK
    rw [show sh.length + 1 - w.2.2.2.1 = sh.length - w.2.2.2.1 + 1 by omega, show slS sh + x.toNat - w.2.2.2.2.1 = slS sh - w.2.2.2.2.1 + x.toNat by omega] at hK
    exact hK
/-- a new array of refs -/
theorem x_anewarr {C : String} {k t0 wi idx : Nat} {x : Int} (E : EX w s) (X : CX y p s m args meth c) (hk : k = 23 ∨ k = 24) (hov : va_AO C s) (hwd : hasW wi (.classLink (clsName (mCl y)) idx C) = true) (ht0 : (tysA w.2.1)[t0]? = some (w.2.1 k, .object C)) (hd : decode (mCd y) pc = .ok (.anewarray idx, 3)) (hx0 : 0 ≤ x) (hx1 : x ≤ 5000) (hcl : sh.length + 1 ≤ w.2.2.2.1 + R.cells) (hsl : slS (sh ++ [(k, x.toNat, List.replicate x.toNat 0)]) ≤ w.2.2.2.2.1 + R.slots)
    (K : PX w y p l e R s m args below meth c Q (pc + 3) ls (vR sh.length :: st) (sh ++ [(k, x.toNat, List.replicate x.toNat 0)]) (rset d sh.length (fun _ => 0))) : PX w y p l e R s m args below meth c Q pc ls (.inl x :: st) sh d := by
  intro ρ H locs lsr hG hF
  have h0 := hF.1
  simp only [okVs_cons] at h0
  have hgl := hG.1.1
  have hgs := hG.1.2
  have es : slS (sh ++ [(k, x.toNat, List.replicate x.toNat 0)]) = slS sh + x.toNat := by
    rw [slS_app]
    simp [slS]
  rw [es] at hsl
  refine va_newq (D := w.1) (cl := vwCl) (tys := tysA w.2.1) (ws := wl ρ w.2.1 sh d) (A := w.2.2.1) (N' := x.toNat) X.1 X.2.1 X.2.2.2.1 (X.2.2.2.2.1 _ (hasW_mem hwd)) hov E.1 hG.2.2.2.2.1 hG.2.2.2.2.2.1 hG.2.2.2.2.2.2 E.2.2.2.2.2.1 (fun q => ?_) (clampI hx0 h0.1) (by omega) (by omega) (by omega) hd (fun q cA H1 hK1 hP hD hS => ?_)
  · rw [show (0 : Int32) = Int32.ofInt 0 from rfl, i32_lt h0.1 in0] at q
    omega
  · have hcA := tys_one hK1 ht0 E.1
    subst hcA
    have ef : (fun j => adQ (upR ρ sh.length q) ((List.replicate x.toNat 0).getD j 0)) = fun _ => none := by
      funext j
      have hz : (List.replicate x.toNat 0).getD j 0 = 0 := by
        rw [List.getD_eq_getElem?_getD, List.getElem?_replicate]
        split <;> rfl
      rw [hz]
      rfl
    have eo : (Sum.inl (w.2.1 k, x.toNat, .inr (.inr (.inr (.inr (fun _ => none))))) : va_E) = eE (upR ρ sh.length q) w.2.1 (k, x.toNat, List.replicate x.toNat 0) (fun _ => 0) := by
      rw [eE_ref (by rcases hk with rfl | rfl <;> rfl), ef]
    rw [eo] at hP hD
    have hok : okC (sh.length + 1) (k, x.toNat, List.replicate x.toNat 0) := ⟨fun r hr => by rw [(List.mem_replicate.mp hr).2]; omega, fun z => by exfalso; have z : k < 12 := z; rcases hk with rfl | rfl <;> omega, fun _ => List.length_replicate⟩
    have g := hG.push E.2.2.2.2.2.2.2 hok (show k < 26 by omega) hP hD hS
    have hlen : (sh ++ [(k, x.toNat, List.replicate x.toNat 0)]).length = sh.length + 1 := by simp
    have hK := K _ H1 locs lsr g (hF.newρ (fun a ha => upR_lt ha) (by omega) (show sh.length < _ by omega) h0.2)
    rw [hlen, es, List.map_cons, rV, adV, if_neg (by have := E.2.2.2.2.2.2.2; omega), upR_at, rVs_agree (fun a ha => upR_lt ha) h0.2] at hK
    rw [show sh.length + 1 - w.2.2.2.1 = sh.length - w.2.2.2.1 + 1 by omega, show slS sh + x.toNat - w.2.2.2.2.1 = slS sh - w.2.2.2.2.1 + x.toNat by omega] at hK
    exact hK
end SF
