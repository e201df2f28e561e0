/-! a land becomes another (printed by gen24.py) -/
def CP (b b2 : Nat) (d0 d : Dat) (S : Nat → Nat) : Prop := (∀ a, (a < b ∨ b + 28 < a) → d a = d0 a) ∧ ∀ o, o ≤ 28 → ∀ i, i < S o → d (b + o) i = d0 (b2 + o) i
def sS (S : Nat → Nat) (o n : Nat) : Nat → Nat := fun j => if j = o then n else S j
theorem CP_0 {b b2 : Nat} {d : Dat} : CP b b2 d d (fun _ => 0) := ⟨fun _ _ => rfl, fun _ _ _ hi => absurd hi (Nat.not_lt_zero _)⟩
theorem CP_step {b b2 o n : Nat} {d0 d : Dat} {S : Nat → Nat} (h : CP b b2 d0 d S) (ho : o ≤ 28) (hne : b + 29 ≤ b2 ∨ b2 + 29 ≤ b) : CP b b2 d0 (rset d (b + o) (cpy (d (b2 + o)) (d (b + o)) 0 0 n)) (sS S o n) := by
  obtain ⟨h1, h2⟩ := h
  refine ⟨fun a ha => ?_, fun j hj i hi => ?_⟩
  · rw [rs_ne (by omega)]
    exact h1 a ha
  · unfold sS at hi
    by_cases c : j = o
    · rw [if_pos c] at hi
      subst c
      rw [rs_eq]
      unfold cpy
      rw [if_pos (by omega), h1 (b2 + j) (by omega), show 0 + (i - 0) = i by omega]
    · rw [if_neg c] at hi
      rw [rs_ne (by omega)]
      exact h2 j hj i hi
theorem CP_ups {b b2 i : Nat} {v : Int} {d0 d : Dat} {S : Nat → Nat} (h : CP b b2 d0 d S) (h0 : S 0 = 0) : CP b b2 d0 (ups d b i v) S := by
  refine ⟨fun a ha => ?_, fun j hj i hi => ?_⟩
  · rw [ups_ne (by omega)]
    exact h.1 a ha
  · have : ¬ j = 0 := fun q => by
      rw [q, h0] at hi
      omega
    rw [ups_ne (by omega)]
    exact h.2 j hj i hi
section
variable {k L b b2 : Nat} {d0 : Dat} {R : RT}
theorem c_N_become (hb : isLd b = true) (hb2 : isLd b2 = true) (hne : b + 29 ≤ b2 ∨ b2 + 29 ≤ b) {d : Dat} {S : Nat → Nat} (hS : CP b b2 d0 d S) (h : ∀ d, CP b b2 d0 d (sS (sS (sS (sS (sS (sS (sS S 2 14) 3 14) 4 14) 5 14) 6 14) 7 14) 8 1792) → R vU (SH L) d) : Cl (k + 1) 167 [vR (b + 1), vR (b2 + 1)] (SH L) d R := by
  refine Cl_succ rfl ?_
  show Go k 167 R 0 [vR (b + 1), vR (b2 + 1)] [] (SH L) d
  have g7 : ∀ d, CP b b2 d0 d (sS (sS (sS (sS (sS (sS (sS S 2 14) 3 14) 4 14) 5 14) 6 14) 7 14) 8 1792) → Go k 167 R 106 [vR (b + 1), vR (b2 + 1)] [] (SH L) d := fun d hd => by
    rw [s_Nodes_become_106]
    exact ⟨trivial, h d hd⟩
  have g6 : ∀ d, CP b b2 d0 d (sS (sS (sS (sS (sS (sS S 2 14) 3 14) 4 14) 5 14) 6 14) 7 14) → Go k 167 R 90 [vR (b + 1), vR (b2 + 1)] [] (SH L) d := fun d hd => by
    have g := g7 _ (CP_step (o := 8) (n := 1792) hd (by decide) hne)
    clear h hS g7
    simp (disch := omega) only [s_Nodes_become_90, s_Nodes_become_91, s_Nodes_become_94, s_Nodes_become_95, s_Nodes_become_96, s_Nodes_become_99, s_Nodes_become_100, s_Nodes_become_103, hb, hb2, lk_0, lr_0_0, lr_0_1, lr_0_2, lr_0_3, lr_0_4, lr_0_5, lr_0_6, lr_0_7, lr_0_8, lr_0_9, lr_0_10, lr_0_11, lr_0_12, lr_0_13, lk_1, lr_1_0, lr_1_1, lr_1_2, lr_1_3, lr_1_4, lr_1_5, lr_1_6, lk_2, ln_2, lk_3, ln_3, lk_4, ln_4, lk_5, ln_5, lk_6, ln_6, lk_7, ln_7, lk_8, ln_8, lk_9, lr_9_0, lr_9_1, lr_9_2, lr_9_3, lk_10, ln_10, lk_11, ln_11, lk_12, ln_12, lk_13, ln_13, lk_14, lr_14_0, lr_14_1, lr_14_2, lr_14_3, lr_14_4, lr_14_5, lk_15, ln_15, lk_16, ln_16, lk_17, ln_17, lk_18, ln_18, lk_19, ln_19, lk_20, ln_20, lk_21, ln_21, lk_22, ln_22, lk_23, ln_23, lk_24, ln_24, lk_25, ln_25, lk_26, ln_26, lk_27, ln_27, lk_28, ln_28, le_T, lt_T, Int.reduceToNat, Int.toNat_natCast, cat_n, Nat.ble_eq, true_and, and_true, true_or]
    first | exact g | exact ⟨by decide, g⟩ | grind
  have g5 : ∀ d, CP b b2 d0 d (sS (sS (sS (sS (sS S 2 14) 3 14) 4 14) 5 14) 6 14) → Go k 167 R 75 [vR (b + 1), vR (b2 + 1)] [] (SH L) d := fun d hd => by
    have g := g6 _ (CP_step (o := 7) (n := 14) hd (by decide) hne)
    clear h hS g6 g7
    simp (disch := omega) only [s_Nodes_become_75, s_Nodes_become_76, s_Nodes_become_79, s_Nodes_become_80, s_Nodes_become_81, s_Nodes_become_84, s_Nodes_become_85, s_Nodes_become_87, hb, hb2, lk_0, lr_0_0, lr_0_1, lr_0_2, lr_0_3, lr_0_4, lr_0_5, lr_0_6, lr_0_7, lr_0_8, lr_0_9, lr_0_10, lr_0_11, lr_0_12, lr_0_13, lk_1, lr_1_0, lr_1_1, lr_1_2, lr_1_3, lr_1_4, lr_1_5, lr_1_6, lk_2, ln_2, lk_3, ln_3, lk_4, ln_4, lk_5, ln_5, lk_6, ln_6, lk_7, ln_7, lk_8, ln_8, lk_9, lr_9_0, lr_9_1, lr_9_2, lr_9_3, lk_10, ln_10, lk_11, ln_11, lk_12, ln_12, lk_13, ln_13, lk_14, lr_14_0, lr_14_1, lr_14_2, lr_14_3, lr_14_4, lr_14_5, lk_15, ln_15, lk_16, ln_16, lk_17, ln_17, lk_18, ln_18, lk_19, ln_19, lk_20, ln_20, lk_21, ln_21, lk_22, ln_22, lk_23, ln_23, lk_24, ln_24, lk_25, ln_25, lk_26, ln_26, lk_27, ln_27, lk_28, ln_28, le_T, lt_T, Int.reduceToNat, Int.toNat_natCast, cat_n, Nat.ble_eq, true_and, and_true, true_or]
    first | exact g | exact ⟨by decide, g⟩ | grind
  have g4 : ∀ d, CP b b2 d0 d (sS (sS (sS (sS S 2 14) 3 14) 4 14) 5 14) → Go k 167 R 60 [vR (b + 1), vR (b2 + 1)] [] (SH L) d := fun d hd => by
    have g := g5 _ (CP_step (o := 6) (n := 14) hd (by decide) hne)
    clear h hS g5 g6 g7
    simp (disch := omega) only [s_Nodes_become_60, s_Nodes_become_61, s_Nodes_become_64, s_Nodes_become_65, s_Nodes_become_66, s_Nodes_become_69, s_Nodes_become_70, s_Nodes_become_72, hb, hb2, lk_0, lr_0_0, lr_0_1, lr_0_2, lr_0_3, lr_0_4, lr_0_5, lr_0_6, lr_0_7, lr_0_8, lr_0_9, lr_0_10, lr_0_11, lr_0_12, lr_0_13, lk_1, lr_1_0, lr_1_1, lr_1_2, lr_1_3, lr_1_4, lr_1_5, lr_1_6, lk_2, ln_2, lk_3, ln_3, lk_4, ln_4, lk_5, ln_5, lk_6, ln_6, lk_7, ln_7, lk_8, ln_8, lk_9, lr_9_0, lr_9_1, lr_9_2, lr_9_3, lk_10, ln_10, lk_11, ln_11, lk_12, ln_12, lk_13, ln_13, lk_14, lr_14_0, lr_14_1, lr_14_2, lr_14_3, lr_14_4, lr_14_5, lk_15, ln_15, lk_16, ln_16, lk_17, ln_17, lk_18, ln_18, lk_19, ln_19, lk_20, ln_20, lk_21, ln_21, lk_22, ln_22, lk_23, ln_23, lk_24, ln_24, lk_25, ln_25, lk_26, ln_26, lk_27, ln_27, lk_28, ln_28, le_T, lt_T, Int.reduceToNat, Int.toNat_natCast, cat_n, Nat.ble_eq, true_and, and_true, true_or]
    first | exact g | exact ⟨by decide, g⟩ | grind
  have g3 : ∀ d, CP b b2 d0 d (sS (sS (sS S 2 14) 3 14) 4 14) → Go k 167 R 45 [vR (b + 1), vR (b2 + 1)] [] (SH L) d := fun d hd => by
    have g := g4 _ (CP_step (o := 5) (n := 14) hd (by decide) hne)
    clear h hS g4 g5 g6 g7
    simp (disch := omega) only [s_Nodes_become_45, s_Nodes_become_46, s_Nodes_become_49, s_Nodes_become_50, s_Nodes_become_51, s_Nodes_become_54, s_Nodes_become_55, s_Nodes_become_57, hb, hb2, lk_0, lr_0_0, lr_0_1, lr_0_2, lr_0_3, lr_0_4, lr_0_5, lr_0_6, lr_0_7, lr_0_8, lr_0_9, lr_0_10, lr_0_11, lr_0_12, lr_0_13, lk_1, lr_1_0, lr_1_1, lr_1_2, lr_1_3, lr_1_4, lr_1_5, lr_1_6, lk_2, ln_2, lk_3, ln_3, lk_4, ln_4, lk_5, ln_5, lk_6, ln_6, lk_7, ln_7, lk_8, ln_8, lk_9, lr_9_0, lr_9_1, lr_9_2, lr_9_3, lk_10, ln_10, lk_11, ln_11, lk_12, ln_12, lk_13, ln_13, lk_14, lr_14_0, lr_14_1, lr_14_2, lr_14_3, lr_14_4, lr_14_5, lk_15, ln_15, lk_16, ln_16, lk_17, ln_17, lk_18, ln_18, lk_19, ln_19, lk_20, ln_20, lk_21, ln_21, lk_22, ln_22, lk_23, ln_23, lk_24, ln_24, lk_25, ln_25, lk_26, ln_26, lk_27, ln_27, lk_28, ln_28, le_T, lt_T, Int.reduceToNat, Int.toNat_natCast, cat_n, Nat.ble_eq, true_and, and_true, true_or]
    first | exact g | exact ⟨by decide, g⟩ | grind
  have g2 : ∀ d, CP b b2 d0 d (sS (sS S 2 14) 3 14) → Go k 167 R 30 [vR (b + 1), vR (b2 + 1)] [] (SH L) d := fun d hd => by
    have g := g3 _ (CP_step (o := 4) (n := 14) hd (by decide) hne)
    clear h hS g3 g4 g5 g6 g7
    simp (disch := omega) only [s_Nodes_become_30, s_Nodes_become_31, s_Nodes_become_34, s_Nodes_become_35, s_Nodes_become_36, s_Nodes_become_39, s_Nodes_become_40, s_Nodes_become_42, hb, hb2, lk_0, lr_0_0, lr_0_1, lr_0_2, lr_0_3, lr_0_4, lr_0_5, lr_0_6, lr_0_7, lr_0_8, lr_0_9, lr_0_10, lr_0_11, lr_0_12, lr_0_13, lk_1, lr_1_0, lr_1_1, lr_1_2, lr_1_3, lr_1_4, lr_1_5, lr_1_6, lk_2, ln_2, lk_3, ln_3, lk_4, ln_4, lk_5, ln_5, lk_6, ln_6, lk_7, ln_7, lk_8, ln_8, lk_9, lr_9_0, lr_9_1, lr_9_2, lr_9_3, lk_10, ln_10, lk_11, ln_11, lk_12, ln_12, lk_13, ln_13, lk_14, lr_14_0, lr_14_1, lr_14_2, lr_14_3, lr_14_4, lr_14_5, lk_15, ln_15, lk_16, ln_16, lk_17, ln_17, lk_18, ln_18, lk_19, ln_19, lk_20, ln_20, lk_21, ln_21, lk_22, ln_22, lk_23, ln_23, lk_24, ln_24, lk_25, ln_25, lk_26, ln_26, lk_27, ln_27, lk_28, ln_28, le_T, lt_T, Int.reduceToNat, Int.toNat_natCast, cat_n, Nat.ble_eq, true_and, and_true, true_or]
    first | exact g | exact ⟨by decide, g⟩ | grind
  have g1 : ∀ d, CP b b2 d0 d (sS S 2 14) → Go k 167 R 15 [vR (b + 1), vR (b2 + 1)] [] (SH L) d := fun d hd => by
    have g := g2 _ (CP_step (o := 3) (n := 14) hd (by decide) hne)
    clear h hS g2 g3 g4 g5 g6 g7
    simp (disch := omega) only [s_Nodes_become_15, s_Nodes_become_16, s_Nodes_become_19, s_Nodes_become_20, s_Nodes_become_21, s_Nodes_become_24, s_Nodes_become_25, s_Nodes_become_27, hb, hb2, lk_0, lr_0_0, lr_0_1, lr_0_2, lr_0_3, lr_0_4, lr_0_5, lr_0_6, lr_0_7, lr_0_8, lr_0_9, lr_0_10, lr_0_11, lr_0_12, lr_0_13, lk_1, lr_1_0, lr_1_1, lr_1_2, lr_1_3, lr_1_4, lr_1_5, lr_1_6, lk_2, ln_2, lk_3, ln_3, lk_4, ln_4, lk_5, ln_5, lk_6, ln_6, lk_7, ln_7, lk_8, ln_8, lk_9, lr_9_0, lr_9_1, lr_9_2, lr_9_3, lk_10, ln_10, lk_11, ln_11, lk_12, ln_12, lk_13, ln_13, lk_14, lr_14_0, lr_14_1, lr_14_2, lr_14_3, lr_14_4, lr_14_5, lk_15, ln_15, lk_16, ln_16, lk_17, ln_17, lk_18, ln_18, lk_19, ln_19, lk_20, ln_20, lk_21, ln_21, lk_22, ln_22, lk_23, ln_23, lk_24, ln_24, lk_25, ln_25, lk_26, ln_26, lk_27, ln_27, lk_28, ln_28, le_T, lt_T, Int.reduceToNat, Int.toNat_natCast, cat_n, Nat.ble_eq, true_and, and_true, true_or]
    first | exact g | exact ⟨by decide, g⟩ | grind
  have g0 : ∀ d, CP b b2 d0 d S → Go k 167 R 0 [vR (b + 1), vR (b2 + 1)] [] (SH L) d := fun d hd => by
    have g := g1 _ (CP_step (o := 2) (n := 14) hd (by decide) hne)
    clear h hS g1 g2 g3 g4 g5 g6 g7
    simp (disch := omega) only [s_Nodes_become_0, s_Nodes_become_1, s_Nodes_become_4, s_Nodes_become_5, s_Nodes_become_6, s_Nodes_become_9, s_Nodes_become_10, s_Nodes_become_12, hb, hb2, lk_0, lr_0_0, lr_0_1, lr_0_2, lr_0_3, lr_0_4, lr_0_5, lr_0_6, lr_0_7, lr_0_8, lr_0_9, lr_0_10, lr_0_11, lr_0_12, lr_0_13, lk_1, lr_1_0, lr_1_1, lr_1_2, lr_1_3, lr_1_4, lr_1_5, lr_1_6, lk_2, ln_2, lk_3, ln_3, lk_4, ln_4, lk_5, ln_5, lk_6, ln_6, lk_7, ln_7, lk_8, ln_8, lk_9, lr_9_0, lr_9_1, lr_9_2, lr_9_3, lk_10, ln_10, lk_11, ln_11, lk_12, ln_12, lk_13, ln_13, lk_14, lr_14_0, lr_14_1, lr_14_2, lr_14_3, lr_14_4, lr_14_5, lk_15, ln_15, lk_16, ln_16, lk_17, ln_17, lk_18, ln_18, lk_19, ln_19, lk_20, ln_20, lk_21, ln_21, lk_22, ln_22, lk_23, ln_23, lk_24, ln_24, lk_25, ln_25, lk_26, ln_26, lk_27, ln_27, lk_28, ln_28, le_T, lt_T, Int.reduceToNat, Int.toNat_natCast, cat_n, Nat.ble_eq, true_and, and_true, true_or]
    first | exact g | exact ⟨by decide, g⟩ | grind
  exact g0 d hS
theorem c_P_become (hb : isLd b = true) (hb2 : isLd b2 = true) (hne : b + 29 ≤ b2 ∨ b2 + 29 ≤ b) {d : Dat} {S : Nat → Nat} (hS : CP b b2 d0 d S) (h : ∀ d, CP b b2 d0 d (sS (sS (sS (sS S 10 8) 11 8) 12 8) 13 8) → R vU (SH L) d) : Cl (k + 1) 179 [vR (b + 9), vR (b2 + 9)] (SH L) d R := by
  refine Cl_succ rfl ?_
  show Go k 179 R 0 [vR (b + 9), vR (b2 + 9)] [] (SH L) d
  have g4 : ∀ d, CP b b2 d0 d (sS (sS (sS (sS S 10 8) 11 8) 12 8) 13 8) → Go k 179 R 60 [vR (b + 9), vR (b2 + 9)] [] (SH L) d := fun d hd => by
    rw [s_Plants_become_60]
    exact ⟨trivial, h d hd⟩
  have g3 : ∀ d, CP b b2 d0 d (sS (sS (sS S 10 8) 11 8) 12 8) → Go k 179 R 45 [vR (b + 9), vR (b2 + 9)] [] (SH L) d := fun d hd => by
    have g := g4 _ (CP_step (o := 13) (n := 8) hd (by decide) hne)
    clear h hS g4
    simp (disch := omega) only [s_Plants_become_45, s_Plants_become_46, s_Plants_become_49, s_Plants_become_50, s_Plants_become_51, s_Plants_become_54, s_Plants_become_55, s_Plants_become_57, hb, hb2, lk_0, lr_0_0, lr_0_1, lr_0_2, lr_0_3, lr_0_4, lr_0_5, lr_0_6, lr_0_7, lr_0_8, lr_0_9, lr_0_10, lr_0_11, lr_0_12, lr_0_13, lk_1, lr_1_0, lr_1_1, lr_1_2, lr_1_3, lr_1_4, lr_1_5, lr_1_6, lk_2, ln_2, lk_3, ln_3, lk_4, ln_4, lk_5, ln_5, lk_6, ln_6, lk_7, ln_7, lk_8, ln_8, lk_9, lr_9_0, lr_9_1, lr_9_2, lr_9_3, lk_10, ln_10, lk_11, ln_11, lk_12, ln_12, lk_13, ln_13, lk_14, lr_14_0, lr_14_1, lr_14_2, lr_14_3, lr_14_4, lr_14_5, lk_15, ln_15, lk_16, ln_16, lk_17, ln_17, lk_18, ln_18, lk_19, ln_19, lk_20, ln_20, lk_21, ln_21, lk_22, ln_22, lk_23, ln_23, lk_24, ln_24, lk_25, ln_25, lk_26, ln_26, lk_27, ln_27, lk_28, ln_28, le_T, lt_T, Int.reduceToNat, Int.toNat_natCast, cat_n, Nat.ble_eq, true_and, and_true, true_or]
    first | exact g | exact ⟨by decide, g⟩ | grind
  have g2 : ∀ d, CP b b2 d0 d (sS (sS S 10 8) 11 8) → Go k 179 R 30 [vR (b + 9), vR (b2 + 9)] [] (SH L) d := fun d hd => by
    have g := g3 _ (CP_step (o := 12) (n := 8) hd (by decide) hne)
    clear h hS g3 g4
    simp (disch := omega) only [s_Plants_become_30, s_Plants_become_31, s_Plants_become_34, s_Plants_become_35, s_Plants_become_36, s_Plants_become_39, s_Plants_become_40, s_Plants_become_42, hb, hb2, lk_0, lr_0_0, lr_0_1, lr_0_2, lr_0_3, lr_0_4, lr_0_5, lr_0_6, lr_0_7, lr_0_8, lr_0_9, lr_0_10, lr_0_11, lr_0_12, lr_0_13, lk_1, lr_1_0, lr_1_1, lr_1_2, lr_1_3, lr_1_4, lr_1_5, lr_1_6, lk_2, ln_2, lk_3, ln_3, lk_4, ln_4, lk_5, ln_5, lk_6, ln_6, lk_7, ln_7, lk_8, ln_8, lk_9, lr_9_0, lr_9_1, lr_9_2, lr_9_3, lk_10, ln_10, lk_11, ln_11, lk_12, ln_12, lk_13, ln_13, lk_14, lr_14_0, lr_14_1, lr_14_2, lr_14_3, lr_14_4, lr_14_5, lk_15, ln_15, lk_16, ln_16, lk_17, ln_17, lk_18, ln_18, lk_19, ln_19, lk_20, ln_20, lk_21, ln_21, lk_22, ln_22, lk_23, ln_23, lk_24, ln_24, lk_25, ln_25, lk_26, ln_26, lk_27, ln_27, lk_28, ln_28, le_T, lt_T, Int.reduceToNat, Int.toNat_natCast, cat_n, Nat.ble_eq, true_and, and_true, true_or]
    first | exact g | exact ⟨by decide, g⟩ | grind
  have g1 : ∀ d, CP b b2 d0 d (sS S 10 8) → Go k 179 R 15 [vR (b + 9), vR (b2 + 9)] [] (SH L) d := fun d hd => by
    have g := g2 _ (CP_step (o := 11) (n := 8) hd (by decide) hne)
    clear h hS g2 g3 g4
    simp (disch := omega) only [s_Plants_become_15, s_Plants_become_16, s_Plants_become_19, s_Plants_become_20, s_Plants_become_21, s_Plants_become_24, s_Plants_become_25, s_Plants_become_27, hb, hb2, lk_0, lr_0_0, lr_0_1, lr_0_2, lr_0_3, lr_0_4, lr_0_5, lr_0_6, lr_0_7, lr_0_8, lr_0_9, lr_0_10, lr_0_11, lr_0_12, lr_0_13, lk_1, lr_1_0, lr_1_1, lr_1_2, lr_1_3, lr_1_4, lr_1_5, lr_1_6, lk_2, ln_2, lk_3, ln_3, lk_4, ln_4, lk_5, ln_5, lk_6, ln_6, lk_7, ln_7, lk_8, ln_8, lk_9, lr_9_0, lr_9_1, lr_9_2, lr_9_3, lk_10, ln_10, lk_11, ln_11, lk_12, ln_12, lk_13, ln_13, lk_14, lr_14_0, lr_14_1, lr_14_2, lr_14_3, lr_14_4, lr_14_5, lk_15, ln_15, lk_16, ln_16, lk_17, ln_17, lk_18, ln_18, lk_19, ln_19, lk_20, ln_20, lk_21, ln_21, lk_22, ln_22, lk_23, ln_23, lk_24, ln_24, lk_25, ln_25, lk_26, ln_26, lk_27, ln_27, lk_28, ln_28, le_T, lt_T, Int.reduceToNat, Int.toNat_natCast, cat_n, Nat.ble_eq, true_and, and_true, true_or]
    first | exact g | exact ⟨by decide, g⟩ | grind
  have g0 : ∀ d, CP b b2 d0 d S → Go k 179 R 0 [vR (b + 9), vR (b2 + 9)] [] (SH L) d := fun d hd => by
    have g := g1 _ (CP_step (o := 10) (n := 8) hd (by decide) hne)
    clear h hS g1 g2 g3 g4
    simp (disch := omega) only [s_Plants_become_0, s_Plants_become_1, s_Plants_become_4, s_Plants_become_5, s_Plants_become_6, s_Plants_become_9, s_Plants_become_10, s_Plants_become_12, hb, hb2, lk_0, lr_0_0, lr_0_1, lr_0_2, lr_0_3, lr_0_4, lr_0_5, lr_0_6, lr_0_7, lr_0_8, lr_0_9, lr_0_10, lr_0_11, lr_0_12, lr_0_13, lk_1, lr_1_0, lr_1_1, lr_1_2, lr_1_3, lr_1_4, lr_1_5, lr_1_6, lk_2, ln_2, lk_3, ln_3, lk_4, ln_4, lk_5, ln_5, lk_6, ln_6, lk_7, ln_7, lk_8, ln_8, lk_9, lr_9_0, lr_9_1, lr_9_2, lr_9_3, lk_10, ln_10, lk_11, ln_11, lk_12, ln_12, lk_13, ln_13, lk_14, lr_14_0, lr_14_1, lr_14_2, lr_14_3, lr_14_4, lr_14_5, lk_15, ln_15, lk_16, ln_16, lk_17, ln_17, lk_18, ln_18, lk_19, ln_19, lk_20, ln_20, lk_21, ln_21, lk_22, ln_22, lk_23, ln_23, lk_24, ln_24, lk_25, ln_25, lk_26, ln_26, lk_27, ln_27, lk_28, ln_28, le_T, lt_T, Int.reduceToNat, Int.toNat_natCast, cat_n, Nat.ble_eq, true_and, and_true, true_or]
    first | exact g | exact ⟨by decide, g⟩ | grind
  exact g0 d hS
theorem c_O_become (hb : isLd b = true) (hb2 : isLd b2 = true) (hne : b + 29 ≤ b2 ∨ b2 + 29 ≤ b) {d : Dat} {S : Nat → Nat} (hS : CP b b2 d0 d S) (h : ∀ d, CP b b2 d0 d (sS (sS (sS (sS (sS (sS S 15 12) 16 12) 17 12) 18 12) 19 12) 20 12) → R vU (SH L) d) : Cl (k + 1) 161 [vR (b + 14), vR (b2 + 14)] (SH L) d R := by
  refine Cl_succ rfl ?_
  show Go k 161 R 0 [vR (b + 14), vR (b2 + 14)] [] (SH L) d
  have g6 : ∀ d, CP b b2 d0 d (sS (sS (sS (sS (sS (sS S 15 12) 16 12) 17 12) 18 12) 19 12) 20 12) → Go k 161 R 90 [vR (b + 14), vR (b2 + 14)] [] (SH L) d := fun d hd => by
    rw [s_Loads_become_90]
    exact ⟨trivial, h d hd⟩
  have g5 : ∀ d, CP b b2 d0 d (sS (sS (sS (sS (sS S 15 12) 16 12) 17 12) 18 12) 19 12) → Go k 161 R 75 [vR (b + 14), vR (b2 + 14)] [] (SH L) d := fun d hd => by
    have g := g6 _ (CP_step (o := 20) (n := 12) hd (by decide) hne)
    clear h hS g6
    simp (disch := omega) only [s_Loads_become_75, s_Loads_become_76, s_Loads_become_79, s_Loads_become_80, s_Loads_become_81, s_Loads_become_84, s_Loads_become_85, s_Loads_become_87, hb, hb2, lk_0, lr_0_0, lr_0_1, lr_0_2, lr_0_3, lr_0_4, lr_0_5, lr_0_6, lr_0_7, lr_0_8, lr_0_9, lr_0_10, lr_0_11, lr_0_12, lr_0_13, lk_1, lr_1_0, lr_1_1, lr_1_2, lr_1_3, lr_1_4, lr_1_5, lr_1_6, lk_2, ln_2, lk_3, ln_3, lk_4, ln_4, lk_5, ln_5, lk_6, ln_6, lk_7, ln_7, lk_8, ln_8, lk_9, lr_9_0, lr_9_1, lr_9_2, lr_9_3, lk_10, ln_10, lk_11, ln_11, lk_12, ln_12, lk_13, ln_13, lk_14, lr_14_0, lr_14_1, lr_14_2, lr_14_3, lr_14_4, lr_14_5, lk_15, ln_15, lk_16, ln_16, lk_17, ln_17, lk_18, ln_18, lk_19, ln_19, lk_20, ln_20, lk_21, ln_21, lk_22, ln_22, lk_23, ln_23, lk_24, ln_24, lk_25, ln_25, lk_26, ln_26, lk_27, ln_27, lk_28, ln_28, le_T, lt_T, Int.reduceToNat, Int.toNat_natCast, cat_n, Nat.ble_eq, true_and, and_true, true_or]
    first | exact g | exact ⟨by decide, g⟩ | grind
  have g4 : ∀ d, CP b b2 d0 d (sS (sS (sS (sS S 15 12) 16 12) 17 12) 18 12) → Go k 161 R 60 [vR (b + 14), vR (b2 + 14)] [] (SH L) d := fun d hd => by
    have g := g5 _ (CP_step (o := 19) (n := 12) hd (by decide) hne)
    clear h hS g5 g6
    simp (disch := omega) only [s_Loads_become_60, s_Loads_become_61, s_Loads_become_64, s_Loads_become_65, s_Loads_become_66, s_Loads_become_69, s_Loads_become_70, s_Loads_become_72, hb, hb2, lk_0, lr_0_0, lr_0_1, lr_0_2, lr_0_3, lr_0_4, lr_0_5, lr_0_6, lr_0_7, lr_0_8, lr_0_9, lr_0_10, lr_0_11, lr_0_12, lr_0_13, lk_1, lr_1_0, lr_1_1, lr_1_2, lr_1_3, lr_1_4, lr_1_5, lr_1_6, lk_2, ln_2, lk_3, ln_3, lk_4, ln_4, lk_5, ln_5, lk_6, ln_6, lk_7, ln_7, lk_8, ln_8, lk_9, lr_9_0, lr_9_1, lr_9_2, lr_9_3, lk_10, ln_10, lk_11, ln_11, lk_12, ln_12, lk_13, ln_13, lk_14, lr_14_0, lr_14_1, lr_14_2, lr_14_3, lr_14_4, lr_14_5, lk_15, ln_15, lk_16, ln_16, lk_17, ln_17, lk_18, ln_18, lk_19, ln_19, lk_20, ln_20, lk_21, ln_21, lk_22, ln_22, lk_23, ln_23, lk_24, ln_24, lk_25, ln_25, lk_26, ln_26, lk_27, ln_27, lk_28, ln_28, le_T, lt_T, Int.reduceToNat, Int.toNat_natCast, cat_n, Nat.ble_eq, true_and, and_true, true_or]
    first | exact g | exact ⟨by decide, g⟩ | grind
  have g3 : ∀ d, CP b b2 d0 d (sS (sS (sS S 15 12) 16 12) 17 12) → Go k 161 R 45 [vR (b + 14), vR (b2 + 14)] [] (SH L) d := fun d hd => by
    have g := g4 _ (CP_step (o := 18) (n := 12) hd (by decide) hne)
    clear h hS g4 g5 g6
    simp (disch := omega) only [s_Loads_become_45, s_Loads_become_46, s_Loads_become_49, s_Loads_become_50, s_Loads_become_51, s_Loads_become_54, s_Loads_become_55, s_Loads_become_57, hb, hb2, lk_0, lr_0_0, lr_0_1, lr_0_2, lr_0_3, lr_0_4, lr_0_5, lr_0_6, lr_0_7, lr_0_8, lr_0_9, lr_0_10, lr_0_11, lr_0_12, lr_0_13, lk_1, lr_1_0, lr_1_1, lr_1_2, lr_1_3, lr_1_4, lr_1_5, lr_1_6, lk_2, ln_2, lk_3, ln_3, lk_4, ln_4, lk_5, ln_5, lk_6, ln_6, lk_7, ln_7, lk_8, ln_8, lk_9, lr_9_0, lr_9_1, lr_9_2, lr_9_3, lk_10, ln_10, lk_11, ln_11, lk_12, ln_12, lk_13, ln_13, lk_14, lr_14_0, lr_14_1, lr_14_2, lr_14_3, lr_14_4, lr_14_5, lk_15, ln_15, lk_16, ln_16, lk_17, ln_17, lk_18, ln_18, lk_19, ln_19, lk_20, ln_20, lk_21, ln_21, lk_22, ln_22, lk_23, ln_23, lk_24, ln_24, lk_25, ln_25, lk_26, ln_26, lk_27, ln_27, lk_28, ln_28, le_T, lt_T, Int.reduceToNat, Int.toNat_natCast, cat_n, Nat.ble_eq, true_and, and_true, true_or]
    first | exact g | exact ⟨by decide, g⟩ | grind
  have g2 : ∀ d, CP b b2 d0 d (sS (sS S 15 12) 16 12) → Go k 161 R 30 [vR (b + 14), vR (b2 + 14)] [] (SH L) d := fun d hd => by
    have g := g3 _ (CP_step (o := 17) (n := 12) hd (by decide) hne)
    clear h hS g3 g4 g5 g6
    simp (disch := omega) only [s_Loads_become_30, s_Loads_become_31, s_Loads_become_34, s_Loads_become_35, s_Loads_become_36, s_Loads_become_39, s_Loads_become_40, s_Loads_become_42, hb, hb2, lk_0, lr_0_0, lr_0_1, lr_0_2, lr_0_3, lr_0_4, lr_0_5, lr_0_6, lr_0_7, lr_0_8, lr_0_9, lr_0_10, lr_0_11, lr_0_12, lr_0_13, lk_1, lr_1_0, lr_1_1, lr_1_2, lr_1_3, lr_1_4, lr_1_5, lr_1_6, lk_2, ln_2, lk_3, ln_3, lk_4, ln_4, lk_5, ln_5, lk_6, ln_6, lk_7, ln_7, lk_8, ln_8, lk_9, lr_9_0, lr_9_1, lr_9_2, lr_9_3, lk_10, ln_10, lk_11, ln_11, lk_12, ln_12, lk_13, ln_13, lk_14, lr_14_0, lr_14_1, lr_14_2, lr_14_3, lr_14_4, lr_14_5, lk_15, ln_15, lk_16, ln_16, lk_17, ln_17, lk_18, ln_18, lk_19, ln_19, lk_20, ln_20, lk_21, ln_21, lk_22, ln_22, lk_23, ln_23, lk_24, ln_24, lk_25, ln_25, lk_26, ln_26, lk_27, ln_27, lk_28, ln_28, le_T, lt_T, Int.reduceToNat, Int.toNat_natCast, cat_n, Nat.ble_eq, true_and, and_true, true_or]
    first | exact g | exact ⟨by decide, g⟩ | grind
  have g1 : ∀ d, CP b b2 d0 d (sS S 15 12) → Go k 161 R 15 [vR (b + 14), vR (b2 + 14)] [] (SH L) d := fun d hd => by
    have g := g2 _ (CP_step (o := 16) (n := 12) hd (by decide) hne)
    clear h hS g2 g3 g4 g5 g6
    simp (disch := omega) only [s_Loads_become_15, s_Loads_become_16, s_Loads_become_19, s_Loads_become_20, s_Loads_become_21, s_Loads_become_24, s_Loads_become_25, s_Loads_become_27, hb, hb2, lk_0, lr_0_0, lr_0_1, lr_0_2, lr_0_3, lr_0_4, lr_0_5, lr_0_6, lr_0_7, lr_0_8, lr_0_9, lr_0_10, lr_0_11, lr_0_12, lr_0_13, lk_1, lr_1_0, lr_1_1, lr_1_2, lr_1_3, lr_1_4, lr_1_5, lr_1_6, lk_2, ln_2, lk_3, ln_3, lk_4, ln_4, lk_5, ln_5, lk_6, ln_6, lk_7, ln_7, lk_8, ln_8, lk_9, lr_9_0, lr_9_1, lr_9_2, lr_9_3, lk_10, ln_10, lk_11, ln_11, lk_12, ln_12, lk_13, ln_13, lk_14, lr_14_0, lr_14_1, lr_14_2, lr_14_3, lr_14_4, lr_14_5, lk_15, ln_15, lk_16, ln_16, lk_17, ln_17, lk_18, ln_18, lk_19, ln_19, lk_20, ln_20, lk_21, ln_21, lk_22, ln_22, lk_23, ln_23, lk_24, ln_24, lk_25, ln_25, lk_26, ln_26, lk_27, ln_27, lk_28, ln_28, le_T, lt_T, Int.reduceToNat, Int.toNat_natCast, cat_n, Nat.ble_eq, true_and, and_true, true_or]
    first | exact g | exact ⟨by decide, g⟩ | grind
  have g0 : ∀ d, CP b b2 d0 d S → Go k 161 R 0 [vR (b + 14), vR (b2 + 14)] [] (SH L) d := fun d hd => by
    have g := g1 _ (CP_step (o := 15) (n := 12) hd (by decide) hne)
    clear h hS g1 g2 g3 g4 g5 g6
    simp (disch := omega) only [s_Loads_become_0, s_Loads_become_1, s_Loads_become_4, s_Loads_become_5, s_Loads_become_6, s_Loads_become_9, s_Loads_become_10, s_Loads_become_12, hb, hb2, lk_0, lr_0_0, lr_0_1, lr_0_2, lr_0_3, lr_0_4, lr_0_5, lr_0_6, lr_0_7, lr_0_8, lr_0_9, lr_0_10, lr_0_11, lr_0_12, lr_0_13, lk_1, lr_1_0, lr_1_1, lr_1_2, lr_1_3, lr_1_4, lr_1_5, lr_1_6, lk_2, ln_2, lk_3, ln_3, lk_4, ln_4, lk_5, ln_5, lk_6, ln_6, lk_7, ln_7, lk_8, ln_8, lk_9, lr_9_0, lr_9_1, lr_9_2, lr_9_3, lk_10, ln_10, lk_11, ln_11, lk_12, ln_12, lk_13, ln_13, lk_14, lr_14_0, lr_14_1, lr_14_2, lr_14_3, lr_14_4, lr_14_5, lk_15, ln_15, lk_16, ln_16, lk_17, ln_17, lk_18, ln_18, lk_19, ln_19, lk_20, ln_20, lk_21, ln_21, lk_22, ln_22, lk_23, ln_23, lk_24, ln_24, lk_25, ln_25, lk_26, ln_26, lk_27, ln_27, lk_28, ln_28, le_T, lt_T, Int.reduceToNat, Int.toNat_natCast, cat_n, Nat.ble_eq, true_and, and_true, true_or]
    first | exact g | exact ⟨by decide, g⟩ | grind
  exact g0 d hS
def sAll : Nat → Nat := (sS (sS (sS (sS (sS (sS (sS (sS (sS (sS (sS (sS (sS (sS (sS (sS (sS (sS (sS (sS (sS (sS (fun _ => 0) 2 14) 3 14) 4 14) 5 14) 6 14) 7 14) 8 1792) 10 8) 11 8) 12 8) 13 8) 15 12) 16 12) 17 12) 18 12) 19 12) 20 12) 21 4) 22 4) 23 4) 24 20) 25 16)
theorem c_L_become0 (hb : isLd b = true) (hb2 : isLd b2 = true) (hne : b + 29 ≤ b2 ∨ b2 + 29 ≤ b) (h : ∀ d, CP b b2 d0 d sAll → d b 14 = d0 b2 14 → d b 15 = d0 b2 15 → R vU (SH L) d) : Cl (k + 2) 133 [vR b, vR b2] (SH L) d0 R := by
  refine Cl_succ rfl ?_
  show Go (k + 1) 133 R 0 [vR b, vR b2] [] (SH L) d0
  have gz : ∀ d, CP b b2 d0 d sAll → Go (k + 1) 133 R 105 [vR b, vR b2] [] (SH L) d := fun d hd => by
    have e1 : d b2 14 = d0 b2 14 := by rw [hd.1 b2 (by omega)]
    have e2 : d b2 15 = d0 b2 15 := by rw [hd.1 b2 (by omega)]
    have h := h (ups (ups d b 14 (d b2 14)) b 15 (d b2 15)) (CP_ups (CP_ups hd rfl) rfl) (by rw [us_rd, if_pos rfl, if_neg (by decide), us_rd, if_pos rfl, if_pos rfl]; exact e1) (by rw [us_rd, if_pos rfl, if_pos rfl]; exact e2)
    have e3 : ups d b 14 (d b2 14) b2 15 = d b2 15 := u_ne (by omega)
    clear hd
    simp (disch := omega) only [s_Land_become_105, s_Land_become_106, s_Land_become_107, s_Land_become_110, s_Land_become_113, s_Land_become_114, s_Land_become_115, s_Land_become_118, s_Land_become_121, hb, hb2, lk_0, lr_0_0, lr_0_1, lr_0_2, lr_0_3, lr_0_4, lr_0_5, lr_0_6, lr_0_7, lr_0_8, lr_0_9, lr_0_10, lr_0_11, lr_0_12, lr_0_13, lk_1, lr_1_0, lr_1_1, lr_1_2, lr_1_3, lr_1_4, lr_1_5, lr_1_6, lk_2, ln_2, lk_3, ln_3, lk_4, ln_4, lk_5, ln_5, lk_6, ln_6, lk_7, ln_7, lk_8, ln_8, lk_9, lr_9_0, lr_9_1, lr_9_2, lr_9_3, lk_10, ln_10, lk_11, ln_11, lk_12, ln_12, lk_13, ln_13, lk_14, lr_14_0, lr_14_1, lr_14_2, lr_14_3, lr_14_4, lr_14_5, lk_15, ln_15, lk_16, ln_16, lk_17, ln_17, lk_18, ln_18, lk_19, ln_19, lk_20, ln_20, lk_21, ln_21, lk_22, ln_22, lk_23, ln_23, lk_24, ln_24, lk_25, ln_25, lk_26, ln_26, lk_27, ln_27, lk_28, ln_28, le_T, lt_T, Int.reduceToNat, Int.toNat_natCast, cat_n, Nat.ble_eq, true_and, and_true, true_or, e3]
    first | exact h | grind
  have g4 : ∀ d, CP b b2 d0 d (sS (sS (sS (sS (sS (sS (sS (sS (sS (sS (sS (sS (sS (sS (sS (sS (sS (sS (sS (sS (sS (fun _ => 0) 2 14) 3 14) 4 14) 5 14) 6 14) 7 14) 8 1792) 10 8) 11 8) 12 8) 13 8) 15 12) 16 12) 17 12) 18 12) 19 12) 20 12) 21 4) 22 4) 23 4) 24 20) → Go (k + 1) 133 R 90 [vR b, vR b2] [] (SH L) d := fun d hd => by
    have g := gz _ (CP_step (o := 25) (n := 16) hd (by decide) hne)
    clear h gz 
    simp (disch := omega) only [s_Land_become_90, s_Land_become_91, s_Land_become_94, s_Land_become_95, s_Land_become_96, s_Land_become_99, s_Land_become_100, s_Land_become_102, hb, hb2, lk_0, lr_0_0, lr_0_1, lr_0_2, lr_0_3, lr_0_4, lr_0_5, lr_0_6, lr_0_7, lr_0_8, lr_0_9, lr_0_10, lr_0_11, lr_0_12, lr_0_13, lk_1, lr_1_0, lr_1_1, lr_1_2, lr_1_3, lr_1_4, lr_1_5, lr_1_6, lk_2, ln_2, lk_3, ln_3, lk_4, ln_4, lk_5, ln_5, lk_6, ln_6, lk_7, ln_7, lk_8, ln_8, lk_9, lr_9_0, lr_9_1, lr_9_2, lr_9_3, lk_10, ln_10, lk_11, ln_11, lk_12, ln_12, lk_13, ln_13, lk_14, lr_14_0, lr_14_1, lr_14_2, lr_14_3, lr_14_4, lr_14_5, lk_15, ln_15, lk_16, ln_16, lk_17, ln_17, lk_18, ln_18, lk_19, ln_19, lk_20, ln_20, lk_21, ln_21, lk_22, ln_22, lk_23, ln_23, lk_24, ln_24, lk_25, ln_25, lk_26, ln_26, lk_27, ln_27, lk_28, ln_28, le_T, lt_T, Int.reduceToNat, Int.toNat_natCast, cat_n, Nat.ble_eq, true_and, and_true, true_or]
    first | exact g | exact ⟨by decide, g⟩ | grind
  have g3 : ∀ d, CP b b2 d0 d (sS (sS (sS (sS (sS (sS (sS (sS (sS (sS (sS (sS (sS (sS (sS (sS (sS (sS (sS (sS (fun _ => 0) 2 14) 3 14) 4 14) 5 14) 6 14) 7 14) 8 1792) 10 8) 11 8) 12 8) 13 8) 15 12) 16 12) 17 12) 18 12) 19 12) 20 12) 21 4) 22 4) 23 4) → Go (k + 1) 133 R 75 [vR b, vR b2] [] (SH L) d := fun d hd => by
    have g := g4 _ (CP_step (o := 24) (n := 20) hd (by decide) hne)
    clear h gz g4
    simp (disch := omega) only [s_Land_become_75, s_Land_become_76, s_Land_become_79, s_Land_become_80, s_Land_become_81, s_Land_become_84, s_Land_become_85, s_Land_become_87, hb, hb2, lk_0, lr_0_0, lr_0_1, lr_0_2, lr_0_3, lr_0_4, lr_0_5, lr_0_6, lr_0_7, lr_0_8, lr_0_9, lr_0_10, lr_0_11, lr_0_12, lr_0_13, lk_1, lr_1_0, lr_1_1, lr_1_2, lr_1_3, lr_1_4, lr_1_5, lr_1_6, lk_2, ln_2, lk_3, ln_3, lk_4, ln_4, lk_5, ln_5, lk_6, ln_6, lk_7, ln_7, lk_8, ln_8, lk_9, lr_9_0, lr_9_1, lr_9_2, lr_9_3, lk_10, ln_10, lk_11, ln_11, lk_12, ln_12, lk_13, ln_13, lk_14, lr_14_0, lr_14_1, lr_14_2, lr_14_3, lr_14_4, lr_14_5, lk_15, ln_15, lk_16, ln_16, lk_17, ln_17, lk_18, ln_18, lk_19, ln_19, lk_20, ln_20, lk_21, ln_21, lk_22, ln_22, lk_23, ln_23, lk_24, ln_24, lk_25, ln_25, lk_26, ln_26, lk_27, ln_27, lk_28, ln_28, le_T, lt_T, Int.reduceToNat, Int.toNat_natCast, cat_n, Nat.ble_eq, true_and, and_true, true_or]
    first | exact g | exact ⟨by decide, g⟩ | grind
  have g2 : ∀ d, CP b b2 d0 d (sS (sS (sS (sS (sS (sS (sS (sS (sS (sS (sS (sS (sS (sS (sS (sS (sS (sS (sS (fun _ => 0) 2 14) 3 14) 4 14) 5 14) 6 14) 7 14) 8 1792) 10 8) 11 8) 12 8) 13 8) 15 12) 16 12) 17 12) 18 12) 19 12) 20 12) 21 4) 22 4) → Go (k + 1) 133 R 61 [vR b, vR b2] [] (SH L) d := fun d hd => by
    have g := g3 _ (CP_step (o := 23) (n := 4) hd (by decide) hne)
    clear h gz g3 g4
    simp (disch := omega) only [s_Land_become_61, s_Land_become_62, s_Land_become_65, s_Land_become_66, s_Land_become_67, s_Land_become_70, s_Land_become_71, s_Land_become_72, hb, hb2, lk_0, lr_0_0, lr_0_1, lr_0_2, lr_0_3, lr_0_4, lr_0_5, lr_0_6, lr_0_7, lr_0_8, lr_0_9, lr_0_10, lr_0_11, lr_0_12, lr_0_13, lk_1, lr_1_0, lr_1_1, lr_1_2, lr_1_3, lr_1_4, lr_1_5, lr_1_6, lk_2, ln_2, lk_3, ln_3, lk_4, ln_4, lk_5, ln_5, lk_6, ln_6, lk_7, ln_7, lk_8, ln_8, lk_9, lr_9_0, lr_9_1, lr_9_2, lr_9_3, lk_10, ln_10, lk_11, ln_11, lk_12, ln_12, lk_13, ln_13, lk_14, lr_14_0, lr_14_1, lr_14_2, lr_14_3, lr_14_4, lr_14_5, lk_15, ln_15, lk_16, ln_16, lk_17, ln_17, lk_18, ln_18, lk_19, ln_19, lk_20, ln_20, lk_21, ln_21, lk_22, ln_22, lk_23, ln_23, lk_24, ln_24, lk_25, ln_25, lk_26, ln_26, lk_27, ln_27, lk_28, ln_28, le_T, lt_T, Int.reduceToNat, Int.toNat_natCast, cat_n, Nat.ble_eq, true_and, and_true, true_or]
    first | exact g | exact ⟨by decide, g⟩ | grind
  have g1 : ∀ d, CP b b2 d0 d (sS (sS (sS (sS (sS (sS (sS (sS (sS (sS (sS (sS (sS (sS (sS (sS (sS (sS (fun _ => 0) 2 14) 3 14) 4 14) 5 14) 6 14) 7 14) 8 1792) 10 8) 11 8) 12 8) 13 8) 15 12) 16 12) 17 12) 18 12) 19 12) 20 12) 21 4) → Go (k + 1) 133 R 47 [vR b, vR b2] [] (SH L) d := fun d hd => by
    have g := g2 _ (CP_step (o := 22) (n := 4) hd (by decide) hne)
    clear h gz g2 g3 g4
    simp (disch := omega) only [s_Land_become_47, s_Land_become_48, s_Land_become_51, s_Land_become_52, s_Land_become_53, s_Land_become_56, s_Land_become_57, s_Land_become_58, hb, hb2, lk_0, lr_0_0, lr_0_1, lr_0_2, lr_0_3, lr_0_4, lr_0_5, lr_0_6, lr_0_7, lr_0_8, lr_0_9, lr_0_10, lr_0_11, lr_0_12, lr_0_13, lk_1, lr_1_0, lr_1_1, lr_1_2, lr_1_3, lr_1_4, lr_1_5, lr_1_6, lk_2, ln_2, lk_3, ln_3, lk_4, ln_4, lk_5, ln_5, lk_6, ln_6, lk_7, ln_7, lk_8, ln_8, lk_9, lr_9_0, lr_9_1, lr_9_2, lr_9_3, lk_10, ln_10, lk_11, ln_11, lk_12, ln_12, lk_13, ln_13, lk_14, lr_14_0, lr_14_1, lr_14_2, lr_14_3, lr_14_4, lr_14_5, lk_15, ln_15, lk_16, ln_16, lk_17, ln_17, lk_18, ln_18, lk_19, ln_19, lk_20, ln_20, lk_21, ln_21, lk_22, ln_22, lk_23, ln_23, lk_24, ln_24, lk_25, ln_25, lk_26, ln_26, lk_27, ln_27, lk_28, ln_28, le_T, lt_T, Int.reduceToNat, Int.toNat_natCast, cat_n, Nat.ble_eq, true_and, and_true, true_or]
    first | exact g | exact ⟨by decide, g⟩ | grind
  have g0 : ∀ d, CP b b2 d0 d (sS (sS (sS (sS (sS (sS (sS (sS (sS (sS (sS (sS (sS (sS (sS (sS (sS (fun _ => 0) 2 14) 3 14) 4 14) 5 14) 6 14) 7 14) 8 1792) 10 8) 11 8) 12 8) 13 8) 15 12) 16 12) 17 12) 18 12) 19 12) 20 12) → Go (k + 1) 133 R 33 [vR b, vR b2] [] (SH L) d := fun d hd => by
    have g := g1 _ (CP_step (o := 21) (n := 4) hd (by decide) hne)
    clear h gz g1 g2 g3 g4
    simp (disch := omega) only [s_Land_become_33, s_Land_become_34, s_Land_become_37, s_Land_become_38, s_Land_become_39, s_Land_become_42, s_Land_become_43, s_Land_become_44, hb, hb2, lk_0, lr_0_0, lr_0_1, lr_0_2, lr_0_3, lr_0_4, lr_0_5, lr_0_6, lr_0_7, lr_0_8, lr_0_9, lr_0_10, lr_0_11, lr_0_12, lr_0_13, lk_1, lr_1_0, lr_1_1, lr_1_2, lr_1_3, lr_1_4, lr_1_5, lr_1_6, lk_2, ln_2, lk_3, ln_3, lk_4, ln_4, lk_5, ln_5, lk_6, ln_6, lk_7, ln_7, lk_8, ln_8, lk_9, lr_9_0, lr_9_1, lr_9_2, lr_9_3, lk_10, ln_10, lk_11, ln_11, lk_12, ln_12, lk_13, ln_13, lk_14, lr_14_0, lr_14_1, lr_14_2, lr_14_3, lr_14_4, lr_14_5, lk_15, ln_15, lk_16, ln_16, lk_17, ln_17, lk_18, ln_18, lk_19, ln_19, lk_20, ln_20, lk_21, ln_21, lk_22, ln_22, lk_23, ln_23, lk_24, ln_24, lk_25, ln_25, lk_26, ln_26, lk_27, ln_27, lk_28, ln_28, le_T, lt_T, Int.reduceToNat, Int.toNat_natCast, cat_n, Nat.ble_eq, true_and, and_true, true_or]
    first | exact g | exact ⟨by decide, g⟩ | grind
  have fO : ∀ d, CP b b2 d0 d (sS (sS (sS (sS (sS (sS (sS (sS (sS (sS (sS (fun _ => 0) 2 14) 3 14) 4 14) 5 14) 6 14) 7 14) 8 1792) 10 8) 11 8) 12 8) 13 8) → Go (k + 1) 133 R 22 [vR b, vR b2] [] (SH L) d := fun d hd => by
    have g := c_O_become (k := k) (L := L) (R := fun _ sh2 d2 => sh2 = SH L ∧ Go (k + 1) 133 R 33 [vR b, vR b2] [] (SH L) d2) hb hb2 hne hd (fun d hd => ⟨rfl, g0 d hd⟩)
    clear h gz
    simp (disch := omega) only [s_Land_become_22, s_Land_become_23, s_Land_become_26, s_Land_become_27, s_Land_become_30, hb, hb2, lk_0, lr_0_0, lr_0_1, lr_0_2, lr_0_3, lr_0_4, lr_0_5, lr_0_6, lr_0_7, lr_0_8, lr_0_9, lr_0_10, lr_0_11, lr_0_12, lr_0_13, lk_1, lr_1_0, lr_1_1, lr_1_2, lr_1_3, lr_1_4, lr_1_5, lr_1_6, lk_2, ln_2, lk_3, ln_3, lk_4, ln_4, lk_5, ln_5, lk_6, ln_6, lk_7, ln_7, lk_8, ln_8, lk_9, lr_9_0, lr_9_1, lr_9_2, lr_9_3, lk_10, ln_10, lk_11, ln_11, lk_12, ln_12, lk_13, ln_13, lk_14, lr_14_0, lr_14_1, lr_14_2, lr_14_3, lr_14_4, lr_14_5, lk_15, ln_15, lk_16, ln_16, lk_17, ln_17, lk_18, ln_18, lk_19, ln_19, lk_20, ln_20, lk_21, ln_21, lk_22, ln_22, lk_23, ln_23, lk_24, ln_24, lk_25, ln_25, lk_26, ln_26, lk_27, ln_27, lk_28, ln_28, le_T, lt_T, Int.reduceToNat, Int.toNat_natCast, cat_n, Nat.ble_eq, true_and, and_true, true_or]
    first | exact g | exact ⟨by omega, g⟩ | grind
  have fP : ∀ d, CP b b2 d0 d (sS (sS (sS (sS (sS (sS (sS (fun _ => 0) 2 14) 3 14) 4 14) 5 14) 6 14) 7 14) 8 1792) → Go (k + 1) 133 R 11 [vR b, vR b2] [] (SH L) d := fun d hd => by
    have g := c_P_become (k := k) (L := L) (R := fun _ sh2 d2 => sh2 = SH L ∧ Go (k + 1) 133 R 22 [vR b, vR b2] [] (SH L) d2) hb hb2 hne hd (fun d hd => ⟨rfl, fO d hd⟩)
    clear h gz
    simp (disch := omega) only [s_Land_become_11, s_Land_become_12, s_Land_become_15, s_Land_become_16, s_Land_become_19, hb, hb2, lk_0, lr_0_0, lr_0_1, lr_0_2, lr_0_3, lr_0_4, lr_0_5, lr_0_6, lr_0_7, lr_0_8, lr_0_9, lr_0_10, lr_0_11, lr_0_12, lr_0_13, lk_1, lr_1_0, lr_1_1, lr_1_2, lr_1_3, lr_1_4, lr_1_5, lr_1_6, lk_2, ln_2, lk_3, ln_3, lk_4, ln_4, lk_5, ln_5, lk_6, ln_6, lk_7, ln_7, lk_8, ln_8, lk_9, lr_9_0, lr_9_1, lr_9_2, lr_9_3, lk_10, ln_10, lk_11, ln_11, lk_12, ln_12, lk_13, ln_13, lk_14, lr_14_0, lr_14_1, lr_14_2, lr_14_3, lr_14_4, lr_14_5, lk_15, ln_15, lk_16, ln_16, lk_17, ln_17, lk_18, ln_18, lk_19, ln_19, lk_20, ln_20, lk_21, ln_21, lk_22, ln_22, lk_23, ln_23, lk_24, ln_24, lk_25, ln_25, lk_26, ln_26, lk_27, ln_27, lk_28, ln_28, le_T, lt_T, Int.reduceToNat, Int.toNat_natCast, cat_n, Nat.ble_eq, true_and, and_true, true_or]
    first | exact g | exact ⟨by omega, g⟩ | grind
  have fN : ∀ d, CP b b2 d0 d (fun _ => 0) → Go (k + 1) 133 R 0 [vR b, vR b2] [] (SH L) d := fun d hd => by
    have g := c_N_become (k := k) (L := L) (R := fun _ sh2 d2 => sh2 = SH L ∧ Go (k + 1) 133 R 11 [vR b, vR b2] [] (SH L) d2) hb hb2 hne hd (fun d hd => ⟨rfl, fP d hd⟩)
    clear h gz
    simp (disch := omega) only [s_Land_become_0, s_Land_become_1, s_Land_become_4, s_Land_become_5, s_Land_become_8, hb, hb2, lk_0, lr_0_0, lr_0_1, lr_0_2, lr_0_3, lr_0_4, lr_0_5, lr_0_6, lr_0_7, lr_0_8, lr_0_9, lr_0_10, lr_0_11, lr_0_12, lr_0_13, lk_1, lr_1_0, lr_1_1, lr_1_2, lr_1_3, lr_1_4, lr_1_5, lr_1_6, lk_2, ln_2, lk_3, ln_3, lk_4, ln_4, lk_5, ln_5, lk_6, ln_6, lk_7, ln_7, lk_8, ln_8, lk_9, lr_9_0, lr_9_1, lr_9_2, lr_9_3, lk_10, ln_10, lk_11, ln_11, lk_12, ln_12, lk_13, ln_13, lk_14, lr_14_0, lr_14_1, lr_14_2, lr_14_3, lr_14_4, lr_14_5, lk_15, ln_15, lk_16, ln_16, lk_17, ln_17, lk_18, ln_18, lk_19, ln_19, lk_20, ln_20, lk_21, ln_21, lk_22, ln_22, lk_23, ln_23, lk_24, ln_24, lk_25, ln_25, lk_26, ln_26, lk_27, ln_27, lk_28, ln_28, le_T, lt_T, Int.reduceToNat, Int.toNat_natCast, cat_n, Nat.ble_eq, true_and, and_true, true_or]
    first | exact g | exact ⟨by omega, g⟩ | grind
  exact fN d0 CP_0
theorem RL_become {m : Bool} {e d d1 d2 : Dat} {P : Row} (hR : RL m b2 e d1 d P) (hc : CP b b2 d d2 sAll) (c14 : d2 b 14 = d b2 14) (c15 : d2 b 15 = d b2 15) : RL false b e d d2 P := by
  have n := rl_n hR
  have c : ∀ o i, o ≤ 28 → i < sAll o → d2 (b + o) i = d (b2 + o) i := fun o i h1 h2 => hc.2 o h1 i h2
  exact ⟨rl_n hR, fun a ha _ _ => hc.1 a ha, fun i hi => (c 3 i (by decide) hi).trans (rl_3 hR i hi), fun i hi => (c 4 i (by decide) hi).trans (rl_4 hR i hi), fun i hi => (c 5 i (by decide) hi).trans (rl_5 hR i hi), fun i hi => (c 6 i (by decide) hi).trans (rl_6 hR i hi), fun i hi => (c 7 i (by decide) hi).trans (rl_7 hR i hi), fun i hi => (c 8 i (by decide) hi).trans (rl_8 hR i hi), fun i hi => (c 10 i (by decide) hi).trans (rl_10 hR i hi), fun i hi => (c 11 i (by decide) hi).trans (rl_11 hR i hi), fun i hi => (c 12 i (by decide) hi).trans (rl_12 hR i hi), fun i hi => (c 13 i (by decide) hi).trans (rl_13 hR i hi), fun i hi => (c 15 i (by decide) hi).trans (rl_15 hR i hi), fun i hi => (c 17 i (by decide) hi).trans (rl_17 hR i hi), fun i hi => (c 18 i (by decide) hi).trans (rl_18 hR i hi), fun i hi => (c 21 i (by decide) hi).trans (rl_21 hR i hi), fun i hi => (c 22 i (by decide) hi).trans (rl_22 hR i hi), fun i hi => (c 23 i (by decide) hi).trans (rl_23 hR i hi), fun i hi => (c 24 i (by decide) hi).trans (rl_24 hR i hi), fun i hi => (c 25 i (by decide) hi).trans (rl_25 hR i hi), fun i hi => (c 2 i (by decide) (by show i < 14; omega)).trans (rl_2 hR i hi), fun i h1 h2 => (c 2 i (by decide) h2).trans (rl_2b hR i h1 h2), fun i hi => (c 16 i (by decide) hi).trans (rl_16 hR i hi), fun i hi => by rw [c 20 i (by decide) hi]; exact rl_20 hR i hi, fun i hi => (c 19 i (by decide) (by show i < 12; omega)).trans (rl_19 hR i hi), fun i h1 h2 => (c 19 i (by decide) h2).trans (rl_19b hR i h1 h2), c14.trans (rl_m hR), c15.trans (rl_f hR), (fun z => absurd z (by decide)), (fun z => absurd z (by decide)), (fun z => absurd z (by decide))⟩
theorem c_L_become {m : Bool} {e d d1 : Dat} {P : Row} (hb : isLd b = true) (hb2 : isLd b2 = true) (hne : b + 29 ≤ b2 ∨ b2 + 29 ≤ b) (hR : RL m b2 e d1 d P) (h : ∀ d2, RL false b e d d2 P → (∀ a, (a < b ∨ b + 28 < a) → d2 a = d a) → R vU (SH L) d2) : Cl (k + 2) 133 [vR b, vR b2] (SH L) d R := c_L_become0 hb hb2 hne (fun d2 hc c14 c15 => h d2 (RL_become hR hc c14 c15) hc.1)
end
