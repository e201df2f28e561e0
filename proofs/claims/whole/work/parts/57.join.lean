/-! a land's join (expanded by gen18.py) -/
theorem wr_incj {h j : Nat} (q : h + j < 100000) : wr (((h + j : Nat) : Int) + 1) = ((h + (j + 1) : Nat) : Int) := by
  rw [wr_of (by omega)]
  omega
theorem jn_step {r s : Row} {n hi j : Nat} {lo : Int} (hj : hi + j < n) (hI : ∀ i, i < n → r i = if i < hi + j ∧ s i = (hi : Int) then lo else s i) (i : Nat) (hi2 : i < n) : (if r (hi + j) = (hi : Int) then fset r (hi + j) lo else r) i = if i < hi + (j + 1) ∧ s i = (hi : Int) then lo else s i := by
  have hq := hI i hi2
  have hr := hI (hi + j) hj
  rw [if_neg (by omega)] at hr
  clear hI
  by_cases q : i = hi + j
  · subst q
    clear hq
    by_cases c : s (hi + j) = (hi : Int)
    · rw [hr, if_pos c, fs_eq, if_pos ⟨by omega, c⟩]
    · rw [hr, if_neg c, hr, if_neg (fun z => c z.2)]
  · have h2 : (if r (hi + j) = (hi : Int) then fset r (hi + j) lo else r) i = r i := by
      split
      · exact fs_ne q
      · rfl
    rw [h2, hq]
    by_cases c : s i = (hi : Int)
    · by_cases c2 : i < hi + j
      · rw [if_pos ⟨c2, c⟩, if_pos ⟨by omega, c⟩]
      · rw [if_neg (fun z => c2 z.1), if_neg (fun z => c2 (by omega))]
    · rw [if_neg (fun z => c z.2), if_neg (fun z => c z.2)]
section
variable {k L b : Nat} {m : Bool} {d0 e : Dat} {P : Row} {R : RT}
theorem c_N_join (hb : isLd b = true) (hE : WE e) {s t : Row} {x y : Nat} (hx : x < (e 241 1).toNat) (hy : y < (e 241 1).toNat) (hs : ∀ n, n < (e 241 1).toNat → 0 ≤ s n ∧ s n ≤ (n : Int)) (h : ∀ d, RL m b e d0 d (MK e P (joinS ((e 241 1).toNat) (s x) (s y) s) t) → R vU (SH L) d) {d : Dat} (hR : RL m b e d0 d (MK e P s t)) : Cl (k + 1) 169 [vR (b + 1), vI (x : Int), vI (y : Int), vI (e 241 1)] (SH L) d R := by
  have hn := we_n hE
  have hsx := hs x hx
  have hsy := hs y hy
  have r1 := rl_2 hR x hx
  have r2 := rl_2 hR y hy
  rw [MK_isl hx] at r1
  rw [MK_isl hy] at r2
  refine Cl_succ rfl ?_
  show Go k 169 R 0 [vR (b + 1), vI (x : Int), vI (y : Int), vI (e 241 1), vU, vU, vU] [] (SH L) d
  have key : ∀ lo hi : Nat, lo < hi → hi < (e 241 1).toNat → (∀ d, RL m b e d0 d (MK e P (fun i => if i < (e 241 1).toNat ∧ s i = (hi : Int) then (lo : Int) else s i) t) → R vU (SH L) d) → Go k 169 R 68 [vR (b + 1), vI (x : Int), vI (y : Int), vI (e 241 1), vI (lo : Int), vI (hi : Int), vI (hi : Int)] [] (SH L) d := by
    intro lo hi hlo hhi h
    have key2 : ∀ d, RL m b e d0 d (MK e P s t) → Go k 169 R 68 [vR (b + 1), vI (x : Int), vI (y : Int), vI (e 241 1), vI (lo : Int), vI (hi : Int), vI ((hi + 0 : Nat) : Int)] [] (SH L) d := by
      refine loop_up (G := fun j (s : Row) => ∀ d, RL m b e d0 d (MK e P s t) → Go k 169 R 68 [vR (b + 1), vI (x : Int), vI (y : Int), vI (e 241 1), vI (lo : Int), vI (hi : Int), vI ((hi + j : Nat) : Int)] [] (SH L) d) (f := fun j s => if s (hi + j) = (hi : Int) then fset s (hi + j) (lo : Int) else s) (fun j r => ∀ i, i < (e 241 1).toNat → r i = if i < hi + j ∧ s i = (hi : Int) then (lo : Int) else s i) ((e 241 1).toNat - hi) (fun j hj r hI hG d hR => ?_) (fun i hi2 => ?_) (fun hI d hR => ?_)
      · have hr := hI (hi + j) (by omega)
        have r3 := rl_2 hR (hi + j) (by omega)
        rw [MK_isl (by omega)] at r3
        have hG := hG (jn_step (by omega) hI)
        have u1 := up_2 (v := (lo : Int)) hR (i := hi + j) (by omega)
        rw [MK_s (by omega)] at u1
        rw [s_Nodes_join_68]
        by_cases c : r (hi + j) = (hi : Int)
        · rw [if_pos c] at hG
          have hG := hG _ u1
          clear hI hs h hr r1 r2 hsx hsy hR u1
          simp (disch := omega) only [s_Nodes_join_0, s_Nodes_join_1, s_Nodes_join_4, s_Nodes_join_5, s_Nodes_join_6, s_Nodes_join_7, s_Nodes_join_10, s_Nodes_join_11, s_Nodes_join_12, s_Nodes_join_15, s_Nodes_join_16, s_Nodes_join_19, s_Nodes_join_20, s_Nodes_join_21, s_Nodes_join_24, s_Nodes_join_25, s_Nodes_join_28, s_Nodes_join_29, s_Nodes_join_30, s_Nodes_join_32, s_Nodes_join_33, s_Nodes_join_36, s_Nodes_join_37, s_Nodes_join_38, s_Nodes_join_39, s_Nodes_join_42, s_Nodes_join_43, s_Nodes_join_44, s_Nodes_join_47, s_Nodes_join_48, s_Nodes_join_51, s_Nodes_join_52, s_Nodes_join_53, s_Nodes_join_56, s_Nodes_join_57, s_Nodes_join_60, s_Nodes_join_61, s_Nodes_join_62, s_Nodes_join_64, s_Nodes_join_66, s_Nodes_join_70, s_Nodes_join_71, s_Nodes_join_74, s_Nodes_join_76, s_Nodes_join_78, s_Nodes_join_81, s_Nodes_join_82, s_Nodes_join_85, s_Nodes_join_87, s_Nodes_join_88, s_Nodes_join_90, s_Nodes_join_93, s_Nodes_join_94, s_Nodes_join_97, s_Nodes_join_99, s_Nodes_join_101, s_Nodes_join_102, s_Nodes_join_105, s_Nodes_join_108, hb, lk_0, lr_0_0, lr_0_1, lr_0_2, lr_0_3, lr_0_4, lr_0_5, lr_0_6, lr_0_7, lr_0_8, lr_0_9, lr_0_10, lr_0_11, lr_0_12, lr_0_13, lk_1, lr_1_0, lr_1_1, lr_1_2, lr_1_3, lr_1_4, lr_1_5, lr_1_6, lk_2, ln_2, lk_3, ln_3, lk_4, ln_4, lk_5, ln_5, lk_6, ln_6, lk_7, ln_7, lk_8, ln_8, lk_9, lr_9_0, lr_9_1, lr_9_2, lr_9_3, lk_10, ln_10, lk_11, ln_11, lk_12, ln_12, lk_13, ln_13, lk_14, lr_14_0, lr_14_1, lr_14_2, lr_14_3, lr_14_4, lr_14_5, lk_15, ln_15, lk_16, ln_16, lk_17, ln_17, lk_18, ln_18, lk_19, ln_19, lk_20, ln_20, lk_21, ln_21, lk_22, ln_22, lk_23, ln_23, lk_24, ln_24, lk_25, ln_25, lk_26, ln_26, lk_27, ln_27, lk_28, ln_28, ld20, ld30, r3, c, wr_incj, le_T, lt_T, le_F, lt_F, Int.toNat_natCast, true_and, and_true, true_implies, false_implies, not_true_eq_false, not_false_eq_true, implies_true]
          grind
        · rw [if_neg c] at hG
          have hG := hG _ hR
          clear hI hs h hr r1 r2 hsx hsy hR u1
          simp (disch := omega) only [s_Nodes_join_0, s_Nodes_join_1, s_Nodes_join_4, s_Nodes_join_5, s_Nodes_join_6, s_Nodes_join_7, s_Nodes_join_10, s_Nodes_join_11, s_Nodes_join_12, s_Nodes_join_15, s_Nodes_join_16, s_Nodes_join_19, s_Nodes_join_20, s_Nodes_join_21, s_Nodes_join_24, s_Nodes_join_25, s_Nodes_join_28, s_Nodes_join_29, s_Nodes_join_30, s_Nodes_join_32, s_Nodes_join_33, s_Nodes_join_36, s_Nodes_join_37, s_Nodes_join_38, s_Nodes_join_39, s_Nodes_join_42, s_Nodes_join_43, s_Nodes_join_44, s_Nodes_join_47, s_Nodes_join_48, s_Nodes_join_51, s_Nodes_join_52, s_Nodes_join_53, s_Nodes_join_56, s_Nodes_join_57, s_Nodes_join_60, s_Nodes_join_61, s_Nodes_join_62, s_Nodes_join_64, s_Nodes_join_66, s_Nodes_join_70, s_Nodes_join_71, s_Nodes_join_74, s_Nodes_join_76, s_Nodes_join_78, s_Nodes_join_81, s_Nodes_join_82, s_Nodes_join_85, s_Nodes_join_87, s_Nodes_join_88, s_Nodes_join_90, s_Nodes_join_93, s_Nodes_join_94, s_Nodes_join_97, s_Nodes_join_99, s_Nodes_join_101, s_Nodes_join_102, s_Nodes_join_105, s_Nodes_join_108, hb, lk_0, lr_0_0, lr_0_1, lr_0_2, lr_0_3, lr_0_4, lr_0_5, lr_0_6, lr_0_7, lr_0_8, lr_0_9, lr_0_10, lr_0_11, lr_0_12, lr_0_13, lk_1, lr_1_0, lr_1_1, lr_1_2, lr_1_3, lr_1_4, lr_1_5, lr_1_6, lk_2, ln_2, lk_3, ln_3, lk_4, ln_4, lk_5, ln_5, lk_6, ln_6, lk_7, ln_7, lk_8, ln_8, lk_9, lr_9_0, lr_9_1, lr_9_2, lr_9_3, lk_10, ln_10, lk_11, ln_11, lk_12, ln_12, lk_13, ln_13, lk_14, lr_14_0, lr_14_1, lr_14_2, lr_14_3, lr_14_4, lr_14_5, lk_15, ln_15, lk_16, ln_16, lk_17, ln_17, lk_18, ln_18, lk_19, ln_19, lk_20, ln_20, lk_21, ln_21, lk_22, ln_22, lk_23, ln_23, lk_24, ln_24, lk_25, ln_25, lk_26, ln_26, lk_27, ln_27, lk_28, ln_28, ld20, ld30, r3, c, wr_incj, le_T, lt_T, le_F, lt_F, Int.toNat_natCast, true_and, and_true, true_implies, false_implies, not_true_eq_false, not_false_eq_true, implies_true]
          grind
      · have := hs i hi2
        by_cases q : i < hi + 0 ∧ s i = (hi : Int)
        · omega
        · rw [if_neg q]
      · generalize iterN _ ((e 241 1).toNat - hi) s = r at hI hR ⊢
        have h := h d (by
          rw [MK_cg (s' := r) (t' := t) (fun n hn => ?_) (fun _ _ => rfl)]
          · exact hR
          · rw [hI n hn]
            by_cases q : s n = (hi : Int)
            · rw [if_pos ⟨hn, q⟩, if_pos ⟨by omega, q⟩]
            · rw [if_neg (fun z => q z.2), if_neg (fun z => q z.2)])
        have e9 : ((hi + ((e 241 1).toNat - hi) : Nat) : Int) = e 241 1 := by omega
        rw [e9, s_Nodes_join_68]
        simp (disch := omega) only [s_Nodes_join_0, s_Nodes_join_1, s_Nodes_join_4, s_Nodes_join_5, s_Nodes_join_6, s_Nodes_join_7, s_Nodes_join_10, s_Nodes_join_11, s_Nodes_join_12, s_Nodes_join_15, s_Nodes_join_16, s_Nodes_join_19, s_Nodes_join_20, s_Nodes_join_21, s_Nodes_join_24, s_Nodes_join_25, s_Nodes_join_28, s_Nodes_join_29, s_Nodes_join_30, s_Nodes_join_32, s_Nodes_join_33, s_Nodes_join_36, s_Nodes_join_37, s_Nodes_join_38, s_Nodes_join_39, s_Nodes_join_42, s_Nodes_join_43, s_Nodes_join_44, s_Nodes_join_47, s_Nodes_join_48, s_Nodes_join_51, s_Nodes_join_52, s_Nodes_join_53, s_Nodes_join_56, s_Nodes_join_57, s_Nodes_join_60, s_Nodes_join_61, s_Nodes_join_62, s_Nodes_join_64, s_Nodes_join_66, s_Nodes_join_70, s_Nodes_join_71, s_Nodes_join_74, s_Nodes_join_76, s_Nodes_join_78, s_Nodes_join_81, s_Nodes_join_82, s_Nodes_join_85, s_Nodes_join_87, s_Nodes_join_88, s_Nodes_join_90, s_Nodes_join_93, s_Nodes_join_94, s_Nodes_join_97, s_Nodes_join_99, s_Nodes_join_101, s_Nodes_join_102, s_Nodes_join_105, s_Nodes_join_108, hb, lk_0, lr_0_0, lr_0_1, lr_0_2, lr_0_3, lr_0_4, lr_0_5, lr_0_6, lr_0_7, lr_0_8, lr_0_9, lr_0_10, lr_0_11, lr_0_12, lr_0_13, lk_1, lr_1_0, lr_1_1, lr_1_2, lr_1_3, lr_1_4, lr_1_5, lr_1_6, lk_2, ln_2, lk_3, ln_3, lk_4, ln_4, lk_5, ln_5, lk_6, ln_6, lk_7, ln_7, lk_8, ln_8, lk_9, lr_9_0, lr_9_1, lr_9_2, lr_9_3, lk_10, ln_10, lk_11, ln_11, lk_12, ln_12, lk_13, ln_13, lk_14, lr_14_0, lr_14_1, lr_14_2, lr_14_3, lr_14_4, lr_14_5, lk_15, ln_15, lk_16, ln_16, lk_17, ln_17, lk_18, ln_18, lk_19, ln_19, lk_20, ln_20, lk_21, ln_21, lk_22, ln_22, lk_23, ln_23, lk_24, ln_24, lk_25, ln_25, lk_26, ln_26, lk_27, ln_27, lk_28, ln_28, ld20, ld30, le_T, lt_T, le_F, lt_F, Int.toNat_natCast, true_and, and_true, true_implies, false_implies, not_true_eq_false, not_false_eq_true, implies_true]
        exact h
    exact key2 d hR
  obtain ⟨u, hu⟩ : ∃ u : Nat, s x = (u : Int) := ⟨(s x).toNat, by omega⟩
  obtain ⟨v, hv⟩ : ∃ v : Nat, s y = (v : Int) := ⟨(s y).toNat, by omega⟩
  rw [hu, hv] at h
  rw [hu] at r1
  rw [hv] at r2
  rcases Nat.lt_trichotomy u v with q | q | q
  · have key := key u v q (by omega) (fun d hd => h d (by
      unfold joinS
      simp only [show ((u : Int) < (v : Int)) = True from eq_true (by omega), if_true, ne_eq, show ((u : Int) = (v : Int)) = False from eq_false (by omega), not_false_eq_true, true_and]
      exact hd))
    simp (disch := omega) only [s_Nodes_join_0, s_Nodes_join_1, s_Nodes_join_4, s_Nodes_join_5, s_Nodes_join_6, s_Nodes_join_7, s_Nodes_join_10, s_Nodes_join_11, s_Nodes_join_12, s_Nodes_join_15, s_Nodes_join_16, s_Nodes_join_19, s_Nodes_join_20, s_Nodes_join_21, s_Nodes_join_24, s_Nodes_join_25, s_Nodes_join_28, s_Nodes_join_29, s_Nodes_join_30, s_Nodes_join_32, s_Nodes_join_33, s_Nodes_join_36, s_Nodes_join_37, s_Nodes_join_38, s_Nodes_join_39, s_Nodes_join_42, s_Nodes_join_43, s_Nodes_join_44, s_Nodes_join_47, s_Nodes_join_48, s_Nodes_join_51, s_Nodes_join_52, s_Nodes_join_53, s_Nodes_join_56, s_Nodes_join_57, s_Nodes_join_60, s_Nodes_join_61, s_Nodes_join_62, s_Nodes_join_64, s_Nodes_join_66, s_Nodes_join_70, s_Nodes_join_71, s_Nodes_join_74, s_Nodes_join_76, s_Nodes_join_78, s_Nodes_join_81, s_Nodes_join_82, s_Nodes_join_85, s_Nodes_join_87, s_Nodes_join_88, s_Nodes_join_90, s_Nodes_join_93, s_Nodes_join_94, s_Nodes_join_97, s_Nodes_join_99, s_Nodes_join_101, s_Nodes_join_102, s_Nodes_join_105, s_Nodes_join_108, hb, lk_0, lr_0_0, lr_0_1, lr_0_2, lr_0_3, lr_0_4, lr_0_5, lr_0_6, lr_0_7, lr_0_8, lr_0_9, lr_0_10, lr_0_11, lr_0_12, lr_0_13, lk_1, lr_1_0, lr_1_1, lr_1_2, lr_1_3, lr_1_4, lr_1_5, lr_1_6, lk_2, ln_2, lk_3, ln_3, lk_4, ln_4, lk_5, ln_5, lk_6, ln_6, lk_7, ln_7, lk_8, ln_8, lk_9, lr_9_0, lr_9_1, lr_9_2, lr_9_3, lk_10, ln_10, lk_11, ln_11, lk_12, ln_12, lk_13, ln_13, lk_14, lr_14_0, lr_14_1, lr_14_2, lr_14_3, lr_14_4, lr_14_5, lk_15, ln_15, lk_16, ln_16, lk_17, ln_17, lk_18, ln_18, lk_19, ln_19, lk_20, ln_20, lk_21, ln_21, lk_22, ln_22, lk_23, ln_23, lk_24, ln_24, lk_25, ln_25, lk_26, ln_26, lk_27, ln_27, lk_28, ln_28, ld20, ld30, r1, r2, le_T, lt_T, le_F, lt_F, Int.toNat_natCast, true_and, and_true, true_implies, false_implies, not_true_eq_false, not_false_eq_true, implies_true]
    exact key
  · subst q
    have h := h d (by
      unfold joinS
      simp only [ne_eq, not_true_eq_false, false_and, and_false, if_false]
      exact hR)
    clear hs key
    simp (disch := omega) only [s_Nodes_join_0, s_Nodes_join_1, s_Nodes_join_4, s_Nodes_join_5, s_Nodes_join_6, s_Nodes_join_7, s_Nodes_join_10, s_Nodes_join_11, s_Nodes_join_12, s_Nodes_join_15, s_Nodes_join_16, s_Nodes_join_19, s_Nodes_join_20, s_Nodes_join_21, s_Nodes_join_24, s_Nodes_join_25, s_Nodes_join_28, s_Nodes_join_29, s_Nodes_join_30, s_Nodes_join_32, s_Nodes_join_33, s_Nodes_join_36, s_Nodes_join_37, s_Nodes_join_38, s_Nodes_join_39, s_Nodes_join_42, s_Nodes_join_43, s_Nodes_join_44, s_Nodes_join_47, s_Nodes_join_48, s_Nodes_join_51, s_Nodes_join_52, s_Nodes_join_53, s_Nodes_join_56, s_Nodes_join_57, s_Nodes_join_60, s_Nodes_join_61, s_Nodes_join_62, s_Nodes_join_64, s_Nodes_join_66, s_Nodes_join_70, s_Nodes_join_71, s_Nodes_join_74, s_Nodes_join_76, s_Nodes_join_78, s_Nodes_join_81, s_Nodes_join_82, s_Nodes_join_85, s_Nodes_join_87, s_Nodes_join_88, s_Nodes_join_90, s_Nodes_join_93, s_Nodes_join_94, s_Nodes_join_97, s_Nodes_join_99, s_Nodes_join_101, s_Nodes_join_102, s_Nodes_join_105, s_Nodes_join_108, hb, lk_0, lr_0_0, lr_0_1, lr_0_2, lr_0_3, lr_0_4, lr_0_5, lr_0_6, lr_0_7, lr_0_8, lr_0_9, lr_0_10, lr_0_11, lr_0_12, lr_0_13, lk_1, lr_1_0, lr_1_1, lr_1_2, lr_1_3, lr_1_4, lr_1_5, lr_1_6, lk_2, ln_2, lk_3, ln_3, lk_4, ln_4, lk_5, ln_5, lk_6, ln_6, lk_7, ln_7, lk_8, ln_8, lk_9, lr_9_0, lr_9_1, lr_9_2, lr_9_3, lk_10, ln_10, lk_11, ln_11, lk_12, ln_12, lk_13, ln_13, lk_14, lr_14_0, lr_14_1, lr_14_2, lr_14_3, lr_14_4, lr_14_5, lk_15, ln_15, lk_16, ln_16, lk_17, ln_17, lk_18, ln_18, lk_19, ln_19, lk_20, ln_20, lk_21, ln_21, lk_22, ln_22, lk_23, ln_23, lk_24, ln_24, lk_25, ln_25, lk_26, ln_26, lk_27, ln_27, lk_28, ln_28, ld20, ld30, r1, r2, le_T, lt_T, le_F, lt_F, Int.toNat_natCast, true_and, and_true, true_implies, false_implies, not_true_eq_false, not_false_eq_true, implies_true]
    rw [s_Nodes_join_68]
    simp (disch := omega) only [s_Nodes_join_0, s_Nodes_join_1, s_Nodes_join_4, s_Nodes_join_5, s_Nodes_join_6, s_Nodes_join_7, s_Nodes_join_10, s_Nodes_join_11, s_Nodes_join_12, s_Nodes_join_15, s_Nodes_join_16, s_Nodes_join_19, s_Nodes_join_20, s_Nodes_join_21, s_Nodes_join_24, s_Nodes_join_25, s_Nodes_join_28, s_Nodes_join_29, s_Nodes_join_30, s_Nodes_join_32, s_Nodes_join_33, s_Nodes_join_36, s_Nodes_join_37, s_Nodes_join_38, s_Nodes_join_39, s_Nodes_join_42, s_Nodes_join_43, s_Nodes_join_44, s_Nodes_join_47, s_Nodes_join_48, s_Nodes_join_51, s_Nodes_join_52, s_Nodes_join_53, s_Nodes_join_56, s_Nodes_join_57, s_Nodes_join_60, s_Nodes_join_61, s_Nodes_join_62, s_Nodes_join_64, s_Nodes_join_66, s_Nodes_join_70, s_Nodes_join_71, s_Nodes_join_74, s_Nodes_join_76, s_Nodes_join_78, s_Nodes_join_81, s_Nodes_join_82, s_Nodes_join_85, s_Nodes_join_87, s_Nodes_join_88, s_Nodes_join_90, s_Nodes_join_93, s_Nodes_join_94, s_Nodes_join_97, s_Nodes_join_99, s_Nodes_join_101, s_Nodes_join_102, s_Nodes_join_105, s_Nodes_join_108, hb, lk_0, lr_0_0, lr_0_1, lr_0_2, lr_0_3, lr_0_4, lr_0_5, lr_0_6, lr_0_7, lr_0_8, lr_0_9, lr_0_10, lr_0_11, lr_0_12, lr_0_13, lk_1, lr_1_0, lr_1_1, lr_1_2, lr_1_3, lr_1_4, lr_1_5, lr_1_6, lk_2, ln_2, lk_3, ln_3, lk_4, ln_4, lk_5, ln_5, lk_6, ln_6, lk_7, ln_7, lk_8, ln_8, lk_9, lr_9_0, lr_9_1, lr_9_2, lr_9_3, lk_10, ln_10, lk_11, ln_11, lk_12, ln_12, lk_13, ln_13, lk_14, lr_14_0, lr_14_1, lr_14_2, lr_14_3, lr_14_4, lr_14_5, lk_15, ln_15, lk_16, ln_16, lk_17, ln_17, lk_18, ln_18, lk_19, ln_19, lk_20, ln_20, lk_21, ln_21, lk_22, ln_22, lk_23, ln_23, lk_24, ln_24, lk_25, ln_25, lk_26, ln_26, lk_27, ln_27, lk_28, ln_28, ld20, ld30, r1, r2, le_T, lt_T, le_F, lt_F, Int.toNat_natCast, true_and, and_true, true_implies, false_implies, not_true_eq_false, not_false_eq_true, implies_true]
    grind
  · have key := key v u q (by omega) (fun d hd => h d (by
      unfold joinS
      simp only [show ((u : Int) < (v : Int)) = False from eq_false (by omega), if_false, ne_eq, show ((u : Int) = (v : Int)) = False from eq_false (by omega), not_false_eq_true, true_and]
      exact hd))
    simp (disch := omega) only [s_Nodes_join_0, s_Nodes_join_1, s_Nodes_join_4, s_Nodes_join_5, s_Nodes_join_6, s_Nodes_join_7, s_Nodes_join_10, s_Nodes_join_11, s_Nodes_join_12, s_Nodes_join_15, s_Nodes_join_16, s_Nodes_join_19, s_Nodes_join_20, s_Nodes_join_21, s_Nodes_join_24, s_Nodes_join_25, s_Nodes_join_28, s_Nodes_join_29, s_Nodes_join_30, s_Nodes_join_32, s_Nodes_join_33, s_Nodes_join_36, s_Nodes_join_37, s_Nodes_join_38, s_Nodes_join_39, s_Nodes_join_42, s_Nodes_join_43, s_Nodes_join_44, s_Nodes_join_47, s_Nodes_join_48, s_Nodes_join_51, s_Nodes_join_52, s_Nodes_join_53, s_Nodes_join_56, s_Nodes_join_57, s_Nodes_join_60, s_Nodes_join_61, s_Nodes_join_62, s_Nodes_join_64, s_Nodes_join_66, s_Nodes_join_70, s_Nodes_join_71, s_Nodes_join_74, s_Nodes_join_76, s_Nodes_join_78, s_Nodes_join_81, s_Nodes_join_82, s_Nodes_join_85, s_Nodes_join_87, s_Nodes_join_88, s_Nodes_join_90, s_Nodes_join_93, s_Nodes_join_94, s_Nodes_join_97, s_Nodes_join_99, s_Nodes_join_101, s_Nodes_join_102, s_Nodes_join_105, s_Nodes_join_108, hb, lk_0, lr_0_0, lr_0_1, lr_0_2, lr_0_3, lr_0_4, lr_0_5, lr_0_6, lr_0_7, lr_0_8, lr_0_9, lr_0_10, lr_0_11, lr_0_12, lr_0_13, lk_1, lr_1_0, lr_1_1, lr_1_2, lr_1_3, lr_1_4, lr_1_5, lr_1_6, lk_2, ln_2, lk_3, ln_3, lk_4, ln_4, lk_5, ln_5, lk_6, ln_6, lk_7, ln_7, lk_8, ln_8, lk_9, lr_9_0, lr_9_1, lr_9_2, lr_9_3, lk_10, ln_10, lk_11, ln_11, lk_12, ln_12, lk_13, ln_13, lk_14, lr_14_0, lr_14_1, lr_14_2, lr_14_3, lr_14_4, lr_14_5, lk_15, ln_15, lk_16, ln_16, lk_17, ln_17, lk_18, ln_18, lk_19, ln_19, lk_20, ln_20, lk_21, ln_21, lk_22, ln_22, lk_23, ln_23, lk_24, ln_24, lk_25, ln_25, lk_26, ln_26, lk_27, ln_27, lk_28, ln_28, ld20, ld30, r1, r2, le_T, lt_T, le_F, lt_F, Int.toNat_natCast, true_and, and_true, true_implies, false_implies, not_true_eq_false, not_false_eq_true, implies_true]
    exact key
end
