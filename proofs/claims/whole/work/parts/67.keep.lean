/-! a land keeps its minute (expanded by gen18.py) -/
theorem ct_1 {a : Nat} : ((a : Int) + 1).toNat = a + 1 := by omega
theorem ct_2 {a : Nat} : ((a : Int) + 2).toNat = a + 2 := by omega
theorem ct_3 {a : Nat} : ((a : Int) + 3).toNat = a + 3 := by omega
theorem keep1_eq {n r : Nat} {Q : Row} (hr : (Q 285).toNat % 32 = r) : keep1 n Q = fset (fset (fset (fset (keep0 n Q) (286 + 4 * (14 * r + n)) (keep0 n Q (56 + n))) (286 + 4 * (14 * r + n) + 1) (keep0 n Q n)) (286 + 4 * (14 * r + n) + 2) (keep0 n Q (14 + n))) (286 + 4 * (14 * r + n) + 3) (keep0 n Q (42 + n)) := by
  unfold keep1
  rw [hr]
theorem keep1_rd {n : Nat} {Q : Row} {j : Nat} (hn : n < 14) (hj : (56 ≤ j ∧ j < 286) ∨ 2078 ≤ j) : keep1 n Q j = Q j := by
  have hq := Nat.mod_lt (Q 285).toNat (show 0 < 32 by decide)
  rw [keep1_eq rfl]
  generalize (Q 285).toNat % 32 = r at *
  rw [fs_ne (by omega), fs_ne (by omega), fs_ne (by omega), fs_ne (by omega)]
  unfold keep0
  split
  · rw [fs_ne (by omega)]
  · rw [fs_ne (by omega), fs_ne (by omega), fs_ne (by omega), fs_ne (by omega)]
section
variable {k L b : Nat} {m : Bool} {d0 e : Dat} {P : Row} {R : RT}
theorem c_N_keptAt {sh : Shp} {d : Dat} {t n r : Nat} (ht : t ≤ 700) (hn : n < 14) (hr : t % 32 = r) : Cl (k + 1) 172 [vI (t : Int), vI (n : Int)] sh d R ↔ R (vI ((4 * (14 * r + n) : Nat) : Int)) sh d := by
  have hq := Nat.mod_lt t (show 0 < 32 by decide)
  refine (Cl_iff rfl).trans ?_
  show Go k 172 R 0 [vI (t : Int), vI (n : Int)] [] sh d ↔ _
  have e1 : (t : Int).tmod 32 = (r : Int) := by
    rw [Int.tmod_eq_emod_of_nonneg (by omega)]
    omega
  have e2 : wr (wr (wr ((r : Int) * 14) + (n : Int)) * 4) = ((4 * (14 * r + n) : Nat) : Int) := by
    rw [hr] at hq
    clear e1 hr
    rw [wr_of (x := (r : Int) * 14) (by omega), wr_of (x := (r : Int) * 14 + (n : Int)) (by omega), wr_of (by omega)]
    omega
  simp only [s_Nodes_keptAt_0, s_Nodes_keptAt_1, s_Nodes_keptAt_3, s_Nodes_keptAt_4, s_Nodes_keptAt_6, s_Nodes_keptAt_7, s_Nodes_keptAt_8, s_Nodes_keptAt_9, s_Nodes_keptAt_10, s_Nodes_keptAt_11, e1, e2]
  clear e1 e2
  grind
theorem c_N_keep (hb : isLd b = true) (hE : WE e) (hW : WQ e P) {t : Nat} (ht : P 285 = (t : Int)) (h : ∀ d, RL m b e d0 d (iterN keep1 ((e 241 1).toNat) P) → R vU (SH L) d) {d : Dat} (hR : RL m b e d0 d P) : Cl (k + 2) 170 [vR (b + 1), vI (t : Int), vI (e 241 1)] (SH L) d R := by
  have n1 := we_n hE
  have hm := wp_m hW
  refine Cl_succ rfl ?_
  show Go (k + 1) 170 R 0 [vR (b + 1), vI (t : Int), vI (e 241 1), vU, vU] [] (SH L) d
  have key : ∀ d, RL m b e d0 d P → ∀ a4, Go (k + 1) 170 R 2 [vR (b + 1), vI (t : Int), vI (e 241 1), vI (0 : Nat), a4] [] (SH L) d := by
    refine loop_up (G := fun n Q => ∀ d, RL m b e d0 d Q → ∀ a4, Go (k + 1) 170 R 2 [vR (b + 1), vI (t : Int), vI (e 241 1), vI (n : Int), a4] [] (SH L) d) (f := keep1) (fun n Q => ∀ j, (56 ≤ j ∧ j < 286) ∨ 2078 ≤ j → Q j = P j) ((e 241 1).toNat) (fun n hn Q hI hG d hR a4 => ?_) (fun _ _ => rfl) (fun hI d hR a4 => ?_)
    · have hG := hG (fun j hj => (keep1_rd (by omega) hj).trans (hI j hj))
      have l1 := wp_l hW n (by omega)
      rw [← hI _ (by omega)] at l1
      have q285 := hI 285 (by omega)
      have r2 := rl_3 hR n (by omega)
      have r3 := rl_7 hR n (by omega)
      have r4 := rl_4 hR n (by omega)
      have r5 := rl_5 hR n (by omega)
      obtain ⟨r, hr⟩ : ∃ r, t % 32 = r := ⟨_, rfl⟩
      have hq := Nat.mod_lt t (show 0 < 32 by decide)
      rw [hr] at hq
      have kA := fun (sh : Shp) (d : Dat) (R : RT) => c_N_keptAt (k := k) (sh := sh) (d := d) (R := R) (t := t) (n := n) (r := r) (by omega) (by omega) hr
      rw [keep1_eq (r := r) (by rw [q285, ht, Int.toNat_natCast]; exact hr)] at hG
      clear h hI hr q285 hm
      have fin : ∀ d v0 v1 v2 v3, RL m b e d0 d (keep0 n Q) → v0 = keep0 n Q (56 + n) → v1 = keep0 n Q n → v2 = keep0 n Q (14 + n) → v3 = keep0 n Q (42 + n) → Go (k + 1) 170 R 2 [vR (b + 1), vI (t : Int), vI (e 241 1), vI ((n + 1 : Nat) : Int), vI ((4 * (14 * r + n) : Nat) : Int)] [] (SH L) (ups (ups (ups (ups d (b + 8) (4 * (14 * r + n)) v0) (b + 8) (4 * (14 * r + n) + 1) v1) (b + 8) (4 * (14 * r + n) + 2) v2) (b + 8) (4 * (14 * r + n) + 3) v3) := by
        intro d v0 v1 v2 v3 hd e0 e1 e2 e3
        rw [e0, e1, e2, e3]
        refine hG _ ?_ _
        exact up_8 (up_8 (up_8 (up_8 hd (by omega)) (by omega)) (by omega)) (by omega)
      clear hG
      obtain ⟨a, ha⟩ : ∃ a, a = 4 * (14 * r + n) := ⟨_, rfl⟩
      rw [← ha] at kA fin
      have ha2 : a + 3 < 1792 := by omega
      clear ha hq
      rw [s_Nodes_keep_2]
      by_cases c : Q (56 + n) = 1
      · have kk : keep0 n Q = fset Q (42 + n) (wr (Q (42 + n) + 1)) := if_pos c
        have fin := fin (ups d (b + 7) n (wr (Q (42 + n) + 1))) 1 (Q n) (Q (14 + n)) (wr (Q (42 + n) + 1)) (by rw [kk]; exact up_7 hR (by omega)) (by rw [kk, fs_ne (by omega), c]) (by rw [kk, fs_ne (by omega)]) (by rw [kk, fs_ne (by omega)]) (by rw [kk, fs_eq])
        clear kk hR hW
        simp (disch := omega) only [s_Nodes_keep_0, s_Nodes_keep_1, s_Nodes_keep_3, s_Nodes_keep_4, s_Nodes_keep_7, s_Nodes_keep_8, s_Nodes_keep_11, s_Nodes_keep_12, s_Nodes_keep_13, s_Nodes_keep_16, s_Nodes_keep_17, s_Nodes_keep_20, s_Nodes_keep_21, s_Nodes_keep_22, s_Nodes_keep_23, s_Nodes_keep_24, s_Nodes_keep_25, s_Nodes_keep_26, s_Nodes_keep_29, s_Nodes_keep_30, s_Nodes_keep_33, s_Nodes_keep_34, s_Nodes_keep_35, s_Nodes_keep_36, s_Nodes_keep_37, s_Nodes_keep_40, s_Nodes_keep_41, s_Nodes_keep_42, s_Nodes_keep_43, s_Nodes_keep_44, s_Nodes_keep_47, s_Nodes_keep_48, s_Nodes_keep_49, s_Nodes_keep_50, s_Nodes_keep_51, s_Nodes_keep_54, s_Nodes_keep_55, s_Nodes_keep_56, s_Nodes_keep_57, s_Nodes_keep_58, s_Nodes_keep_59, s_Nodes_keep_62, s_Nodes_keep_64, s_Nodes_keep_65, s_Nodes_keep_68, s_Nodes_keep_70, s_Nodes_keep_71, s_Nodes_keep_72, s_Nodes_keep_73, s_Nodes_keep_76, s_Nodes_keep_77, s_Nodes_keep_78, s_Nodes_keep_81, s_Nodes_keep_82, s_Nodes_keep_85, s_Nodes_keep_86, s_Nodes_keep_87, s_Nodes_keep_88, s_Nodes_keep_91, s_Nodes_keep_93, s_Nodes_keep_94, s_Nodes_keep_95, s_Nodes_keep_96, s_Nodes_keep_99, s_Nodes_keep_100, s_Nodes_keep_101, s_Nodes_keep_102, s_Nodes_keep_103, s_Nodes_keep_106, s_Nodes_keep_108, s_Nodes_keep_109, s_Nodes_keep_110, s_Nodes_keep_111, s_Nodes_keep_114, s_Nodes_keep_115, s_Nodes_keep_116, s_Nodes_keep_117, s_Nodes_keep_118, s_Nodes_keep_121, s_Nodes_keep_123, s_Nodes_keep_124, s_Nodes_keep_125, s_Nodes_keep_126, s_Nodes_keep_129, s_Nodes_keep_130, s_Nodes_keep_131, s_Nodes_keep_132, s_Nodes_keep_135, s_Nodes_keep_138, hb, lk_0, lr_0_0, lr_0_1, lr_0_2, lr_0_3, lr_0_4, lr_0_5, lr_0_6, lr_0_7, lr_0_8, lr_0_9, lr_0_10, lr_0_11, lr_0_12, lr_0_13, lk_1, lr_1_0, lr_1_1, lr_1_2, lr_1_3, lr_1_4, lr_1_5, lr_1_6, lk_2, ln_2, lk_3, ln_3, lk_4, ln_4, lk_5, ln_5, lk_6, ln_6, lk_7, ln_7, lk_8, ln_8, lk_9, lr_9_0, lr_9_1, lr_9_2, lr_9_3, lk_10, ln_10, lk_11, ln_11, lk_12, ln_12, lk_13, ln_13, lk_14, lr_14_0, lr_14_1, lr_14_2, lr_14_3, lr_14_4, lr_14_5, lk_15, ln_15, lk_16, ln_16, lk_17, ln_17, lk_18, ln_18, lk_19, ln_19, lk_20, ln_20, lk_21, ln_21, lk_22, ln_22, lk_23, ln_23, lk_24, ln_24, lk_25, ln_25, lk_26, ln_26, lk_27, ln_27, lk_28, ln_28, ld20, ld30, kA, r2, r3, r4, r5, c, u_eq, u_ne, wr_inc, wr_ix, wr_sm, ct_1, ct_2, ct_3, Int.add_zero, le_T, lt_T, le_F, lt_F, Int.toNat_natCast, true_and, and_true, true_implies, false_implies, not_true_eq_false, not_false_eq_true, implies_true]
        grind
      · have c0 : Q (56 + n) = 0 := by omega
        have kk : keep0 n Q = fset (fset (fset (fset Q (42 + n) 0) n 0) (14 + n) 0) (28 + n) 0 := if_neg c
        have fin := fin (ups (ups (ups (ups d (b + 7) n 0) (b + 4) n 0) (b + 5) n 0) (b + 6) n 0) 0 0 0 0 (by rw [kk]; exact up_6 (up_5 (up_4 (up_7 hR (by omega)) (by omega)) (by omega)) (by omega)) (by rw [kk, fs_ne (by omega), fs_ne (by omega), fs_ne (by omega), fs_ne (by omega), c0]) (by rw [kk, fs_ne (by omega), fs_ne (by omega), fs_eq]) (by rw [kk, fs_ne (by omega), fs_eq]) (by rw [kk, fs_ne (by omega), fs_ne (by omega), fs_ne (by omega), fs_eq])
        clear kk hR hW c
        simp (disch := omega) only [s_Nodes_keep_0, s_Nodes_keep_1, s_Nodes_keep_3, s_Nodes_keep_4, s_Nodes_keep_7, s_Nodes_keep_8, s_Nodes_keep_11, s_Nodes_keep_12, s_Nodes_keep_13, s_Nodes_keep_16, s_Nodes_keep_17, s_Nodes_keep_20, s_Nodes_keep_21, s_Nodes_keep_22, s_Nodes_keep_23, s_Nodes_keep_24, s_Nodes_keep_25, s_Nodes_keep_26, s_Nodes_keep_29, s_Nodes_keep_30, s_Nodes_keep_33, s_Nodes_keep_34, s_Nodes_keep_35, s_Nodes_keep_36, s_Nodes_keep_37, s_Nodes_keep_40, s_Nodes_keep_41, s_Nodes_keep_42, s_Nodes_keep_43, s_Nodes_keep_44, s_Nodes_keep_47, s_Nodes_keep_48, s_Nodes_keep_49, s_Nodes_keep_50, s_Nodes_keep_51, s_Nodes_keep_54, s_Nodes_keep_55, s_Nodes_keep_56, s_Nodes_keep_57, s_Nodes_keep_58, s_Nodes_keep_59, s_Nodes_keep_62, s_Nodes_keep_64, s_Nodes_keep_65, s_Nodes_keep_68, s_Nodes_keep_70, s_Nodes_keep_71, s_Nodes_keep_72, s_Nodes_keep_73, s_Nodes_keep_76, s_Nodes_keep_77, s_Nodes_keep_78, s_Nodes_keep_81, s_Nodes_keep_82, s_Nodes_keep_85, s_Nodes_keep_86, s_Nodes_keep_87, s_Nodes_keep_88, s_Nodes_keep_91, s_Nodes_keep_93, s_Nodes_keep_94, s_Nodes_keep_95, s_Nodes_keep_96, s_Nodes_keep_99, s_Nodes_keep_100, s_Nodes_keep_101, s_Nodes_keep_102, s_Nodes_keep_103, s_Nodes_keep_106, s_Nodes_keep_108, s_Nodes_keep_109, s_Nodes_keep_110, s_Nodes_keep_111, s_Nodes_keep_114, s_Nodes_keep_115, s_Nodes_keep_116, s_Nodes_keep_117, s_Nodes_keep_118, s_Nodes_keep_121, s_Nodes_keep_123, s_Nodes_keep_124, s_Nodes_keep_125, s_Nodes_keep_126, s_Nodes_keep_129, s_Nodes_keep_130, s_Nodes_keep_131, s_Nodes_keep_132, s_Nodes_keep_135, s_Nodes_keep_138, hb, lk_0, lr_0_0, lr_0_1, lr_0_2, lr_0_3, lr_0_4, lr_0_5, lr_0_6, lr_0_7, lr_0_8, lr_0_9, lr_0_10, lr_0_11, lr_0_12, lr_0_13, lk_1, lr_1_0, lr_1_1, lr_1_2, lr_1_3, lr_1_4, lr_1_5, lr_1_6, lk_2, ln_2, lk_3, ln_3, lk_4, ln_4, lk_5, ln_5, lk_6, ln_6, lk_7, ln_7, lk_8, ln_8, lk_9, lr_9_0, lr_9_1, lr_9_2, lr_9_3, lk_10, ln_10, lk_11, ln_11, lk_12, ln_12, lk_13, ln_13, lk_14, lr_14_0, lr_14_1, lr_14_2, lr_14_3, lr_14_4, lr_14_5, lk_15, ln_15, lk_16, ln_16, lk_17, ln_17, lk_18, ln_18, lk_19, ln_19, lk_20, ln_20, lk_21, ln_21, lk_22, ln_22, lk_23, ln_23, lk_24, ln_24, lk_25, ln_25, lk_26, ln_26, lk_27, ln_27, lk_28, ln_28, ld20, ld30, kA, r2, r3, r4, r5, c0, u_eq, u_ne, wr_inc, wr_ix, wr_sm, ct_1, ct_2, ct_3, Int.add_zero, le_T, lt_T, le_F, lt_F, Int.toNat_natCast, true_and, and_true, true_implies, false_implies, not_true_eq_false, not_false_eq_true, implies_true]
        grind
    · have h := h d hR
      clear hR hI
      rw [s_Nodes_keep_2]
      simp (disch := omega) only [s_Nodes_keep_0, s_Nodes_keep_1, s_Nodes_keep_3, s_Nodes_keep_4, s_Nodes_keep_7, s_Nodes_keep_8, s_Nodes_keep_11, s_Nodes_keep_12, s_Nodes_keep_13, s_Nodes_keep_16, s_Nodes_keep_17, s_Nodes_keep_20, s_Nodes_keep_21, s_Nodes_keep_22, s_Nodes_keep_23, s_Nodes_keep_24, s_Nodes_keep_25, s_Nodes_keep_26, s_Nodes_keep_29, s_Nodes_keep_30, s_Nodes_keep_33, s_Nodes_keep_34, s_Nodes_keep_35, s_Nodes_keep_36, s_Nodes_keep_37, s_Nodes_keep_40, s_Nodes_keep_41, s_Nodes_keep_42, s_Nodes_keep_43, s_Nodes_keep_44, s_Nodes_keep_47, s_Nodes_keep_48, s_Nodes_keep_49, s_Nodes_keep_50, s_Nodes_keep_51, s_Nodes_keep_54, s_Nodes_keep_55, s_Nodes_keep_56, s_Nodes_keep_57, s_Nodes_keep_58, s_Nodes_keep_59, s_Nodes_keep_62, s_Nodes_keep_64, s_Nodes_keep_65, s_Nodes_keep_68, s_Nodes_keep_70, s_Nodes_keep_71, s_Nodes_keep_72, s_Nodes_keep_73, s_Nodes_keep_76, s_Nodes_keep_77, s_Nodes_keep_78, s_Nodes_keep_81, s_Nodes_keep_82, s_Nodes_keep_85, s_Nodes_keep_86, s_Nodes_keep_87, s_Nodes_keep_88, s_Nodes_keep_91, s_Nodes_keep_93, s_Nodes_keep_94, s_Nodes_keep_95, s_Nodes_keep_96, s_Nodes_keep_99, s_Nodes_keep_100, s_Nodes_keep_101, s_Nodes_keep_102, s_Nodes_keep_103, s_Nodes_keep_106, s_Nodes_keep_108, s_Nodes_keep_109, s_Nodes_keep_110, s_Nodes_keep_111, s_Nodes_keep_114, s_Nodes_keep_115, s_Nodes_keep_116, s_Nodes_keep_117, s_Nodes_keep_118, s_Nodes_keep_121, s_Nodes_keep_123, s_Nodes_keep_124, s_Nodes_keep_125, s_Nodes_keep_126, s_Nodes_keep_129, s_Nodes_keep_130, s_Nodes_keep_131, s_Nodes_keep_132, s_Nodes_keep_135, s_Nodes_keep_138, hb, lk_0, lr_0_0, lr_0_1, lr_0_2, lr_0_3, lr_0_4, lr_0_5, lr_0_6, lr_0_7, lr_0_8, lr_0_9, lr_0_10, lr_0_11, lr_0_12, lr_0_13, lk_1, lr_1_0, lr_1_1, lr_1_2, lr_1_3, lr_1_4, lr_1_5, lr_1_6, lk_2, ln_2, lk_3, ln_3, lk_4, ln_4, lk_5, ln_5, lk_6, ln_6, lk_7, ln_7, lk_8, ln_8, lk_9, lr_9_0, lr_9_1, lr_9_2, lr_9_3, lk_10, ln_10, lk_11, ln_11, lk_12, ln_12, lk_13, ln_13, lk_14, lr_14_0, lr_14_1, lr_14_2, lr_14_3, lr_14_4, lr_14_5, lk_15, ln_15, lk_16, ln_16, lk_17, ln_17, lk_18, ln_18, lk_19, ln_19, lk_20, ln_20, lk_21, ln_21, lk_22, ln_22, lk_23, ln_23, lk_24, ln_24, lk_25, ln_25, lk_26, ln_26, lk_27, ln_27, lk_28, ln_28, ld20, ld30, le_T, lt_T, le_F, lt_F, Int.toNat_natCast, true_and, and_true, true_implies, false_implies, not_true_eq_false, not_false_eq_true, implies_true]
      exact h
  have key := key d hR
  simp only [s_Nodes_keep_0, s_Nodes_keep_1]
  exact key _
end
