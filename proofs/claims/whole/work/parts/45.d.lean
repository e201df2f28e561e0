/-! contracts of the class's calls (expanded by gen18.py) -/
theorem Cl_iff {k y : Nat} {as : List V} {sh : Shp} {d : Dat} {R : RT} (ha : argOK (mxN y) (lgOf y) as = true) : Cl (k + 1) y as sh d R ↔ Go k y R 0 (entL (mxN y) as) [] sh d := ⟨fun h => h.2, fun h => Cl_succ ha h⟩
theorem c_D_within {k : Nat} {sh : Shp} {d : Dat} {x lo hi : Int} {R : RT} : Cl (k + 1) 35 [vI x, vI lo, vI hi] sh d R ↔ R (vI (if lo ≤ x ∧ x ≤ hi then 1 else 0)) sh d := by
  refine (Cl_iff rfl).trans ?_
  show Go k 35 R 0 [vI x, vI lo, vI hi] [] sh d ↔ _
  simp only [s_D_within_0, s_D_within_1, s_D_within_2, s_D_within_5, s_D_within_6, s_D_within_7, s_D_within_10, s_D_within_11, s_D_within_14, s_D_within_15]
  grind
theorem c_D_isOf {k : Nat} {sh : Shp} {d : Dat} {x n : Int} {R : RT} : Cl (k + 1) 36 [vI x, vI n] sh d R ↔ R (vI (if 0 ≤ x ∧ x < n then 1 else 0)) sh d := by
  refine (Cl_iff rfl).trans ?_
  show Go k 36 R 0 [vI x, vI n] [] sh d ↔ _
  simp only [s_D_isOf_0, s_D_isOf_1, s_D_isOf_2, s_D_isOf_5, s_D_isOf_6, s_D_isOf_7, s_D_isOf_10, s_D_isOf_11, s_D_isOf_14, s_D_isOf_15]
  grind
theorem u_ne {d : Dat} {a b i j : Nat} {v : Int} (h : ¬ a = b) : ups d b j v a i = d a i := by
  unfold ups rset
  rw [if_neg h]
theorem wr_of {x : Int} (h : -2147483648 ≤ x ∧ x ≤ 2147483647) : wr x = x := by
  unfold wr
  omega
theorem c_D_node {k L : Nat} {d : Dat} {x : Int} {R : RT} (hn : 0 ≤ d 11 0 ∧ d 11 0 ≤ 14) : Cl (k + 2) 1 [vR 10, vI x] (SH L) d R ↔ (if 0 ≤ x ∧ x ≤ 99 then (if d 11 0 < 14 then R (vI (d 11 0)) (SH L) (ups (ups d 12 (d 11 0).toNat x) 11 0 (d 11 0 + 1)) else R (vI (-4)) (SH L) d) else R (vI (-2)) (SH L) d) := by
  refine (Cl_iff rfl).trans ?_
  show Go (k + 1) 1 R 0 [vR 10, vI x] [] (SH L) d ↔ _
  have e1 : ups d 12 (d 11 0).toNat x 11 0 = d 11 0 := u_ne (by decide)
  have e2 : wr (d 11 0 + 1) = d 11 0 + 1 := wr_of (by omega)
  simp only [s_D_node_0, s_D_node_1, s_D_node_2, s_D_node_4, s_D_node_7, s_D_node_10, s_D_node_12, s_D_node_13, s_D_node_14, s_D_node_17, s_D_node_20, s_D_node_22, s_D_node_25, s_D_node_27, s_D_node_28, s_D_node_29, s_D_node_32, s_D_node_35, s_D_node_36, s_D_node_39, s_D_node_42, s_D_node_43, s_D_node_44, s_D_node_45, s_D_node_48, s_D_node_49, s_D_node_52, s_D_node_53, s_D_node_54, s_D_node_55, s_D_node_58, c_D_within, k_1, n_1, k_2, n_2, k_3, n_3, k_4, n_4, k_5, n_5, k_6, n_6, k_7, n_7, k_8, n_8, k_9, n_9, k_10, r_10_0, r_10_1, r_10_2, r_10_3, r_10_4, r_10_5, k_11, r_11_5, r_11_6, r_11_7, r_11_8, r_11_9, r_11_10, r_11_11, r_11_12, r_11_13, r_11_14, r_11_15, r_11_16, k_12, n_12, k_13, n_13, k_14, n_14, k_15, n_15, k_16, n_16, k_17, n_17, k_18, n_18, k_19, n_19, k_20, n_20, k_21, n_21, k_22, n_22, k_23, n_23, k_24, r_24_3, r_24_4, r_24_5, r_24_6, r_24_7, r_24_8, r_24_9, r_24_10, r_24_11, r_24_12, r_24_13, k_25, n_25, k_26, n_26, k_27, n_27, k_28, n_28, k_29, n_29, k_30, n_30, k_31, n_31, k_32, n_32, k_33, n_33, k_34, n_34, k_35, n_35, k_36, r_36_0, r_36_3, r_36_4, r_36_5, r_36_6, r_36_7, k_37, n_37, k_38, n_38, k_39, n_39, r_39_0, r_39_1, r_39_2, r_39_3, r_39_4, r_39_5, k_40, n_40, k_41, n_41, k_42, n_42, k_43, n_43, k_44, n_44, k_45, n_45, k_46, n_46, k_47, n_47, k_48, r_48_0, r_48_1, r_48_5, k_49, n_49, k_50, n_50, k_51, n_51, k_52, r_52_0, r_52_1, r_52_2, r_52_3, r_52_4, r_52_5, r_52_6, r_52_7, r_52_8, r_52_9, r_52_10, r_52_11, r_52_12, r_52_13, k_81, r_81_0, r_81_1, r_81_2, r_81_3, r_81_4, r_81_9, r_81_10, k_82, n_82, r_82_0, r_82_1, r_82_2, r_82_3, k_83, n_83, k_84, n_84, k_85, n_85, k_86, n_86, k_87, r_87_0, r_87_1, r_87_2, r_87_3, r_87_4, r_87_5, r_87_6, r_87_7, r_87_8, r_87_9, r_87_10, r_87_11, r_87_12, r_87_13, k_116, r_116_0, r_116_1, r_116_2, r_116_3, r_116_4, r_116_5, r_116_6, r_116_7, r_116_8, r_116_9, r_116_10, r_116_11, r_116_12, r_116_13, k_145, r_145_0, r_145_1, r_145_2, r_145_3, r_145_4, r_145_5, r_145_6, r_145_7, r_145_8, r_145_9, r_145_10, r_145_11, r_145_12, r_145_13, k_174, r_174_0, r_174_1, r_174_2, r_174_3, r_174_4, r_174_5, r_174_6, r_174_7, r_174_8, r_174_9, r_174_10, r_174_11, r_174_12, r_174_13, k_203, r_203_0, r_203_1, r_203_2, r_203_3, r_203_4, r_203_5, r_203_6, r_203_7, r_203_8, r_203_9, r_203_10, r_203_11, r_203_12, r_203_13, k_232, n_232, r_232_0, r_232_1, r_232_2, r_232_3, k_233, r_233_2, k_234, n_234, k_235, r_235_2, k_236, n_236, k_237, r_237_2, k_238, n_238, k_239, r_239_2, k_240, n_240, ldI, e1, e2]
  grind
