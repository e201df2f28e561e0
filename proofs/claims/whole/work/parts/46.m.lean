/-! contracts of the model's calls (expanded by gen18.py) -/
theorem c_M_within {k : Nat} {sh : Shp} {d : Dat} {x lo hi : Int} {R : RT} : Cl (k + 1) 38 [vI x, vI lo, vI hi] sh d R ↔ R (vI (if lo ≤ x ∧ x ≤ hi then 1 else 0)) sh d := by
  refine (Cl_iff rfl).trans ?_
  show Go k 38 R 0 [vI x, vI lo, vI hi] [] sh d ↔ _
  simp only [s_M_in_0, s_M_in_1, s_M_in_2, s_M_in_5, s_M_in_6, s_M_in_7, s_M_in_10, s_M_in_11, s_M_in_14, s_M_in_15]
  grind
theorem u_eq {d : Dat} {a i : Nat} {v : Int} : ups d a i v a i = v := by
  unfold ups rset fset
  rw [if_pos rfl, if_pos rfl]
theorem c_M_node {k L : Nat} {d : Dat} {x : Int} {R : RT} (hn : 0 ≤ d 241 1 ∧ d 241 1 ≤ 14) : Cl (k + 2) 41 [vR 241, vI x] (SH L) d R ↔ (if 0 ≤ x ∧ x ≤ 99 then (if d 241 1 = 14 then R (vI (-4)) (SH L) d else R (vI (d 241 1)) (SH L) (ups (ups (ups d 243 (d 241 1).toNat x) 242 (70 + d 241 1).toNat (d 241 1)) 241 1 (d 241 1 + 1))) else R (vI (-2)) (SH L) d) := by
  refine (Cl_iff rfl).trans ?_
  show Go (k + 1) 41 R 0 [vR 241, vI x] [] (SH L) d ↔ _
  have e2 : wr (d 241 1 + 1) = d 241 1 + 1 := wr_of (by omega)
  have e3 : wr (70 + d 241 1) = 70 + d 241 1 := wr_of (by omega)
  have e4 : wr (d 241 1 + 1 - 1) = d 241 1 := by
    rw [wr_of (by omega)]
    omega
  have u1 : ∀ (d : Dat) (i : Nat) (v : Int), ups d 243 i v 241 1 = d 241 1 := fun _ _ _ => u_ne (by decide)
  have u2 : ∀ (d : Dat) (i : Nat) (v : Int), ups d 242 i v 241 1 = d 241 1 := fun _ _ _ => u_ne (by decide)
  simp only [s_M_node_0, s_M_node_1, s_M_node_2, s_M_node_4, s_M_node_7, s_M_node_10, s_M_node_12, s_M_node_13, s_M_node_14, s_M_node_17, s_M_node_19, s_M_node_22, s_M_node_24, s_M_node_25, s_M_node_26, s_M_node_29, s_M_node_30, s_M_node_33, s_M_node_34, s_M_node_35, s_M_node_36, s_M_node_39, s_M_node_41, s_M_node_42, s_M_node_45, s_M_node_46, s_M_node_47, s_M_node_50, s_M_node_51, s_M_node_52, s_M_node_53, s_M_node_56, s_M_node_57, s_M_node_58, s_M_node_61, s_M_node_62, s_M_node_65, s_M_node_66, s_M_node_67, c_M_within, k_1, n_1, k_241, r_241_0, r_241_2, r_241_4, r_241_5, r_241_6, r_241_7, r_241_9, r_241_10, r_241_11, r_241_12, r_241_14, r_241_15, r_241_16, r_241_19, r_241_20, r_241_22, r_241_23, r_241_24, r_241_25, r_241_27, r_241_28, r_241_29, r_241_30, r_241_31, r_241_33, r_241_34, r_241_37, r_241_38, r_241_39, r_241_40, r_241_41, r_241_42, r_241_43, r_241_44, r_241_49, r_241_50, r_241_54, k_242, n_242, k_243, n_243, k_244, n_244, k_245, n_245, k_246, n_246, k_247, n_247, k_248, n_248, k_249, n_249, k_250, n_250, k_251, n_251, k_252, n_252, k_253, n_253, k_254, n_254, k_255, n_255, k_256, n_256, k_257, n_257, k_258, n_258, k_259, n_259, k_260, n_260, k_261, n_261, k_262, n_262, k_263, n_263, k_264, n_264, k_265, n_265, k_266, n_266, k_267, n_267, k_268, n_268, k_269, n_269, k_270, n_270, k_271, n_271, k_272, n_272, k_273, n_273, k_274, n_274, k_275, n_275, k_276, n_276, k_277, n_277, k_278, n_278, ldI, u1, u2, u_eq, e2, e3, e4]
  grind
