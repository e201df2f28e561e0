/-! laying back (expanded by gen18.py) -/
section
variable {k L : Nat} {P : Row} {R : RT}
theorem c_M_lays1 {d : Dat} {x : Row} (h : R vU (SH L) (rset (rset d 274 x) 242 (cutR 2102 x P))) : Cl (k + 1) 93 [vR 241, vI 1] (SH L) (rset (rset d 274 x) 242 P) R := by
  refine Cl_succ rfl ?_
  show Go k 93 R 0 [vR 241, vI 1, vU] [] (SH L) (rset (rset d 274 x) 242 P)
  have key : Go k 93 R 2 [vR 241, vI 1, vI (0 : Nat)] [] (SH L) (rset (rset d 274 x) 242 P) := by
    refine loop_up (G := fun n Q => Go k 93 R 2 [vR 241, vI 1, vI (n : Int)] [] (SH L) (rset (rset d 274 x) 242 Q)) (f := fun n Q => fset Q n (x n)) (fun n Q => Q = cutR n x P) 2102 (fun n hn Q hQ hG => ?_) cut_0.symm (fun hQ => ?_)
    · have hG := hG (by rw [hQ, cut_s])
      clear h hQ
      rw [s_M_lays_2]
      simp (disch := omega) only [s_M_lays_0, s_M_lays_1, s_M_lays_3, s_M_lays_6, s_M_lays_9, s_M_lays_10, s_M_lays_13, s_M_lays_14, s_M_lays_17, s_M_lays_18, s_M_lays_19, s_M_lays_22, s_M_lays_23, s_M_lays_24, s_M_lays_25, s_M_lays_28, s_M_lays_29, s_M_lays_32, s_M_lays_33, s_M_lays_34, s_M_lays_37, s_M_lays_38, s_M_lays_39, s_M_lays_40, s_M_lays_43, s_M_lays_46, k_1, n_1, k_241, r_241_0, r_241_2, r_241_4, r_241_5, r_241_6, r_241_7, r_241_9, r_241_10, r_241_11, r_241_12, r_241_14, r_241_15, r_241_16, r_241_19, r_241_20, r_241_22, r_241_23, r_241_24, r_241_25, r_241_27, r_241_28, r_241_29, r_241_30, r_241_31, r_241_33, r_241_34, r_241_37, r_241_38, r_241_39, r_241_40, r_241_41, r_241_42, r_241_43, r_241_44, r_241_49, r_241_50, r_241_54, k_242, n_242, k_243, n_243, k_244, n_244, k_245, n_245, k_246, n_246, k_247, n_247, k_248, n_248, k_249, n_249, k_250, n_250, k_251, n_251, k_252, n_252, k_253, n_253, k_254, n_254, k_255, n_255, k_256, n_256, k_257, n_257, k_258, n_258, k_259, n_259, k_260, n_260, k_261, n_261, k_262, n_262, k_263, n_263, k_264, n_264, k_265, n_265, k_266, n_266, k_267, n_267, k_268, n_268, k_269, n_269, k_270, n_270, k_271, n_271, k_272, n_272, k_273, n_273, k_274, n_274, k_275, n_275, k_276, n_276, k_277, n_277, k_278, n_278, ld20, ld30, rs_eq, rs_ne, ups_rs, wr_inc, le_T, lt_T, le_F, lt_F, Int.toNat_natCast, Int.reduceToNat, true_and, and_true, true_implies, false_implies, not_true_eq_false, not_false_eq_true, implies_true]
      grind
    · rw [hQ]
      clear hQ
      rw [s_M_lays_2]
      simp (disch := omega) only [s_M_lays_0, s_M_lays_1, s_M_lays_3, s_M_lays_6, s_M_lays_9, s_M_lays_10, s_M_lays_13, s_M_lays_14, s_M_lays_17, s_M_lays_18, s_M_lays_19, s_M_lays_22, s_M_lays_23, s_M_lays_24, s_M_lays_25, s_M_lays_28, s_M_lays_29, s_M_lays_32, s_M_lays_33, s_M_lays_34, s_M_lays_37, s_M_lays_38, s_M_lays_39, s_M_lays_40, s_M_lays_43, s_M_lays_46, k_1, n_1, k_241, r_241_0, r_241_2, r_241_4, r_241_5, r_241_6, r_241_7, r_241_9, r_241_10, r_241_11, r_241_12, r_241_14, r_241_15, r_241_16, r_241_19, r_241_20, r_241_22, r_241_23, r_241_24, r_241_25, r_241_27, r_241_28, r_241_29, r_241_30, r_241_31, r_241_33, r_241_34, r_241_37, r_241_38, r_241_39, r_241_40, r_241_41, r_241_42, r_241_43, r_241_44, r_241_49, r_241_50, r_241_54, k_242, n_242, k_243, n_243, k_244, n_244, k_245, n_245, k_246, n_246, k_247, n_247, k_248, n_248, k_249, n_249, k_250, n_250, k_251, n_251, k_252, n_252, k_253, n_253, k_254, n_254, k_255, n_255, k_256, n_256, k_257, n_257, k_258, n_258, k_259, n_259, k_260, n_260, k_261, n_261, k_262, n_262, k_263, n_263, k_264, n_264, k_265, n_265, k_266, n_266, k_267, n_267, k_268, n_268, k_269, n_269, k_270, n_270, k_271, n_271, k_272, n_272, k_273, n_273, k_274, n_274, k_275, n_275, k_276, n_276, k_277, n_277, k_278, n_278, ld20, ld30, rs_eq, rs_ne, wr_inc, le_T, lt_T, le_F, lt_F, Int.toNat_natCast, Int.reduceToNat, true_and, and_true, true_implies, false_implies, not_true_eq_false, not_false_eq_true, implies_true]
      grind
  rw [s_M_lays_0, s_M_lays_1]
  exact key
end
