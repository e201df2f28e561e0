/-! the reference's minute (expanded by gen18.py) -/
theorem fols_at {e : Dat} {P : Row} (hE : WE e) (hI : MI e P) (h0 : P 224 ≤ 19000) : ∀ n, n ≤ (e 241 1).toNat → WQ e (iterN (fol1 e) n P) ∧ (∀ j, 42 ≤ j ∧ j < 84 → iterN (fol1 e) n P j = P j) ∧ (P 224 ≤ iterN (fol1 e) n P 224 ∧ iterN (fol1 e) n P 224 ≤ P 224 + n) ∧ (∀ k, k < (e 241 8).toNat → iterN (fol1 e) n P (104 + k) = P (104 + k) ∨ P (70 + (e 249 k).toNat) < (n : Int)) := by
  obtain ⟨hW, hC, hU⟩ := hI
  have n1 := we_n hE
  have n3 := we_p hE
  intro n
  induction n with
  | zero => exact fun _ => ⟨hW, fun _ _ => rfl, by show P 224 ≤ P 224 ∧ P 224 ≤ P 224 + (0 : Nat); omega, fun _ _ => Or.inl rfl⟩
  | succ n ih =>
    intro hn
    obtain ⟨i1, i2, i3, i5⟩ := ih (by omega)
    show WQ e (fol1 e n (iterN (fol1 e) n P)) ∧ (∀ j, 42 ≤ j ∧ j < 84 → fol1 e n (iterN (fol1 e) n P) j = P j) ∧ (P 224 ≤ fol1 e n (iterN (fol1 e) n P) 224 ∧ fol1 e n (iterN (fol1 e) n P) 224 ≤ P 224 + (n + 1 : Nat)) ∧ (∀ k, k < (e 241 8).toNat → fol1 e n (iterN (fol1 e) n P) (104 + k) = P (104 + k) ∨ P (70 + (e 249 k).toNat) < ((n + 1 : Nat) : Int))
    generalize iterN (fol1 e) n P = Q at *
    by_cases c : Q (70 + n) = (n : Int) ∧ Q (56 + n) = 1
    · have e1 : fol1 e n Q = folS e Q n := if_pos c
      rw [e1]
      have hw : ¬ weightS e Q (n : Int) = 0 := by
        have c2 := c
        rw [i2 _ (by omega), i2 _ (by omega)] at c2
        obtain ⟨k, k1, k2, k3⟩ := (CI_lit hE hC (show n < (e 241 1).toNat by omega)).mp c2.2
        have x := we_P hE k
        have hk : Q (104 + k) = P (104 + k) := by
          rcases i5 k k1 with z | z
          · exact z
          · omega
        have := weight_pos (P := Q) (i := (n : Int)) hE k1 ⟨by rw [hk]; exact k2, by rw [i2 _ (by omega), k3]; exact c2.1⟩
        omega
      obtain ⟨f1, f2, f3, f4, f5⟩ := fol_all hE i1 (by omega) (show n < (e 241 1).toNat by omega) hw
      refine ⟨f1, fun j hj => (f2 j (by omega)).trans (i2 j hj), by omega, fun k hk => ?_⟩
      have x := we_P hE k
      rcases f5 k (by omega) with z | z
      · rw [z]
        rcases i5 k hk with z2 | z2
        · exact Or.inl z2
        · exact Or.inr (by omega)
      · rw [i2 _ (by omega)] at z
        exact Or.inr (by omega)
    · have e1 : fol1 e n Q = Q := if_neg c
      rw [e1]
      exact ⟨i1, i2, by omega, fun k hk => by
        rcases i5 k hk with z2 | z2
        · exact Or.inl z2
        · exact Or.inr (by omega)⟩
theorem fol_w {e : Dat} {P Q : Row} {n : Nat} (hE : WE e) (hC : CI e P) (i2 : ∀ j, 42 ≤ j ∧ j < 84 → Q j = P j) (i5 : ∀ k, k < (e 241 8).toNat → Q (104 + k) = P (104 + k) ∨ P (70 + (e 249 k).toNat) < (n : Int)) (hn : n < (e 241 1).toNat) (c : Q (70 + n) = (n : Int) ∧ Q (56 + n) = 1) : ¬ weightS e Q (n : Int) = 0 := by
  have n1 := we_n hE
  have c2 := c
  rw [i2 _ (by omega), i2 _ (by omega)] at c2
  obtain ⟨k, k1, k2, k3⟩ := (CI_lit hE hC hn).mp c2.2
  have x := we_P hE k
  have hk : Q (104 + k) = P (104 + k) := by
    rcases i5 k k1 with z | z
    · exact z
    · omega
  have := weight_pos (P := Q) (i := (n : Int)) hE k1 ⟨by rw [hk]; exact k2, by rw [i2 _ (by omega), k3]; exact c2.1⟩
  omega
section
variable {k L : Nat} {e : Dat} {P : Row} {R : RT}
theorem c_M_minute {d : Dat} {x0 : Row} (hM : FM d e) (hE : WE e) (hO : OM e) (hI : MI e P) (hL : LF P) (hm : P 285 ≤ 599) (h0 : P 224 ≤ 19000) (h : ∀ x, R vU (SH L) (rset (rset d 278 x) 242 (minS e P))) : Cl (k + 7) 77 [vR 241] (SH L) (rset (rset d 278 x0) 242 P) R := by
  have n1 := we_n hE
  have n2 := we_o hE
  have n3 := we_p hE
  have m0 := wp_m hI.1
  obtain ⟨cr1, cr2⟩ := crews_MI hE hI
  obtain ⟨a1', a2'⟩ := minA_MI hE hI
  have a224 := a2' 224 (by omega)
  have fa := fols_at hE a1' (by omega)
  obtain ⟨f1, f2, f3, f4⟩ := fols_all hE a1' (by omega)
  have b1 := MI_mk hE f1 f4
  have b3 : ∀ j, (148 ≤ j ∧ j < 196) ∨ (285 ≤ j ∧ j < 2102) → marksS e (iterN (fol1 e) ((e 241 1).toNat) (minA e P)) j = P j := fun j hj => by
    rw [mk_hi hE (by omega), f2 j (by omega), a2' j (by omega)]
  have hL1 : LF (marksS e (iterN (fol1 e) ((e 241 1).toNat) (minA e P))) := fun l hl q => by
    rw [b3 _ (by omega)] at q
    rw [b3 (172 + l) (by omega), b3 285 (by omega)]
    exact hL l hl q
  have s4 := (srvs_all hE b1.1 hL1 ((e 241 13).toNat) (Nat.le_refl _)).2.2.2
  have e285 : 0 ≤ iterN (srv1 e) ((e 241 13).toNat) (marksS e (iterN (fol1 e) ((e 241 1).toNat) (minA e P))) 285 ∧ iterN (srv1 e) ((e 241 13).toNat) (marksS e (iterN (fol1 e) ((e 241 1).toNat) (minA e P))) 285 ≤ 600 := by
    rw [s4 _ (by omega), b3 _ (by omega)]
    omega
  refine Cl_succ rfl ?_
  show Go (k + 6) 77 R 0 [vR 241, vU] [] (SH L) (rset (rset d 278 x0) 242 P)
  have h14 : ∀ x, Go (k + 6) 77 R 14 [vR 241, vI (0 : Nat)] [] (SH L) (rset (rset d 278 x) 242 (minA e P)) := by
    intro x
    have hM1 := FM_278 (x := x) hM
    have h := h x
    refine loop_up (G := fun n Q => Go (k + 6) 77 R 14 [vR 241, vI (n : Int)] [] (SH L) (rset (rset d 278 x) 242 Q)) (f := fol1 e) (fun n Q => Q = iterN (fol1 e) n (minA e P)) ((e 241 1).toNat) (fun n hn Q hQ hG => ?_) rfl (fun hQ => ?_)
    · have hG := hG (by rw [hQ]; rfl)
      obtain ⟨i1, i2, i3, i5⟩ := fa n (by omega)
      rw [← hQ] at i1 i2 i3 i5
      have hF := wp_F i1
      rw [s_M_minute_14]
      by_cases c : Q (70 + n) = (n : Int) ∧ Q (56 + n) = 1
      · have hw := fol_w hE a1'.2.1 i2 i5 hn c
        have e1 : fol1 e n Q = folS e Q n := if_pos c
        rw [e1] at hG
        have hw2 : ¬ weightS e (rampsS e Q (n : Int) (demS e Q (n : Int))) (n : Int) = 0 := by
          rw [weight_cg (P := Q) hE (fun k hk => by rw [ramps_how (by omega) hE]) (fun j hj => ramps_how (by omega) hE)]
          exact hw
        have gi := fun (S : RT) => c_M_goesIsland (k := k + 2) (L := L) (d := rset d 278 x) (P := Q) (R := S) (i := (n : Int)) hM1 hE (by omega) (by omega) hw2
        obtain ⟨c1, c2⟩ := c
        clear i1 i2 i5 fa f1 f2 f4 b1 b3 hL1 s4 e285 h hI cr1 cr2 a1' a2' hL hw hw2 hQ
        simp (disch := omega) only [s_M_minute_0, s_M_minute_1, s_M_minute_4, s_M_minute_5, s_M_minute_8, s_M_minute_9, s_M_minute_12, s_M_minute_13, s_M_minute_15, s_M_minute_16, s_M_minute_19, s_M_minute_22, s_M_minute_23, s_M_minute_26, s_M_minute_28, s_M_minute_29, s_M_minute_30, s_M_minute_31, s_M_minute_32, s_M_minute_35, s_M_minute_36, s_M_minute_39, s_M_minute_41, s_M_minute_42, s_M_minute_43, s_M_minute_44, s_M_minute_45, s_M_minute_48, s_M_minute_49, s_M_minute_50, s_M_minute_53, s_M_minute_56, s_M_minute_59, s_M_minute_60, s_M_minute_63, s_M_minute_64, s_M_minute_67, s_M_minute_68, s_M_minute_71, s_M_minute_72, s_M_minute_75, s_M_minute_78, s_M_minute_79, s_M_minute_80, s_M_minute_81, s_M_minute_82, s_M_minute_83, k_1, n_1, k_241, r_241_0, r_241_2, r_241_4, r_241_5, r_241_6, r_241_7, r_241_9, r_241_10, r_241_11, r_241_12, r_241_14, r_241_15, r_241_16, r_241_19, r_241_20, r_241_22, r_241_23, r_241_24, r_241_25, r_241_27, r_241_28, r_241_29, r_241_30, r_241_31, r_241_33, r_241_34, r_241_37, r_241_38, r_241_39, r_241_40, r_241_41, r_241_42, r_241_43, r_241_44, r_241_49, r_241_50, r_241_54, k_242, n_242, k_243, n_243, k_244, n_244, k_245, n_245, k_246, n_246, k_247, n_247, k_248, n_248, k_249, n_249, k_250, n_250, k_251, n_251, k_252, n_252, k_253, n_253, k_254, n_254, k_255, n_255, k_256, n_256, k_257, n_257, k_258, n_258, k_259, n_259, k_260, n_260, k_261, n_261, k_262, n_262, k_263, n_263, k_264, n_264, k_265, n_265, k_266, n_266, k_267, n_267, k_268, n_268, k_269, n_269, k_270, n_270, k_271, n_271, k_272, n_272, k_273, n_273, k_274, n_274, k_275, n_275, k_276, n_276, k_277, n_277, k_278, n_278, ld20, ld30, rs_eq, rs_ne, ups_rs, (fm_1 hM), (fm_3 hM), (fm_8 hM), (fm_13 hM), (fm_17 hM), (fm_18 hM), (fm_21 hM), (fm_26 hM), (fm_36 hM), (fm_243 hM), (fm_244 hM), (fm_245 hM), (fm_246 hM), (fm_247 hM), (fm_248 hM), (fm_249 hM), (fm_250 hM), (fm_251 hM), (fm_252 hM), (fm_253 hM), (fm_254 hM), (fm_255 hM), (fm_256 hM), (fm_257 hM), (fm_258 hM), (fm_259 hM), (fm_260 hM), (fm_261 hM), (fm_262 hM), (fm_263 hM), (fm_264 hM), (fm_265 hM), (fm_268 hM), (fm_269 hM), tn_14, tn_28, tn_42, tn_56, tn_70, tn_84, tn_104, tn_112, tn_120, tn_128, tn_136, tn_148, tn_160, tn_172, tn_184, tn_196, tn_200, tn_204, tn_208, tn_225, tn_245, tn_265, tn_286, tn_2078, tn_2090, wr_ix, wr_inc, fs_eq, fs_ne, le_T, lt_T, le_F, lt_F, Int.toNat_natCast, Int.reduceToNat, cat_n, cat_i, cat_r, cat_l, Nat.ble_eq, Nat.reduceAdd, Nat.reduceLeDiff, true_and, and_true, true_implies, false_implies, not_true_eq_false, not_false_eq_true, implies_true, gi, c1, c2]
        grind
      · have e1 : fol1 e n Q = Q := if_neg c
        rw [e1] at hG
        clear i1 i2 i5 fa f1 f2 f4 b1 b3 hL1 s4 e285 h hI cr1 cr2 a1' a2' hL hQ
        simp (disch := omega) only [s_M_minute_0, s_M_minute_1, s_M_minute_4, s_M_minute_5, s_M_minute_8, s_M_minute_9, s_M_minute_12, s_M_minute_13, s_M_minute_15, s_M_minute_16, s_M_minute_19, s_M_minute_22, s_M_minute_23, s_M_minute_26, s_M_minute_28, s_M_minute_29, s_M_minute_30, s_M_minute_31, s_M_minute_32, s_M_minute_35, s_M_minute_36, s_M_minute_39, s_M_minute_41, s_M_minute_42, s_M_minute_43, s_M_minute_44, s_M_minute_45, s_M_minute_48, s_M_minute_49, s_M_minute_50, s_M_minute_53, s_M_minute_56, s_M_minute_59, s_M_minute_60, s_M_minute_63, s_M_minute_64, s_M_minute_67, s_M_minute_68, s_M_minute_71, s_M_minute_72, s_M_minute_75, s_M_minute_78, s_M_minute_79, s_M_minute_80, s_M_minute_81, s_M_minute_82, s_M_minute_83, k_1, n_1, k_241, r_241_0, r_241_2, r_241_4, r_241_5, r_241_6, r_241_7, r_241_9, r_241_10, r_241_11, r_241_12, r_241_14, r_241_15, r_241_16, r_241_19, r_241_20, r_241_22, r_241_23, r_241_24, r_241_25, r_241_27, r_241_28, r_241_29, r_241_30, r_241_31, r_241_33, r_241_34, r_241_37, r_241_38, r_241_39, r_241_40, r_241_41, r_241_42, r_241_43, r_241_44, r_241_49, r_241_50, r_241_54, k_242, n_242, k_243, n_243, k_244, n_244, k_245, n_245, k_246, n_246, k_247, n_247, k_248, n_248, k_249, n_249, k_250, n_250, k_251, n_251, k_252, n_252, k_253, n_253, k_254, n_254, k_255, n_255, k_256, n_256, k_257, n_257, k_258, n_258, k_259, n_259, k_260, n_260, k_261, n_261, k_262, n_262, k_263, n_263, k_264, n_264, k_265, n_265, k_266, n_266, k_267, n_267, k_268, n_268, k_269, n_269, k_270, n_270, k_271, n_271, k_272, n_272, k_273, n_273, k_274, n_274, k_275, n_275, k_276, n_276, k_277, n_277, k_278, n_278, ld20, ld30, rs_eq, rs_ne, ups_rs, (fm_1 hM), (fm_3 hM), (fm_8 hM), (fm_13 hM), (fm_17 hM), (fm_18 hM), (fm_21 hM), (fm_26 hM), (fm_36 hM), (fm_243 hM), (fm_244 hM), (fm_245 hM), (fm_246 hM), (fm_247 hM), (fm_248 hM), (fm_249 hM), (fm_250 hM), (fm_251 hM), (fm_252 hM), (fm_253 hM), (fm_254 hM), (fm_255 hM), (fm_256 hM), (fm_257 hM), (fm_258 hM), (fm_259 hM), (fm_260 hM), (fm_261 hM), (fm_262 hM), (fm_263 hM), (fm_264 hM), (fm_265 hM), (fm_268 hM), (fm_269 hM), tn_14, tn_28, tn_42, tn_56, tn_70, tn_84, tn_104, tn_112, tn_120, tn_128, tn_136, tn_148, tn_160, tn_172, tn_184, tn_196, tn_200, tn_204, tn_208, tn_225, tn_245, tn_265, tn_286, tn_2078, tn_2090, wr_ix, wr_inc, fs_eq, fs_ne, le_T, lt_T, le_F, lt_F, Int.toNat_natCast, Int.reduceToNat, cat_n, cat_i, cat_r, cat_l, Nat.ble_eq, Nat.reduceAdd, Nat.reduceLeDiff, true_and, and_true, true_implies, false_implies, not_true_eq_false, not_false_eq_true, implies_true]
        grind
    · have fi := fun (S : RT) (Q : Row) => c_M_finds (k := k + 5) (L := L) (d := rset d 278 x) (P0 := Q) (R := S) hM1 hE
      have se := fun (S : RT) (Q : Row) => c_M_serve (k := k + 5) (L := L) (d := rset d 278 x) (P := Q) (R := S) hM1 hE
      have ke := fun (S : RT) => c_M_keeps (k := k + 5) (L := L) (d := rset d 278 x) (P := iterN (srv1 e) ((e 241 13).toNat) (marksS e (iterN (fol1 e) ((e 241 1).toNat) (minA e P)))) (R := S) hM1 hE e285
      unfold minS minB at h
      clear fa f1 f2 f4 b1 b3 hL1 s4 e285 hI cr1 cr2 a1' a2' hL hQ
      rw [s_M_minute_14]
      simp (disch := omega) only [s_M_minute_0, s_M_minute_1, s_M_minute_4, s_M_minute_5, s_M_minute_8, s_M_minute_9, s_M_minute_12, s_M_minute_13, s_M_minute_15, s_M_minute_16, s_M_minute_19, s_M_minute_22, s_M_minute_23, s_M_minute_26, s_M_minute_28, s_M_minute_29, s_M_minute_30, s_M_minute_31, s_M_minute_32, s_M_minute_35, s_M_minute_36, s_M_minute_39, s_M_minute_41, s_M_minute_42, s_M_minute_43, s_M_minute_44, s_M_minute_45, s_M_minute_48, s_M_minute_49, s_M_minute_50, s_M_minute_53, s_M_minute_56, s_M_minute_59, s_M_minute_60, s_M_minute_63, s_M_minute_64, s_M_minute_67, s_M_minute_68, s_M_minute_71, s_M_minute_72, s_M_minute_75, s_M_minute_78, s_M_minute_79, s_M_minute_80, s_M_minute_81, s_M_minute_82, s_M_minute_83, k_1, n_1, k_241, r_241_0, r_241_2, r_241_4, r_241_5, r_241_6, r_241_7, r_241_9, r_241_10, r_241_11, r_241_12, r_241_14, r_241_15, r_241_16, r_241_19, r_241_20, r_241_22, r_241_23, r_241_24, r_241_25, r_241_27, r_241_28, r_241_29, r_241_30, r_241_31, r_241_33, r_241_34, r_241_37, r_241_38, r_241_39, r_241_40, r_241_41, r_241_42, r_241_43, r_241_44, r_241_49, r_241_50, r_241_54, k_242, n_242, k_243, n_243, k_244, n_244, k_245, n_245, k_246, n_246, k_247, n_247, k_248, n_248, k_249, n_249, k_250, n_250, k_251, n_251, k_252, n_252, k_253, n_253, k_254, n_254, k_255, n_255, k_256, n_256, k_257, n_257, k_258, n_258, k_259, n_259, k_260, n_260, k_261, n_261, k_262, n_262, k_263, n_263, k_264, n_264, k_265, n_265, k_266, n_266, k_267, n_267, k_268, n_268, k_269, n_269, k_270, n_270, k_271, n_271, k_272, n_272, k_273, n_273, k_274, n_274, k_275, n_275, k_276, n_276, k_277, n_277, k_278, n_278, ld20, ld30, rs_eq, rs_ne, ups_rs, (fm_1 hM), (fm_3 hM), (fm_8 hM), (fm_13 hM), (fm_17 hM), (fm_18 hM), (fm_21 hM), (fm_26 hM), (fm_36 hM), (fm_243 hM), (fm_244 hM), (fm_245 hM), (fm_246 hM), (fm_247 hM), (fm_248 hM), (fm_249 hM), (fm_250 hM), (fm_251 hM), (fm_252 hM), (fm_253 hM), (fm_254 hM), (fm_255 hM), (fm_256 hM), (fm_257 hM), (fm_258 hM), (fm_259 hM), (fm_260 hM), (fm_261 hM), (fm_262 hM), (fm_263 hM), (fm_264 hM), (fm_265 hM), (fm_268 hM), (fm_269 hM), tn_14, tn_28, tn_42, tn_56, tn_70, tn_84, tn_104, tn_112, tn_120, tn_128, tn_136, tn_148, tn_160, tn_172, tn_184, tn_196, tn_200, tn_204, tn_208, tn_225, tn_245, tn_265, tn_286, tn_2078, tn_2090, wr_ix, wr_inc, fs_eq, fs_ne, le_T, lt_T, le_F, lt_F, Int.toNat_natCast, Int.reduceToNat, cat_n, cat_i, cat_r, cat_l, Nat.ble_eq, Nat.reduceAdd, Nat.reduceLeDiff, true_and, and_true, true_implies, false_implies, not_true_eq_false, not_false_eq_true, implies_true, fi, se, ke]
      grind
  have h8 : ∀ x, Go (k + 6) 77 R 8 [vR 241, vU] [] (SH L) (rset (rset d 278 x) 242 (iterN (ordS e) ((e 241 21).toNat) (iterN crewS ((e 241 17).toNat) P))) := by
    intro x
    have hM1 := FM_278 (x := x) hM
    have h14 := h14 x
    unfold minA at h14
    have wa := fun (S : RT) (Q : Row) => c_M_warm (k := k + 3) (L := L) (d := rset d 278 x) (P := Q) (R := S) hM1 hE
    clear fa f1 f2 f4 b1 b3 hL1 s4 e285 hI cr1 cr2 a1' a2' hL h
    simp (disch := omega) only [s_M_minute_0, s_M_minute_1, s_M_minute_4, s_M_minute_5, s_M_minute_8, s_M_minute_9, s_M_minute_12, s_M_minute_13, s_M_minute_15, s_M_minute_16, s_M_minute_19, s_M_minute_22, s_M_minute_23, s_M_minute_26, s_M_minute_28, s_M_minute_29, s_M_minute_30, s_M_minute_31, s_M_minute_32, s_M_minute_35, s_M_minute_36, s_M_minute_39, s_M_minute_41, s_M_minute_42, s_M_minute_43, s_M_minute_44, s_M_minute_45, s_M_minute_48, s_M_minute_49, s_M_minute_50, s_M_minute_53, s_M_minute_56, s_M_minute_59, s_M_minute_60, s_M_minute_63, s_M_minute_64, s_M_minute_67, s_M_minute_68, s_M_minute_71, s_M_minute_72, s_M_minute_75, s_M_minute_78, s_M_minute_79, s_M_minute_80, s_M_minute_81, s_M_minute_82, s_M_minute_83, k_1, n_1, k_241, r_241_0, r_241_2, r_241_4, r_241_5, r_241_6, r_241_7, r_241_9, r_241_10, r_241_11, r_241_12, r_241_14, r_241_15, r_241_16, r_241_19, r_241_20, r_241_22, r_241_23, r_241_24, r_241_25, r_241_27, r_241_28, r_241_29, r_241_30, r_241_31, r_241_33, r_241_34, r_241_37, r_241_38, r_241_39, r_241_40, r_241_41, r_241_42, r_241_43, r_241_44, r_241_49, r_241_50, r_241_54, k_242, n_242, k_243, n_243, k_244, n_244, k_245, n_245, k_246, n_246, k_247, n_247, k_248, n_248, k_249, n_249, k_250, n_250, k_251, n_251, k_252, n_252, k_253, n_253, k_254, n_254, k_255, n_255, k_256, n_256, k_257, n_257, k_258, n_258, k_259, n_259, k_260, n_260, k_261, n_261, k_262, n_262, k_263, n_263, k_264, n_264, k_265, n_265, k_266, n_266, k_267, n_267, k_268, n_268, k_269, n_269, k_270, n_270, k_271, n_271, k_272, n_272, k_273, n_273, k_274, n_274, k_275, n_275, k_276, n_276, k_277, n_277, k_278, n_278, ld20, ld30, rs_eq, rs_ne, ups_rs, (fm_1 hM), (fm_3 hM), (fm_8 hM), (fm_13 hM), (fm_17 hM), (fm_18 hM), (fm_21 hM), (fm_26 hM), (fm_36 hM), (fm_243 hM), (fm_244 hM), (fm_245 hM), (fm_246 hM), (fm_247 hM), (fm_248 hM), (fm_249 hM), (fm_250 hM), (fm_251 hM), (fm_252 hM), (fm_253 hM), (fm_254 hM), (fm_255 hM), (fm_256 hM), (fm_257 hM), (fm_258 hM), (fm_259 hM), (fm_260 hM), (fm_261 hM), (fm_262 hM), (fm_263 hM), (fm_264 hM), (fm_265 hM), (fm_268 hM), (fm_269 hM), tn_14, tn_28, tn_42, tn_56, tn_70, tn_84, tn_104, tn_112, tn_120, tn_128, tn_136, tn_148, tn_160, tn_172, tn_184, tn_196, tn_200, tn_204, tn_208, tn_225, tn_245, tn_265, tn_286, tn_2078, tn_2090, wr_ix, wr_inc, fs_eq, fs_ne, le_T, lt_T, le_F, lt_F, Int.toNat_natCast, Int.reduceToNat, cat_n, cat_i, cat_r, cat_l, Nat.ble_eq, Nat.reduceAdd, Nat.reduceLeDiff, true_and, and_true, true_implies, false_implies, not_true_eq_false, not_false_eq_true, implies_true, wa]
    grind
  have gc := fun (S : RT) => c_M_goCrews (k := k + 5) (L := L) (d := rset d 278 x0) (P := P) (R := S) (FM_278 hM) hE
  have tr := c_M_tryOrders (k := k) (L := L) (d := d) (x0 := x0) (P := iterN crewS ((e 241 17).toNat) P) (R := fun _ sh' d' => sh' = SH L ∧ Go (k + 6) 77 R 8 [vR 241, vU] [] (SH L) d') hM hE hO cr1 (fun x => ⟨rfl, h8 x⟩)
  clear fa f1 f2 f4 b1 b3 hL1 s4 e285 hI cr1 cr2 a1' a2' hL h h8 h14
  simp (disch := omega) only [s_M_minute_0, s_M_minute_1, s_M_minute_4, s_M_minute_5, s_M_minute_9, s_M_minute_12, s_M_minute_13, s_M_minute_15, s_M_minute_16, s_M_minute_19, s_M_minute_22, s_M_minute_23, s_M_minute_26, s_M_minute_28, s_M_minute_29, s_M_minute_30, s_M_minute_31, s_M_minute_32, s_M_minute_35, s_M_minute_36, s_M_minute_39, s_M_minute_41, s_M_minute_42, s_M_minute_43, s_M_minute_44, s_M_minute_45, s_M_minute_48, s_M_minute_49, s_M_minute_50, s_M_minute_53, s_M_minute_56, s_M_minute_59, s_M_minute_60, s_M_minute_63, s_M_minute_64, s_M_minute_67, s_M_minute_68, s_M_minute_71, s_M_minute_72, s_M_minute_75, s_M_minute_78, s_M_minute_79, s_M_minute_80, s_M_minute_81, s_M_minute_82, s_M_minute_83, k_1, n_1, k_241, r_241_0, r_241_2, r_241_4, r_241_5, r_241_6, r_241_7, r_241_9, r_241_10, r_241_11, r_241_12, r_241_14, r_241_15, r_241_16, r_241_19, r_241_20, r_241_22, r_241_23, r_241_24, r_241_25, r_241_27, r_241_28, r_241_29, r_241_30, r_241_31, r_241_33, r_241_34, r_241_37, r_241_38, r_241_39, r_241_40, r_241_41, r_241_42, r_241_43, r_241_44, r_241_49, r_241_50, r_241_54, k_242, n_242, k_243, n_243, k_244, n_244, k_245, n_245, k_246, n_246, k_247, n_247, k_248, n_248, k_249, n_249, k_250, n_250, k_251, n_251, k_252, n_252, k_253, n_253, k_254, n_254, k_255, n_255, k_256, n_256, k_257, n_257, k_258, n_258, k_259, n_259, k_260, n_260, k_261, n_261, k_262, n_262, k_263, n_263, k_264, n_264, k_265, n_265, k_266, n_266, k_267, n_267, k_268, n_268, k_269, n_269, k_270, n_270, k_271, n_271, k_272, n_272, k_273, n_273, k_274, n_274, k_275, n_275, k_276, n_276, k_277, n_277, k_278, n_278, ld20, ld30, rs_eq, rs_ne, ups_rs, (fm_1 hM), (fm_3 hM), (fm_8 hM), (fm_13 hM), (fm_17 hM), (fm_18 hM), (fm_21 hM), (fm_26 hM), (fm_36 hM), (fm_243 hM), (fm_244 hM), (fm_245 hM), (fm_246 hM), (fm_247 hM), (fm_248 hM), (fm_249 hM), (fm_250 hM), (fm_251 hM), (fm_252 hM), (fm_253 hM), (fm_254 hM), (fm_255 hM), (fm_256 hM), (fm_257 hM), (fm_258 hM), (fm_259 hM), (fm_260 hM), (fm_261 hM), (fm_262 hM), (fm_263 hM), (fm_264 hM), (fm_265 hM), (fm_268 hM), (fm_269 hM), tn_14, tn_28, tn_42, tn_56, tn_70, tn_84, tn_104, tn_112, tn_120, tn_128, tn_136, tn_148, tn_160, tn_172, tn_184, tn_196, tn_200, tn_204, tn_208, tn_225, tn_245, tn_265, tn_286, tn_2078, tn_2090, wr_ix, wr_inc, fs_eq, fs_ne, le_T, lt_T, le_F, lt_F, Int.toNat_natCast, Int.reduceToNat, cat_n, cat_i, cat_r, cat_l, Nat.ble_eq, Nat.reduceAdd, Nat.reduceLeDiff, true_and, and_true, true_implies, false_implies, not_true_eq_false, not_false_eq_true, implies_true, gc]
  grind
end
