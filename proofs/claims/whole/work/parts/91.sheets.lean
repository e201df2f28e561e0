/-! sheets: sheet, cell (expanded by gen18.py) -/
theorem lq23 : ldQ 23 = true := rfl
theorem lq24 : ldQ 24 = true := rfl
section
variable {L t : Nat}
theorem r232 (h : t < 4) : rfN (SH L) 232 t = 233 + 2 * t := by
  have : t = 0 ∨ t = 1 ∨ t = 2 ∨ t = 3 := by omega
  rcases this with q | q | q | q <;> subst q
  · exact r_232_0
  · exact r_232_1
  · exact r_232_2
  · exact r_232_3
theorem k233 (h : t < 4) : knd (SH L) (233 + 2 * t) = 8 := by
  have : t = 0 ∨ t = 1 ∨ t = 2 ∨ t = 3 := by omega
  rcases this with q | q | q | q <;> subst q
  · exact k_233
  · exact k_235
  · exact k_237
  · exact k_239
theorem r233 (h : t < 4) : rfN (SH L) (233 + 2 * t) 2 = 234 + 2 * t := by
  have : t = 0 ∨ t = 1 ∨ t = 2 ∨ t = 3 := by omega
  rcases this with q | q | q | q <;> subst q
  · exact r_233_2
  · exact r_235_2
  · exact r_237_2
  · exact r_239_2
theorem k234 (h : t < 4) : knd (SH L) (234 + 2 * t) = 20 := by
  have : t = 0 ∨ t = 1 ∨ t = 2 ∨ t = 3 := by omega
  rcases this with q | q | q | q <;> subst q
  · exact k_234
  · exact k_236
  · exact k_238
  · exact k_240
theorem n234 (h : t < 4) : len (SH L) (234 + 2 * t) = 40 := by
  have : t = 0 ∨ t = 1 ∨ t = 2 ∨ t = 3 := by omega
  rcases this with q | q | q | q <;> subst q
  · exact n_234
  · exact n_236
  · exact n_238
  · exact n_240
end
def putS (s v : Int) : Int := if s = 0 then (v + 128) % 256 - 128 else if s = 1 then (v + 32768) % 65536 - 32768 else v
theorem lg_lt {x y : Int} : (lg_c x y < 0) = (x < y) := by
  unfold lg_c
  by_cases c : x = y
  · rw [if_pos c]
    exact propext (by omega)
  · rw [if_neg c]
    by_cases c2 : x < y
    · rw [if_pos c2]
      exact propext (by omega)
    · rw [if_neg c2]
      exact propext (by omega)
theorem lg_gt {x y : Int} : (0 < lg_c x y) = (y < x) := by
  unfold lg_c
  by_cases c : x = y
  · rw [if_pos c]
    exact propext (by omega)
  · rw [if_neg c]
    by_cases c2 : x < y
    · rw [if_pos c2]
      exact propext (by omega)
    · rw [if_neg c2]
      exact propext (by omega)
theorem wl_of {x : Int} (h : -9223372036854775808 ≤ x ∧ x ≤ 9223372036854775807) : wrl x = x := by
  unfold wrl
  omega
theorem wx_40 {t j : Nat} (ht : t < 4) (hj : j ≤ 40) : wr (wr (40 * (t : Int)) + (j : Int)) = ((40 * t + j : Nat) : Int) := by
  rw [wr_of (x := 40 * (t : Int)) (by omega), wr_of (by omega)]
  omega
section
variable {L k t : Nat} {s : Row} {d e : Dat} {P : Row} {R : RT}
theorem c_S_isMissing (ht : t < 4) : Cl (k + 1) 202 [vR (233 + 2 * t)] (SH L) d R ↔ R (vI (if d (233 + 2 * t) 0 = -1 then 1 else 0)) (SH L) d := by
  refine (Cl_iff rfl).trans ?_
  show Go k 202 R 0 [vR (233 + 2 * t)] [] (SH L) d ↔ _
  simp only [s_Sheet_isMissing_0, s_Sheet_isMissing_1, s_Sheet_isMissing_4, s_Sheet_isMissing_5, s_Sheet_isMissing_8, s_Sheet_isMissing_9, s_Sheet_isMissing_12, s_Sheet_isMissing_13, k233 ht]
  grind
theorem c_S_holds {x y : Int} (ht : t < 4) : Cl (k + 1) 204 [vR (233 + 2 * t), vL x, vL y] (SH L) d R ↔ R (vI (if 0 ≤ x ∧ 0 ≤ y ∧ wrl (x + y) ≤ d (233 + 2 * t) 1 then 1 else 0)) (SH L) d := by
  refine (Cl_iff rfl).trans ?_
  show Go k 204 R 0 [vR (233 + 2 * t), vL x, vU, vL y, vU] [] (SH L) d ↔ _
  simp only [s_Sheet_holds_0, s_Sheet_holds_1, s_Sheet_holds_2, s_Sheet_holds_3, s_Sheet_holds_6, s_Sheet_holds_7, s_Sheet_holds_8, s_Sheet_holds_9, s_Sheet_holds_12, s_Sheet_holds_13, s_Sheet_holds_14, s_Sheet_holds_15, s_Sheet_holds_16, s_Sheet_holds_19, s_Sheet_holds_20, s_Sheet_holds_21, s_Sheet_holds_24, s_Sheet_holds_25, s_Sheet_holds_28, s_Sheet_holds_29, k233 ht, lg_lt, lg_gt]
  grind
theorem c_S_put {i : Nat} {v : Int} (ht : t < 4) (hi : i < 40) : Cl (k + 1) 205 [vR (233 + 2 * t), vI (i : Int), vI v] (SH L) d R ↔ R vU (SH L) (ups d (234 + 2 * t) i (putS (d (233 + 2 * t) 0) v)) := by
  refine (Cl_iff rfl).trans ?_
  show Go k 205 R 0 [vR (233 + 2 * t), vI (i : Int), vI v] [] (SH L) d ↔ _
  simp (disch := omega) only [s_Sheet_put_0, s_Sheet_put_1, s_Sheet_put_4, s_Sheet_put_32, s_Sheet_put_33, s_Sheet_put_36, s_Sheet_put_37, s_Sheet_put_38, s_Sheet_put_39, s_Sheet_put_40, s_Sheet_put_43, s_Sheet_put_44, s_Sheet_put_47, s_Sheet_put_48, s_Sheet_put_49, s_Sheet_put_50, s_Sheet_put_51, s_Sheet_put_54, s_Sheet_put_55, s_Sheet_put_58, s_Sheet_put_59, s_Sheet_put_60, s_Sheet_put_61, k233 ht, r233 ht, k234 ht, n234 ht, swC, le_T, lt_T, Int.toNat_natCast, true_and, putS]
  grind
theorem c_S_become {b n : Int} (ht : t < 4) : Cl (k + 1) 203 [vR (233 + 2 * t), vI b, vI n] (SH L) d R ↔ R vU (SH L) (rset (ups (ups d (233 + 2 * t) 0 b) (233 + 2 * t) 1 n) (234 + 2 * t) (cutR 40 (fun _ => 0) (d (234 + 2 * t)))) := by
  refine det_iff (fun R h => ?_)
  refine Cl_succ rfl ?_
  show Go k 203 R 0 [vR (233 + 2 * t), vI b, vI n, vU] [] (SH L) d
  have h0 : rset (ups (ups d (233 + 2 * t) 0 b) (233 + 2 * t) 1 n) (234 + 2 * t) (d (234 + 2 * t)) = ups (ups d (233 + 2 * t) 0 b) (233 + 2 * t) 1 n := by
    rw [show d (234 + 2 * t) = ups (ups d (233 + 2 * t) 0 b) (233 + 2 * t) 1 n (234 + 2 * t) by rw [ups_ne (by omega), ups_ne (by omega)]]
    exact rs_self
  generalize hD : ups (ups d (233 + 2 * t) 0 b) (233 + 2 * t) 1 n = D at h h0
  have key : Go k 203 R 12 [vR (233 + 2 * t), vI b, vI n, vI (0 : Nat)] [] (SH L) (rset D (234 + 2 * t) (d (234 + 2 * t))) := by
    refine loop_up (G := fun j y => Go k 203 R 12 [vR (233 + 2 * t), vI b, vI n, vI (j : Int)] [] (SH L) (rset D (234 + 2 * t) y)) (f := fun j y => fset y j 0) (fun j y => y = cutR j (fun _ => 0) (d (234 + 2 * t))) 40 (fun j hj y hy hG => ?_) cut_0.symm (fun hy => ?_)
    · have hG := hG (by rw [hy, ← cut_s])
      clear h hy hD h0
      rw [s_Sheet_become_12]
      simp (disch := omega) only [s_Sheet_become_0, s_Sheet_become_1, s_Sheet_become_2, s_Sheet_become_5, s_Sheet_become_6, s_Sheet_become_7, s_Sheet_become_10, s_Sheet_become_11, s_Sheet_become_13, s_Sheet_become_15, s_Sheet_become_18, s_Sheet_become_19, s_Sheet_become_22, s_Sheet_become_23, s_Sheet_become_24, s_Sheet_become_25, s_Sheet_become_28, s_Sheet_become_31, k233 ht, r233 ht, k234 ht, n234 ht, ups_rs, wr_inc, le_T, lt_T, le_F, lt_F, Int.toNat_natCast, true_and, and_true, true_implies, false_implies, not_true_eq_false, not_false_eq_true, implies_true]
      grind
    · rw [hy]
      clear hy hD h0
      rw [s_Sheet_become_12]
      simp (disch := omega) only [s_Sheet_become_0, s_Sheet_become_1, s_Sheet_become_2, s_Sheet_become_5, s_Sheet_become_6, s_Sheet_become_7, s_Sheet_become_10, s_Sheet_become_11, s_Sheet_become_13, s_Sheet_become_15, s_Sheet_become_18, s_Sheet_become_19, s_Sheet_become_22, s_Sheet_become_23, s_Sheet_become_24, s_Sheet_become_25, s_Sheet_become_28, s_Sheet_become_31, le_T, lt_T, le_F, lt_F, true_and, and_true, true_implies, false_implies, not_true_eq_false, not_false_eq_true, implies_true]
      grind
  rw [h0, ← hD] at key
  clear h hD h0
  simp (disch := omega) only [s_Sheet_become_0, s_Sheet_become_1, s_Sheet_become_2, s_Sheet_become_5, s_Sheet_become_6, s_Sheet_become_7, s_Sheet_become_10, s_Sheet_become_11, s_Sheet_become_13, s_Sheet_become_15, s_Sheet_become_18, s_Sheet_become_19, s_Sheet_become_22, s_Sheet_become_23, s_Sheet_become_24, s_Sheet_become_25, s_Sheet_become_28, s_Sheet_become_31, k233 ht, true_and]
  exact key
theorem FC_cg2 {d d' e : Dat} (h : FC d e) (f : ∀ a, a < 36 → ¬ a = 1 → d' a = d a) (f36 : d' 36 2 = d 36 2) : FC d' e := by
  unfold FC at h ⊢
  simp (disch := omega) only [f, f36]
  exact h
theorem FM_cg2 {d d' e : Dat} (h : FM d e) (f : ∀ a, 243 ≤ a → (a < 266 ∨ a = 268 ∨ a = 269) → d' a = d a) (f2 : ∀ i, i < 32 ∨ i = 36 → d' 241 i = d 241 i) : FM d' e := by
  unfold FM at h ⊢
  simp (disch := omega) only [f, f2]
  exact h
/-- what is beside the land and the facts may change -/
theorem HE_xs {d' : Dat} (h : HE s e P d) (f : ∀ a, (a < 36 ∨ (40 ≤ a ∧ a < 47) ∨ (52 ≤ a ∧ a ≤ 80) ∨ (242 ≤ a ∧ a < 266) ∨ a = 268 ∨ a = 269) → d' a = d a) (f36 : d' 36 2 = d 36 2) (f2 : ∀ i, i < 32 ∨ i = 36 → d' 241 i = d 241 i) (hX : XS d') : HE s e P d' := by
  obtain ⟨h1, h2, hf, hM, hE, hR, hI, h0, hO, hZ, _⟩ := h
  refine ⟨?_, ?_, FC_cg2 hf (fun a ha hb => f a (by omega)) f36, FM_cg2 hM (fun a ha hb => f a (by omega)) f2, hE, RL_cg hR (fun a ha hb => f a (by omega)), hI, h0, OK_cg hO (fun a ha hb => f a (by omega)) hE, hZ, hX⟩
  · rw [f 1 (by omega)]
    exact h1
  · rw [f 242 (by omega)]
    exact h2
/-- a sheet's rows may change on both sides alike -/
theorem XS_sh {d' : Dat} {t : Nat} (h : XS d) (f : ∀ a, (a = 8 ∨ a = 9 ∨ a = 36 ∨ a = 37 ∨ a = 81 ∨ a = 86 ∨ a = 241 ∨ a = 266 ∨ a = 267 ∨ a = 276) → d' a = d a) (ht : t < 4) (g : ∀ a, 233 ≤ a → a ≤ 240 → ¬ a = 233 + 2 * t → ¬ a = 234 + 2 * t → d' a = d a) (g1 : ∀ u, u < 4 → ¬ u = t → d' 271 u = d 271 u ∧ d' 272 u = d 272 u ∧ ∀ i, i < 40 → d' 273 (40 * u + i) = d 273 (40 * u + i)) (n : d' (233 + 2 * t) 0 = d' 271 t ∧ d' (233 + 2 * t) 1 = d' 272 t ∧ (-1 ≤ d' 271 t ∧ d' 271 t ≤ 2) ∧ (0 ≤ d' 272 t ∧ d' 272 t ≤ 40) ∧ (d' 271 t = -1 → d' 272 t = 0) ∧ ∀ i, i < 40 → d' (234 + 2 * t) i = d' 273 (40 * t + i)) : XS d' := by
  unfold XS at h ⊢
  rw [f 8 (by omega), f 9 (by omega), f 276 (by omega), f 36 (by omega), f 241 (by omega), f 37 (by omega), f 267 (by omega), f 81 (by omega), f 86 (by omega), f 266 (by omega)]
  refine ⟨h.1, h.2.1, fun u hu => ?_, h.2.2.2⟩
  by_cases c : u = t
  · rw [c]
    exact n
  · obtain ⟨a1, a2, a3⟩ := g1 u hu c
    obtain ⟨b1, b2, b3, b4, b5, b6⟩ := h.2.2.1 u hu
    rw [g (233 + 2 * u) (by omega) (by omega) (by omega) (by omega), g (234 + 2 * u) (by omega) (by omega) (by omega) (by omega), a1, a2]
    exact ⟨b1, b2, b3, b4, b5, fun i hi => by rw [a3 i hi]; exact b6 i hi⟩
/-- 40 cells of the reference's row, from 40 t on -/
def zeroR (t j : Nat) (x : Row) : Row := fun i => if 40 * t ≤ i ∧ i < 40 * t + j then 0 else x i
theorem zero_0 {t : Nat} {x : Row} : zeroR t 0 x = x := by
  funext i
  unfold zeroR
  rw [if_neg (by omega)]
theorem zero_s {t j : Nat} {x : Row} : fset (zeroR t j x) (40 * t + j) 0 = zeroR t (j + 1) x := by
  funext i
  unfold zeroR
  rw [fs_rd]
  by_cases c : i = 40 * t + j
  · rw [if_pos c, if_pos (by omega)]
  · rw [if_neg c]
    by_cases c2 : 40 * t ≤ i ∧ i < 40 * t + j
    · rw [if_pos c2, if_pos (by omega)]
    · rw [if_neg c2, if_neg (by omega)]
theorem c_M_sheet {b n z : Int} (ht : t < 4) (hb : -1 ≤ b ∧ b ≤ 2) (hz : (b = -1 ∧ z = 0) ∨ (¬ b = -1 ∧ 0 ≤ n ∧ n ≤ 40 ∧ z = n)) : Cl (k + 9) 118 [vR 241, vI (t : Int), vI b, vI n] (SH L) d R ↔ R (vI 1) (SH L) (rset (ups (ups d 271 t b) 272 t z) 273 (zeroR t 40 (d 273))) := by
  refine det_iff (fun R h => ?_)
  refine Cl_succ rfl ?_
  show Go (k + 8) 118 R 0 [vR 241, vI (t : Int), vI b, vI n, vU] [] (SH L) d
  have h0 : rset (ups (ups d 271 t b) 272 t z) 273 (d 273) = ups (ups d 271 t b) 272 t z := by
    rw [show d 273 = ups (ups d 271 t b) 272 t z 273 by rw [ups_ne (by omega), ups_ne (by omega)]]
    exact rs_self
  have key : Go (k + 8) 118 R 70 [vR 241, vI (t : Int), vI b, vI n, vI (0 : Nat)] [] (SH L) (rset (ups (ups d 271 t b) 272 t z) 273 (d 273)) := by
    generalize ups (ups d 271 t b) 272 t z = D at h h0
    clear h0 hz hb
    refine loop_up (G := fun j y => Go (k + 8) 118 R 70 [vR 241, vI (t : Int), vI b, vI n, vI (j : Int)] [] (SH L) (rset D 273 y)) (f := fun j y => fset y (40 * t + j) 0) (fun j y => y = zeroR t j (d 273)) 40 (fun j hj y hy hG => ?_) zero_0.symm (fun hy => ?_)
    · have hG := hG (by rw [hy, zero_s])
      clear h hy
      rw [s_M_sheet_70]
      simp (disch := omega) only [s_M_sheet_0, s_M_sheet_1, s_M_sheet_2, s_M_sheet_3, s_M_sheet_6, s_M_sheet_9, s_M_sheet_10, s_M_sheet_11, s_M_sheet_12, s_M_sheet_15, s_M_sheet_18, s_M_sheet_19, s_M_sheet_20, s_M_sheet_23, s_M_sheet_24, s_M_sheet_26, s_M_sheet_29, s_M_sheet_31, s_M_sheet_32, s_M_sheet_33, s_M_sheet_34, s_M_sheet_37, s_M_sheet_38, s_M_sheet_41, s_M_sheet_43, s_M_sheet_44, s_M_sheet_45, s_M_sheet_48, s_M_sheet_49, s_M_sheet_50, s_M_sheet_51, s_M_sheet_52, s_M_sheet_55, s_M_sheet_56, s_M_sheet_57, s_M_sheet_58, s_M_sheet_61, s_M_sheet_62, s_M_sheet_65, s_M_sheet_66, s_M_sheet_67, s_M_sheet_68, s_M_sheet_72, s_M_sheet_74, s_M_sheet_77, s_M_sheet_78, s_M_sheet_81, s_M_sheet_83, s_M_sheet_84, s_M_sheet_85, s_M_sheet_87, s_M_sheet_88, s_M_sheet_89, s_M_sheet_90, s_M_sheet_93, s_M_sheet_96, s_M_sheet_97, k_1, n_1, k_241, r_241_0, r_241_2, r_241_4, r_241_5, r_241_6, r_241_7, r_241_9, r_241_10, r_241_11, r_241_12, r_241_14, r_241_15, r_241_16, r_241_19, r_241_20, r_241_22, r_241_23, r_241_24, r_241_25, r_241_27, r_241_28, r_241_29, r_241_30, r_241_31, r_241_33, r_241_34, r_241_37, r_241_38, r_241_39, r_241_40, r_241_41, r_241_42, r_241_43, r_241_44, r_241_49, r_241_50, r_241_54, k_242, n_242, k_243, n_243, k_244, n_244, k_245, n_245, k_246, n_246, k_247, n_247, k_248, n_248, k_249, n_249, k_250, n_250, k_251, n_251, k_252, n_252, k_253, n_253, k_254, n_254, k_255, n_255, k_256, n_256, k_257, n_257, k_258, n_258, k_259, n_259, k_260, n_260, k_261, n_261, k_262, n_262, k_263, n_263, k_264, n_264, k_265, n_265, k_266, n_266, k_267, n_267, k_268, n_268, k_269, n_269, k_270, n_270, k_271, n_271, k_272, n_272, k_273, n_273, k_274, n_274, k_275, n_275, k_276, n_276, k_277, n_277, k_278, n_278, ld20, ups_rs, wx_40, wr_inc, le_T, lt_T, le_F, lt_F, Int.toNat_natCast, true_and, and_true, true_implies, false_implies, not_true_eq_false, not_false_eq_true, implies_true]
      grind
    · rw [hy]
      clear hy
      rw [s_M_sheet_70]
      simp (disch := omega) only [s_M_sheet_0, s_M_sheet_1, s_M_sheet_2, s_M_sheet_3, s_M_sheet_6, s_M_sheet_9, s_M_sheet_10, s_M_sheet_11, s_M_sheet_12, s_M_sheet_15, s_M_sheet_18, s_M_sheet_19, s_M_sheet_20, s_M_sheet_23, s_M_sheet_24, s_M_sheet_26, s_M_sheet_29, s_M_sheet_31, s_M_sheet_32, s_M_sheet_33, s_M_sheet_34, s_M_sheet_37, s_M_sheet_38, s_M_sheet_41, s_M_sheet_43, s_M_sheet_44, s_M_sheet_45, s_M_sheet_48, s_M_sheet_49, s_M_sheet_50, s_M_sheet_51, s_M_sheet_52, s_M_sheet_55, s_M_sheet_56, s_M_sheet_57, s_M_sheet_58, s_M_sheet_61, s_M_sheet_62, s_M_sheet_65, s_M_sheet_66, s_M_sheet_67, s_M_sheet_68, s_M_sheet_72, s_M_sheet_74, s_M_sheet_77, s_M_sheet_78, s_M_sheet_81, s_M_sheet_83, s_M_sheet_84, s_M_sheet_85, s_M_sheet_87, s_M_sheet_88, s_M_sheet_89, s_M_sheet_90, s_M_sheet_93, s_M_sheet_96, s_M_sheet_97, le_T, lt_T, le_F, lt_F, true_and, and_true, true_implies, false_implies, not_true_eq_false, not_false_eq_true, implies_true]
      grind
  rw [h0] at key
  clear h h0
  rcases hz with ⟨z1, z2⟩ | ⟨z1, z2, z3, z4⟩
  · subst z1
    subst z2
    simp (disch := omega) only [s_M_sheet_0, s_M_sheet_1, s_M_sheet_2, s_M_sheet_3, s_M_sheet_6, s_M_sheet_9, s_M_sheet_10, s_M_sheet_11, s_M_sheet_12, s_M_sheet_15, s_M_sheet_18, s_M_sheet_19, s_M_sheet_20, s_M_sheet_23, s_M_sheet_24, s_M_sheet_26, s_M_sheet_29, s_M_sheet_31, s_M_sheet_32, s_M_sheet_33, s_M_sheet_34, s_M_sheet_37, s_M_sheet_38, s_M_sheet_41, s_M_sheet_43, s_M_sheet_44, s_M_sheet_45, s_M_sheet_48, s_M_sheet_49, s_M_sheet_50, s_M_sheet_51, s_M_sheet_52, s_M_sheet_55, s_M_sheet_56, s_M_sheet_57, s_M_sheet_58, s_M_sheet_61, s_M_sheet_62, s_M_sheet_65, s_M_sheet_66, s_M_sheet_67, s_M_sheet_68, s_M_sheet_72, s_M_sheet_74, s_M_sheet_77, s_M_sheet_78, s_M_sheet_81, s_M_sheet_83, s_M_sheet_84, s_M_sheet_85, s_M_sheet_87, s_M_sheet_88, s_M_sheet_89, s_M_sheet_90, s_M_sheet_93, s_M_sheet_96, s_M_sheet_97, c_M_within, k_1, n_1, k_241, r_241_0, r_241_2, r_241_4, r_241_5, r_241_6, r_241_7, r_241_9, r_241_10, r_241_11, r_241_12, r_241_14, r_241_15, r_241_16, r_241_19, r_241_20, r_241_22, r_241_23, r_241_24, r_241_25, r_241_27, r_241_28, r_241_29, r_241_30, r_241_31, r_241_33, r_241_34, r_241_37, r_241_38, r_241_39, r_241_40, r_241_41, r_241_42, r_241_43, r_241_44, r_241_49, r_241_50, r_241_54, k_242, n_242, k_243, n_243, k_244, n_244, k_245, n_245, k_246, n_246, k_247, n_247, k_248, n_248, k_249, n_249, k_250, n_250, k_251, n_251, k_252, n_252, k_253, n_253, k_254, n_254, k_255, n_255, k_256, n_256, k_257, n_257, k_258, n_258, k_259, n_259, k_260, n_260, k_261, n_261, k_262, n_262, k_263, n_263, k_264, n_264, k_265, n_265, k_266, n_266, k_267, n_267, k_268, n_268, k_269, n_269, k_270, n_270, k_271, n_271, k_272, n_272, k_273, n_273, k_274, n_274, k_275, n_275, k_276, n_276, k_277, n_277, k_278, n_278, ld20, le_T, lt_T, le_F, lt_F, Int.toNat_natCast, true_and, and_true, true_implies, false_implies, not_true_eq_false, not_false_eq_true, implies_true]
    grind
  · subst z4
    simp (disch := omega) only [s_M_sheet_0, s_M_sheet_1, s_M_sheet_2, s_M_sheet_3, s_M_sheet_6, s_M_sheet_9, s_M_sheet_10, s_M_sheet_11, s_M_sheet_12, s_M_sheet_15, s_M_sheet_18, s_M_sheet_19, s_M_sheet_20, s_M_sheet_23, s_M_sheet_24, s_M_sheet_26, s_M_sheet_29, s_M_sheet_31, s_M_sheet_32, s_M_sheet_33, s_M_sheet_34, s_M_sheet_37, s_M_sheet_38, s_M_sheet_41, s_M_sheet_43, s_M_sheet_44, s_M_sheet_45, s_M_sheet_48, s_M_sheet_49, s_M_sheet_50, s_M_sheet_51, s_M_sheet_52, s_M_sheet_55, s_M_sheet_56, s_M_sheet_57, s_M_sheet_58, s_M_sheet_61, s_M_sheet_62, s_M_sheet_65, s_M_sheet_66, s_M_sheet_67, s_M_sheet_68, s_M_sheet_72, s_M_sheet_74, s_M_sheet_77, s_M_sheet_78, s_M_sheet_81, s_M_sheet_83, s_M_sheet_84, s_M_sheet_85, s_M_sheet_87, s_M_sheet_88, s_M_sheet_89, s_M_sheet_90, s_M_sheet_93, s_M_sheet_96, s_M_sheet_97, c_M_within, k_1, n_1, k_241, r_241_0, r_241_2, r_241_4, r_241_5, r_241_6, r_241_7, r_241_9, r_241_10, r_241_11, r_241_12, r_241_14, r_241_15, r_241_16, r_241_19, r_241_20, r_241_22, r_241_23, r_241_24, r_241_25, r_241_27, r_241_28, r_241_29, r_241_30, r_241_31, r_241_33, r_241_34, r_241_37, r_241_38, r_241_39, r_241_40, r_241_41, r_241_42, r_241_43, r_241_44, r_241_49, r_241_50, r_241_54, k_242, n_242, k_243, n_243, k_244, n_244, k_245, n_245, k_246, n_246, k_247, n_247, k_248, n_248, k_249, n_249, k_250, n_250, k_251, n_251, k_252, n_252, k_253, n_253, k_254, n_254, k_255, n_255, k_256, n_256, k_257, n_257, k_258, n_258, k_259, n_259, k_260, n_260, k_261, n_261, k_262, n_262, k_263, n_263, k_264, n_264, k_265, n_265, k_266, n_266, k_267, n_267, k_268, n_268, k_269, n_269, k_270, n_270, k_271, n_271, k_272, n_272, k_273, n_273, k_274, n_274, k_275, n_275, k_276, n_276, k_277, n_277, k_278, n_278, ld20, le_T, lt_T, le_F, lt_F, Int.toNat_natCast, true_and, and_true, true_implies, false_implies, not_true_eq_false, not_false_eq_true, implies_true]
    grind
theorem ok_sheet {a b n : Int} (h : HV s d) : Ok2 L (k + 9) 30 118 [vI a, vI b, vI n] s d := by
  obtain ⟨e, P, h⟩ := h
  have hX := h.2.2.2.2.2.2.2.2.2.2
  by_cases g0 : (0 ≤ a ∧ a < 4) ∧ -1 ≤ b ∧ b ≤ 2
  · obtain ⟨t, rfl⟩ : ∃ t : Nat, a = (t : Int) := ⟨a.toNat, by omega⟩
    have ht : t < 4 := by omega
    by_cases g1 : b = -1 ∨ (0 ≤ n ∧ n ≤ 40)
    · obtain ⟨z, hz⟩ : ∃ z, (b = -1 ∧ z = 0) ∨ (¬ b = -1 ∧ 0 ≤ n ∧ n ≤ 40 ∧ z = n) := by
        by_cases q : b = -1
        · exact ⟨0, Or.inl ⟨q, rfl⟩⟩
        · exact ⟨n, Or.inr ⟨q, by omega, by omega, rfl⟩⟩
      have key : ∀ R : RT, R (vI 1) (SH L) (rset (ups (ups d (233 + 2 * t) 0 b) (233 + 2 * t) 1 z) (234 + 2 * t) (cutR 40 (fun _ => 0) (d (234 + 2 * t)))) → Cl (k + 9) 30 [vR 10, vI (t : Int), vI b, vI n] (SH L) d R := by
        intro R hr
        refine Cl_succ rfl ?_
        show Go (k + 8) 30 R 0 [vR 10, vI (t : Int), vI b, vI n] [] (SH L) d
        clear h hX
        rcases hz with ⟨z1, z2⟩ | ⟨z1, z2, z3, z4⟩
        · subst z1
          subst z2
          simp (disch := omega) only [s_D_sheet_0, s_D_sheet_1, s_D_sheet_2, s_D_sheet_5, s_D_sheet_8, s_D_sheet_9, s_D_sheet_10, s_D_sheet_11, s_D_sheet_14, s_D_sheet_17, s_D_sheet_19, s_D_sheet_20, s_D_sheet_21, s_D_sheet_22, s_D_sheet_25, s_D_sheet_26, s_D_sheet_29, s_D_sheet_30, s_D_sheet_31, s_D_sheet_32, s_D_sheet_33, s_D_sheet_36, s_D_sheet_37, s_D_sheet_38, s_D_sheet_39, s_D_sheet_41, s_D_sheet_44, s_D_sheet_46, s_D_sheet_47, s_D_sheet_48, s_D_sheet_51, s_D_sheet_53, s_D_sheet_54, s_D_sheet_55, s_D_sheet_58, s_D_sheet_59, s_D_sheet_60, s_D_sheet_61, s_D_sheet_62, s_D_sheet_65, s_D_sheet_66, c_D_isOf, c_D_within, c_S_become ht, k_1, n_1, k_2, n_2, k_3, n_3, k_4, n_4, k_5, n_5, k_6, n_6, k_7, n_7, k_8, n_8, k_9, n_9, k_10, r_10_0, r_10_1, r_10_2, r_10_3, r_10_4, r_10_5, k_11, r_11_5, r_11_6, r_11_7, r_11_8, r_11_9, r_11_10, r_11_11, r_11_12, r_11_13, r_11_14, r_11_15, r_11_16, k_12, n_12, k_13, n_13, k_14, n_14, k_15, n_15, k_16, n_16, k_17, n_17, k_18, n_18, k_19, n_19, k_20, n_20, k_21, n_21, k_22, n_22, k_23, n_23, k_24, r_24_3, r_24_4, r_24_5, r_24_6, r_24_7, r_24_8, r_24_9, r_24_10, r_24_11, r_24_12, r_24_13, k_25, n_25, k_26, n_26, k_27, n_27, k_28, n_28, k_29, n_29, k_30, n_30, k_31, n_31, k_32, n_32, k_33, n_33, k_34, n_34, k_35, n_35, k_36, r_36_0, r_36_3, r_36_4, r_36_5, r_36_6, r_36_7, k_37, n_37, k_38, n_38, k_39, n_39, r_39_0, r_39_1, r_39_2, r_39_3, r_39_4, r_39_5, k_40, n_40, k_41, n_41, k_42, n_42, k_43, n_43, k_44, n_44, k_45, n_45, k_46, n_46, k_47, n_47, k_48, r_48_0, r_48_1, r_48_5, k_49, n_49, k_50, n_50, k_51, n_51, k_52, r_52_0, r_52_1, r_52_2, r_52_3, r_52_4, r_52_5, r_52_6, r_52_7, r_52_8, r_52_9, r_52_10, r_52_11, r_52_12, r_52_13, k_53, r_53_0, r_53_1, r_53_2, r_53_3, r_53_4, r_53_5, r_53_6, k_54, n_54, k_55, n_55, k_56, n_56, k_57, n_57, k_58, n_58, k_59, n_59, k_60, n_60, k_61, r_61_0, r_61_1, r_61_2, r_61_3, k_62, n_62, k_63, n_63, k_64, n_64, k_65, n_65, k_66, r_66_0, r_66_1, r_66_2, r_66_3, r_66_4, r_66_5, k_67, n_67, k_68, n_68, k_69, n_69, k_70, n_70, k_71, n_71, k_72, n_72, k_73, n_73, k_74, n_74, k_75, n_75, k_76, n_76, k_77, n_77, k_78, n_78, k_79, n_79, k_80, n_80, k_81, r_81_0, r_81_1, r_81_2, r_81_3, r_81_4, r_81_9, r_81_10, k_82, n_82, r_82_0, r_82_1, r_82_2, r_82_3, k_83, n_83, k_84, n_84, k_85, n_85, k_86, n_86, k_87, r_87_0, r_87_1, r_87_2, r_87_3, r_87_4, r_87_5, r_87_6, r_87_7, r_87_8, r_87_9, r_87_10, r_87_11, r_87_12, r_87_13, k_116, r_116_0, r_116_1, r_116_2, r_116_3, r_116_4, r_116_5, r_116_6, r_116_7, r_116_8, r_116_9, r_116_10, r_116_11, r_116_12, r_116_13, k_145, r_145_0, r_145_1, r_145_2, r_145_3, r_145_4, r_145_5, r_145_6, r_145_7, r_145_8, r_145_9, r_145_10, r_145_11, r_145_12, r_145_13, k_174, r_174_0, r_174_1, r_174_2, r_174_3, r_174_4, r_174_5, r_174_6, r_174_7, r_174_8, r_174_9, r_174_10, r_174_11, r_174_12, r_174_13, k_203, r_203_0, r_203_1, r_203_2, r_203_3, r_203_4, r_203_5, r_203_6, r_203_7, r_203_8, r_203_9, r_203_10, r_203_11, r_203_12, r_203_13, k_232, n_232, r_232_0, r_232_1, r_232_2, r_232_3, k_233, r_233_2, k_234, n_234, k_235, r_235_2, k_236, n_236, k_237, r_237_2, k_238, n_238, k_239, r_239_2, k_240, n_240, lq23, r232 ht, k233 ht, le_T, lt_T, le_F, lt_F, Int.toNat_natCast, true_and, and_true, true_implies, false_implies, not_true_eq_false, not_false_eq_true, implies_true, cat_n, cat_i, cat_r, cat_l, Nat.ble_eq, Nat.reduceAdd, Nat.reduceLeDiff]
          grind
        · subst z4
          simp (disch := omega) only [s_D_sheet_0, s_D_sheet_1, s_D_sheet_2, s_D_sheet_5, s_D_sheet_8, s_D_sheet_9, s_D_sheet_10, s_D_sheet_11, s_D_sheet_14, s_D_sheet_17, s_D_sheet_19, s_D_sheet_20, s_D_sheet_21, s_D_sheet_22, s_D_sheet_25, s_D_sheet_26, s_D_sheet_29, s_D_sheet_30, s_D_sheet_31, s_D_sheet_32, s_D_sheet_33, s_D_sheet_36, s_D_sheet_37, s_D_sheet_38, s_D_sheet_39, s_D_sheet_41, s_D_sheet_44, s_D_sheet_46, s_D_sheet_47, s_D_sheet_48, s_D_sheet_51, s_D_sheet_53, s_D_sheet_54, s_D_sheet_55, s_D_sheet_58, s_D_sheet_59, s_D_sheet_60, s_D_sheet_61, s_D_sheet_62, s_D_sheet_65, s_D_sheet_66, c_D_isOf, c_D_within, c_S_become ht, k_1, n_1, k_2, n_2, k_3, n_3, k_4, n_4, k_5, n_5, k_6, n_6, k_7, n_7, k_8, n_8, k_9, n_9, k_10, r_10_0, r_10_1, r_10_2, r_10_3, r_10_4, r_10_5, k_11, r_11_5, r_11_6, r_11_7, r_11_8, r_11_9, r_11_10, r_11_11, r_11_12, r_11_13, r_11_14, r_11_15, r_11_16, k_12, n_12, k_13, n_13, k_14, n_14, k_15, n_15, k_16, n_16, k_17, n_17, k_18, n_18, k_19, n_19, k_20, n_20, k_21, n_21, k_22, n_22, k_23, n_23, k_24, r_24_3, r_24_4, r_24_5, r_24_6, r_24_7, r_24_8, r_24_9, r_24_10, r_24_11, r_24_12, r_24_13, k_25, n_25, k_26, n_26, k_27, n_27, k_28, n_28, k_29, n_29, k_30, n_30, k_31, n_31, k_32, n_32, k_33, n_33, k_34, n_34, k_35, n_35, k_36, r_36_0, r_36_3, r_36_4, r_36_5, r_36_6, r_36_7, k_37, n_37, k_38, n_38, k_39, n_39, r_39_0, r_39_1, r_39_2, r_39_3, r_39_4, r_39_5, k_40, n_40, k_41, n_41, k_42, n_42, k_43, n_43, k_44, n_44, k_45, n_45, k_46, n_46, k_47, n_47, k_48, r_48_0, r_48_1, r_48_5, k_49, n_49, k_50, n_50, k_51, n_51, k_52, r_52_0, r_52_1, r_52_2, r_52_3, r_52_4, r_52_5, r_52_6, r_52_7, r_52_8, r_52_9, r_52_10, r_52_11, r_52_12, r_52_13, k_53, r_53_0, r_53_1, r_53_2, r_53_3, r_53_4, r_53_5, r_53_6, k_54, n_54, k_55, n_55, k_56, n_56, k_57, n_57, k_58, n_58, k_59, n_59, k_60, n_60, k_61, r_61_0, r_61_1, r_61_2, r_61_3, k_62, n_62, k_63, n_63, k_64, n_64, k_65, n_65, k_66, r_66_0, r_66_1, r_66_2, r_66_3, r_66_4, r_66_5, k_67, n_67, k_68, n_68, k_69, n_69, k_70, n_70, k_71, n_71, k_72, n_72, k_73, n_73, k_74, n_74, k_75, n_75, k_76, n_76, k_77, n_77, k_78, n_78, k_79, n_79, k_80, n_80, k_81, r_81_0, r_81_1, r_81_2, r_81_3, r_81_4, r_81_9, r_81_10, k_82, n_82, r_82_0, r_82_1, r_82_2, r_82_3, k_83, n_83, k_84, n_84, k_85, n_85, k_86, n_86, k_87, r_87_0, r_87_1, r_87_2, r_87_3, r_87_4, r_87_5, r_87_6, r_87_7, r_87_8, r_87_9, r_87_10, r_87_11, r_87_12, r_87_13, k_116, r_116_0, r_116_1, r_116_2, r_116_3, r_116_4, r_116_5, r_116_6, r_116_7, r_116_8, r_116_9, r_116_10, r_116_11, r_116_12, r_116_13, k_145, r_145_0, r_145_1, r_145_2, r_145_3, r_145_4, r_145_5, r_145_6, r_145_7, r_145_8, r_145_9, r_145_10, r_145_11, r_145_12, r_145_13, k_174, r_174_0, r_174_1, r_174_2, r_174_3, r_174_4, r_174_5, r_174_6, r_174_7, r_174_8, r_174_9, r_174_10, r_174_11, r_174_12, r_174_13, k_203, r_203_0, r_203_1, r_203_2, r_203_3, r_203_4, r_203_5, r_203_6, r_203_7, r_203_8, r_203_9, r_203_10, r_203_11, r_203_12, r_203_13, k_232, n_232, r_232_0, r_232_1, r_232_2, r_232_3, k_233, r_233_2, k_234, n_234, k_235, r_235_2, k_236, n_236, k_237, r_237_2, k_238, n_238, k_239, r_239_2, k_240, n_240, lq23, r232 ht, k233 ht, le_T, lt_T, le_F, lt_F, Int.toNat_natCast, true_and, and_true, true_implies, false_implies, not_true_eq_false, not_false_eq_true, implies_true, cat_n, cat_i, cat_r, cat_l, Nat.ble_eq, Nat.reduceAdd, Nat.reduceLeDiff]
          grind
      refine key _ ⟨rfl, ?_, ⟨_, rfl⟩, (c_M_sheet ht g0.2 hz).mpr ⟨rfl, rfl, e, P, ?_⟩⟩
      · rw [rs_ne (by omega), ups_ne (by omega), ups_ne (by omega)]
        exact h.1
      · generalize hD : rset (ups (ups d (233 + 2 * t) 0 b) (233 + 2 * t) 1 z) (234 + 2 * t) (cutR 40 (fun _ => 0) (d (234 + 2 * t))) = D
        have f : ∀ a, ¬ a = 233 + 2 * t → ¬ a = 234 + 2 * t → D a = d a := fun a q1 q2 => by
          rw [← hD, rs_ne q2, ups_ne q1, ups_ne q1]
        have f1 : D (234 + 2 * t) = cutR 40 (fun _ => 0) (d (234 + 2 * t)) := by rw [← hD, rs_eq]
        have f2 : D (233 + 2 * t) = fset (fset (d (233 + 2 * t)) 0 b) 1 z := by rw [← hD, rs_ne (by omega), ups_same, ups_same]
        clear hD
        have g : ∀ a, ¬ a = 271 → ¬ a = 272 → ¬ a = 273 → rset (ups (ups D 271 t b) 272 t z) 273 (zeroR t 40 (D 273)) a = D a := fun a q1 q2 q3 => by
          rw [rs_ne q3, ups_ne q2, ups_ne q1]
        have e1 : rset (ups (ups D 271 t b) 272 t z) 273 (zeroR t 40 (D 273)) 271 = fset (D 271) t b := by
          rw [rs_ne (by omega), ups_ne (by omega), ups_same]
        have e2 : rset (ups (ups D 271 t b) 272 t z) 273 (zeroR t 40 (D 273)) 272 = fset (D 272) t z := by
          rw [rs_ne (by omega), ups_same, ups_ne (by omega)]
        have e3 : rset (ups (ups D 271 t b) 272 t z) 273 (zeroR t 40 (D 273)) 273 = zeroR t 40 (D 273) := rs_eq
        generalize rset (ups (ups D 271 t b) 272 t z) 273 (zeroR t 40 (D 273)) = D2 at *
        refine HE_xs h (fun a ha => by rw [g a (by omega) (by omega) (by omega), f a (by omega) (by omega)]) (by rw [g 36 (by omega) (by omega) (by omega), f 36 (by omega) (by omega)]) (fun i _ => by rw [g 241 (by omega) (by omega) (by omega), f 241 (by omega) (by omega)]) (XS_sh (t := t) hX (fun a ha => by rw [g a (by omega) (by omega) (by omega), f a (by omega) (by omega)]) ht (fun a a1 a2 a3 a4 => by rw [g a (by omega) (by omega) (by omega), f a a3 a4]) (fun u hu hn => ?_) ?_)
        · rw [e1, e2, e3, fs_ne hn, fs_ne hn, f 271 (by omega) (by omega), f 272 (by omega) (by omega), f 273 (by omega) (by omega)]
          refine ⟨rfl, rfl, fun i hi => ?_⟩
          unfold zeroR
          rw [if_neg (by omega)]
        · rw [e1, e2, e3, g (233 + 2 * t) (by omega) (by omega) (by omega), g (234 + 2 * t) (by omega) (by omega) (by omega), f1, f2, fs_eq, fs_eq, fs_eq, fs_ne (by omega), fs_eq]
          refine ⟨rfl, rfl, g0.2, ?_, ?_, fun i hi => ?_⟩
          · rcases hz with y | y <;> omega
          · intro q
            rcases hz with y | y <;> omega
          · unfold cutR zeroR
            rw [if_pos hi, if_pos (by omega)]
    · refine ok_tell (n := if 40 < n then -2 else -14) h (fun R => ?_) (fun R => ?_)
      · refine (Cl_iff rfl).trans ?_
        show Go (k + 8) 30 R 0 [vR 10, vI (t : Int), vI b, vI n] [] (SH L) d ↔ _
        clear h hX
        simp only [s_D_sheet_0, s_D_sheet_1, s_D_sheet_2, s_D_sheet_5, s_D_sheet_8, s_D_sheet_9, s_D_sheet_10, s_D_sheet_11, s_D_sheet_14, s_D_sheet_17, s_D_sheet_19, s_D_sheet_20, s_D_sheet_21, s_D_sheet_22, s_D_sheet_26, s_D_sheet_29, s_D_sheet_30, s_D_sheet_31, s_D_sheet_32, s_D_sheet_33, s_D_sheet_36, s_D_sheet_37, s_D_sheet_38, s_D_sheet_39, s_D_sheet_41, s_D_sheet_44, s_D_sheet_46, s_D_sheet_47, s_D_sheet_48, s_D_sheet_51, s_D_sheet_53, s_D_sheet_55, s_D_sheet_58, s_D_sheet_59, s_D_sheet_60, s_D_sheet_61, s_D_sheet_62, s_D_sheet_65, s_D_sheet_66, c_D_isOf, c_D_within]
        grind
      · refine (Cl_iff rfl).trans ?_
        show Go (k + 8) 118 R 0 [vR 241, vI (t : Int), vI b, vI n, vU] [] (SH L) (rset d 242 P) ↔ _
        clear h hX
        simp only [s_M_sheet_0, s_M_sheet_1, s_M_sheet_2, s_M_sheet_3, s_M_sheet_6, s_M_sheet_9, s_M_sheet_10, s_M_sheet_11, s_M_sheet_12, s_M_sheet_15, s_M_sheet_18, s_M_sheet_19, s_M_sheet_20, s_M_sheet_23, s_M_sheet_24, s_M_sheet_26, s_M_sheet_29, s_M_sheet_31, s_M_sheet_32, s_M_sheet_33, s_M_sheet_34, s_M_sheet_37, s_M_sheet_38, s_M_sheet_41, s_M_sheet_43, s_M_sheet_45, s_M_sheet_48, s_M_sheet_49, s_M_sheet_50, s_M_sheet_51, s_M_sheet_52, s_M_sheet_55, s_M_sheet_56, s_M_sheet_57, s_M_sheet_58, s_M_sheet_61, s_M_sheet_62, s_M_sheet_65, s_M_sheet_66, s_M_sheet_67, s_M_sheet_68, s_M_sheet_70, s_M_sheet_72, s_M_sheet_74, s_M_sheet_77, s_M_sheet_78, s_M_sheet_81, s_M_sheet_83, s_M_sheet_84, s_M_sheet_85, s_M_sheet_87, s_M_sheet_88, s_M_sheet_89, s_M_sheet_90, s_M_sheet_93, s_M_sheet_96, s_M_sheet_97, c_M_within]
        grind
  · refine ok_tell (n := -2) h (fun R => ?_) (fun R => ?_)
    · refine (Cl_iff rfl).trans ?_
      show Go (k + 8) 30 R 0 [vR 10, vI a, vI b, vI n] [] (SH L) d ↔ _
      clear h hX
      simp only [s_D_sheet_0, s_D_sheet_1, s_D_sheet_2, s_D_sheet_5, s_D_sheet_8, s_D_sheet_9, s_D_sheet_10, s_D_sheet_11, s_D_sheet_14, s_D_sheet_17, s_D_sheet_19, s_D_sheet_21, s_D_sheet_22, s_D_sheet_25, s_D_sheet_26, s_D_sheet_29, s_D_sheet_30, s_D_sheet_31, s_D_sheet_32, s_D_sheet_33, s_D_sheet_36, s_D_sheet_37, s_D_sheet_38, s_D_sheet_39, s_D_sheet_41, s_D_sheet_44, s_D_sheet_46, s_D_sheet_47, s_D_sheet_48, s_D_sheet_51, s_D_sheet_53, s_D_sheet_54, s_D_sheet_55, s_D_sheet_58, s_D_sheet_59, s_D_sheet_60, s_D_sheet_61, s_D_sheet_62, s_D_sheet_65, s_D_sheet_66, c_D_isOf, c_D_within]
      grind
    · refine (Cl_iff rfl).trans ?_
      show Go (k + 8) 118 R 0 [vR 241, vI a, vI b, vI n, vU] [] (SH L) (rset d 242 P) ↔ _
      clear h hX
      simp only [s_M_sheet_0, s_M_sheet_1, s_M_sheet_2, s_M_sheet_3, s_M_sheet_6, s_M_sheet_9, s_M_sheet_10, s_M_sheet_11, s_M_sheet_12, s_M_sheet_15, s_M_sheet_19, s_M_sheet_20, s_M_sheet_23, s_M_sheet_24, s_M_sheet_26, s_M_sheet_29, s_M_sheet_31, s_M_sheet_33, s_M_sheet_34, s_M_sheet_37, s_M_sheet_38, s_M_sheet_41, s_M_sheet_43, s_M_sheet_44, s_M_sheet_45, s_M_sheet_48, s_M_sheet_49, s_M_sheet_50, s_M_sheet_51, s_M_sheet_52, s_M_sheet_55, s_M_sheet_56, s_M_sheet_57, s_M_sheet_58, s_M_sheet_61, s_M_sheet_62, s_M_sheet_65, s_M_sheet_66, s_M_sheet_67, s_M_sheet_68, s_M_sheet_70, s_M_sheet_72, s_M_sheet_74, s_M_sheet_77, s_M_sheet_78, s_M_sheet_81, s_M_sheet_83, s_M_sheet_84, s_M_sheet_85, s_M_sheet_87, s_M_sheet_88, s_M_sheet_89, s_M_sheet_90, s_M_sheet_93, s_M_sheet_96, s_M_sheet_97, c_M_within]
      grind
theorem c_M_cell {i : Nat} {v : Int} (ht : t < 4) (hi : (i : Int) < d 272 t) (h40 : d 272 t ≤ 40) (hm : ¬ d 271 t = -1) : Cl (k + 9) 119 [vR 241, vI (t : Int), vI (i : Int), vI v] (SH L) d R ↔ R (vI 1) (SH L) (ups d 273 (40 * t + i) (putS (d 271 t) v)) := by
  refine (Cl_iff rfl).trans ?_
  show Go (k + 8) 119 R 0 [vR 241, vI (t : Int), vI (i : Int), vI v] [] (SH L) d ↔ _
  simp (disch := omega) only [s_M_cell_0, s_M_cell_1, s_M_cell_2, s_M_cell_3, s_M_cell_6, s_M_cell_9, s_M_cell_11, s_M_cell_12, s_M_cell_13, s_M_cell_16, s_M_cell_17, s_M_cell_18, s_M_cell_19, s_M_cell_22, s_M_cell_24, s_M_cell_25, s_M_cell_26, s_M_cell_27, s_M_cell_28, s_M_cell_31, s_M_cell_32, s_M_cell_33, s_M_cell_34, s_M_cell_35, s_M_cell_38, s_M_cell_41, s_M_cell_43, s_M_cell_44, s_M_cell_45, s_M_cell_48, s_M_cell_50, s_M_cell_51, s_M_cell_52, s_M_cell_53, s_M_cell_54, s_M_cell_55, s_M_cell_58, s_M_cell_59, s_M_cell_60, s_M_cell_63, s_M_cell_64, s_M_cell_65, s_M_cell_68, s_M_cell_69, s_M_cell_72, s_M_cell_73, s_M_cell_74, s_M_cell_75, s_M_cell_78, s_M_cell_79, s_M_cell_80, s_M_cell_83, s_M_cell_84, s_M_cell_85, s_M_cell_86, c_M_within, k_1, n_1, k_241, r_241_0, r_241_2, r_241_4, r_241_5, r_241_6, r_241_7, r_241_9, r_241_10, r_241_11, r_241_12, r_241_14, r_241_15, r_241_16, r_241_19, r_241_20, r_241_22, r_241_23, r_241_24, r_241_25, r_241_27, r_241_28, r_241_29, r_241_30, r_241_31, r_241_33, r_241_34, r_241_37, r_241_38, r_241_39, r_241_40, r_241_41, r_241_42, r_241_43, r_241_44, r_241_49, r_241_50, r_241_54, k_242, n_242, k_243, n_243, k_244, n_244, k_245, n_245, k_246, n_246, k_247, n_247, k_248, n_248, k_249, n_249, k_250, n_250, k_251, n_251, k_252, n_252, k_253, n_253, k_254, n_254, k_255, n_255, k_256, n_256, k_257, n_257, k_258, n_258, k_259, n_259, k_260, n_260, k_261, n_261, k_262, n_262, k_263, n_263, k_264, n_264, k_265, n_265, k_266, n_266, k_267, n_267, k_268, n_268, k_269, n_269, k_270, n_270, k_271, n_271, k_272, n_272, k_273, n_273, k_274, n_274, k_275, n_275, k_276, n_276, k_277, n_277, k_278, n_278, ld20, wx_40, wr_m1, le_T, lt_T, le_F, lt_F, Int.toNat_natCast, true_and, and_true, true_implies, false_implies, not_true_eq_false, not_false_eq_true, implies_true, putS]
  grind
theorem ok_cell {a i v : Int} (h : HV s d) (hr : -2147483648 ≤ i ∧ i ≤ 2147483647) : Ok2 L (k + 9) 31 119 [vI a, vI i, vI v] s d := by
  obtain ⟨e, P, h⟩ := h
  have hX := h.2.2.2.2.2.2.2.2.2.2
  have w1 : Unit → wrl (i + 1) = i + 1 := fun _ => wl_of (by omega)
  by_cases g0 : 0 ≤ a ∧ a < 4
  · obtain ⟨t, rfl⟩ : ∃ t : Nat, a = (t : Int) := ⟨a.toNat, by omega⟩
    have ht : t < 4 := by omega
    obtain ⟨x1, x2, x3, x4, x5, x6⟩ := hX.2.2.1 t ht
    by_cases g1 : d 271 t = -1
    · refine ok_tell (n := -11) h (fun R => ?_) (fun R => ?_)
      · refine (Cl_iff rfl).trans ?_
        show Go (k + 8) 31 R 0 [vR 10, vI (t : Int), vI i, vI v] [] (SH L) d ↔ _
        rw [g1] at x1
        clear h hX x2 x5 x6 w1
        simp (disch := omega) only [s_D_cell_0, s_D_cell_1, s_D_cell_2, s_D_cell_5, s_D_cell_8, s_D_cell_10, s_D_cell_11, s_D_cell_12, s_D_cell_15, s_D_cell_16, s_D_cell_17, s_D_cell_20, s_D_cell_23, s_D_cell_25, s_D_cell_27, s_D_cell_30, s_D_cell_31, s_D_cell_32, s_D_cell_33, s_D_cell_34, s_D_cell_35, s_D_cell_38, s_D_cell_41, s_D_cell_43, s_D_cell_44, s_D_cell_45, s_D_cell_48, s_D_cell_49, s_D_cell_50, s_D_cell_51, s_D_cell_52, s_D_cell_55, s_D_cell_56, c_D_isOf, c_S_isMissing ht, x1, k_1, n_1, k_2, n_2, k_3, n_3, k_4, n_4, k_5, n_5, k_6, n_6, k_7, n_7, k_8, n_8, k_9, n_9, k_10, r_10_0, r_10_1, r_10_2, r_10_3, r_10_4, r_10_5, k_11, r_11_5, r_11_6, r_11_7, r_11_8, r_11_9, r_11_10, r_11_11, r_11_12, r_11_13, r_11_14, r_11_15, r_11_16, k_12, n_12, k_13, n_13, k_14, n_14, k_15, n_15, k_16, n_16, k_17, n_17, k_18, n_18, k_19, n_19, k_20, n_20, k_21, n_21, k_22, n_22, k_23, n_23, k_24, r_24_3, r_24_4, r_24_5, r_24_6, r_24_7, r_24_8, r_24_9, r_24_10, r_24_11, r_24_12, r_24_13, k_25, n_25, k_26, n_26, k_27, n_27, k_28, n_28, k_29, n_29, k_30, n_30, k_31, n_31, k_32, n_32, k_33, n_33, k_34, n_34, k_35, n_35, k_36, r_36_0, r_36_3, r_36_4, r_36_5, r_36_6, r_36_7, k_37, n_37, k_38, n_38, k_39, n_39, r_39_0, r_39_1, r_39_2, r_39_3, r_39_4, r_39_5, k_40, n_40, k_41, n_41, k_42, n_42, k_43, n_43, k_44, n_44, k_45, n_45, k_46, n_46, k_47, n_47, k_48, r_48_0, r_48_1, r_48_5, k_49, n_49, k_50, n_50, k_51, n_51, k_52, r_52_0, r_52_1, r_52_2, r_52_3, r_52_4, r_52_5, r_52_6, r_52_7, r_52_8, r_52_9, r_52_10, r_52_11, r_52_12, r_52_13, k_53, r_53_0, r_53_1, r_53_2, r_53_3, r_53_4, r_53_5, r_53_6, k_54, n_54, k_55, n_55, k_56, n_56, k_57, n_57, k_58, n_58, k_59, n_59, k_60, n_60, k_61, r_61_0, r_61_1, r_61_2, r_61_3, k_62, n_62, k_63, n_63, k_64, n_64, k_65, n_65, k_66, r_66_0, r_66_1, r_66_2, r_66_3, r_66_4, r_66_5, k_67, n_67, k_68, n_68, k_69, n_69, k_70, n_70, k_71, n_71, k_72, n_72, k_73, n_73, k_74, n_74, k_75, n_75, k_76, n_76, k_77, n_77, k_78, n_78, k_79, n_79, k_80, n_80, k_81, r_81_0, r_81_1, r_81_2, r_81_3, r_81_4, r_81_9, r_81_10, k_82, n_82, r_82_0, r_82_1, r_82_2, r_82_3, k_83, n_83, k_84, n_84, k_85, n_85, k_86, n_86, k_87, r_87_0, r_87_1, r_87_2, r_87_3, r_87_4, r_87_5, r_87_6, r_87_7, r_87_8, r_87_9, r_87_10, r_87_11, r_87_12, r_87_13, k_116, r_116_0, r_116_1, r_116_2, r_116_3, r_116_4, r_116_5, r_116_6, r_116_7, r_116_8, r_116_9, r_116_10, r_116_11, r_116_12, r_116_13, k_145, r_145_0, r_145_1, r_145_2, r_145_3, r_145_4, r_145_5, r_145_6, r_145_7, r_145_8, r_145_9, r_145_10, r_145_11, r_145_12, r_145_13, k_174, r_174_0, r_174_1, r_174_2, r_174_3, r_174_4, r_174_5, r_174_6, r_174_7, r_174_8, r_174_9, r_174_10, r_174_11, r_174_12, r_174_13, k_203, r_203_0, r_203_1, r_203_2, r_203_3, r_203_4, r_203_5, r_203_6, r_203_7, r_203_8, r_203_9, r_203_10, r_203_11, r_203_12, r_203_13, k_232, n_232, r_232_0, r_232_1, r_232_2, r_232_3, k_233, r_233_2, k_234, n_234, k_235, r_235_2, k_236, n_236, k_237, r_237_2, k_238, n_238, k_239, r_239_2, k_240, n_240, lq23, r232 ht, k233 ht, le_T, lt_T, le_F, lt_F, Int.toNat_natCast, true_and, and_true, true_implies, false_implies, not_true_eq_false, not_false_eq_true, implies_true, cat_n, cat_i, cat_r, cat_l, Nat.ble_eq, Nat.reduceAdd, Nat.reduceLeDiff]
        grind
      · refine (Cl_iff rfl).trans ?_
        show Go (k + 8) 119 R 0 [vR 241, vI (t : Int), vI i, vI v] [] (SH L) (rset d 242 P) ↔ _
        clear h hX x1 x2 x5 x6 w1
        simp (disch := omega) only [s_M_cell_0, s_M_cell_1, s_M_cell_2, s_M_cell_3, s_M_cell_6, s_M_cell_9, s_M_cell_11, s_M_cell_12, s_M_cell_13, s_M_cell_16, s_M_cell_17, s_M_cell_18, s_M_cell_19, s_M_cell_22, s_M_cell_24, s_M_cell_26, s_M_cell_27, s_M_cell_28, s_M_cell_31, s_M_cell_32, s_M_cell_33, s_M_cell_34, s_M_cell_35, s_M_cell_38, s_M_cell_41, s_M_cell_43, s_M_cell_44, s_M_cell_45, s_M_cell_48, s_M_cell_50, s_M_cell_51, s_M_cell_52, s_M_cell_53, s_M_cell_54, s_M_cell_55, s_M_cell_58, s_M_cell_59, s_M_cell_60, s_M_cell_63, s_M_cell_64, s_M_cell_65, s_M_cell_68, s_M_cell_69, s_M_cell_72, s_M_cell_73, s_M_cell_74, s_M_cell_75, s_M_cell_78, s_M_cell_79, s_M_cell_80, s_M_cell_83, s_M_cell_84, s_M_cell_85, s_M_cell_86, c_M_within, k_1, n_1, k_241, r_241_0, r_241_2, r_241_4, r_241_5, r_241_6, r_241_7, r_241_9, r_241_10, r_241_11, r_241_12, r_241_14, r_241_15, r_241_16, r_241_19, r_241_20, r_241_22, r_241_23, r_241_24, r_241_25, r_241_27, r_241_28, r_241_29, r_241_30, r_241_31, r_241_33, r_241_34, r_241_37, r_241_38, r_241_39, r_241_40, r_241_41, r_241_42, r_241_43, r_241_44, r_241_49, r_241_50, r_241_54, k_242, n_242, k_243, n_243, k_244, n_244, k_245, n_245, k_246, n_246, k_247, n_247, k_248, n_248, k_249, n_249, k_250, n_250, k_251, n_251, k_252, n_252, k_253, n_253, k_254, n_254, k_255, n_255, k_256, n_256, k_257, n_257, k_258, n_258, k_259, n_259, k_260, n_260, k_261, n_261, k_262, n_262, k_263, n_263, k_264, n_264, k_265, n_265, k_266, n_266, k_267, n_267, k_268, n_268, k_269, n_269, k_270, n_270, k_271, n_271, k_272, n_272, k_273, n_273, k_274, n_274, k_275, n_275, k_276, n_276, k_277, n_277, k_278, n_278, rs_ne, ld20, g1, le_T, lt_T, le_F, lt_F, Int.toNat_natCast, true_and, and_true, true_implies, false_implies, not_true_eq_false, not_false_eq_true, implies_true]
        grind
    · by_cases g2 : 0 ≤ i ∧ i < d 272 t
      · obtain ⟨j, rfl⟩ : ∃ j : Nat, i = (j : Int) := ⟨i.toNat, by omega⟩
        have key : ∀ R : RT, R (vI 1) (SH L) (ups d (234 + 2 * t) j (putS (d 271 t) v)) → Cl (k + 9) 31 [vR 10, vI (t : Int), vI (j : Int), vI v] (SH L) d R := by
          intro R hr2
          refine Cl_succ rfl ?_
          show Go (k + 8) 31 R 0 [vR 10, vI (t : Int), vI (j : Int), vI v] [] (SH L) d
          have pu := fun (Q : RT) => c_S_put (k := k + 7) (L := L) (d := d) (R := Q) (v := v) (i := j) ht (by omega)
          rw [x1] at pu
          clear h hX x5 x6
          simp (disch := omega) only [s_D_cell_0, s_D_cell_1, s_D_cell_2, s_D_cell_5, s_D_cell_8, s_D_cell_10, s_D_cell_11, s_D_cell_12, s_D_cell_15, s_D_cell_16, s_D_cell_17, s_D_cell_20, s_D_cell_23, s_D_cell_25, s_D_cell_26, s_D_cell_27, s_D_cell_30, s_D_cell_31, s_D_cell_32, s_D_cell_33, s_D_cell_34, s_D_cell_35, s_D_cell_38, s_D_cell_41, s_D_cell_43, s_D_cell_44, s_D_cell_45, s_D_cell_48, s_D_cell_49, s_D_cell_50, s_D_cell_51, s_D_cell_52, s_D_cell_55, s_D_cell_56, c_D_isOf, c_S_isMissing ht, c_S_holds ht, w1 (), x1, x2, pu, k_1, n_1, k_2, n_2, k_3, n_3, k_4, n_4, k_5, n_5, k_6, n_6, k_7, n_7, k_8, n_8, k_9, n_9, k_10, r_10_0, r_10_1, r_10_2, r_10_3, r_10_4, r_10_5, k_11, r_11_5, r_11_6, r_11_7, r_11_8, r_11_9, r_11_10, r_11_11, r_11_12, r_11_13, r_11_14, r_11_15, r_11_16, k_12, n_12, k_13, n_13, k_14, n_14, k_15, n_15, k_16, n_16, k_17, n_17, k_18, n_18, k_19, n_19, k_20, n_20, k_21, n_21, k_22, n_22, k_23, n_23, k_24, r_24_3, r_24_4, r_24_5, r_24_6, r_24_7, r_24_8, r_24_9, r_24_10, r_24_11, r_24_12, r_24_13, k_25, n_25, k_26, n_26, k_27, n_27, k_28, n_28, k_29, n_29, k_30, n_30, k_31, n_31, k_32, n_32, k_33, n_33, k_34, n_34, k_35, n_35, k_36, r_36_0, r_36_3, r_36_4, r_36_5, r_36_6, r_36_7, k_37, n_37, k_38, n_38, k_39, n_39, r_39_0, r_39_1, r_39_2, r_39_3, r_39_4, r_39_5, k_40, n_40, k_41, n_41, k_42, n_42, k_43, n_43, k_44, n_44, k_45, n_45, k_46, n_46, k_47, n_47, k_48, r_48_0, r_48_1, r_48_5, k_49, n_49, k_50, n_50, k_51, n_51, k_52, r_52_0, r_52_1, r_52_2, r_52_3, r_52_4, r_52_5, r_52_6, r_52_7, r_52_8, r_52_9, r_52_10, r_52_11, r_52_12, r_52_13, k_53, r_53_0, r_53_1, r_53_2, r_53_3, r_53_4, r_53_5, r_53_6, k_54, n_54, k_55, n_55, k_56, n_56, k_57, n_57, k_58, n_58, k_59, n_59, k_60, n_60, k_61, r_61_0, r_61_1, r_61_2, r_61_3, k_62, n_62, k_63, n_63, k_64, n_64, k_65, n_65, k_66, r_66_0, r_66_1, r_66_2, r_66_3, r_66_4, r_66_5, k_67, n_67, k_68, n_68, k_69, n_69, k_70, n_70, k_71, n_71, k_72, n_72, k_73, n_73, k_74, n_74, k_75, n_75, k_76, n_76, k_77, n_77, k_78, n_78, k_79, n_79, k_80, n_80, k_81, r_81_0, r_81_1, r_81_2, r_81_3, r_81_4, r_81_9, r_81_10, k_82, n_82, r_82_0, r_82_1, r_82_2, r_82_3, k_83, n_83, k_84, n_84, k_85, n_85, k_86, n_86, k_87, r_87_0, r_87_1, r_87_2, r_87_3, r_87_4, r_87_5, r_87_6, r_87_7, r_87_8, r_87_9, r_87_10, r_87_11, r_87_12, r_87_13, k_116, r_116_0, r_116_1, r_116_2, r_116_3, r_116_4, r_116_5, r_116_6, r_116_7, r_116_8, r_116_9, r_116_10, r_116_11, r_116_12, r_116_13, k_145, r_145_0, r_145_1, r_145_2, r_145_3, r_145_4, r_145_5, r_145_6, r_145_7, r_145_8, r_145_9, r_145_10, r_145_11, r_145_12, r_145_13, k_174, r_174_0, r_174_1, r_174_2, r_174_3, r_174_4, r_174_5, r_174_6, r_174_7, r_174_8, r_174_9, r_174_10, r_174_11, r_174_12, r_174_13, k_203, r_203_0, r_203_1, r_203_2, r_203_3, r_203_4, r_203_5, r_203_6, r_203_7, r_203_8, r_203_9, r_203_10, r_203_11, r_203_12, r_203_13, k_232, n_232, r_232_0, r_232_1, r_232_2, r_232_3, k_233, r_233_2, k_234, n_234, k_235, r_235_2, k_236, n_236, k_237, r_237_2, k_238, n_238, k_239, r_239_2, k_240, n_240, lq23, r232 ht, k233 ht, le_T, lt_T, le_F, lt_F, Int.toNat_natCast, true_and, and_true, true_implies, false_implies, not_true_eq_false, not_false_eq_true, implies_true, cat_n, cat_i, cat_r, cat_l, Nat.ble_eq, Nat.reduceAdd, Nat.reduceLeDiff]
          clear pu w1
          grind
        have f : ∀ a, ¬ a = 234 + 2 * t → ups d (234 + 2 * t) j (putS (d 271 t) v) a = d a := fun a q => ups_ne q
        have f1 : ups d (234 + 2 * t) j (putS (d 271 t) v) (234 + 2 * t) = fset (d (234 + 2 * t)) j (putS (d 271 t) v) := ups_same
        refine key _ ⟨rfl, ?_, ⟨_, rfl⟩, ?_⟩
        · rw [f 1 (by omega)]
          exact h.1
        generalize ups d (234 + 2 * t) j (putS (d 271 t) v) = D at *
        refine (c_M_cell ht (by rw [f 272 (by omega)]; omega) (by rw [f 272 (by omega)]; omega) (by rw [f 271 (by omega)]; exact g1)).mpr ⟨rfl, rfl, e, P, ?_⟩
        have g : ∀ a, ¬ a = 273 → ups D 273 (40 * t + j) (putS (D 271 t) v) a = D a := fun a q => ups_ne q
        have e3 : ups D 273 (40 * t + j) (putS (D 271 t) v) 273 = fset (D 273) (40 * t + j) (putS (D 271 t) v) := ups_same
        generalize ups D 273 (40 * t + j) (putS (D 271 t) v) = D2 at *
        refine HE_xs h (fun a ha => by rw [g a (by omega), f a (by omega)]) (by rw [g 36 (by omega), f 36 (by omega)]) (fun i _ => by rw [g 241 (by omega), f 241 (by omega)]) (XS_sh (t := t) hX (fun a ha => by rw [g a (by omega), f a (by omega)]) ht (fun a a1 a2 a3 a4 => by rw [g a (by omega), f a a4]) (fun u hu hn => ?_) ?_)
        · rw [g 271 (by omega), g 272 (by omega), e3, f 271 (by omega), f 272 (by omega), f 273 (by omega)]
          exact ⟨rfl, rfl, fun i hi => fs_ne (by omega)⟩
        · rw [g (233 + 2 * t) (by omega), g (234 + 2 * t) (by omega), g 271 (by omega), g 272 (by omega), e3, f (233 + 2 * t) (by omega), f1, f 271 (by omega), f 272 (by omega), f 273 (by omega)]
          refine ⟨x1, x2, x3, x4, x5, fun i hi => ?_⟩
          rw [fs_rd, fs_rd, x6 i hi]
          by_cases y : i = j
          · rw [if_pos y, if_pos (by omega)]
          · rw [if_neg y, if_neg (by omega)]
      · refine ok_tell (n := -12) h (fun R => ?_) (fun R => ?_)
        · refine (Cl_iff rfl).trans ?_
          show Go (k + 8) 31 R 0 [vR 10, vI (t : Int), vI i, vI v] [] (SH L) d ↔ _
          clear h hX x5 x6
          simp (disch := omega) only [s_D_cell_0, s_D_cell_1, s_D_cell_2, s_D_cell_5, s_D_cell_8, s_D_cell_10, s_D_cell_11, s_D_cell_12, s_D_cell_15, s_D_cell_16, s_D_cell_17, s_D_cell_20, s_D_cell_23, s_D_cell_25, s_D_cell_26, s_D_cell_27, s_D_cell_30, s_D_cell_31, s_D_cell_32, s_D_cell_33, s_D_cell_34, s_D_cell_35, s_D_cell_38, s_D_cell_41, s_D_cell_43, s_D_cell_45, s_D_cell_48, s_D_cell_49, s_D_cell_50, s_D_cell_51, s_D_cell_52, s_D_cell_55, s_D_cell_56, c_D_isOf, c_S_isMissing ht, c_S_holds ht, w1 (), x1, x2, k_1, n_1, k_2, n_2, k_3, n_3, k_4, n_4, k_5, n_5, k_6, n_6, k_7, n_7, k_8, n_8, k_9, n_9, k_10, r_10_0, r_10_1, r_10_2, r_10_3, r_10_4, r_10_5, k_11, r_11_5, r_11_6, r_11_7, r_11_8, r_11_9, r_11_10, r_11_11, r_11_12, r_11_13, r_11_14, r_11_15, r_11_16, k_12, n_12, k_13, n_13, k_14, n_14, k_15, n_15, k_16, n_16, k_17, n_17, k_18, n_18, k_19, n_19, k_20, n_20, k_21, n_21, k_22, n_22, k_23, n_23, k_24, r_24_3, r_24_4, r_24_5, r_24_6, r_24_7, r_24_8, r_24_9, r_24_10, r_24_11, r_24_12, r_24_13, k_25, n_25, k_26, n_26, k_27, n_27, k_28, n_28, k_29, n_29, k_30, n_30, k_31, n_31, k_32, n_32, k_33, n_33, k_34, n_34, k_35, n_35, k_36, r_36_0, r_36_3, r_36_4, r_36_5, r_36_6, r_36_7, k_37, n_37, k_38, n_38, k_39, n_39, r_39_0, r_39_1, r_39_2, r_39_3, r_39_4, r_39_5, k_40, n_40, k_41, n_41, k_42, n_42, k_43, n_43, k_44, n_44, k_45, n_45, k_46, n_46, k_47, n_47, k_48, r_48_0, r_48_1, r_48_5, k_49, n_49, k_50, n_50, k_51, n_51, k_52, r_52_0, r_52_1, r_52_2, r_52_3, r_52_4, r_52_5, r_52_6, r_52_7, r_52_8, r_52_9, r_52_10, r_52_11, r_52_12, r_52_13, k_53, r_53_0, r_53_1, r_53_2, r_53_3, r_53_4, r_53_5, r_53_6, k_54, n_54, k_55, n_55, k_56, n_56, k_57, n_57, k_58, n_58, k_59, n_59, k_60, n_60, k_61, r_61_0, r_61_1, r_61_2, r_61_3, k_62, n_62, k_63, n_63, k_64, n_64, k_65, n_65, k_66, r_66_0, r_66_1, r_66_2, r_66_3, r_66_4, r_66_5, k_67, n_67, k_68, n_68, k_69, n_69, k_70, n_70, k_71, n_71, k_72, n_72, k_73, n_73, k_74, n_74, k_75, n_75, k_76, n_76, k_77, n_77, k_78, n_78, k_79, n_79, k_80, n_80, k_81, r_81_0, r_81_1, r_81_2, r_81_3, r_81_4, r_81_9, r_81_10, k_82, n_82, r_82_0, r_82_1, r_82_2, r_82_3, k_83, n_83, k_84, n_84, k_85, n_85, k_86, n_86, k_87, r_87_0, r_87_1, r_87_2, r_87_3, r_87_4, r_87_5, r_87_6, r_87_7, r_87_8, r_87_9, r_87_10, r_87_11, r_87_12, r_87_13, k_116, r_116_0, r_116_1, r_116_2, r_116_3, r_116_4, r_116_5, r_116_6, r_116_7, r_116_8, r_116_9, r_116_10, r_116_11, r_116_12, r_116_13, k_145, r_145_0, r_145_1, r_145_2, r_145_3, r_145_4, r_145_5, r_145_6, r_145_7, r_145_8, r_145_9, r_145_10, r_145_11, r_145_12, r_145_13, k_174, r_174_0, r_174_1, r_174_2, r_174_3, r_174_4, r_174_5, r_174_6, r_174_7, r_174_8, r_174_9, r_174_10, r_174_11, r_174_12, r_174_13, k_203, r_203_0, r_203_1, r_203_2, r_203_3, r_203_4, r_203_5, r_203_6, r_203_7, r_203_8, r_203_9, r_203_10, r_203_11, r_203_12, r_203_13, k_232, n_232, r_232_0, r_232_1, r_232_2, r_232_3, k_233, r_233_2, k_234, n_234, k_235, r_235_2, k_236, n_236, k_237, r_237_2, k_238, n_238, k_239, r_239_2, k_240, n_240, lq23, r232 ht, k233 ht, le_T, lt_T, le_F, lt_F, Int.toNat_natCast, true_and, and_true, true_implies, false_implies, not_true_eq_false, not_false_eq_true, implies_true, cat_n, cat_i, cat_r, cat_l, Nat.ble_eq, Nat.reduceAdd, Nat.reduceLeDiff]
          clear w1
          grind
        · refine (Cl_iff rfl).trans ?_
          show Go (k + 8) 119 R 0 [vR 241, vI (t : Int), vI i, vI v] [] (SH L) (rset d 242 P) ↔ _
          have w2 : Unit → wr (d 272 t - 1) = d 272 t - 1 := fun _ => wr_of (by omega)
          clear h hX x1 x2 x5 x6 w1
          simp (disch := omega) only [s_M_cell_0, s_M_cell_1, s_M_cell_2, s_M_cell_3, s_M_cell_6, s_M_cell_9, s_M_cell_11, s_M_cell_12, s_M_cell_13, s_M_cell_16, s_M_cell_17, s_M_cell_18, s_M_cell_19, s_M_cell_22, s_M_cell_24, s_M_cell_25, s_M_cell_26, s_M_cell_27, s_M_cell_28, s_M_cell_31, s_M_cell_32, s_M_cell_33, s_M_cell_34, s_M_cell_35, s_M_cell_38, s_M_cell_41, s_M_cell_43, s_M_cell_45, s_M_cell_48, s_M_cell_50, s_M_cell_51, s_M_cell_52, s_M_cell_53, s_M_cell_54, s_M_cell_55, s_M_cell_58, s_M_cell_59, s_M_cell_60, s_M_cell_63, s_M_cell_64, s_M_cell_65, s_M_cell_68, s_M_cell_69, s_M_cell_72, s_M_cell_73, s_M_cell_74, s_M_cell_75, s_M_cell_78, s_M_cell_79, s_M_cell_80, s_M_cell_83, s_M_cell_84, s_M_cell_85, s_M_cell_86, c_M_within, k_1, n_1, k_241, r_241_0, r_241_2, r_241_4, r_241_5, r_241_6, r_241_7, r_241_9, r_241_10, r_241_11, r_241_12, r_241_14, r_241_15, r_241_16, r_241_19, r_241_20, r_241_22, r_241_23, r_241_24, r_241_25, r_241_27, r_241_28, r_241_29, r_241_30, r_241_31, r_241_33, r_241_34, r_241_37, r_241_38, r_241_39, r_241_40, r_241_41, r_241_42, r_241_43, r_241_44, r_241_49, r_241_50, r_241_54, k_242, n_242, k_243, n_243, k_244, n_244, k_245, n_245, k_246, n_246, k_247, n_247, k_248, n_248, k_249, n_249, k_250, n_250, k_251, n_251, k_252, n_252, k_253, n_253, k_254, n_254, k_255, n_255, k_256, n_256, k_257, n_257, k_258, n_258, k_259, n_259, k_260, n_260, k_261, n_261, k_262, n_262, k_263, n_263, k_264, n_264, k_265, n_265, k_266, n_266, k_267, n_267, k_268, n_268, k_269, n_269, k_270, n_270, k_271, n_271, k_272, n_272, k_273, n_273, k_274, n_274, k_275, n_275, k_276, n_276, k_277, n_277, k_278, n_278, rs_ne, ld20, w2 (), le_T, lt_T, le_F, lt_F, Int.toNat_natCast, true_and, and_true, true_implies, false_implies, not_true_eq_false, not_false_eq_true, implies_true]
          clear w2
          grind
  · refine ok_tell (n := -2) h (fun R => ?_) (fun R => ?_)
    · refine (Cl_iff rfl).trans ?_
      show Go (k + 8) 31 R 0 [vR 10, vI a, vI i, vI v] [] (SH L) d ↔ _
      clear h hX w1
      simp only [s_D_cell_0, s_D_cell_1, s_D_cell_2, s_D_cell_5, s_D_cell_8, s_D_cell_10, s_D_cell_12, s_D_cell_15, s_D_cell_16, s_D_cell_17, s_D_cell_20, s_D_cell_23, s_D_cell_25, s_D_cell_26, s_D_cell_27, s_D_cell_30, s_D_cell_31, s_D_cell_32, s_D_cell_33, s_D_cell_34, s_D_cell_35, s_D_cell_38, s_D_cell_41, s_D_cell_43, s_D_cell_44, s_D_cell_45, s_D_cell_48, s_D_cell_49, s_D_cell_50, s_D_cell_51, s_D_cell_52, s_D_cell_55, s_D_cell_56, c_D_isOf]
      grind
    · refine (Cl_iff rfl).trans ?_
      show Go (k + 8) 119 R 0 [vR 241, vI a, vI i, vI v] [] (SH L) (rset d 242 P) ↔ _
      clear h hX w1
      simp only [s_M_cell_0, s_M_cell_1, s_M_cell_2, s_M_cell_3, s_M_cell_6, s_M_cell_9, s_M_cell_11, s_M_cell_13, s_M_cell_16, s_M_cell_17, s_M_cell_18, s_M_cell_19, s_M_cell_22, s_M_cell_24, s_M_cell_25, s_M_cell_26, s_M_cell_27, s_M_cell_28, s_M_cell_31, s_M_cell_32, s_M_cell_33, s_M_cell_34, s_M_cell_35, s_M_cell_38, s_M_cell_41, s_M_cell_43, s_M_cell_44, s_M_cell_45, s_M_cell_48, s_M_cell_50, s_M_cell_51, s_M_cell_52, s_M_cell_53, s_M_cell_54, s_M_cell_55, s_M_cell_58, s_M_cell_59, s_M_cell_60, s_M_cell_63, s_M_cell_64, s_M_cell_65, s_M_cell_68, s_M_cell_69, s_M_cell_72, s_M_cell_73, s_M_cell_74, s_M_cell_75, s_M_cell_78, s_M_cell_79, s_M_cell_80, s_M_cell_83, s_M_cell_84, s_M_cell_85, s_M_cell_86, c_M_within]
      grind
end
