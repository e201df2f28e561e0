/-! the calls by which more is told (printed by gen23.py) -/
theorem XS_up {d d' : Dat} (h : XS d) (f : ∀ a, (a = 8 ∨ a = 9 ∨ a = 36 ∨ a = 37 ∨ a = 81 ∨ a = 86 ∨ (233 ≤ a ∧ a ≤ 240) ∨ a = 266 ∨ a = 267 ∨ a = 271 ∨ a = 272 ∨ a = 273 ∨ a = 276) → d' a = d a) (f1 : d' 241 32 = d 241 32) (f2 : d' 241 35 = d 241 35) : XS d' := by
  unfold XS at h ⊢
  rw [f1, f2, f 8 (by omega), f 9 (by omega), f 276 (by omega), f 36 (by omega), f 37 (by omega), f 267 (by omega), f 81 (by omega), f 86 (by omega), f 266 (by omega), f 271 (by omega), f 272 (by omega), f 273 (by omega)]
  refine ⟨h.1, h.2.1, fun s hs => ?_, h.2.2.2⟩
  rw [f (233 + 2 * s) (by omega), f (234 + 2 * s) (by omega)]
  exact h.2.2.1 s hs
theorem if10 {p : Prop} [Decidable p] : ((if p then (1 : Int) else 0) = 0) = ¬ p := by
  by_cases h : p
  · rw [if_pos h]
    exact propext ⟨fun z => absurd z (by decide), fun z => absurd h z⟩
  · rw [if_neg h]
    exact propext ⟨fun _ => h, fun _ => rfl⟩
theorem wr_1p {n : Int} (h : 0 ≤ n ∧ n < 5000) : wr (n + 1) = n + 1 := wr_of (by omega)
theorem wr_1m {n : Int} (h : 0 ≤ n ∧ n < 5000) : wr (n + 1 - 1) = n := by
  rw [wr_of (by omega)]
  omega
section
variable {L k : Nat} {s : Row} {d e : Dat} {P : Row} {R : RT}
theorem c_M_isNode2 {n : Int} (hM : FM d e) (hE : WE e) : Cl (k + 2) 39 [vR 241, vI n] (SH L) d R ↔ R (vI (if 0 ≤ n ∧ n < e 241 1 then 1 else 0)) (SH L) d := by
  have := c_M_isNode (k := k) (L := L) (d := d) (P := d 242) (R := R) (n := n) hM hE
  rwa [rs_self] at this
theorem c_M_isText2 {n : Int} (hM : FM d e) (hE : WE e) : Cl (k + 2) 90 [vR 241, vI n] (SH L) d R ↔ R (vI (if 0 ≤ n ∧ n < e 241 36 then 1 else 0)) (SH L) d := by
  have := c_M_isText (k := k) (L := L) (d := d) (P := d 242) (R := R) (n := n) hM hE
  rwa [rs_self] at this
theorem c_M_isOf2 {q n : Int} (hM : FM d e) (hE : WE e) : Cl (k + 2) 62 [vR 241, vI q, vI n] (SH L) d R ↔ R (vI (if hasS e q n = true then 1 else 0)) (SH L) d := by
  have := c_M_isOf (k := k) (L := L) (d := d) (P := d 242) (R := R) (q := q) (n := n) hM hE
  rwa [rs_self] at this
theorem c2_D_node {x : Int} (hf : FC d e) (hE : WE e) : Cl (k + 9) 1 [vR 10, vI x] (SH L) d R ↔ (if 0 ≤ x ∧ x ≤ 99 then (if e 241 1 < 14 then R (vI (e 241 1)) (SH L) (ups (ups d 12 (e 241 1).toNat x) 11 0 (e 241 1 + 1)) else R (vI (-4)) (SH L) d) else R (vI (-2)) (SH L) d) := by
  have n0 := we_n hE
  refine (Cl_iff rfl).trans ?_
  show Go (k + 8) 1 R 0 [vR 10, vI x] [] (SH L) d ↔ _
  simp (disch := omega) only [s_D_node_0, s_D_node_1, s_D_node_2, s_D_node_4, s_D_node_7, s_D_node_10, s_D_node_12, s_D_node_13, s_D_node_14, s_D_node_17, s_D_node_20, s_D_node_22, s_D_node_25, s_D_node_27, s_D_node_28, s_D_node_29, s_D_node_32, s_D_node_35, s_D_node_36, s_D_node_39, s_D_node_42, s_D_node_43, s_D_node_44, s_D_node_45, s_D_node_48, s_D_node_49, s_D_node_52, s_D_node_53, s_D_node_54, s_D_node_55, s_D_node_58, c_D_within, c_D_isOf, k_1, n_1, k_2, n_2, k_3, n_3, k_4, n_4, k_5, n_5, k_6, n_6, k_7, n_7, k_8, n_8, k_9, n_9, k_10, r_10_0, r_10_1, r_10_2, r_10_3, r_10_4, r_10_5, k_11, r_11_5, r_11_6, r_11_7, r_11_8, r_11_9, r_11_10, r_11_11, r_11_12, r_11_13, r_11_14, r_11_15, r_11_16, k_12, n_12, k_13, n_13, k_14, n_14, k_15, n_15, k_16, n_16, k_17, n_17, k_18, n_18, k_19, n_19, k_20, n_20, k_21, n_21, k_22, n_22, k_23, n_23, k_24, r_24_3, r_24_4, r_24_5, r_24_6, r_24_7, r_24_8, r_24_9, r_24_10, r_24_11, r_24_12, r_24_13, k_25, n_25, k_26, n_26, k_27, n_27, k_28, n_28, k_29, n_29, k_30, n_30, k_31, n_31, k_32, n_32, k_33, n_33, k_34, n_34, k_35, n_35, k_36, r_36_0, r_36_3, r_36_4, r_36_5, r_36_6, r_36_7, k_37, n_37, k_38, n_38, k_39, n_39, r_39_0, r_39_1, r_39_2, r_39_3, r_39_4, r_39_5, k_40, n_40, k_41, n_41, k_42, n_42, k_43, n_43, k_44, n_44, k_45, n_45, k_46, n_46, k_47, n_47, k_48, r_48_0, r_48_1, r_48_5, k_49, n_49, k_50, n_50, k_51, n_51, k_52, r_52_0, r_52_1, r_52_2, r_52_3, r_52_4, r_52_5, r_52_6, r_52_7, r_52_8, r_52_9, r_52_10, r_52_11, r_52_12, r_52_13, k_53, r_53_0, r_53_1, r_53_2, r_53_3, r_53_4, r_53_5, r_53_6, k_54, n_54, k_55, n_55, k_56, n_56, k_57, n_57, k_58, n_58, k_59, n_59, k_60, n_60, k_61, r_61_0, r_61_1, r_61_2, r_61_3, k_62, n_62, k_63, n_63, k_64, n_64, k_65, n_65, k_66, r_66_0, r_66_1, r_66_2, r_66_3, r_66_4, r_66_5, k_67, n_67, k_68, n_68, k_69, n_69, k_70, n_70, k_71, n_71, k_72, n_72, k_73, n_73, k_74, n_74, k_75, n_75, k_76, n_76, k_77, n_77, k_78, n_78, k_79, n_79, k_80, n_80, k_81, r_81_0, r_81_1, r_81_2, r_81_3, r_81_4, r_81_9, r_81_10, k_82, n_82, r_82_0, r_82_1, r_82_2, r_82_3, k_83, n_83, k_84, n_84, k_85, n_85, k_86, n_86, k_87, r_87_0, r_87_1, r_87_2, r_87_3, r_87_4, r_87_5, r_87_6, r_87_7, r_87_8, r_87_9, r_87_10, r_87_11, r_87_12, r_87_13, k_116, r_116_0, r_116_1, r_116_2, r_116_3, r_116_4, r_116_5, r_116_6, r_116_7, r_116_8, r_116_9, r_116_10, r_116_11, r_116_12, r_116_13, k_145, r_145_0, r_145_1, r_145_2, r_145_3, r_145_4, r_145_5, r_145_6, r_145_7, r_145_8, r_145_9, r_145_10, r_145_11, r_145_12, r_145_13, k_174, r_174_0, r_174_1, r_174_2, r_174_3, r_174_4, r_174_5, r_174_6, r_174_7, r_174_8, r_174_9, r_174_10, r_174_11, r_174_12, r_174_13, k_203, r_203_0, r_203_1, r_203_2, r_203_3, r_203_4, r_203_5, r_203_6, r_203_7, r_203_8, r_203_9, r_203_10, r_203_11, r_203_12, r_203_13, k_232, n_232, r_232_0, r_232_1, r_232_2, r_232_3, k_233, r_233_2, k_234, n_234, k_235, r_235_2, k_236, n_236, k_237, r_237_2, k_238, n_238, k_239, r_239_2, k_240, n_240, ldI, fc_11_0 hf, fc_11_1 hf, fc_11_2 hf, fc_11_3 hf, fc_11_4 hf, fc_24_0 hf, fc_24_1 hf, fc_24_2 hf, fc_36_2 hf, u_ne, u_eq, wr_1p, if10, Classical.not_not]
  clear hf hE
  grind (splits := 60)
theorem c2_M_node {x : Int} (hM : FM d e) (hE : WE e) : Cl (k + 9) 41 [vR 241, vI x] (SH L) d R ↔ (if 0 ≤ x ∧ x ≤ 99 then (if e 241 1 < 14 then R (vI (e 241 1)) (SH L) (ups (ups (ups d 243 (e 241 1).toNat x) 242 (70 + e 241 1).toNat (e 241 1)) 241 1 (e 241 1 + 1)) else R (vI (-4)) (SH L) d) else R (vI (-2)) (SH L) d) := by
  have n0 := we_n hE
  have n1 := we_r hE
  refine (Cl_iff rfl).trans ?_
  show Go (k + 8) 41 R 0 [vR 241, vI x] [] (SH L) d ↔ _
  simp (disch := omega) only [s_M_node_0, s_M_node_1, s_M_node_2, s_M_node_4, s_M_node_7, s_M_node_10, s_M_node_12, s_M_node_13, s_M_node_14, s_M_node_17, s_M_node_19, s_M_node_22, s_M_node_24, s_M_node_25, s_M_node_26, s_M_node_29, s_M_node_30, s_M_node_33, s_M_node_34, s_M_node_35, s_M_node_36, s_M_node_39, s_M_node_41, s_M_node_42, s_M_node_45, s_M_node_46, s_M_node_47, s_M_node_50, s_M_node_51, s_M_node_52, s_M_node_53, s_M_node_56, s_M_node_57, s_M_node_58, s_M_node_61, s_M_node_62, s_M_node_65, s_M_node_66, s_M_node_67, c_M_within, c_M_isNode2 hM hE, c_M_isText2 hM hE, c_M_isOf2 hM hE, k_1, n_1, k_241, r_241_0, r_241_2, r_241_4, r_241_5, r_241_6, r_241_7, r_241_9, r_241_10, r_241_11, r_241_12, r_241_14, r_241_15, r_241_16, r_241_19, r_241_20, r_241_22, r_241_23, r_241_24, r_241_25, r_241_27, r_241_28, r_241_29, r_241_30, r_241_31, r_241_33, r_241_34, r_241_37, r_241_38, r_241_39, r_241_40, r_241_41, r_241_42, r_241_43, r_241_44, r_241_49, r_241_50, r_241_54, k_242, n_242, k_243, n_243, k_244, n_244, k_245, n_245, k_246, n_246, k_247, n_247, k_248, n_248, k_249, n_249, k_250, n_250, k_251, n_251, k_252, n_252, k_253, n_253, k_254, n_254, k_255, n_255, k_256, n_256, k_257, n_257, k_258, n_258, k_259, n_259, k_260, n_260, k_261, n_261, k_262, n_262, k_263, n_263, k_264, n_264, k_265, n_265, k_266, n_266, k_267, n_267, k_268, n_268, k_269, n_269, k_270, n_270, k_271, n_271, k_272, n_272, k_273, n_273, k_274, n_274, k_275, n_275, k_276, n_276, k_277, n_277, k_278, n_278, ldI, fm_1 hM, fm_18 hM, u_ne, u_eq, wr_1p, wr_1m, wr_m1, in_of, wr_ix, if10, Classical.not_not]
  clear hM hE
  grind (splits := 60)
theorem HE_node {x : Int} (h : HE s e P d) (g0 : 0 ≤ x ∧ x ≤ 99) (g1 : e 241 1 < 14) : HE s (ups (ups e 243 (e 241 1).toNat x) 241 1 (e 241 1 + 1)) (fset P (70 + (e 241 1).toNat) (e 241 1)) (ups (ups (ups (ups (ups d 12 (e 241 1).toNat x) 11 0 (e 241 1 + 1)) 243 (e 241 1).toNat x) 242 (70 + e 241 1).toNat (e 241 1)) 241 1 (e 241 1 + 1)) := by
  obtain ⟨h1, h2, hf, hM, hE, hR, hI, h0, hO, hZ, hX⟩ := h
  have nn := we_n hE
  have nl := we_l hE
  have np := we_p hE
  have no := we_o hE
  have nc := we_c hE
  have nr := we_r hE
  have nk := we_k hE
  have ns := we_s hE
  have nt := we_t hE
  refine ⟨h1, by show fset (d 242) (70 + e 241 1).toNat _ = _; rw [h2, tn_70]; omega, by unfold FC; simp (disch := omega) only [ups_same, ups_ne, fs_eq, fs_ne, (fc_11_0 hf), (fc_11_1 hf), (fc_11_2 hf), (fc_11_3 hf), (fc_11_4 hf), (fc_24_0 hf), (fc_24_1 hf), (fc_24_2 hf), (fc_36_2 hf), (fc_12 hf), (fc_13 hf), (fc_14 hf), (fc_15 hf), (fc_16 hf), (fc_17 hf), (fc_18 hf), (fc_19 hf), (fc_20 hf), (fc_21 hf), (fc_22 hf), (fc_23 hf), (fc_25 hf), (fc_26 hf), (fc_27 hf), (fc_28 hf), (fc_29 hf), (fc_30 hf), (fc_31 hf), (fc_32 hf), (fc_33 hf), (fc_34 hf), (fc_35 hf), (fc_2_0 hf), (fc_2_1 hf), (fc_2_2 hf), (fc_2_3 hf), (fc_2_4 hf), (fc_2_5 hf), (fc_3_0 hf), (fc_3_1 hf), (fc_3_2 hf), (fc_3_3 hf), (fc_3_4 hf), (fc_3_5 hf), (fc_4_0 hf), (fc_4_1 hf), (fc_4_2 hf), (fc_4_3 hf), (fc_4_4 hf), (fc_4_5 hf), (fc_5_0 hf), (fc_5_1 hf), (fc_5_2 hf), (fc_5_3 hf), (fc_5_4 hf), (fc_5_5 hf), (fc_6_0 hf), (fc_6_1 hf), (fc_6_2 hf), (fc_6_3 hf), (fc_6_4 hf), (fc_6_5 hf), true_and, and_true], by unfold FM; simp (disch := omega) only [ups_same, ups_ne, fs_eq, fs_ne, (fm_1 hM), (fm_3 hM), (fm_8 hM), (fm_13 hM), (fm_17 hM), (fm_18 hM), (fm_21 hM), (fm_26 hM), (fm_36 hM), (fm_243 hM), (fm_244 hM), (fm_245 hM), (fm_246 hM), (fm_247 hM), (fm_248 hM), (fm_249 hM), (fm_250 hM), (fm_251 hM), (fm_252 hM), (fm_253 hM), (fm_254 hM), (fm_255 hM), (fm_256 hM), (fm_257 hM), (fm_258 hM), (fm_259 hM), (fm_260 hM), (fm_261 hM), (fm_262 hM), (fm_263 hM), (fm_264 hM), (fm_265 hM), (fm_268 hM), (fm_269 hM), true_and, and_true], ⟨⟨by show 0 ≤ e 241 1 + 1; omega, by show e 241 1 + 1 ≤ 14; omega⟩, (by have y := we_l hE; exact y), (by have y := we_p hE; exact y), (by have y := we_o hE; exact y), (by have y := we_c hE; exact y), (by have y := we_r hE; exact y), (by have y := we_k hE; exact y), (by have y := we_s hE; exact y), (by have y := we_t hE; exact y), fun i => ?hx, (by have y := we_L hE; exact y), fun i hi => by have y := we_L2 hE i hi; show e 244 i < e 241 1 + 1 ∧ e 245 i < e 241 1 + 1 ∧ ¬ e 244 i = e 245 i; omega, (by have y := we_P hE; exact y), fun i hi => by have y := we_P2 hE i hi; show e 249 i < e 241 1 + 1 ∧ 1 ≤ e 250 i ∧ 1 ≤ e 251 i; omega, (by have y := we_O hE; exact y), fun i hi => by have y := we_O2 hE i hi; show e 252 i < e 241 1 + 1; omega, (by have y := we_R hE; exact y), (by have y := we_K hE; exact y), (by have y := we_K2 hE; exact y), (by have y := we_S hE; exact y)⟩, RL_eg hR (fun a ha hb => by simp (disch := omega) only [ups_ne]) (by show (e 241 1 + 1).toNat ≤ 14; omega) (by show (e 241 13).toNat ≤ 12; omega) (fun i hi => ?hr2) (fun i hi hi2 => (q5_2b hR) i (by have : (e 241 1 + 1).toNat ≤ i := hi; omega) hi2) (fun i hi => by have hi : i < (e 241 13).toNat := hi; rw [fs_ne (by omega)]; exact (q5_19 hR) i hi) (by have y := q5_19b hR; exact y) (fun j hj => fs_ne (by omega)), ⟨⟨WQ_eg hI.1.1 (fun i hi => ?hwi) (fun j hj => fs_ne (by omega)) (fun i hi => by rw [fs_ne (by omega)]; exact (wp_g hI.1.1 i hi).1), CI_eg hE hI.1.2.1 (Or.inr ⟨by show (e 241 1 + 1).toNat = (e 241 1).toNat + 1; omega, fs_eq, by rw [fs_ne (by omega)]; exact hZ _ (by unfold Zx; omega)⟩) (by show (e 241 1 + 1).toNat ≤ 14; omega) (Or.inl rfl) (fun l hl => ⟨fs_ne (by omega), rfl, rfl⟩) (Or.inl rfl) (fun l hl => ⟨fs_ne (by omega), rfl⟩) (fun i hi => fs_ne (by omega)), UN_eg hI.1.1 hI.1.2.2 (Or.inr ⟨by show (e 241 1 + 1).toNat = (e 241 1).toNat + 1; omega, fs_eq⟩) (fun i hi => ⟨fs_ne (by omega), fs_ne (by omega)⟩)⟩, LF_eg hI.2 (fun j hj => fs_ne (by omega))⟩, by rw [fs_ne (by omega), fs_ne (by omega)]; exact h0, OK_eg hO hE (fun a ha hb => by simp (disch := omega) only [ups_ne]) rfl rfl rfl, ZF_eg hZ (fun j hj => by have hj : (56 + (e 241 1 + 1).toNat ≤ j ∧ j < 70) ∨ (84 + (e 241 3).toNat ≤ j ∧ j < 104) ∨ (104 + (e 241 8).toNat ≤ j ∧ j < 112) := hj; exact ⟨by unfold Zx; omega, fs_ne (by omega)⟩), XS_up hX (fun a ha => by simp (disch := omega) only [ups_ne]) (by simp (disch := omega) only [ups_same, ups_ne, fs_ne]) (by simp (disch := omega) only [ups_same, ups_ne, fs_ne])⟩
  case hx =>
    have y := we_x hE i
    show 0 ≤ fset (e 243) (e 241 1).toNat x i ∧ fset (e 243) (e 241 1).toNat x i ≤ 99
    simp only [fs_rd]
    by_cases y2 : i = (e 241 1).toNat
    · rw [if_pos y2]
      omega
    · rw [if_neg y2]
      omega
  case hr2 =>
    have hi : i < (e 241 1 + 1).toNat := hi
    rw [fs_rd]
    by_cases y2 : i = (e 241 1).toNat
    · rw [if_pos (by omega), (q5_2b hR) i (by omega) (by omega)]
      omega
    · rw [if_neg (by omega)]
      exact (q5_2 hR) i (by omega)
  case hwi =>
    have hi : i < (e 241 1 + 1).toNat := hi
    show 0 ≤ fset P _ _ (70 + i) ∧ fset P _ _ (70 + i) < e 241 1 + 1
    rw [fs_rd]
    by_cases y2 : i = (e 241 1).toNat
    · rw [if_pos (by omega)]
      omega
    · rw [if_neg (by omega)]
      have y := wp_i hI.1.1 i (by omega)
      omega
theorem ok_node {x : Int} (h : HV s d) : Ok2 L (k + 9) 1 41 [vI x] s d := by
  obtain ⟨e, P, h⟩ := h
  have ⟨h1, h2, hf, hM, hE, hR, hI, h0, hO, hZ, hX⟩ := h
  refine (c2_D_node hf hE).mpr ?_
  by_cases g0 : 0 ≤ x ∧ x ≤ 99
  · rw [if_pos g0]
    by_cases g1 : e 241 1 < 14
    · rw [if_pos g1]
      have hM1 : FM (ups (ups d 12 (e 241 1).toNat x) 11 0 (e 241 1 + 1)) e := FM_cg hM (fun a ha hb hc => by simp (disch := omega) only [ups_ne])
      refine ⟨rfl, h1, ⟨_, rfl⟩, (c2_M_node hM1 hE).mpr ?_⟩
      rw [if_pos g0, if_pos g1]
      exact ⟨rfl, rfl, _, _, HE_node h g0 g1⟩
    · rw [if_neg g1]
      refine ⟨rfl, h1, ⟨_, rfl⟩, (c2_M_node hM hE).mpr ?_⟩
      rw [if_pos g0, if_neg g1]
      exact ⟨rfl, rfl, e, P, h⟩
  · rw [if_neg g0]
    refine ⟨rfl, h1, ⟨_, rfl⟩, (c2_M_node hM hE).mpr ?_⟩
    rw [if_neg g0]
    exact ⟨rfl, rfl, e, P, h⟩
theorem c2_D_line {a b c m : Int} (hf : FC d e) (hE : WE e) : Cl (k + 9) 2 [vR 10, vI a, vI b, vI c, vI m] (SH L) d R ↔ (if (0 ≤ a ∧ a < e 241 1) ∧ 0 ≤ b ∧ b < e 241 1 then (if ¬ a = b ∧ (0 ≤ c ∧ c ≤ 99) ∧ 0 ≤ m ∧ m ≤ 1 then (if e 241 3 < 20 then R (vI (e 241 3)) (SH L) (ups (ups (ups (ups (ups d 11 1 (e 241 3 + 1)) 13 (e 241 3).toNat a) 14 (e 241 3).toNat b) 15 (e 241 3).toNat c) 16 (e 241 3).toNat m) else R (vI (-4)) (SH L) d) else R (vI (-2)) (SH L) d) else R (vI (-1)) (SH L) d) := by
  have n0 := we_l hE
  refine (Cl_iff rfl).trans ?_
  show Go (k + 8) 2 R 0 [vR 10, vI a, vI b, vI c, vI m, vU] [] (SH L) d ↔ _
  simp (disch := omega) only [s_D_line_0, s_D_line_1, s_D_line_2, s_D_line_5, s_D_line_8, s_D_line_11, s_D_line_14, s_D_line_15, s_D_line_16, s_D_line_19, s_D_line_22, s_D_line_25, s_D_line_28, s_D_line_29, s_D_line_30, s_D_line_31, s_D_line_32, s_D_line_35, s_D_line_36, s_D_line_37, s_D_line_39, s_D_line_42, s_D_line_45, s_D_line_47, s_D_line_48, s_D_line_49, s_D_line_52, s_D_line_55, s_D_line_57, s_D_line_58, s_D_line_59, s_D_line_62, s_D_line_65, s_D_line_67, s_D_line_70, s_D_line_72, s_D_line_73, s_D_line_74, s_D_line_77, s_D_line_78, s_D_line_81, s_D_line_82, s_D_line_83, s_D_line_84, s_D_line_87, s_D_line_89, s_D_line_90, s_D_line_93, s_D_line_96, s_D_line_98, s_D_line_99, s_D_line_100, s_D_line_101, s_D_line_104, s_D_line_107, s_D_line_109, s_D_line_110, s_D_line_111, s_D_line_112, s_D_line_115, s_D_line_118, s_D_line_120, s_D_line_121, s_D_line_122, s_D_line_123, s_D_line_126, s_D_line_129, s_D_line_131, s_D_line_133, s_D_line_134, s_D_line_137, s_D_line_138, s_D_line_141, s_D_line_142, s_D_line_143, s_D_line_145, c_D_within, c_D_isOf, k_1, n_1, k_2, n_2, k_3, n_3, k_4, n_4, k_5, n_5, k_6, n_6, k_7, n_7, k_8, n_8, k_9, n_9, k_10, r_10_0, r_10_1, r_10_2, r_10_3, r_10_4, r_10_5, k_11, r_11_5, r_11_6, r_11_7, r_11_8, r_11_9, r_11_10, r_11_11, r_11_12, r_11_13, r_11_14, r_11_15, r_11_16, k_12, n_12, k_13, n_13, k_14, n_14, k_15, n_15, k_16, n_16, k_17, n_17, k_18, n_18, k_19, n_19, k_20, n_20, k_21, n_21, k_22, n_22, k_23, n_23, k_24, r_24_3, r_24_4, r_24_5, r_24_6, r_24_7, r_24_8, r_24_9, r_24_10, r_24_11, r_24_12, r_24_13, k_25, n_25, k_26, n_26, k_27, n_27, k_28, n_28, k_29, n_29, k_30, n_30, k_31, n_31, k_32, n_32, k_33, n_33, k_34, n_34, k_35, n_35, k_36, r_36_0, r_36_3, r_36_4, r_36_5, r_36_6, r_36_7, k_37, n_37, k_38, n_38, k_39, n_39, r_39_0, r_39_1, r_39_2, r_39_3, r_39_4, r_39_5, k_40, n_40, k_41, n_41, k_42, n_42, k_43, n_43, k_44, n_44, k_45, n_45, k_46, n_46, k_47, n_47, k_48, r_48_0, r_48_1, r_48_5, k_49, n_49, k_50, n_50, k_51, n_51, k_52, r_52_0, r_52_1, r_52_2, r_52_3, r_52_4, r_52_5, r_52_6, r_52_7, r_52_8, r_52_9, r_52_10, r_52_11, r_52_12, r_52_13, k_53, r_53_0, r_53_1, r_53_2, r_53_3, r_53_4, r_53_5, r_53_6, k_54, n_54, k_55, n_55, k_56, n_56, k_57, n_57, k_58, n_58, k_59, n_59, k_60, n_60, k_61, r_61_0, r_61_1, r_61_2, r_61_3, k_62, n_62, k_63, n_63, k_64, n_64, k_65, n_65, k_66, r_66_0, r_66_1, r_66_2, r_66_3, r_66_4, r_66_5, k_67, n_67, k_68, n_68, k_69, n_69, k_70, n_70, k_71, n_71, k_72, n_72, k_73, n_73, k_74, n_74, k_75, n_75, k_76, n_76, k_77, n_77, k_78, n_78, k_79, n_79, k_80, n_80, k_81, r_81_0, r_81_1, r_81_2, r_81_3, r_81_4, r_81_9, r_81_10, k_82, n_82, r_82_0, r_82_1, r_82_2, r_82_3, k_83, n_83, k_84, n_84, k_85, n_85, k_86, n_86, k_87, r_87_0, r_87_1, r_87_2, r_87_3, r_87_4, r_87_5, r_87_6, r_87_7, r_87_8, r_87_9, r_87_10, r_87_11, r_87_12, r_87_13, k_116, r_116_0, r_116_1, r_116_2, r_116_3, r_116_4, r_116_5, r_116_6, r_116_7, r_116_8, r_116_9, r_116_10, r_116_11, r_116_12, r_116_13, k_145, r_145_0, r_145_1, r_145_2, r_145_3, r_145_4, r_145_5, r_145_6, r_145_7, r_145_8, r_145_9, r_145_10, r_145_11, r_145_12, r_145_13, k_174, r_174_0, r_174_1, r_174_2, r_174_3, r_174_4, r_174_5, r_174_6, r_174_7, r_174_8, r_174_9, r_174_10, r_174_11, r_174_12, r_174_13, k_203, r_203_0, r_203_1, r_203_2, r_203_3, r_203_4, r_203_5, r_203_6, r_203_7, r_203_8, r_203_9, r_203_10, r_203_11, r_203_12, r_203_13, k_232, n_232, r_232_0, r_232_1, r_232_2, r_232_3, k_233, r_233_2, k_234, n_234, k_235, r_235_2, k_236, n_236, k_237, r_237_2, k_238, n_238, k_239, r_239_2, k_240, n_240, ldI, fc_11_0 hf, fc_11_1 hf, fc_11_2 hf, fc_11_3 hf, fc_11_4 hf, fc_24_0 hf, fc_24_1 hf, fc_24_2 hf, fc_36_2 hf, u_ne, u_eq, wr_1p, if10, Classical.not_not]
  clear hf hE
  grind (splits := 60)
theorem c2_M_line {a b c m : Int} (hM : FM d e) (hE : WE e) : Cl (k + 9) 42 [vR 241, vI a, vI b, vI c, vI m] (SH L) d R ↔ (if (0 ≤ a ∧ a < e 241 1) ∧ 0 ≤ b ∧ b < e 241 1 then (if ¬ a = b ∧ (0 ≤ c ∧ c ≤ 99) ∧ 0 ≤ m ∧ m ≤ 1 then (if e 241 3 < 20 then R (vI (e 241 3)) (SH L) (ups (ups (ups (ups (ups d 244 (e 241 3).toNat a) 245 (e 241 3).toNat b) 246 (e 241 3).toNat c) 247 (e 241 3).toNat m) 241 3 (e 241 3 + 1)) else R (vI (-4)) (SH L) d) else R (vI (-2)) (SH L) d) else R (vI (-1)) (SH L) d) := by
  have n0 := we_l hE
  have n1 := we_r hE
  refine (Cl_iff rfl).trans ?_
  show Go (k + 8) 42 R 0 [vR 241, vI a, vI b, vI c, vI m] [] (SH L) d ↔ _
  simp (disch := omega) only [s_M_line_0, s_M_line_1, s_M_line_2, s_M_line_5, s_M_line_8, s_M_line_9, s_M_line_10, s_M_line_13, s_M_line_16, s_M_line_17, s_M_line_18, s_M_line_19, s_M_line_20, s_M_line_23, s_M_line_24, s_M_line_25, s_M_line_27, s_M_line_30, s_M_line_33, s_M_line_35, s_M_line_36, s_M_line_37, s_M_line_40, s_M_line_43, s_M_line_45, s_M_line_46, s_M_line_47, s_M_line_50, s_M_line_52, s_M_line_55, s_M_line_57, s_M_line_58, s_M_line_59, s_M_line_62, s_M_line_63, s_M_line_66, s_M_line_67, s_M_line_68, s_M_line_69, s_M_line_72, s_M_line_73, s_M_line_76, s_M_line_77, s_M_line_78, s_M_line_79, s_M_line_82, s_M_line_83, s_M_line_86, s_M_line_87, s_M_line_88, s_M_line_89, s_M_line_92, s_M_line_93, s_M_line_96, s_M_line_98, s_M_line_99, s_M_line_100, s_M_line_101, s_M_line_104, s_M_line_105, s_M_line_106, s_M_line_109, s_M_line_110, s_M_line_113, s_M_line_114, s_M_line_115, c_M_within, c_M_isNode2 hM hE, c_M_isText2 hM hE, c_M_isOf2 hM hE, k_1, n_1, k_241, r_241_0, r_241_2, r_241_4, r_241_5, r_241_6, r_241_7, r_241_9, r_241_10, r_241_11, r_241_12, r_241_14, r_241_15, r_241_16, r_241_19, r_241_20, r_241_22, r_241_23, r_241_24, r_241_25, r_241_27, r_241_28, r_241_29, r_241_30, r_241_31, r_241_33, r_241_34, r_241_37, r_241_38, r_241_39, r_241_40, r_241_41, r_241_42, r_241_43, r_241_44, r_241_49, r_241_50, r_241_54, k_242, n_242, k_243, n_243, k_244, n_244, k_245, n_245, k_246, n_246, k_247, n_247, k_248, n_248, k_249, n_249, k_250, n_250, k_251, n_251, k_252, n_252, k_253, n_253, k_254, n_254, k_255, n_255, k_256, n_256, k_257, n_257, k_258, n_258, k_259, n_259, k_260, n_260, k_261, n_261, k_262, n_262, k_263, n_263, k_264, n_264, k_265, n_265, k_266, n_266, k_267, n_267, k_268, n_268, k_269, n_269, k_270, n_270, k_271, n_271, k_272, n_272, k_273, n_273, k_274, n_274, k_275, n_275, k_276, n_276, k_277, n_277, k_278, n_278, ldI, fm_3 hM, fm_18 hM, u_ne, u_eq, wr_1p, wr_1m, wr_m1, in_of, wr_ix, if10, Classical.not_not]
  clear hM hE
  grind (splits := 60)
theorem HE_line {a b c m : Int} (h : HE s e P d) (g0 : (0 ≤ a ∧ a < e 241 1) ∧ 0 ≤ b ∧ b < e 241 1) (g1 : ¬ a = b ∧ (0 ≤ c ∧ c ≤ 99) ∧ 0 ≤ m ∧ m ≤ 1) (g2 : e 241 3 < 20) : HE s (ups (ups (ups (ups (ups e 244 (e 241 3).toNat a) 245 (e 241 3).toNat b) 246 (e 241 3).toNat c) 247 (e 241 3).toNat m) 241 3 (e 241 3 + 1)) P (ups (ups (ups (ups (ups (ups (ups (ups (ups (ups d 11 1 (e 241 3 + 1)) 13 (e 241 3).toNat a) 14 (e 241 3).toNat b) 15 (e 241 3).toNat c) 16 (e 241 3).toNat m) 244 (e 241 3).toNat a) 245 (e 241 3).toNat b) 246 (e 241 3).toNat c) 247 (e 241 3).toNat m) 241 3 (e 241 3 + 1)) := by
  obtain ⟨h1, h2, hf, hM, hE, hR, hI, h0, hO, hZ, hX⟩ := h
  have nn := we_n hE
  have nl := we_l hE
  have np := we_p hE
  have no := we_o hE
  have nc := we_c hE
  have nr := we_r hE
  have nk := we_k hE
  have ns := we_s hE
  have nt := we_t hE
  refine ⟨h1, by show d 242 = P; exact h2, by unfold FC; simp (disch := omega) only [ups_same, ups_ne, fs_eq, fs_ne, (fc_11_0 hf), (fc_11_1 hf), (fc_11_2 hf), (fc_11_3 hf), (fc_11_4 hf), (fc_24_0 hf), (fc_24_1 hf), (fc_24_2 hf), (fc_36_2 hf), (fc_12 hf), (fc_13 hf), (fc_14 hf), (fc_15 hf), (fc_16 hf), (fc_17 hf), (fc_18 hf), (fc_19 hf), (fc_20 hf), (fc_21 hf), (fc_22 hf), (fc_23 hf), (fc_25 hf), (fc_26 hf), (fc_27 hf), (fc_28 hf), (fc_29 hf), (fc_30 hf), (fc_31 hf), (fc_32 hf), (fc_33 hf), (fc_34 hf), (fc_35 hf), (fc_2_0 hf), (fc_2_1 hf), (fc_2_2 hf), (fc_2_3 hf), (fc_2_4 hf), (fc_2_5 hf), (fc_3_0 hf), (fc_3_1 hf), (fc_3_2 hf), (fc_3_3 hf), (fc_3_4 hf), (fc_3_5 hf), (fc_4_0 hf), (fc_4_1 hf), (fc_4_2 hf), (fc_4_3 hf), (fc_4_4 hf), (fc_4_5 hf), (fc_5_0 hf), (fc_5_1 hf), (fc_5_2 hf), (fc_5_3 hf), (fc_5_4 hf), (fc_5_5 hf), (fc_6_0 hf), (fc_6_1 hf), (fc_6_2 hf), (fc_6_3 hf), (fc_6_4 hf), (fc_6_5 hf), true_and, and_true], by unfold FM; simp (disch := omega) only [ups_same, ups_ne, fs_eq, fs_ne, (fm_1 hM), (fm_3 hM), (fm_8 hM), (fm_13 hM), (fm_17 hM), (fm_18 hM), (fm_21 hM), (fm_26 hM), (fm_36 hM), (fm_243 hM), (fm_244 hM), (fm_245 hM), (fm_246 hM), (fm_247 hM), (fm_248 hM), (fm_249 hM), (fm_250 hM), (fm_251 hM), (fm_252 hM), (fm_253 hM), (fm_254 hM), (fm_255 hM), (fm_256 hM), (fm_257 hM), (fm_258 hM), (fm_259 hM), (fm_260 hM), (fm_261 hM), (fm_262 hM), (fm_263 hM), (fm_264 hM), (fm_265 hM), (fm_268 hM), (fm_269 hM), true_and, and_true], ⟨(by have y := we_n hE; exact y), ⟨by show 0 ≤ e 241 3 + 1; omega, by show e 241 3 + 1 ≤ 20; omega⟩, (by have y := we_p hE; exact y), (by have y := we_o hE; exact y), (by have y := we_c hE; exact y), (by have y := we_r hE; exact y), (by have y := we_k hE; exact y), (by have y := we_s hE; exact y), (by have y := we_t hE; exact y), (by have y := we_x hE; exact y), fun i => ?hL, fun i hi => ?hL2, (by have y := we_P hE; exact y), (by have y := we_P2 hE; exact y), (by have y := we_O hE; exact y), (by have y := we_O2 hE; exact y), (by have y := we_R hE; exact y), (by have y := we_K hE; exact y), fun i hi => ⟨(we_K2 hE i hi).1, (we_K2 hE i hi).2.1, hasS_up (we_K2 hE i hi).2.2 (by show e 241 3 ≤ e 241 3 + 1; omega) (by show e 241 8 ≤ e 241 8; omega) (by show e 241 13 ≤ e 241 13; omega)⟩, (by have y := we_S hE; exact y)⟩, RL_eg hR (fun a ha hb => by simp (disch := omega) only [ups_ne]) (by show (e 241 1).toNat ≤ 14; omega) (by show (e 241 13).toNat ≤ 12; omega) (by have y := q5_2 hR; exact y) (by have y := q5_2b hR; exact y) (by have y := q5_19 hR; exact y) (by have y := q5_19b hR; exact y) (fun _ _ => rfl), ⟨⟨WQ_eg hI.1.1 (by have y := wp_i hI.1.1; exact y) (fun _ _ => rfl) (fun i hi => (wp_g hI.1.1 i hi).1), CI_eg hE hI.1.2.1 (Or.inl rfl) (by show (e 241 1).toNat ≤ 14; omega) (Or.inr ⟨by show (e 241 3 + 1).toNat = (e 241 3).toNat + 1; omega, by rw [hZ _ (by unfold Zx; omega)]; decide⟩) (fun l hl => ⟨rfl, by show fset (e 244) _ _ l = _; exact fs_ne (by omega), by show fset (e 245) _ _ l = _; exact fs_ne (by omega)⟩) (Or.inl rfl) (fun l hl => ⟨rfl, rfl⟩) (fun i hi => rfl), UN_eg hI.1.1 hI.1.2.2 (Or.inl rfl) (fun i hi => ⟨rfl, rfl⟩)⟩, LF_eg hI.2 (fun j hj => rfl)⟩, h0, OK_eg hO hE (fun a ha hb => by simp (disch := omega) only [ups_ne]) rfl rfl rfl, ZF_eg hZ (fun j hj => by have hj : (56 + (e 241 1).toNat ≤ j ∧ j < 70) ∨ (84 + (e 241 3 + 1).toNat ≤ j ∧ j < 104) ∨ (104 + (e 241 8).toNat ≤ j ∧ j < 112) := hj; exact ⟨by unfold Zx; omega, rfl⟩), XS_up hX (fun a ha => by simp (disch := omega) only [ups_ne]) (by simp (disch := omega) only [ups_same, ups_ne, fs_ne]) (by simp (disch := omega) only [ups_same, ups_ne, fs_ne])⟩
  case hL =>
    have y := we_L hE i
    show (0 ≤ fset (e 244) (e 241 3).toNat a i ∧ fset (e 244) (e 241 3).toNat a i < 14) ∧ (0 ≤ fset (e 245) (e 241 3).toNat b i ∧ fset (e 245) (e 241 3).toNat b i < 14) ∧ (0 ≤ fset (e 246) (e 241 3).toNat c i ∧ fset (e 246) (e 241 3).toNat c i ≤ 99) ∧ (fset (e 247) (e 241 3).toNat m i = 0 ∨ fset (e 247) (e 241 3).toNat m i = 1)
    simp only [fs_rd]
    by_cases y2 : i = (e 241 3).toNat
    · simp only [if_pos y2]
      omega
    · simp only [if_neg y2]
      exact y
  case hL2 =>
    have hi : i < (e 241 3 + 1).toNat := hi
    show fset (e 244) (e 241 3).toNat a i < e 241 1 ∧ fset (e 245) (e 241 3).toNat b i < e 241 1 ∧ ¬ fset (e 244) (e 241 3).toNat a i = fset (e 245) (e 241 3).toNat b i
    simp only [fs_rd]
    by_cases y2 : i = (e 241 3).toNat
    · simp only [if_pos y2]
      omega
    · simp only [if_neg y2]
      exact we_L2 hE i (by omega)
theorem ok_line {a b c m : Int} (h : HV s d) : Ok2 L (k + 9) 2 42 [vI a, vI b, vI c, vI m] s d := by
  obtain ⟨e, P, h⟩ := h
  have ⟨h1, h2, hf, hM, hE, hR, hI, h0, hO, hZ, hX⟩ := h
  refine (c2_D_line hf hE).mpr ?_
  by_cases g0 : (0 ≤ a ∧ a < e 241 1) ∧ 0 ≤ b ∧ b < e 241 1
  · rw [if_pos g0]
    by_cases g1 : ¬ a = b ∧ (0 ≤ c ∧ c ≤ 99) ∧ 0 ≤ m ∧ m ≤ 1
    · rw [if_pos g1]
      by_cases g2 : e 241 3 < 20
      · rw [if_pos g2]
        have hM1 : FM (ups (ups (ups (ups (ups d 11 1 (e 241 3 + 1)) 13 (e 241 3).toNat a) 14 (e 241 3).toNat b) 15 (e 241 3).toNat c) 16 (e 241 3).toNat m) e := FM_cg hM (fun a ha hb hc => by simp (disch := omega) only [ups_ne])
        refine ⟨rfl, h1, ⟨_, rfl⟩, (c2_M_line hM1 hE).mpr ?_⟩
        rw [if_pos g0, if_pos g1, if_pos g2]
        exact ⟨rfl, rfl, _, _, HE_line h g0 g1 g2⟩
      · rw [if_neg g2]
        refine ⟨rfl, h1, ⟨_, rfl⟩, (c2_M_line hM hE).mpr ?_⟩
        rw [if_pos g0, if_pos g1, if_neg g2]
        exact ⟨rfl, rfl, e, P, h⟩
    · rw [if_neg g1]
      refine ⟨rfl, h1, ⟨_, rfl⟩, (c2_M_line hM hE).mpr ?_⟩
      rw [if_pos g0, if_neg g1]
      exact ⟨rfl, rfl, e, P, h⟩
  · rw [if_neg g0]
    refine ⟨rfl, h1, ⟨_, rfl⟩, (c2_M_line hM hE).mpr ?_⟩
    rw [if_neg g0]
    exact ⟨rfl, rfl, e, P, h⟩
theorem c2_D_plant {a b c m : Int} (hf : FC d e) (hE : WE e) : Cl (k + 9) 3 [vR 10, vI a, vI b, vI c, vI m] (SH L) d R ↔ (if 0 ≤ b ∧ b < e 241 1 then (if (0 ≤ a ∧ a ≤ 5) ∧ (1 ≤ c ∧ c ≤ 999) ∧ 1 ≤ m ∧ m ≤ 99 then (if e 241 8 < 8 then R (vI (e 241 8)) (SH L) (ups (ups (ups (ups (ups d 11 2 (e 241 8 + 1)) 17 (e 241 8).toNat a) 18 (e 241 8).toNat b) 19 (e 241 8).toNat c) 20 (e 241 8).toNat m) else R (vI (-4)) (SH L) d) else R (vI (-2)) (SH L) d) else R (vI (-1)) (SH L) d) := by
  have n0 := we_p hE
  refine (Cl_iff rfl).trans ?_
  show Go (k + 8) 3 R 0 [vR 10, vI a, vI b, vI c, vI m, vU] [] (SH L) d ↔ _
  simp (disch := omega) only [s_D_plant_0, s_D_plant_1, s_D_plant_2, s_D_plant_5, s_D_plant_8, s_D_plant_11, s_D_plant_14, s_D_plant_15, s_D_plant_16, s_D_plant_17, s_D_plant_19, s_D_plant_22, s_D_plant_25, s_D_plant_26, s_D_plant_27, s_D_plant_30, s_D_plant_33, s_D_plant_36, s_D_plant_38, s_D_plant_39, s_D_plant_41, s_D_plant_44, s_D_plant_47, s_D_plant_49, s_D_plant_50, s_D_plant_51, s_D_plant_54, s_D_plant_57, s_D_plant_59, s_D_plant_62, s_D_plant_64, s_D_plant_65, s_D_plant_66, s_D_plant_69, s_D_plant_70, s_D_plant_73, s_D_plant_74, s_D_plant_75, s_D_plant_76, s_D_plant_79, s_D_plant_81, s_D_plant_82, s_D_plant_85, s_D_plant_88, s_D_plant_90, s_D_plant_91, s_D_plant_92, s_D_plant_93, s_D_plant_96, s_D_plant_99, s_D_plant_101, s_D_plant_102, s_D_plant_103, s_D_plant_104, s_D_plant_107, s_D_plant_110, s_D_plant_112, s_D_plant_113, s_D_plant_114, s_D_plant_115, s_D_plant_118, s_D_plant_121, s_D_plant_123, s_D_plant_125, s_D_plant_126, s_D_plant_128, c_D_within, c_D_isOf, k_1, n_1, k_2, n_2, k_3, n_3, k_4, n_4, k_5, n_5, k_6, n_6, k_7, n_7, k_8, n_8, k_9, n_9, k_10, r_10_0, r_10_1, r_10_2, r_10_3, r_10_4, r_10_5, k_11, r_11_5, r_11_6, r_11_7, r_11_8, r_11_9, r_11_10, r_11_11, r_11_12, r_11_13, r_11_14, r_11_15, r_11_16, k_12, n_12, k_13, n_13, k_14, n_14, k_15, n_15, k_16, n_16, k_17, n_17, k_18, n_18, k_19, n_19, k_20, n_20, k_21, n_21, k_22, n_22, k_23, n_23, k_24, r_24_3, r_24_4, r_24_5, r_24_6, r_24_7, r_24_8, r_24_9, r_24_10, r_24_11, r_24_12, r_24_13, k_25, n_25, k_26, n_26, k_27, n_27, k_28, n_28, k_29, n_29, k_30, n_30, k_31, n_31, k_32, n_32, k_33, n_33, k_34, n_34, k_35, n_35, k_36, r_36_0, r_36_3, r_36_4, r_36_5, r_36_6, r_36_7, k_37, n_37, k_38, n_38, k_39, n_39, r_39_0, r_39_1, r_39_2, r_39_3, r_39_4, r_39_5, k_40, n_40, k_41, n_41, k_42, n_42, k_43, n_43, k_44, n_44, k_45, n_45, k_46, n_46, k_47, n_47, k_48, r_48_0, r_48_1, r_48_5, k_49, n_49, k_50, n_50, k_51, n_51, k_52, r_52_0, r_52_1, r_52_2, r_52_3, r_52_4, r_52_5, r_52_6, r_52_7, r_52_8, r_52_9, r_52_10, r_52_11, r_52_12, r_52_13, k_53, r_53_0, r_53_1, r_53_2, r_53_3, r_53_4, r_53_5, r_53_6, k_54, n_54, k_55, n_55, k_56, n_56, k_57, n_57, k_58, n_58, k_59, n_59, k_60, n_60, k_61, r_61_0, r_61_1, r_61_2, r_61_3, k_62, n_62, k_63, n_63, k_64, n_64, k_65, n_65, k_66, r_66_0, r_66_1, r_66_2, r_66_3, r_66_4, r_66_5, k_67, n_67, k_68, n_68, k_69, n_69, k_70, n_70, k_71, n_71, k_72, n_72, k_73, n_73, k_74, n_74, k_75, n_75, k_76, n_76, k_77, n_77, k_78, n_78, k_79, n_79, k_80, n_80, k_81, r_81_0, r_81_1, r_81_2, r_81_3, r_81_4, r_81_9, r_81_10, k_82, n_82, r_82_0, r_82_1, r_82_2, r_82_3, k_83, n_83, k_84, n_84, k_85, n_85, k_86, n_86, k_87, r_87_0, r_87_1, r_87_2, r_87_3, r_87_4, r_87_5, r_87_6, r_87_7, r_87_8, r_87_9, r_87_10, r_87_11, r_87_12, r_87_13, k_116, r_116_0, r_116_1, r_116_2, r_116_3, r_116_4, r_116_5, r_116_6, r_116_7, r_116_8, r_116_9, r_116_10, r_116_11, r_116_12, r_116_13, k_145, r_145_0, r_145_1, r_145_2, r_145_3, r_145_4, r_145_5, r_145_6, r_145_7, r_145_8, r_145_9, r_145_10, r_145_11, r_145_12, r_145_13, k_174, r_174_0, r_174_1, r_174_2, r_174_3, r_174_4, r_174_5, r_174_6, r_174_7, r_174_8, r_174_9, r_174_10, r_174_11, r_174_12, r_174_13, k_203, r_203_0, r_203_1, r_203_2, r_203_3, r_203_4, r_203_5, r_203_6, r_203_7, r_203_8, r_203_9, r_203_10, r_203_11, r_203_12, r_203_13, k_232, n_232, r_232_0, r_232_1, r_232_2, r_232_3, k_233, r_233_2, k_234, n_234, k_235, r_235_2, k_236, n_236, k_237, r_237_2, k_238, n_238, k_239, r_239_2, k_240, n_240, ldI, fc_11_0 hf, fc_11_1 hf, fc_11_2 hf, fc_11_3 hf, fc_11_4 hf, fc_24_0 hf, fc_24_1 hf, fc_24_2 hf, fc_36_2 hf, u_ne, u_eq, wr_1p, if10, Classical.not_not]
  clear hf hE
  grind (splits := 60)
theorem c2_M_plant {a b c m : Int} (hM : FM d e) (hE : WE e) : Cl (k + 9) 43 [vR 241, vI a, vI b, vI c, vI m] (SH L) d R ↔ (if 0 ≤ b ∧ b < e 241 1 then (if (0 ≤ a ∧ a ≤ 5) ∧ (1 ≤ c ∧ c ≤ 999) ∧ 1 ≤ m ∧ m ≤ 99 then (if e 241 8 < 8 then R (vI (e 241 8)) (SH L) (ups (ups (ups (ups (ups d 248 (e 241 8).toNat a) 249 (e 241 8).toNat b) 250 (e 241 8).toNat c) 251 (e 241 8).toNat m) 241 8 (e 241 8 + 1)) else R (vI (-4)) (SH L) d) else R (vI (-2)) (SH L) d) else R (vI (-1)) (SH L) d) := by
  have n0 := we_p hE
  have n1 := we_r hE
  refine (Cl_iff rfl).trans ?_
  show Go (k + 8) 43 R 0 [vR 241, vI a, vI b, vI c, vI m] [] (SH L) d ↔ _
  simp (disch := omega) only [s_M_plant_0, s_M_plant_1, s_M_plant_2, s_M_plant_5, s_M_plant_8, s_M_plant_9, s_M_plant_10, s_M_plant_11, s_M_plant_12, s_M_plant_13, s_M_plant_16, s_M_plant_19, s_M_plant_20, s_M_plant_21, s_M_plant_24, s_M_plant_27, s_M_plant_30, s_M_plant_32, s_M_plant_33, s_M_plant_35, s_M_plant_38, s_M_plant_41, s_M_plant_43, s_M_plant_44, s_M_plant_45, s_M_plant_48, s_M_plant_50, s_M_plant_53, s_M_plant_55, s_M_plant_56, s_M_plant_57, s_M_plant_60, s_M_plant_61, s_M_plant_64, s_M_plant_65, s_M_plant_66, s_M_plant_67, s_M_plant_70, s_M_plant_71, s_M_plant_74, s_M_plant_75, s_M_plant_76, s_M_plant_77, s_M_plant_80, s_M_plant_81, s_M_plant_84, s_M_plant_85, s_M_plant_86, s_M_plant_87, s_M_plant_90, s_M_plant_91, s_M_plant_94, s_M_plant_96, s_M_plant_97, s_M_plant_98, s_M_plant_99, s_M_plant_102, s_M_plant_103, s_M_plant_104, s_M_plant_107, s_M_plant_108, s_M_plant_111, s_M_plant_112, s_M_plant_113, c_M_within, c_M_isNode2 hM hE, c_M_isText2 hM hE, c_M_isOf2 hM hE, k_1, n_1, k_241, r_241_0, r_241_2, r_241_4, r_241_5, r_241_6, r_241_7, r_241_9, r_241_10, r_241_11, r_241_12, r_241_14, r_241_15, r_241_16, r_241_19, r_241_20, r_241_22, r_241_23, r_241_24, r_241_25, r_241_27, r_241_28, r_241_29, r_241_30, r_241_31, r_241_33, r_241_34, r_241_37, r_241_38, r_241_39, r_241_40, r_241_41, r_241_42, r_241_43, r_241_44, r_241_49, r_241_50, r_241_54, k_242, n_242, k_243, n_243, k_244, n_244, k_245, n_245, k_246, n_246, k_247, n_247, k_248, n_248, k_249, n_249, k_250, n_250, k_251, n_251, k_252, n_252, k_253, n_253, k_254, n_254, k_255, n_255, k_256, n_256, k_257, n_257, k_258, n_258, k_259, n_259, k_260, n_260, k_261, n_261, k_262, n_262, k_263, n_263, k_264, n_264, k_265, n_265, k_266, n_266, k_267, n_267, k_268, n_268, k_269, n_269, k_270, n_270, k_271, n_271, k_272, n_272, k_273, n_273, k_274, n_274, k_275, n_275, k_276, n_276, k_277, n_277, k_278, n_278, ldI, fm_8 hM, fm_18 hM, u_ne, u_eq, wr_1p, wr_1m, wr_m1, in_of, wr_ix, if10, Classical.not_not]
  clear hM hE
  grind (splits := 60)
theorem HE_plant {a b c m : Int} (h : HE s e P d) (g0 : 0 ≤ b ∧ b < e 241 1) (g1 : (0 ≤ a ∧ a ≤ 5) ∧ (1 ≤ c ∧ c ≤ 999) ∧ 1 ≤ m ∧ m ≤ 99) (g2 : e 241 8 < 8) : HE s (ups (ups (ups (ups (ups e 248 (e 241 8).toNat a) 249 (e 241 8).toNat b) 250 (e 241 8).toNat c) 251 (e 241 8).toNat m) 241 8 (e 241 8 + 1)) P (ups (ups (ups (ups (ups (ups (ups (ups (ups (ups d 11 2 (e 241 8 + 1)) 17 (e 241 8).toNat a) 18 (e 241 8).toNat b) 19 (e 241 8).toNat c) 20 (e 241 8).toNat m) 248 (e 241 8).toNat a) 249 (e 241 8).toNat b) 250 (e 241 8).toNat c) 251 (e 241 8).toNat m) 241 8 (e 241 8 + 1)) := by
  obtain ⟨h1, h2, hf, hM, hE, hR, hI, h0, hO, hZ, hX⟩ := h
  have nn := we_n hE
  have nl := we_l hE
  have np := we_p hE
  have no := we_o hE
  have nc := we_c hE
  have nr := we_r hE
  have nk := we_k hE
  have ns := we_s hE
  have nt := we_t hE
  refine ⟨h1, by show d 242 = P; exact h2, by unfold FC; simp (disch := omega) only [ups_same, ups_ne, fs_eq, fs_ne, (fc_11_0 hf), (fc_11_1 hf), (fc_11_2 hf), (fc_11_3 hf), (fc_11_4 hf), (fc_24_0 hf), (fc_24_1 hf), (fc_24_2 hf), (fc_36_2 hf), (fc_12 hf), (fc_13 hf), (fc_14 hf), (fc_15 hf), (fc_16 hf), (fc_17 hf), (fc_18 hf), (fc_19 hf), (fc_20 hf), (fc_21 hf), (fc_22 hf), (fc_23 hf), (fc_25 hf), (fc_26 hf), (fc_27 hf), (fc_28 hf), (fc_29 hf), (fc_30 hf), (fc_31 hf), (fc_32 hf), (fc_33 hf), (fc_34 hf), (fc_35 hf), (fc_2_0 hf), (fc_2_1 hf), (fc_2_2 hf), (fc_2_3 hf), (fc_2_4 hf), (fc_2_5 hf), (fc_3_0 hf), (fc_3_1 hf), (fc_3_2 hf), (fc_3_3 hf), (fc_3_4 hf), (fc_3_5 hf), (fc_4_0 hf), (fc_4_1 hf), (fc_4_2 hf), (fc_4_3 hf), (fc_4_4 hf), (fc_4_5 hf), (fc_5_0 hf), (fc_5_1 hf), (fc_5_2 hf), (fc_5_3 hf), (fc_5_4 hf), (fc_5_5 hf), (fc_6_0 hf), (fc_6_1 hf), (fc_6_2 hf), (fc_6_3 hf), (fc_6_4 hf), (fc_6_5 hf), true_and, and_true], by unfold FM; simp (disch := omega) only [ups_same, ups_ne, fs_eq, fs_ne, (fm_1 hM), (fm_3 hM), (fm_8 hM), (fm_13 hM), (fm_17 hM), (fm_18 hM), (fm_21 hM), (fm_26 hM), (fm_36 hM), (fm_243 hM), (fm_244 hM), (fm_245 hM), (fm_246 hM), (fm_247 hM), (fm_248 hM), (fm_249 hM), (fm_250 hM), (fm_251 hM), (fm_252 hM), (fm_253 hM), (fm_254 hM), (fm_255 hM), (fm_256 hM), (fm_257 hM), (fm_258 hM), (fm_259 hM), (fm_260 hM), (fm_261 hM), (fm_262 hM), (fm_263 hM), (fm_264 hM), (fm_265 hM), (fm_268 hM), (fm_269 hM), true_and, and_true], ⟨(by have y := we_n hE; exact y), (by have y := we_l hE; exact y), ⟨by show 0 ≤ e 241 8 + 1; omega, by show e 241 8 + 1 ≤ 8; omega⟩, (by have y := we_o hE; exact y), (by have y := we_c hE; exact y), (by have y := we_r hE; exact y), (by have y := we_k hE; exact y), (by have y := we_s hE; exact y), (by have y := we_t hE; exact y), (by have y := we_x hE; exact y), (by have y := we_L hE; exact y), (by have y := we_L2 hE; exact y), fun i => ?hP, fun i hi => ?hP2, (by have y := we_O hE; exact y), (by have y := we_O2 hE; exact y), (by have y := we_R hE; exact y), (by have y := we_K hE; exact y), fun i hi => ⟨(we_K2 hE i hi).1, (we_K2 hE i hi).2.1, hasS_up (we_K2 hE i hi).2.2 (by show e 241 3 ≤ e 241 3; omega) (by show e 241 8 ≤ e 241 8 + 1; omega) (by show e 241 13 ≤ e 241 13; omega)⟩, (by have y := we_S hE; exact y)⟩, RL_eg hR (fun a ha hb => by simp (disch := omega) only [ups_ne]) (by show (e 241 1).toNat ≤ 14; omega) (by show (e 241 13).toNat ≤ 12; omega) (by have y := q5_2 hR; exact y) (by have y := q5_2b hR; exact y) (by have y := q5_19 hR; exact y) (by have y := q5_19b hR; exact y) (fun _ _ => rfl), ⟨⟨WQ_eg hI.1.1 (by have y := wp_i hI.1.1; exact y) (fun _ _ => rfl) (fun i hi => (wp_g hI.1.1 i hi).1), CI_eg hE hI.1.2.1 (Or.inl rfl) (by show (e 241 1).toNat ≤ 14; omega) (Or.inl rfl) (fun l hl => ⟨rfl, rfl, rfl⟩) (Or.inr ⟨by show (e 241 8 + 1).toNat = (e 241 8).toNat + 1; omega, by rw [hZ _ (by unfold Zx; omega)]; decide⟩) (fun l hl => ⟨rfl, by show fset (e 249) _ _ l = _; exact fs_ne (by omega)⟩) (fun i hi => rfl), UN_eg hI.1.1 hI.1.2.2 (Or.inl rfl) (fun i hi => ⟨rfl, rfl⟩)⟩, LF_eg hI.2 (fun j hj => rfl)⟩, h0, OK_eg hO hE (fun a ha hb => by simp (disch := omega) only [ups_ne]) rfl rfl rfl, ZF_eg hZ (fun j hj => by have hj : (56 + (e 241 1).toNat ≤ j ∧ j < 70) ∨ (84 + (e 241 3).toNat ≤ j ∧ j < 104) ∨ (104 + (e 241 8 + 1).toNat ≤ j ∧ j < 112) := hj; exact ⟨by unfold Zx; omega, rfl⟩), XS_up hX (fun a ha => by simp (disch := omega) only [ups_ne]) (by simp (disch := omega) only [ups_same, ups_ne, fs_ne]) (by simp (disch := omega) only [ups_same, ups_ne, fs_ne])⟩
  case hP =>
    have y := we_P hE i
    show (0 ≤ fset (e 248) (e 241 8).toNat a i ∧ fset (e 248) (e 241 8).toNat a i ≤ 5) ∧ (0 ≤ fset (e 249) (e 241 8).toNat b i ∧ fset (e 249) (e 241 8).toNat b i < 14) ∧ (0 ≤ fset (e 250) (e 241 8).toNat c i ∧ fset (e 250) (e 241 8).toNat c i ≤ 999) ∧ (0 ≤ fset (e 251) (e 241 8).toNat m i ∧ fset (e 251) (e 241 8).toNat m i ≤ 99)
    simp only [fs_rd]
    by_cases y2 : i = (e 241 8).toNat
    · simp only [if_pos y2]
      omega
    · simp only [if_neg y2]
      exact y
  case hP2 =>
    have hi : i < (e 241 8 + 1).toNat := hi
    show fset (e 249) (e 241 8).toNat b i < e 241 1 ∧ 1 ≤ fset (e 250) (e 241 8).toNat c i ∧ 1 ≤ fset (e 251) (e 241 8).toNat m i
    simp only [fs_rd]
    by_cases y2 : i = (e 241 8).toNat
    · simp only [if_pos y2]
      omega
    · simp only [if_neg y2]
      exact we_P2 hE i (by omega)
theorem ok_plant {a b c m : Int} (h : HV s d) : Ok2 L (k + 9) 3 43 [vI a, vI b, vI c, vI m] s d := by
  obtain ⟨e, P, h⟩ := h
  have ⟨h1, h2, hf, hM, hE, hR, hI, h0, hO, hZ, hX⟩ := h
  refine (c2_D_plant hf hE).mpr ?_
  by_cases g0 : 0 ≤ b ∧ b < e 241 1
  · rw [if_pos g0]
    by_cases g1 : (0 ≤ a ∧ a ≤ 5) ∧ (1 ≤ c ∧ c ≤ 999) ∧ 1 ≤ m ∧ m ≤ 99
    · rw [if_pos g1]
      by_cases g2 : e 241 8 < 8
      · rw [if_pos g2]
        have hM1 : FM (ups (ups (ups (ups (ups d 11 2 (e 241 8 + 1)) 17 (e 241 8).toNat a) 18 (e 241 8).toNat b) 19 (e 241 8).toNat c) 20 (e 241 8).toNat m) e := FM_cg hM (fun a ha hb hc => by simp (disch := omega) only [ups_ne])
        refine ⟨rfl, h1, ⟨_, rfl⟩, (c2_M_plant hM1 hE).mpr ?_⟩
        rw [if_pos g0, if_pos g1, if_pos g2]
        exact ⟨rfl, rfl, _, _, HE_plant h g0 g1 g2⟩
      · rw [if_neg g2]
        refine ⟨rfl, h1, ⟨_, rfl⟩, (c2_M_plant hM hE).mpr ?_⟩
        rw [if_pos g0, if_pos g1, if_neg g2]
        exact ⟨rfl, rfl, e, P, h⟩
    · rw [if_neg g1]
      refine ⟨rfl, h1, ⟨_, rfl⟩, (c2_M_plant hM hE).mpr ?_⟩
      rw [if_pos g0, if_neg g1]
      exact ⟨rfl, rfl, e, P, h⟩
  · rw [if_neg g0]
    refine ⟨rfl, h1, ⟨_, rfl⟩, (c2_M_plant hM hE).mpr ?_⟩
    rw [if_neg g0]
    exact ⟨rfl, rfl, e, P, h⟩
theorem c2_D_load {a b c : Int} (hf : FC d e) (hE : WE e) : Cl (k + 9) 4 [vR 10, vI a, vI b, vI c] (SH L) d R ↔ (if 0 ≤ a ∧ a < e 241 1 then (if (1 ≤ b ∧ b ≤ 999) ∧ 0 ≤ c ∧ c ≤ 9 then (if e 241 13 < 12 then R (vI (e 241 13)) (SH L) (ups (ups (ups (ups d 11 3 (e 241 13 + 1)) 21 (e 241 13).toNat a) 22 (e 241 13).toNat b) 23 (e 241 13).toNat c) else R (vI (-4)) (SH L) d) else R (vI (-2)) (SH L) d) else R (vI (-1)) (SH L) d) := by
  have n0 := we_o hE
  refine (Cl_iff rfl).trans ?_
  show Go (k + 8) 4 R 0 [vR 10, vI a, vI b, vI c, vU] [] (SH L) d ↔ _
  simp (disch := omega) only [s_D_load_0, s_D_load_1, s_D_load_2, s_D_load_5, s_D_load_8, s_D_load_11, s_D_load_14, s_D_load_15, s_D_load_16, s_D_load_17, s_D_load_18, s_D_load_21, s_D_load_24, s_D_load_27, s_D_load_28, s_D_load_29, s_D_load_31, s_D_load_34, s_D_load_37, s_D_load_39, s_D_load_40, s_D_load_41, s_D_load_44, s_D_load_47, s_D_load_49, s_D_load_52, s_D_load_54, s_D_load_55, s_D_load_56, s_D_load_59, s_D_load_60, s_D_load_63, s_D_load_64, s_D_load_65, s_D_load_66, s_D_load_69, s_D_load_71, s_D_load_72, s_D_load_75, s_D_load_78, s_D_load_80, s_D_load_81, s_D_load_82, s_D_load_83, s_D_load_86, s_D_load_89, s_D_load_91, s_D_load_92, s_D_load_93, s_D_load_94, s_D_load_97, s_D_load_100, s_D_load_102, s_D_load_103, s_D_load_104, s_D_load_106, c_D_within, c_D_isOf, k_1, n_1, k_2, n_2, k_3, n_3, k_4, n_4, k_5, n_5, k_6, n_6, k_7, n_7, k_8, n_8, k_9, n_9, k_10, r_10_0, r_10_1, r_10_2, r_10_3, r_10_4, r_10_5, k_11, r_11_5, r_11_6, r_11_7, r_11_8, r_11_9, r_11_10, r_11_11, r_11_12, r_11_13, r_11_14, r_11_15, r_11_16, k_12, n_12, k_13, n_13, k_14, n_14, k_15, n_15, k_16, n_16, k_17, n_17, k_18, n_18, k_19, n_19, k_20, n_20, k_21, n_21, k_22, n_22, k_23, n_23, k_24, r_24_3, r_24_4, r_24_5, r_24_6, r_24_7, r_24_8, r_24_9, r_24_10, r_24_11, r_24_12, r_24_13, k_25, n_25, k_26, n_26, k_27, n_27, k_28, n_28, k_29, n_29, k_30, n_30, k_31, n_31, k_32, n_32, k_33, n_33, k_34, n_34, k_35, n_35, k_36, r_36_0, r_36_3, r_36_4, r_36_5, r_36_6, r_36_7, k_37, n_37, k_38, n_38, k_39, n_39, r_39_0, r_39_1, r_39_2, r_39_3, r_39_4, r_39_5, k_40, n_40, k_41, n_41, k_42, n_42, k_43, n_43, k_44, n_44, k_45, n_45, k_46, n_46, k_47, n_47, k_48, r_48_0, r_48_1, r_48_5, k_49, n_49, k_50, n_50, k_51, n_51, k_52, r_52_0, r_52_1, r_52_2, r_52_3, r_52_4, r_52_5, r_52_6, r_52_7, r_52_8, r_52_9, r_52_10, r_52_11, r_52_12, r_52_13, k_53, r_53_0, r_53_1, r_53_2, r_53_3, r_53_4, r_53_5, r_53_6, k_54, n_54, k_55, n_55, k_56, n_56, k_57, n_57, k_58, n_58, k_59, n_59, k_60, n_60, k_61, r_61_0, r_61_1, r_61_2, r_61_3, k_62, n_62, k_63, n_63, k_64, n_64, k_65, n_65, k_66, r_66_0, r_66_1, r_66_2, r_66_3, r_66_4, r_66_5, k_67, n_67, k_68, n_68, k_69, n_69, k_70, n_70, k_71, n_71, k_72, n_72, k_73, n_73, k_74, n_74, k_75, n_75, k_76, n_76, k_77, n_77, k_78, n_78, k_79, n_79, k_80, n_80, k_81, r_81_0, r_81_1, r_81_2, r_81_3, r_81_4, r_81_9, r_81_10, k_82, n_82, r_82_0, r_82_1, r_82_2, r_82_3, k_83, n_83, k_84, n_84, k_85, n_85, k_86, n_86, k_87, r_87_0, r_87_1, r_87_2, r_87_3, r_87_4, r_87_5, r_87_6, r_87_7, r_87_8, r_87_9, r_87_10, r_87_11, r_87_12, r_87_13, k_116, r_116_0, r_116_1, r_116_2, r_116_3, r_116_4, r_116_5, r_116_6, r_116_7, r_116_8, r_116_9, r_116_10, r_116_11, r_116_12, r_116_13, k_145, r_145_0, r_145_1, r_145_2, r_145_3, r_145_4, r_145_5, r_145_6, r_145_7, r_145_8, r_145_9, r_145_10, r_145_11, r_145_12, r_145_13, k_174, r_174_0, r_174_1, r_174_2, r_174_3, r_174_4, r_174_5, r_174_6, r_174_7, r_174_8, r_174_9, r_174_10, r_174_11, r_174_12, r_174_13, k_203, r_203_0, r_203_1, r_203_2, r_203_3, r_203_4, r_203_5, r_203_6, r_203_7, r_203_8, r_203_9, r_203_10, r_203_11, r_203_12, r_203_13, k_232, n_232, r_232_0, r_232_1, r_232_2, r_232_3, k_233, r_233_2, k_234, n_234, k_235, r_235_2, k_236, n_236, k_237, r_237_2, k_238, n_238, k_239, r_239_2, k_240, n_240, ldI, fc_11_0 hf, fc_11_1 hf, fc_11_2 hf, fc_11_3 hf, fc_11_4 hf, fc_24_0 hf, fc_24_1 hf, fc_24_2 hf, fc_36_2 hf, u_ne, u_eq, wr_1p, if10, Classical.not_not]
  clear hf hE
  grind (splits := 60)
theorem c2_M_load {a b c : Int} (hM : FM d e) (hE : WE e) : Cl (k + 9) 44 [vR 241, vI a, vI b, vI c] (SH L) d R ↔ (if 0 ≤ a ∧ a < e 241 1 then (if (1 ≤ b ∧ b ≤ 999) ∧ 0 ≤ c ∧ c ≤ 9 then (if e 241 13 < 12 then R (vI (e 241 13)) (SH L) (ups (ups (ups (ups (ups d 252 (e 241 13).toNat a) 253 (e 241 13).toNat b) 254 (e 241 13).toNat c) 242 (2090 + e 241 13).toNat (60)) 241 13 (e 241 13 + 1)) else R (vI (-4)) (SH L) d) else R (vI (-2)) (SH L) d) else R (vI (-1)) (SH L) d) := by
  have n0 := we_o hE
  have n1 := we_r hE
  refine (Cl_iff rfl).trans ?_
  show Go (k + 8) 44 R 0 [vR 241, vI a, vI b, vI c] [] (SH L) d ↔ _
  simp (disch := omega) only [s_M_load_0, s_M_load_1, s_M_load_2, s_M_load_5, s_M_load_8, s_M_load_9, s_M_load_10, s_M_load_11, s_M_load_12, s_M_load_15, s_M_load_18, s_M_load_21, s_M_load_22, s_M_load_23, s_M_load_25, s_M_load_28, s_M_load_31, s_M_load_33, s_M_load_34, s_M_load_35, s_M_load_38, s_M_load_40, s_M_load_43, s_M_load_45, s_M_load_46, s_M_load_47, s_M_load_50, s_M_load_51, s_M_load_54, s_M_load_55, s_M_load_56, s_M_load_57, s_M_load_60, s_M_load_61, s_M_load_64, s_M_load_65, s_M_load_66, s_M_load_67, s_M_load_70, s_M_load_71, s_M_load_74, s_M_load_75, s_M_load_76, s_M_load_77, s_M_load_80, s_M_load_83, s_M_load_84, s_M_load_87, s_M_load_88, s_M_load_90, s_M_load_91, s_M_load_92, s_M_load_93, s_M_load_96, s_M_load_97, s_M_load_98, s_M_load_101, s_M_load_102, s_M_load_105, s_M_load_106, s_M_load_107, c_M_within, c_M_isNode2 hM hE, c_M_isText2 hM hE, c_M_isOf2 hM hE, k_1, n_1, k_241, r_241_0, r_241_2, r_241_4, r_241_5, r_241_6, r_241_7, r_241_9, r_241_10, r_241_11, r_241_12, r_241_14, r_241_15, r_241_16, r_241_19, r_241_20, r_241_22, r_241_23, r_241_24, r_241_25, r_241_27, r_241_28, r_241_29, r_241_30, r_241_31, r_241_33, r_241_34, r_241_37, r_241_38, r_241_39, r_241_40, r_241_41, r_241_42, r_241_43, r_241_44, r_241_49, r_241_50, r_241_54, k_242, n_242, k_243, n_243, k_244, n_244, k_245, n_245, k_246, n_246, k_247, n_247, k_248, n_248, k_249, n_249, k_250, n_250, k_251, n_251, k_252, n_252, k_253, n_253, k_254, n_254, k_255, n_255, k_256, n_256, k_257, n_257, k_258, n_258, k_259, n_259, k_260, n_260, k_261, n_261, k_262, n_262, k_263, n_263, k_264, n_264, k_265, n_265, k_266, n_266, k_267, n_267, k_268, n_268, k_269, n_269, k_270, n_270, k_271, n_271, k_272, n_272, k_273, n_273, k_274, n_274, k_275, n_275, k_276, n_276, k_277, n_277, k_278, n_278, ldI, fm_13 hM, fm_18 hM, u_ne, u_eq, wr_1p, wr_1m, wr_m1, in_of, wr_ix, if10, Classical.not_not]
  clear hM hE
  grind (splits := 60)
theorem HE_load {a b c : Int} (h : HE s e P d) (g0 : 0 ≤ a ∧ a < e 241 1) (g1 : (1 ≤ b ∧ b ≤ 999) ∧ 0 ≤ c ∧ c ≤ 9) (g2 : e 241 13 < 12) : HE s (ups (ups (ups (ups e 252 (e 241 13).toNat a) 253 (e 241 13).toNat b) 254 (e 241 13).toNat c) 241 13 (e 241 13 + 1)) (fset P (2090 + (e 241 13).toNat) (60)) (ups (ups (ups (ups (ups (ups (ups (ups (ups d 11 3 (e 241 13 + 1)) 21 (e 241 13).toNat a) 22 (e 241 13).toNat b) 23 (e 241 13).toNat c) 252 (e 241 13).toNat a) 253 (e 241 13).toNat b) 254 (e 241 13).toNat c) 242 (2090 + e 241 13).toNat (60)) 241 13 (e 241 13 + 1)) := by
  obtain ⟨h1, h2, hf, hM, hE, hR, hI, h0, hO, hZ, hX⟩ := h
  have nn := we_n hE
  have nl := we_l hE
  have np := we_p hE
  have no := we_o hE
  have nc := we_c hE
  have nr := we_r hE
  have nk := we_k hE
  have ns := we_s hE
  have nt := we_t hE
  refine ⟨h1, by show fset (d 242) (2090 + e 241 13).toNat _ = _; rw [h2, tn_2090]; omega, by unfold FC; simp (disch := omega) only [ups_same, ups_ne, fs_eq, fs_ne, (fc_11_0 hf), (fc_11_1 hf), (fc_11_2 hf), (fc_11_3 hf), (fc_11_4 hf), (fc_24_0 hf), (fc_24_1 hf), (fc_24_2 hf), (fc_36_2 hf), (fc_12 hf), (fc_13 hf), (fc_14 hf), (fc_15 hf), (fc_16 hf), (fc_17 hf), (fc_18 hf), (fc_19 hf), (fc_20 hf), (fc_21 hf), (fc_22 hf), (fc_23 hf), (fc_25 hf), (fc_26 hf), (fc_27 hf), (fc_28 hf), (fc_29 hf), (fc_30 hf), (fc_31 hf), (fc_32 hf), (fc_33 hf), (fc_34 hf), (fc_35 hf), (fc_2_0 hf), (fc_2_1 hf), (fc_2_2 hf), (fc_2_3 hf), (fc_2_4 hf), (fc_2_5 hf), (fc_3_0 hf), (fc_3_1 hf), (fc_3_2 hf), (fc_3_3 hf), (fc_3_4 hf), (fc_3_5 hf), (fc_4_0 hf), (fc_4_1 hf), (fc_4_2 hf), (fc_4_3 hf), (fc_4_4 hf), (fc_4_5 hf), (fc_5_0 hf), (fc_5_1 hf), (fc_5_2 hf), (fc_5_3 hf), (fc_5_4 hf), (fc_5_5 hf), (fc_6_0 hf), (fc_6_1 hf), (fc_6_2 hf), (fc_6_3 hf), (fc_6_4 hf), (fc_6_5 hf), true_and, and_true], by unfold FM; simp (disch := omega) only [ups_same, ups_ne, fs_eq, fs_ne, (fm_1 hM), (fm_3 hM), (fm_8 hM), (fm_13 hM), (fm_17 hM), (fm_18 hM), (fm_21 hM), (fm_26 hM), (fm_36 hM), (fm_243 hM), (fm_244 hM), (fm_245 hM), (fm_246 hM), (fm_247 hM), (fm_248 hM), (fm_249 hM), (fm_250 hM), (fm_251 hM), (fm_252 hM), (fm_253 hM), (fm_254 hM), (fm_255 hM), (fm_256 hM), (fm_257 hM), (fm_258 hM), (fm_259 hM), (fm_260 hM), (fm_261 hM), (fm_262 hM), (fm_263 hM), (fm_264 hM), (fm_265 hM), (fm_268 hM), (fm_269 hM), true_and, and_true], ⟨(by have y := we_n hE; exact y), (by have y := we_l hE; exact y), (by have y := we_p hE; exact y), ⟨by show 0 ≤ e 241 13 + 1; omega, by show e 241 13 + 1 ≤ 12; omega⟩, (by have y := we_c hE; exact y), (by have y := we_r hE; exact y), (by have y := we_k hE; exact y), (by have y := we_s hE; exact y), (by have y := we_t hE; exact y), (by have y := we_x hE; exact y), (by have y := we_L hE; exact y), (by have y := we_L2 hE; exact y), (by have y := we_P hE; exact y), (by have y := we_P2 hE; exact y), fun i => ?hO, fun i hi => ?hO2, (by have y := we_R hE; exact y), (by have y := we_K hE; exact y), fun i hi => ⟨(we_K2 hE i hi).1, (we_K2 hE i hi).2.1, hasS_up (we_K2 hE i hi).2.2 (by show e 241 3 ≤ e 241 3; omega) (by show e 241 8 ≤ e 241 8; omega) (by show e 241 13 ≤ e 241 13 + 1; omega)⟩, (by have y := we_S hE; exact y)⟩, RL_eg hR (fun a ha hb => by simp (disch := omega) only [ups_ne]) (by show (e 241 1).toNat ≤ 14; omega) (by show (e 241 13 + 1).toNat ≤ 12; omega) (fun i hi => by have hi : i < (e 241 1).toNat := hi; rw [fs_ne (by omega)]; exact (q5_2 hR) i hi) (by have y := q5_2b hR; exact y) (fun i hi => ?hr19) (fun i hi hi2 => (q5_19b hR) i (by have : (e 241 13 + 1).toNat ≤ i := hi; omega) hi2) (fun j hj => fs_ne (by omega)), ⟨⟨WQ_eg hI.1.1 (fun i hi => by have hi : i < (e 241 1).toNat := hi; rw [fs_ne (by omega)]; exact wp_i hI.1.1 i hi) (fun j hj => fs_ne (by omega)) (fun i hi => by rw [fs_ne (by omega)]; exact (wp_g hI.1.1 i hi).1), CI_eg hE hI.1.2.1 (Or.inl rfl) (by show (e 241 1).toNat ≤ 14; omega) (Or.inl rfl) (fun l hl => ⟨fs_ne (by omega), rfl, rfl⟩) (Or.inl rfl) (fun l hl => ⟨fs_ne (by omega), rfl⟩) (fun i hi => fs_ne (by omega)), UN_eg hI.1.1 hI.1.2.2 (Or.inl rfl) (fun i hi => ⟨fs_ne (by omega), fs_ne (by omega)⟩)⟩, LF_eg hI.2 (fun j hj => fs_ne (by omega))⟩, by rw [fs_ne (by omega), fs_ne (by omega)]; exact h0, OK_eg hO hE (fun a ha hb => by simp (disch := omega) only [ups_ne]) rfl rfl rfl, ZF_eg hZ (fun j hj => by have hj : (56 + (e 241 1).toNat ≤ j ∧ j < 70) ∨ (84 + (e 241 3).toNat ≤ j ∧ j < 104) ∨ (104 + (e 241 8).toNat ≤ j ∧ j < 112) := hj; exact ⟨by unfold Zx; omega, fs_ne (by omega)⟩), XS_up hX (fun a ha => by simp (disch := omega) only [ups_ne]) (by simp (disch := omega) only [ups_same, ups_ne, fs_ne]) (by simp (disch := omega) only [ups_same, ups_ne, fs_ne])⟩
  case hO =>
    have y := we_O hE i
    show (0 ≤ fset (e 252) (e 241 13).toNat a i ∧ fset (e 252) (e 241 13).toNat a i < 14) ∧ (0 ≤ fset (e 253) (e 241 13).toNat b i ∧ fset (e 253) (e 241 13).toNat b i ≤ 999) ∧ (0 ≤ fset (e 254) (e 241 13).toNat c i ∧ fset (e 254) (e 241 13).toNat c i ≤ 9)
    simp only [fs_rd]
    by_cases y2 : i = (e 241 13).toNat
    · simp only [if_pos y2]
      omega
    · simp only [if_neg y2]
      exact y
  case hO2 =>
    have hi : i < (e 241 13 + 1).toNat := hi
    show fset (e 252) (e 241 13).toNat a i < e 241 1
    simp only [fs_rd]
    by_cases y2 : i = (e 241 13).toNat
    · simp only [if_pos y2]
      omega
    · simp only [if_neg y2]
      exact we_O2 hE i (by omega)
  case hr19 =>
    have hi : i < (e 241 13 + 1).toNat := hi
    rw [fs_rd]
    by_cases y2 : i = (e 241 13).toNat
    · rw [if_pos (by omega), (q5_19b hR) i (by omega) (by omega)]
    · rw [if_neg (by omega)]
      exact (q5_19 hR) i (by omega)
theorem ok_load {a b c : Int} (h : HV s d) : Ok2 L (k + 9) 4 44 [vI a, vI b, vI c] s d := by
  obtain ⟨e, P, h⟩ := h
  have ⟨h1, h2, hf, hM, hE, hR, hI, h0, hO, hZ, hX⟩ := h
  refine (c2_D_load hf hE).mpr ?_
  by_cases g0 : 0 ≤ a ∧ a < e 241 1
  · rw [if_pos g0]
    by_cases g1 : (1 ≤ b ∧ b ≤ 999) ∧ 0 ≤ c ∧ c ≤ 9
    · rw [if_pos g1]
      by_cases g2 : e 241 13 < 12
      · rw [if_pos g2]
        have hM1 : FM (ups (ups (ups (ups d 11 3 (e 241 13 + 1)) 21 (e 241 13).toNat a) 22 (e 241 13).toNat b) 23 (e 241 13).toNat c) e := FM_cg hM (fun a ha hb hc => by simp (disch := omega) only [ups_ne])
        refine ⟨rfl, h1, ⟨_, rfl⟩, (c2_M_load hM1 hE).mpr ?_⟩
        rw [if_pos g0, if_pos g1, if_pos g2]
        exact ⟨rfl, rfl, _, _, HE_load h g0 g1 g2⟩
      · rw [if_neg g2]
        refine ⟨rfl, h1, ⟨_, rfl⟩, (c2_M_load hM hE).mpr ?_⟩
        rw [if_pos g0, if_pos g1, if_neg g2]
        exact ⟨rfl, rfl, e, P, h⟩
    · rw [if_neg g1]
      refine ⟨rfl, h1, ⟨_, rfl⟩, (c2_M_load hM hE).mpr ?_⟩
      rw [if_pos g0, if_neg g1]
      exact ⟨rfl, rfl, e, P, h⟩
  · rw [if_neg g0]
    refine ⟨rfl, h1, ⟨_, rfl⟩, (c2_M_load hM hE).mpr ?_⟩
    rw [if_neg g0]
    exact ⟨rfl, rfl, e, P, h⟩
theorem c2_D_crew {a : Int} (hf : FC d e) (hE : WE e) : Cl (k + 9) 5 [vR 10, vI a] (SH L) d R ↔ (if 0 ≤ a ∧ a < e 241 1 then (if e 241 17 < 4 then R (vI (e 241 17)) (SH L) (ups (ups d 73 (e 241 17).toNat a) 11 4 (e 241 17 + 1)) else R (vI (-4)) (SH L) d) else R (vI (-1)) (SH L) d) := by
  have n0 := we_c hE
  refine (Cl_iff rfl).trans ?_
  show Go (k + 8) 5 R 0 [vR 10, vI a] [] (SH L) d ↔ _
  simp (disch := omega) only [s_D_crew_0, s_D_crew_1, s_D_crew_2, s_D_crew_5, s_D_crew_8, s_D_crew_11, s_D_crew_14, s_D_crew_15, s_D_crew_16, s_D_crew_17, s_D_crew_20, s_D_crew_23, s_D_crew_24, s_D_crew_27, s_D_crew_29, s_D_crew_30, s_D_crew_31, s_D_crew_34, s_D_crew_37, s_D_crew_38, s_D_crew_41, s_D_crew_44, s_D_crew_45, s_D_crew_46, s_D_crew_47, s_D_crew_50, s_D_crew_51, s_D_crew_54, s_D_crew_55, s_D_crew_56, s_D_crew_57, s_D_crew_60, c_D_within, c_D_isOf, k_1, n_1, k_2, n_2, k_3, n_3, k_4, n_4, k_5, n_5, k_6, n_6, k_7, n_7, k_8, n_8, k_9, n_9, k_10, r_10_0, r_10_1, r_10_2, r_10_3, r_10_4, r_10_5, k_11, r_11_5, r_11_6, r_11_7, r_11_8, r_11_9, r_11_10, r_11_11, r_11_12, r_11_13, r_11_14, r_11_15, r_11_16, k_12, n_12, k_13, n_13, k_14, n_14, k_15, n_15, k_16, n_16, k_17, n_17, k_18, n_18, k_19, n_19, k_20, n_20, k_21, n_21, k_22, n_22, k_23, n_23, k_24, r_24_3, r_24_4, r_24_5, r_24_6, r_24_7, r_24_8, r_24_9, r_24_10, r_24_11, r_24_12, r_24_13, k_25, n_25, k_26, n_26, k_27, n_27, k_28, n_28, k_29, n_29, k_30, n_30, k_31, n_31, k_32, n_32, k_33, n_33, k_34, n_34, k_35, n_35, k_36, r_36_0, r_36_3, r_36_4, r_36_5, r_36_6, r_36_7, k_37, n_37, k_38, n_38, k_39, n_39, r_39_0, r_39_1, r_39_2, r_39_3, r_39_4, r_39_5, k_40, n_40, k_41, n_41, k_42, n_42, k_43, n_43, k_44, n_44, k_45, n_45, k_46, n_46, k_47, n_47, k_48, r_48_0, r_48_1, r_48_5, k_49, n_49, k_50, n_50, k_51, n_51, k_52, r_52_0, r_52_1, r_52_2, r_52_3, r_52_4, r_52_5, r_52_6, r_52_7, r_52_8, r_52_9, r_52_10, r_52_11, r_52_12, r_52_13, k_53, r_53_0, r_53_1, r_53_2, r_53_3, r_53_4, r_53_5, r_53_6, k_54, n_54, k_55, n_55, k_56, n_56, k_57, n_57, k_58, n_58, k_59, n_59, k_60, n_60, k_61, r_61_0, r_61_1, r_61_2, r_61_3, k_62, n_62, k_63, n_63, k_64, n_64, k_65, n_65, k_66, r_66_0, r_66_1, r_66_2, r_66_3, r_66_4, r_66_5, k_67, n_67, k_68, n_68, k_69, n_69, k_70, n_70, k_71, n_71, k_72, n_72, k_73, n_73, k_74, n_74, k_75, n_75, k_76, n_76, k_77, n_77, k_78, n_78, k_79, n_79, k_80, n_80, k_81, r_81_0, r_81_1, r_81_2, r_81_3, r_81_4, r_81_9, r_81_10, k_82, n_82, r_82_0, r_82_1, r_82_2, r_82_3, k_83, n_83, k_84, n_84, k_85, n_85, k_86, n_86, k_87, r_87_0, r_87_1, r_87_2, r_87_3, r_87_4, r_87_5, r_87_6, r_87_7, r_87_8, r_87_9, r_87_10, r_87_11, r_87_12, r_87_13, k_116, r_116_0, r_116_1, r_116_2, r_116_3, r_116_4, r_116_5, r_116_6, r_116_7, r_116_8, r_116_9, r_116_10, r_116_11, r_116_12, r_116_13, k_145, r_145_0, r_145_1, r_145_2, r_145_3, r_145_4, r_145_5, r_145_6, r_145_7, r_145_8, r_145_9, r_145_10, r_145_11, r_145_12, r_145_13, k_174, r_174_0, r_174_1, r_174_2, r_174_3, r_174_4, r_174_5, r_174_6, r_174_7, r_174_8, r_174_9, r_174_10, r_174_11, r_174_12, r_174_13, k_203, r_203_0, r_203_1, r_203_2, r_203_3, r_203_4, r_203_5, r_203_6, r_203_7, r_203_8, r_203_9, r_203_10, r_203_11, r_203_12, r_203_13, k_232, n_232, r_232_0, r_232_1, r_232_2, r_232_3, k_233, r_233_2, k_234, n_234, k_235, r_235_2, k_236, n_236, k_237, r_237_2, k_238, n_238, k_239, r_239_2, k_240, n_240, ldI, fc_11_0 hf, fc_11_1 hf, fc_11_2 hf, fc_11_3 hf, fc_11_4 hf, fc_24_0 hf, fc_24_1 hf, fc_24_2 hf, fc_36_2 hf, u_ne, u_eq, wr_1p, if10, Classical.not_not]
  clear hf hE
  grind (splits := 60)
theorem c2_M_crew {a : Int} (hM : FM d e) (hE : WE e) : Cl (k + 9) 45 [vR 241, vI a] (SH L) d R ↔ (if 0 ≤ a ∧ a < e 241 1 then (if e 241 17 < 4 then R (vI (e 241 17)) (SH L) (ups (ups d 242 (196 + e 241 17).toNat (a)) 241 17 (e 241 17 + 1)) else R (vI (-4)) (SH L) d) else R (vI (-1)) (SH L) d) := by
  have n0 := we_c hE
  have n1 := we_r hE
  refine (Cl_iff rfl).trans ?_
  show Go (k + 8) 45 R 0 [vR 241, vI a] [] (SH L) d ↔ _
  simp (disch := omega) only [s_M_crew_0, s_M_crew_1, s_M_crew_2, s_M_crew_5, s_M_crew_8, s_M_crew_9, s_M_crew_10, s_M_crew_11, s_M_crew_14, s_M_crew_15, s_M_crew_18, s_M_crew_20, s_M_crew_21, s_M_crew_22, s_M_crew_25, s_M_crew_28, s_M_crew_29, s_M_crew_32, s_M_crew_33, s_M_crew_34, s_M_crew_35, s_M_crew_36, s_M_crew_37, s_M_crew_40, s_M_crew_41, s_M_crew_42, s_M_crew_45, s_M_crew_46, s_M_crew_49, s_M_crew_50, s_M_crew_51, c_M_within, c_M_isNode2 hM hE, c_M_isText2 hM hE, c_M_isOf2 hM hE, k_1, n_1, k_241, r_241_0, r_241_2, r_241_4, r_241_5, r_241_6, r_241_7, r_241_9, r_241_10, r_241_11, r_241_12, r_241_14, r_241_15, r_241_16, r_241_19, r_241_20, r_241_22, r_241_23, r_241_24, r_241_25, r_241_27, r_241_28, r_241_29, r_241_30, r_241_31, r_241_33, r_241_34, r_241_37, r_241_38, r_241_39, r_241_40, r_241_41, r_241_42, r_241_43, r_241_44, r_241_49, r_241_50, r_241_54, k_242, n_242, k_243, n_243, k_244, n_244, k_245, n_245, k_246, n_246, k_247, n_247, k_248, n_248, k_249, n_249, k_250, n_250, k_251, n_251, k_252, n_252, k_253, n_253, k_254, n_254, k_255, n_255, k_256, n_256, k_257, n_257, k_258, n_258, k_259, n_259, k_260, n_260, k_261, n_261, k_262, n_262, k_263, n_263, k_264, n_264, k_265, n_265, k_266, n_266, k_267, n_267, k_268, n_268, k_269, n_269, k_270, n_270, k_271, n_271, k_272, n_272, k_273, n_273, k_274, n_274, k_275, n_275, k_276, n_276, k_277, n_277, k_278, n_278, ldI, fm_17 hM, fm_18 hM, u_ne, u_eq, wr_1p, wr_1m, wr_m1, in_of, wr_ix, if10, Classical.not_not]
  clear hM hE
  grind (splits := 60)
theorem HE_crew {a : Int} (h : HE s e P d) (g0 : 0 ≤ a ∧ a < e 241 1) (g1 : e 241 17 < 4) : HE s (ups e 241 17 (e 241 17 + 1)) (fset P (196 + (e 241 17).toNat) (a)) (ups (ups (ups (ups d 73 (e 241 17).toNat a) 11 4 (e 241 17 + 1)) 242 (196 + e 241 17).toNat (a)) 241 17 (e 241 17 + 1)) := by
  obtain ⟨h1, h2, hf, hM, hE, hR, hI, h0, hO, hZ, hX⟩ := h
  have nn := we_n hE
  have nl := we_l hE
  have np := we_p hE
  have no := we_o hE
  have nc := we_c hE
  have nr := we_r hE
  have nk := we_k hE
  have ns := we_s hE
  have nt := we_t hE
  refine ⟨h1, by show fset (d 242) (196 + e 241 17).toNat _ = _; rw [h2, tn_196]; omega, by unfold FC; simp (disch := omega) only [ups_same, ups_ne, fs_eq, fs_ne, (fc_11_0 hf), (fc_11_1 hf), (fc_11_2 hf), (fc_11_3 hf), (fc_11_4 hf), (fc_24_0 hf), (fc_24_1 hf), (fc_24_2 hf), (fc_36_2 hf), (fc_12 hf), (fc_13 hf), (fc_14 hf), (fc_15 hf), (fc_16 hf), (fc_17 hf), (fc_18 hf), (fc_19 hf), (fc_20 hf), (fc_21 hf), (fc_22 hf), (fc_23 hf), (fc_25 hf), (fc_26 hf), (fc_27 hf), (fc_28 hf), (fc_29 hf), (fc_30 hf), (fc_31 hf), (fc_32 hf), (fc_33 hf), (fc_34 hf), (fc_35 hf), (fc_2_0 hf), (fc_2_1 hf), (fc_2_2 hf), (fc_2_3 hf), (fc_2_4 hf), (fc_2_5 hf), (fc_3_0 hf), (fc_3_1 hf), (fc_3_2 hf), (fc_3_3 hf), (fc_3_4 hf), (fc_3_5 hf), (fc_4_0 hf), (fc_4_1 hf), (fc_4_2 hf), (fc_4_3 hf), (fc_4_4 hf), (fc_4_5 hf), (fc_5_0 hf), (fc_5_1 hf), (fc_5_2 hf), (fc_5_3 hf), (fc_5_4 hf), (fc_5_5 hf), (fc_6_0 hf), (fc_6_1 hf), (fc_6_2 hf), (fc_6_3 hf), (fc_6_4 hf), (fc_6_5 hf), true_and, and_true], by unfold FM; simp (disch := omega) only [ups_same, ups_ne, fs_eq, fs_ne, (fm_1 hM), (fm_3 hM), (fm_8 hM), (fm_13 hM), (fm_17 hM), (fm_18 hM), (fm_21 hM), (fm_26 hM), (fm_36 hM), (fm_243 hM), (fm_244 hM), (fm_245 hM), (fm_246 hM), (fm_247 hM), (fm_248 hM), (fm_249 hM), (fm_250 hM), (fm_251 hM), (fm_252 hM), (fm_253 hM), (fm_254 hM), (fm_255 hM), (fm_256 hM), (fm_257 hM), (fm_258 hM), (fm_259 hM), (fm_260 hM), (fm_261 hM), (fm_262 hM), (fm_263 hM), (fm_264 hM), (fm_265 hM), (fm_268 hM), (fm_269 hM), true_and, and_true], ⟨(by have y := we_n hE; exact y), (by have y := we_l hE; exact y), (by have y := we_p hE; exact y), (by have y := we_o hE; exact y), ⟨by show 0 ≤ e 241 17 + 1; omega, by show e 241 17 + 1 ≤ 4; omega⟩, (by have y := we_r hE; exact y), (by have y := we_k hE; exact y), (by have y := we_s hE; exact y), (by have y := we_t hE; exact y), (by have y := we_x hE; exact y), (by have y := we_L hE; exact y), (by have y := we_L2 hE; exact y), (by have y := we_P hE; exact y), (by have y := we_P2 hE; exact y), (by have y := we_O hE; exact y), (by have y := we_O2 hE; exact y), (by have y := we_R hE; exact y), (by have y := we_K hE; exact y), (by have y := we_K2 hE; exact y), (by have y := we_S hE; exact y)⟩, ?hrl, ⟨⟨WQ_eg hI.1.1 (fun i hi => by have hi : i < (e 241 1).toNat := hi; rw [fs_ne (by omega)]; exact wp_i hI.1.1 i hi) (fun j hj => fs_ne (by omega)) (fun i hi => ?hwg), CI_eg hE hI.1.2.1 (Or.inl rfl) (by show (e 241 1).toNat ≤ 14; omega) (Or.inl rfl) (fun l hl => ⟨fs_ne (by omega), rfl, rfl⟩) (Or.inl rfl) (fun l hl => ⟨fs_ne (by omega), rfl⟩) (fun i hi => fs_ne (by omega)), UN_eg hI.1.1 hI.1.2.2 (Or.inl rfl) (fun i hi => ⟨fs_ne (by omega), fs_ne (by omega)⟩)⟩, LF_eg hI.2 (fun j hj => fs_ne (by omega))⟩, by rw [fs_ne (by omega), fs_ne (by omega)]; exact h0, OK_eg hO hE (fun a ha hb => by simp (disch := omega) only [ups_ne]) rfl rfl rfl, ZF_eg hZ (fun j hj => by have hj : (56 + (e 241 1).toNat ≤ j ∧ j < 70) ∨ (84 + (e 241 3).toNat ≤ j ∧ j < 104) ∨ (104 + (e 241 8).toNat ≤ j ∧ j < 112) := hj; exact ⟨by unfold Zx; omega, fs_ne (by omega)⟩), XS_up hX (fun a ha => by simp (disch := omega) only [ups_ne]) (by simp (disch := omega) only [ups_same, ups_ne, fs_ne]) (by simp (disch := omega) only [ups_same, ups_ne, fs_ne])⟩
  case hrl =>
    have u := up_21 (v := a) hR (i := (e 241 17).toNat) (by omega)
    have u := RL_cg (d' := (ups (ups (ups (ups d 73 (e 241 17).toNat a) 11 4 (e 241 17 + 1)) 242 (196 + e 241 17).toNat (a)) 241 17 (e 241 17 + 1))) u (fun c hc hc2 => by
      show (ups (ups (ups (ups d 73 (e 241 17).toNat a) 11 4 (e 241 17 + 1)) 242 (196 + e 241 17).toNat (a)) 241 17 (e 241 17 + 1)) c = ups d 73 (e 241 17).toNat a c
      rw [ups_ne (by omega), ups_ne (by omega), ups_ne (by omega)])
    exact RL_eg u (fun _ _ _ => rfl) (by show (e 241 1).toNat ≤ 14; omega) (by show (e 241 13).toNat ≤ 12; omega) (by have y := q5_2 u; exact y) (by have y := q5_2b u; exact y) (by have y := q5_19 u; exact y) (by have y := q5_19b u; exact y) (fun _ _ => rfl)
  case hwg =>
    rw [fs_rd]
    by_cases y2 : i = (e 241 17).toNat
    · rw [if_pos (by omega)]
      omega
    · rw [if_neg (by omega)]
      exact (wp_g hI.1.1 i hi).1
theorem ok_crew {a : Int} (h : HV s d) : Ok2 L (k + 9) 5 45 [vI a] s d := by
  obtain ⟨e, P, h⟩ := h
  have ⟨h1, h2, hf, hM, hE, hR, hI, h0, hO, hZ, hX⟩ := h
  refine (c2_D_crew hf hE).mpr ?_
  by_cases g0 : 0 ≤ a ∧ a < e 241 1
  · rw [if_pos g0]
    by_cases g1 : e 241 17 < 4
    · rw [if_pos g1]
      have hM1 : FM (ups (ups d 73 (e 241 17).toNat a) 11 4 (e 241 17 + 1)) e := FM_cg hM (fun a ha hb hc => by simp (disch := omega) only [ups_ne])
      refine ⟨rfl, h1, ⟨_, rfl⟩, (c2_M_crew hM1 hE).mpr ?_⟩
      rw [if_pos g0, if_pos g1]
      exact ⟨rfl, rfl, _, _, HE_crew h g0 g1⟩
    · rw [if_neg g1]
      refine ⟨rfl, h1, ⟨_, rfl⟩, (c2_M_crew hM hE).mpr ?_⟩
      rw [if_pos g0, if_neg g1]
      exact ⟨rfl, rfl, e, P, h⟩
  · rw [if_neg g0]
    refine ⟨rfl, h1, ⟨_, rfl⟩, (c2_M_crew hM hE).mpr ?_⟩
    rw [if_neg g0]
    exact ⟨rfl, rfl, e, P, h⟩
theorem c2_D_room {a b : Int} (hf : FC d e) (hE : WE e) : Cl (k + 9) 6 [vR 10, vI a, vI b] (SH L) d R ↔ (if 0 ≤ a ∧ a < e 241 1 then (if 0 ≤ b ∧ b ≤ 30 then (if e 241 18 < 4 then R (vI (e 241 18)) (SH L) (ups (ups (ups d 25 (e 241 18).toNat a) 26 (e 241 18).toNat b) 24 0 (e 241 18 + 1)) else R (vI (-4)) (SH L) d) else R (vI (-2)) (SH L) d) else R (vI (-1)) (SH L) d) := by
  have n0 := we_r hE
  refine (Cl_iff rfl).trans ?_
  show Go (k + 8) 6 R 0 [vR 10, vI a, vI b] [] (SH L) d ↔ _
  simp (disch := omega) only [s_D_room_0, s_D_room_1, s_D_room_2, s_D_room_5, s_D_room_8, s_D_room_11, s_D_room_14, s_D_room_15, s_D_room_16, s_D_room_17, s_D_room_18, s_D_room_20, s_D_room_23, s_D_room_26, s_D_room_28, s_D_room_29, s_D_room_30, s_D_room_33, s_D_room_36, s_D_room_37, s_D_room_40, s_D_room_42, s_D_room_43, s_D_room_44, s_D_room_47, s_D_room_50, s_D_room_51, s_D_room_54, s_D_room_57, s_D_room_58, s_D_room_59, s_D_room_60, s_D_room_63, s_D_room_66, s_D_room_67, s_D_room_70, s_D_room_73, s_D_room_74, s_D_room_75, s_D_room_76, s_D_room_79, s_D_room_80, s_D_room_83, s_D_room_84, s_D_room_85, s_D_room_86, s_D_room_89, c_D_within, c_D_isOf, k_1, n_1, k_2, n_2, k_3, n_3, k_4, n_4, k_5, n_5, k_6, n_6, k_7, n_7, k_8, n_8, k_9, n_9, k_10, r_10_0, r_10_1, r_10_2, r_10_3, r_10_4, r_10_5, k_11, r_11_5, r_11_6, r_11_7, r_11_8, r_11_9, r_11_10, r_11_11, r_11_12, r_11_13, r_11_14, r_11_15, r_11_16, k_12, n_12, k_13, n_13, k_14, n_14, k_15, n_15, k_16, n_16, k_17, n_17, k_18, n_18, k_19, n_19, k_20, n_20, k_21, n_21, k_22, n_22, k_23, n_23, k_24, r_24_3, r_24_4, r_24_5, r_24_6, r_24_7, r_24_8, r_24_9, r_24_10, r_24_11, r_24_12, r_24_13, k_25, n_25, k_26, n_26, k_27, n_27, k_28, n_28, k_29, n_29, k_30, n_30, k_31, n_31, k_32, n_32, k_33, n_33, k_34, n_34, k_35, n_35, k_36, r_36_0, r_36_3, r_36_4, r_36_5, r_36_6, r_36_7, k_37, n_37, k_38, n_38, k_39, n_39, r_39_0, r_39_1, r_39_2, r_39_3, r_39_4, r_39_5, k_40, n_40, k_41, n_41, k_42, n_42, k_43, n_43, k_44, n_44, k_45, n_45, k_46, n_46, k_47, n_47, k_48, r_48_0, r_48_1, r_48_5, k_49, n_49, k_50, n_50, k_51, n_51, k_52, r_52_0, r_52_1, r_52_2, r_52_3, r_52_4, r_52_5, r_52_6, r_52_7, r_52_8, r_52_9, r_52_10, r_52_11, r_52_12, r_52_13, k_53, r_53_0, r_53_1, r_53_2, r_53_3, r_53_4, r_53_5, r_53_6, k_54, n_54, k_55, n_55, k_56, n_56, k_57, n_57, k_58, n_58, k_59, n_59, k_60, n_60, k_61, r_61_0, r_61_1, r_61_2, r_61_3, k_62, n_62, k_63, n_63, k_64, n_64, k_65, n_65, k_66, r_66_0, r_66_1, r_66_2, r_66_3, r_66_4, r_66_5, k_67, n_67, k_68, n_68, k_69, n_69, k_70, n_70, k_71, n_71, k_72, n_72, k_73, n_73, k_74, n_74, k_75, n_75, k_76, n_76, k_77, n_77, k_78, n_78, k_79, n_79, k_80, n_80, k_81, r_81_0, r_81_1, r_81_2, r_81_3, r_81_4, r_81_9, r_81_10, k_82, n_82, r_82_0, r_82_1, r_82_2, r_82_3, k_83, n_83, k_84, n_84, k_85, n_85, k_86, n_86, k_87, r_87_0, r_87_1, r_87_2, r_87_3, r_87_4, r_87_5, r_87_6, r_87_7, r_87_8, r_87_9, r_87_10, r_87_11, r_87_12, r_87_13, k_116, r_116_0, r_116_1, r_116_2, r_116_3, r_116_4, r_116_5, r_116_6, r_116_7, r_116_8, r_116_9, r_116_10, r_116_11, r_116_12, r_116_13, k_145, r_145_0, r_145_1, r_145_2, r_145_3, r_145_4, r_145_5, r_145_6, r_145_7, r_145_8, r_145_9, r_145_10, r_145_11, r_145_12, r_145_13, k_174, r_174_0, r_174_1, r_174_2, r_174_3, r_174_4, r_174_5, r_174_6, r_174_7, r_174_8, r_174_9, r_174_10, r_174_11, r_174_12, r_174_13, k_203, r_203_0, r_203_1, r_203_2, r_203_3, r_203_4, r_203_5, r_203_6, r_203_7, r_203_8, r_203_9, r_203_10, r_203_11, r_203_12, r_203_13, k_232, n_232, r_232_0, r_232_1, r_232_2, r_232_3, k_233, r_233_2, k_234, n_234, k_235, r_235_2, k_236, n_236, k_237, r_237_2, k_238, n_238, k_239, r_239_2, k_240, n_240, ldI, fc_11_0 hf, fc_11_1 hf, fc_11_2 hf, fc_11_3 hf, fc_11_4 hf, fc_24_0 hf, fc_24_1 hf, fc_24_2 hf, fc_36_2 hf, u_ne, u_eq, wr_1p, if10, Classical.not_not]
  clear hf hE
  grind (splits := 60)
theorem c2_M_room {a b : Int} (hM : FM d e) (hE : WE e) : Cl (k + 9) 46 [vR 241, vI a, vI b] (SH L) d R ↔ (if 0 ≤ a ∧ a < e 241 1 then (if 0 ≤ b ∧ b ≤ 30 then (if e 241 18 < 4 then R (vI (e 241 18)) (SH L) (ups (ups (ups d 255 (e 241 18).toNat a) 256 (e 241 18).toNat b) 241 18 (e 241 18 + 1)) else R (vI (-4)) (SH L) d) else R (vI (-2)) (SH L) d) else R (vI (-1)) (SH L) d) := by
  have n0 := we_r hE
  have n1 := we_r hE
  refine (Cl_iff rfl).trans ?_
  show Go (k + 8) 46 R 0 [vR 241, vI a, vI b] [] (SH L) d ↔ _
  simp (disch := omega) only [s_M_room_0, s_M_room_1, s_M_room_2, s_M_room_5, s_M_room_8, s_M_room_9, s_M_room_10, s_M_room_11, s_M_room_12, s_M_room_14, s_M_room_17, s_M_room_20, s_M_room_22, s_M_room_23, s_M_room_24, s_M_room_27, s_M_room_28, s_M_room_31, s_M_room_33, s_M_room_34, s_M_room_35, s_M_room_38, s_M_room_39, s_M_room_42, s_M_room_43, s_M_room_44, s_M_room_45, s_M_room_48, s_M_room_49, s_M_room_52, s_M_room_53, s_M_room_54, s_M_room_55, s_M_room_56, s_M_room_59, s_M_room_60, s_M_room_61, s_M_room_64, s_M_room_65, s_M_room_68, s_M_room_69, s_M_room_70, c_M_within, c_M_isNode2 hM hE, c_M_isText2 hM hE, c_M_isOf2 hM hE, k_1, n_1, k_241, r_241_0, r_241_2, r_241_4, r_241_5, r_241_6, r_241_7, r_241_9, r_241_10, r_241_11, r_241_12, r_241_14, r_241_15, r_241_16, r_241_19, r_241_20, r_241_22, r_241_23, r_241_24, r_241_25, r_241_27, r_241_28, r_241_29, r_241_30, r_241_31, r_241_33, r_241_34, r_241_37, r_241_38, r_241_39, r_241_40, r_241_41, r_241_42, r_241_43, r_241_44, r_241_49, r_241_50, r_241_54, k_242, n_242, k_243, n_243, k_244, n_244, k_245, n_245, k_246, n_246, k_247, n_247, k_248, n_248, k_249, n_249, k_250, n_250, k_251, n_251, k_252, n_252, k_253, n_253, k_254, n_254, k_255, n_255, k_256, n_256, k_257, n_257, k_258, n_258, k_259, n_259, k_260, n_260, k_261, n_261, k_262, n_262, k_263, n_263, k_264, n_264, k_265, n_265, k_266, n_266, k_267, n_267, k_268, n_268, k_269, n_269, k_270, n_270, k_271, n_271, k_272, n_272, k_273, n_273, k_274, n_274, k_275, n_275, k_276, n_276, k_277, n_277, k_278, n_278, ldI, fm_18 hM, fm_18 hM, u_ne, u_eq, wr_1p, wr_1m, wr_m1, in_of, wr_ix, if10, Classical.not_not]
  clear hM hE
  grind (splits := 60)
theorem HE_room {a b : Int} (h : HE s e P d) (g0 : 0 ≤ a ∧ a < e 241 1) (g1 : 0 ≤ b ∧ b ≤ 30) (g2 : e 241 18 < 4) : HE s (ups (ups (ups e 255 (e 241 18).toNat a) 256 (e 241 18).toNat b) 241 18 (e 241 18 + 1)) P (ups (ups (ups (ups (ups (ups d 25 (e 241 18).toNat a) 26 (e 241 18).toNat b) 24 0 (e 241 18 + 1)) 255 (e 241 18).toNat a) 256 (e 241 18).toNat b) 241 18 (e 241 18 + 1)) := by
  obtain ⟨h1, h2, hf, hM, hE, hR, hI, h0, hO, hZ, hX⟩ := h
  have nn := we_n hE
  have nl := we_l hE
  have np := we_p hE
  have no := we_o hE
  have nc := we_c hE
  have nr := we_r hE
  have nk := we_k hE
  have ns := we_s hE
  have nt := we_t hE
  refine ⟨h1, by show d 242 = P; exact h2, by unfold FC; simp (disch := omega) only [ups_same, ups_ne, fs_eq, fs_ne, (fc_11_0 hf), (fc_11_1 hf), (fc_11_2 hf), (fc_11_3 hf), (fc_11_4 hf), (fc_24_0 hf), (fc_24_1 hf), (fc_24_2 hf), (fc_36_2 hf), (fc_12 hf), (fc_13 hf), (fc_14 hf), (fc_15 hf), (fc_16 hf), (fc_17 hf), (fc_18 hf), (fc_19 hf), (fc_20 hf), (fc_21 hf), (fc_22 hf), (fc_23 hf), (fc_25 hf), (fc_26 hf), (fc_27 hf), (fc_28 hf), (fc_29 hf), (fc_30 hf), (fc_31 hf), (fc_32 hf), (fc_33 hf), (fc_34 hf), (fc_35 hf), (fc_2_0 hf), (fc_2_1 hf), (fc_2_2 hf), (fc_2_3 hf), (fc_2_4 hf), (fc_2_5 hf), (fc_3_0 hf), (fc_3_1 hf), (fc_3_2 hf), (fc_3_3 hf), (fc_3_4 hf), (fc_3_5 hf), (fc_4_0 hf), (fc_4_1 hf), (fc_4_2 hf), (fc_4_3 hf), (fc_4_4 hf), (fc_4_5 hf), (fc_5_0 hf), (fc_5_1 hf), (fc_5_2 hf), (fc_5_3 hf), (fc_5_4 hf), (fc_5_5 hf), (fc_6_0 hf), (fc_6_1 hf), (fc_6_2 hf), (fc_6_3 hf), (fc_6_4 hf), (fc_6_5 hf), true_and, and_true], by unfold FM; simp (disch := omega) only [ups_same, ups_ne, fs_eq, fs_ne, (fm_1 hM), (fm_3 hM), (fm_8 hM), (fm_13 hM), (fm_17 hM), (fm_18 hM), (fm_21 hM), (fm_26 hM), (fm_36 hM), (fm_243 hM), (fm_244 hM), (fm_245 hM), (fm_246 hM), (fm_247 hM), (fm_248 hM), (fm_249 hM), (fm_250 hM), (fm_251 hM), (fm_252 hM), (fm_253 hM), (fm_254 hM), (fm_255 hM), (fm_256 hM), (fm_257 hM), (fm_258 hM), (fm_259 hM), (fm_260 hM), (fm_261 hM), (fm_262 hM), (fm_263 hM), (fm_264 hM), (fm_265 hM), (fm_268 hM), (fm_269 hM), true_and, and_true], ⟨(by have y := we_n hE; exact y), (by have y := we_l hE; exact y), (by have y := we_p hE; exact y), (by have y := we_o hE; exact y), (by have y := we_c hE; exact y), ⟨by show 0 ≤ e 241 18 + 1; omega, by show e 241 18 + 1 ≤ 4; omega⟩, (by have y := we_k hE; exact y), (by have y := we_s hE; exact y), (by have y := we_t hE; exact y), (by have y := we_x hE; exact y), (by have y := we_L hE; exact y), (by have y := we_L2 hE; exact y), (by have y := we_P hE; exact y), (by have y := we_P2 hE; exact y), (by have y := we_O hE; exact y), (by have y := we_O2 hE; exact y), fun i => ?hR, (by have y := we_K hE; exact y), fun i hi => ⟨by have y := (we_K2 hE i hi).1; show e 257 i < e 241 18 + 1; omega, (we_K2 hE i hi).2.1, (we_K2 hE i hi).2.2⟩, (by have y := we_S hE; exact y)⟩, RL_eg hR (fun a ha hb => by simp (disch := omega) only [ups_ne]) (by show (e 241 1).toNat ≤ 14; omega) (by show (e 241 13).toNat ≤ 12; omega) (by have y := q5_2 hR; exact y) (by have y := q5_2b hR; exact y) (by have y := q5_19 hR; exact y) (by have y := q5_19b hR; exact y) (fun _ _ => rfl), ⟨⟨WQ_eg hI.1.1 (by have y := wp_i hI.1.1; exact y) (fun _ _ => rfl) (fun i hi => (wp_g hI.1.1 i hi).1), CI_eg hE hI.1.2.1 (Or.inl rfl) (by show (e 241 1).toNat ≤ 14; omega) (Or.inl rfl) (fun l hl => ⟨rfl, rfl, rfl⟩) (Or.inl rfl) (fun l hl => ⟨rfl, rfl⟩) (fun i hi => rfl), UN_eg hI.1.1 hI.1.2.2 (Or.inl rfl) (fun i hi => ⟨rfl, rfl⟩)⟩, LF_eg hI.2 (fun j hj => rfl)⟩, h0, OK_eg hO hE (fun a ha hb => by simp (disch := omega) only [ups_ne]) rfl rfl rfl, ZF_eg hZ (fun j hj => by have hj : (56 + (e 241 1).toNat ≤ j ∧ j < 70) ∨ (84 + (e 241 3).toNat ≤ j ∧ j < 104) ∨ (104 + (e 241 8).toNat ≤ j ∧ j < 112) := hj; exact ⟨by unfold Zx; omega, rfl⟩), XS_up hX (fun a ha => by simp (disch := omega) only [ups_ne]) (by simp (disch := omega) only [ups_same, ups_ne, fs_ne]) (by simp (disch := omega) only [ups_same, ups_ne, fs_ne])⟩
  case hR =>
    have y := we_R hE i
    show (0 ≤ fset (e 255) (e 241 18).toNat a i ∧ fset (e 255) (e 241 18).toNat a i < 14) ∧ (0 ≤ fset (e 256) (e 241 18).toNat b i ∧ fset (e 256) (e 241 18).toNat b i ≤ 30)
    simp only [fs_rd]
    by_cases y2 : i = (e 241 18).toNat
    · simp only [if_pos y2]
      omega
    · simp only [if_neg y2]
      exact y
theorem ok_room {a b : Int} (h : HV s d) : Ok2 L (k + 9) 6 46 [vI a, vI b] s d := by
  obtain ⟨e, P, h⟩ := h
  have ⟨h1, h2, hf, hM, hE, hR, hI, h0, hO, hZ, hX⟩ := h
  refine (c2_D_room hf hE).mpr ?_
  by_cases g0 : 0 ≤ a ∧ a < e 241 1
  · rw [if_pos g0]
    by_cases g1 : 0 ≤ b ∧ b ≤ 30
    · rw [if_pos g1]
      by_cases g2 : e 241 18 < 4
      · rw [if_pos g2]
        have hM1 : FM (ups (ups (ups d 25 (e 241 18).toNat a) 26 (e 241 18).toNat b) 24 0 (e 241 18 + 1)) e := FM_cg hM (fun a ha hb hc => by simp (disch := omega) only [ups_ne])
        refine ⟨rfl, h1, ⟨_, rfl⟩, (c2_M_room hM1 hE).mpr ?_⟩
        rw [if_pos g0, if_pos g1, if_pos g2]
        exact ⟨rfl, rfl, _, _, HE_room h g0 g1 g2⟩
      · rw [if_neg g2]
        refine ⟨rfl, h1, ⟨_, rfl⟩, (c2_M_room hM hE).mpr ?_⟩
        rw [if_pos g0, if_pos g1, if_neg g2]
        exact ⟨rfl, rfl, e, P, h⟩
    · rw [if_neg g1]
      refine ⟨rfl, h1, ⟨_, rfl⟩, (c2_M_room hM hE).mpr ?_⟩
      rw [if_pos g0, if_neg g1]
      exact ⟨rfl, rfl, e, P, h⟩
  · rw [if_neg g0]
    refine ⟨rfl, h1, ⟨_, rfl⟩, (c2_M_room hM hE).mpr ?_⟩
    rw [if_neg g0]
    exact ⟨rfl, rfl, e, P, h⟩
theorem c2_D_sign {a b c m : Int} (hf : FC d e) (hE : WE e) : Cl (k + 9) 18 [vR 10, vI a, vI b, vI c, vI m] (SH L) d R ↔ (if 0 ≤ a ∧ a < e 241 18 then (if (0 ≤ b ∧ b ≤ 600) ∧ (0 ≤ c ∧ c < 4) ∧ -999 ≤ m ∧ m ≤ 999 then (if e 241 26 < 20 then R (vI (e 241 26)) (SH L) (ups (ups (ups (ups (ups d 24 1 (e 241 26 + 1)) 27 (e 241 26).toNat a) 28 (e 241 26).toNat b) 29 (e 241 26).toNat c) 30 (e 241 26).toNat m) else R (vI (-4)) (SH L) d) else R (vI (-2)) (SH L) d) else R (vI (-1)) (SH L) d) := by
  have n0 := we_s hE
  refine (Cl_iff rfl).trans ?_
  show Go (k + 8) 18 R 0 [vR 10, vI a, vI b, vI c, vI m, vU] [] (SH L) d ↔ _
  simp (disch := omega) only [s_D_falseSign_0, s_D_falseSign_1, s_D_falseSign_2, s_D_falseSign_5, s_D_falseSign_8, s_D_falseSign_11, s_D_falseSign_14, s_D_falseSign_15, s_D_falseSign_16, s_D_falseSign_17, s_D_falseSign_18, s_D_falseSign_21, s_D_falseSign_24, s_D_falseSign_27, s_D_falseSign_28, s_D_falseSign_29, s_D_falseSign_32, s_D_falseSign_35, s_D_falseSign_37, s_D_falseSign_40, s_D_falseSign_43, s_D_falseSign_46, s_D_falseSign_49, s_D_falseSign_51, s_D_falseSign_52, s_D_falseSign_53, s_D_falseSign_56, s_D_falseSign_59, s_D_falseSign_61, s_D_falseSign_64, s_D_falseSign_66, s_D_falseSign_67, s_D_falseSign_68, s_D_falseSign_71, s_D_falseSign_72, s_D_falseSign_75, s_D_falseSign_76, s_D_falseSign_77, s_D_falseSign_78, s_D_falseSign_81, s_D_falseSign_83, s_D_falseSign_84, s_D_falseSign_87, s_D_falseSign_90, s_D_falseSign_92, s_D_falseSign_93, s_D_falseSign_94, s_D_falseSign_95, s_D_falseSign_98, s_D_falseSign_101, s_D_falseSign_103, s_D_falseSign_104, s_D_falseSign_105, s_D_falseSign_106, s_D_falseSign_109, s_D_falseSign_112, s_D_falseSign_114, s_D_falseSign_115, s_D_falseSign_116, s_D_falseSign_117, s_D_falseSign_120, s_D_falseSign_123, s_D_falseSign_125, s_D_falseSign_127, s_D_falseSign_128, s_D_falseSign_130, c_D_within, c_D_isOf, k_1, n_1, k_2, n_2, k_3, n_3, k_4, n_4, k_5, n_5, k_6, n_6, k_7, n_7, k_8, n_8, k_9, n_9, k_10, r_10_0, r_10_1, r_10_2, r_10_3, r_10_4, r_10_5, k_11, r_11_5, r_11_6, r_11_7, r_11_8, r_11_9, r_11_10, r_11_11, r_11_12, r_11_13, r_11_14, r_11_15, r_11_16, k_12, n_12, k_13, n_13, k_14, n_14, k_15, n_15, k_16, n_16, k_17, n_17, k_18, n_18, k_19, n_19, k_20, n_20, k_21, n_21, k_22, n_22, k_23, n_23, k_24, r_24_3, r_24_4, r_24_5, r_24_6, r_24_7, r_24_8, r_24_9, r_24_10, r_24_11, r_24_12, r_24_13, k_25, n_25, k_26, n_26, k_27, n_27, k_28, n_28, k_29, n_29, k_30, n_30, k_31, n_31, k_32, n_32, k_33, n_33, k_34, n_34, k_35, n_35, k_36, r_36_0, r_36_3, r_36_4, r_36_5, r_36_6, r_36_7, k_37, n_37, k_38, n_38, k_39, n_39, r_39_0, r_39_1, r_39_2, r_39_3, r_39_4, r_39_5, k_40, n_40, k_41, n_41, k_42, n_42, k_43, n_43, k_44, n_44, k_45, n_45, k_46, n_46, k_47, n_47, k_48, r_48_0, r_48_1, r_48_5, k_49, n_49, k_50, n_50, k_51, n_51, k_52, r_52_0, r_52_1, r_52_2, r_52_3, r_52_4, r_52_5, r_52_6, r_52_7, r_52_8, r_52_9, r_52_10, r_52_11, r_52_12, r_52_13, k_53, r_53_0, r_53_1, r_53_2, r_53_3, r_53_4, r_53_5, r_53_6, k_54, n_54, k_55, n_55, k_56, n_56, k_57, n_57, k_58, n_58, k_59, n_59, k_60, n_60, k_61, r_61_0, r_61_1, r_61_2, r_61_3, k_62, n_62, k_63, n_63, k_64, n_64, k_65, n_65, k_66, r_66_0, r_66_1, r_66_2, r_66_3, r_66_4, r_66_5, k_67, n_67, k_68, n_68, k_69, n_69, k_70, n_70, k_71, n_71, k_72, n_72, k_73, n_73, k_74, n_74, k_75, n_75, k_76, n_76, k_77, n_77, k_78, n_78, k_79, n_79, k_80, n_80, k_81, r_81_0, r_81_1, r_81_2, r_81_3, r_81_4, r_81_9, r_81_10, k_82, n_82, r_82_0, r_82_1, r_82_2, r_82_3, k_83, n_83, k_84, n_84, k_85, n_85, k_86, n_86, k_87, r_87_0, r_87_1, r_87_2, r_87_3, r_87_4, r_87_5, r_87_6, r_87_7, r_87_8, r_87_9, r_87_10, r_87_11, r_87_12, r_87_13, k_116, r_116_0, r_116_1, r_116_2, r_116_3, r_116_4, r_116_5, r_116_6, r_116_7, r_116_8, r_116_9, r_116_10, r_116_11, r_116_12, r_116_13, k_145, r_145_0, r_145_1, r_145_2, r_145_3, r_145_4, r_145_5, r_145_6, r_145_7, r_145_8, r_145_9, r_145_10, r_145_11, r_145_12, r_145_13, k_174, r_174_0, r_174_1, r_174_2, r_174_3, r_174_4, r_174_5, r_174_6, r_174_7, r_174_8, r_174_9, r_174_10, r_174_11, r_174_12, r_174_13, k_203, r_203_0, r_203_1, r_203_2, r_203_3, r_203_4, r_203_5, r_203_6, r_203_7, r_203_8, r_203_9, r_203_10, r_203_11, r_203_12, r_203_13, k_232, n_232, r_232_0, r_232_1, r_232_2, r_232_3, k_233, r_233_2, k_234, n_234, k_235, r_235_2, k_236, n_236, k_237, r_237_2, k_238, n_238, k_239, r_239_2, k_240, n_240, ldI, fc_11_0 hf, fc_11_1 hf, fc_11_2 hf, fc_11_3 hf, fc_11_4 hf, fc_24_0 hf, fc_24_1 hf, fc_24_2 hf, fc_36_2 hf, u_ne, u_eq, wr_1p, if10, Classical.not_not]
  clear hf hE
  grind (splits := 60)
theorem c2_M_sign {a b c m : Int} (hM : FM d e) (hE : WE e) : Cl (k + 9) 85 [vR 241, vI a, vI b, vI c, vI m] (SH L) d R ↔ (if 0 ≤ a ∧ a < e 241 18 then (if (0 ≤ b ∧ b ≤ 600) ∧ (0 ≤ c ∧ c < 4) ∧ -999 ≤ m ∧ m ≤ 999 then (if e 241 26 < 20 then R (vI (e 241 26)) (SH L) (ups (ups (ups (ups (ups d 261 (e 241 26).toNat a) 262 (e 241 26).toNat b) 263 (e 241 26).toNat c) 264 (e 241 26).toNat m) 241 26 (e 241 26 + 1)) else R (vI (-4)) (SH L) d) else R (vI (-2)) (SH L) d) else R (vI (-1)) (SH L) d) := by
  have n0 := we_s hE
  have n1 := we_r hE
  refine (Cl_iff rfl).trans ?_
  show Go (k + 8) 85 R 0 [vR 241, vI a, vI b, vI c, vI m] [] (SH L) d ↔ _
  simp (disch := omega) only [s_M_falseSign_0, s_M_falseSign_1, s_M_falseSign_2, s_M_falseSign_3, s_M_falseSign_6, s_M_falseSign_7, s_M_falseSign_8, s_M_falseSign_11, s_M_falseSign_14, s_M_falseSign_15, s_M_falseSign_16, s_M_falseSign_17, s_M_falseSign_18, s_M_falseSign_21, s_M_falseSign_24, s_M_falseSign_27, s_M_falseSign_28, s_M_falseSign_29, s_M_falseSign_30, s_M_falseSign_33, s_M_falseSign_36, s_M_falseSign_38, s_M_falseSign_41, s_M_falseSign_44, s_M_falseSign_47, s_M_falseSign_50, s_M_falseSign_52, s_M_falseSign_53, s_M_falseSign_54, s_M_falseSign_57, s_M_falseSign_59, s_M_falseSign_62, s_M_falseSign_64, s_M_falseSign_65, s_M_falseSign_66, s_M_falseSign_69, s_M_falseSign_70, s_M_falseSign_73, s_M_falseSign_74, s_M_falseSign_75, s_M_falseSign_76, s_M_falseSign_79, s_M_falseSign_80, s_M_falseSign_83, s_M_falseSign_84, s_M_falseSign_85, s_M_falseSign_86, s_M_falseSign_89, s_M_falseSign_90, s_M_falseSign_93, s_M_falseSign_94, s_M_falseSign_95, s_M_falseSign_96, s_M_falseSign_99, s_M_falseSign_100, s_M_falseSign_103, s_M_falseSign_105, s_M_falseSign_106, s_M_falseSign_107, s_M_falseSign_108, s_M_falseSign_111, s_M_falseSign_112, s_M_falseSign_113, s_M_falseSign_116, s_M_falseSign_117, s_M_falseSign_120, s_M_falseSign_121, s_M_falseSign_122, c_M_within, c_M_isNode2 hM hE, c_M_isText2 hM hE, c_M_isOf2 hM hE, k_1, n_1, k_241, r_241_0, r_241_2, r_241_4, r_241_5, r_241_6, r_241_7, r_241_9, r_241_10, r_241_11, r_241_12, r_241_14, r_241_15, r_241_16, r_241_19, r_241_20, r_241_22, r_241_23, r_241_24, r_241_25, r_241_27, r_241_28, r_241_29, r_241_30, r_241_31, r_241_33, r_241_34, r_241_37, r_241_38, r_241_39, r_241_40, r_241_41, r_241_42, r_241_43, r_241_44, r_241_49, r_241_50, r_241_54, k_242, n_242, k_243, n_243, k_244, n_244, k_245, n_245, k_246, n_246, k_247, n_247, k_248, n_248, k_249, n_249, k_250, n_250, k_251, n_251, k_252, n_252, k_253, n_253, k_254, n_254, k_255, n_255, k_256, n_256, k_257, n_257, k_258, n_258, k_259, n_259, k_260, n_260, k_261, n_261, k_262, n_262, k_263, n_263, k_264, n_264, k_265, n_265, k_266, n_266, k_267, n_267, k_268, n_268, k_269, n_269, k_270, n_270, k_271, n_271, k_272, n_272, k_273, n_273, k_274, n_274, k_275, n_275, k_276, n_276, k_277, n_277, k_278, n_278, ldI, fm_26 hM, fm_18 hM, u_ne, u_eq, wr_1p, wr_1m, wr_m1, in_of, wr_ix, if10, Classical.not_not]
  clear hM hE
  grind (splits := 60)
theorem HE_sign {a b c m : Int} (h : HE s e P d) (g0 : 0 ≤ a ∧ a < e 241 18) (g1 : (0 ≤ b ∧ b ≤ 600) ∧ (0 ≤ c ∧ c < 4) ∧ -999 ≤ m ∧ m ≤ 999) (g2 : e 241 26 < 20) : HE s (ups (ups (ups (ups (ups e 261 (e 241 26).toNat a) 262 (e 241 26).toNat b) 263 (e 241 26).toNat c) 264 (e 241 26).toNat m) 241 26 (e 241 26 + 1)) P (ups (ups (ups (ups (ups (ups (ups (ups (ups (ups d 24 1 (e 241 26 + 1)) 27 (e 241 26).toNat a) 28 (e 241 26).toNat b) 29 (e 241 26).toNat c) 30 (e 241 26).toNat m) 261 (e 241 26).toNat a) 262 (e 241 26).toNat b) 263 (e 241 26).toNat c) 264 (e 241 26).toNat m) 241 26 (e 241 26 + 1)) := by
  obtain ⟨h1, h2, hf, hM, hE, hR, hI, h0, hO, hZ, hX⟩ := h
  have nn := we_n hE
  have nl := we_l hE
  have np := we_p hE
  have no := we_o hE
  have nc := we_c hE
  have nr := we_r hE
  have nk := we_k hE
  have ns := we_s hE
  have nt := we_t hE
  refine ⟨h1, by show d 242 = P; exact h2, by unfold FC; simp (disch := omega) only [ups_same, ups_ne, fs_eq, fs_ne, (fc_11_0 hf), (fc_11_1 hf), (fc_11_2 hf), (fc_11_3 hf), (fc_11_4 hf), (fc_24_0 hf), (fc_24_1 hf), (fc_24_2 hf), (fc_36_2 hf), (fc_12 hf), (fc_13 hf), (fc_14 hf), (fc_15 hf), (fc_16 hf), (fc_17 hf), (fc_18 hf), (fc_19 hf), (fc_20 hf), (fc_21 hf), (fc_22 hf), (fc_23 hf), (fc_25 hf), (fc_26 hf), (fc_27 hf), (fc_28 hf), (fc_29 hf), (fc_30 hf), (fc_31 hf), (fc_32 hf), (fc_33 hf), (fc_34 hf), (fc_35 hf), (fc_2_0 hf), (fc_2_1 hf), (fc_2_2 hf), (fc_2_3 hf), (fc_2_4 hf), (fc_2_5 hf), (fc_3_0 hf), (fc_3_1 hf), (fc_3_2 hf), (fc_3_3 hf), (fc_3_4 hf), (fc_3_5 hf), (fc_4_0 hf), (fc_4_1 hf), (fc_4_2 hf), (fc_4_3 hf), (fc_4_4 hf), (fc_4_5 hf), (fc_5_0 hf), (fc_5_1 hf), (fc_5_2 hf), (fc_5_3 hf), (fc_5_4 hf), (fc_5_5 hf), (fc_6_0 hf), (fc_6_1 hf), (fc_6_2 hf), (fc_6_3 hf), (fc_6_4 hf), (fc_6_5 hf), true_and, and_true], by unfold FM; simp (disch := omega) only [ups_same, ups_ne, fs_eq, fs_ne, (fm_1 hM), (fm_3 hM), (fm_8 hM), (fm_13 hM), (fm_17 hM), (fm_18 hM), (fm_21 hM), (fm_26 hM), (fm_36 hM), (fm_243 hM), (fm_244 hM), (fm_245 hM), (fm_246 hM), (fm_247 hM), (fm_248 hM), (fm_249 hM), (fm_250 hM), (fm_251 hM), (fm_252 hM), (fm_253 hM), (fm_254 hM), (fm_255 hM), (fm_256 hM), (fm_257 hM), (fm_258 hM), (fm_259 hM), (fm_260 hM), (fm_261 hM), (fm_262 hM), (fm_263 hM), (fm_264 hM), (fm_265 hM), (fm_268 hM), (fm_269 hM), true_and, and_true], ⟨(by have y := we_n hE; exact y), (by have y := we_l hE; exact y), (by have y := we_p hE; exact y), (by have y := we_o hE; exact y), (by have y := we_c hE; exact y), (by have y := we_r hE; exact y), (by have y := we_k hE; exact y), ⟨by show 0 ≤ e 241 26 + 1; omega, by show e 241 26 + 1 ≤ 20; omega⟩, (by have y := we_t hE; exact y), (by have y := we_x hE; exact y), (by have y := we_L hE; exact y), (by have y := we_L2 hE; exact y), (by have y := we_P hE; exact y), (by have y := we_P2 hE; exact y), (by have y := we_O hE; exact y), (by have y := we_O2 hE; exact y), (by have y := we_R hE; exact y), (by have y := we_K hE; exact y), (by have y := we_K2 hE; exact y), (by have y := we_S hE; exact y)⟩, RL_eg hR (fun a ha hb => by simp (disch := omega) only [ups_ne]) (by show (e 241 1).toNat ≤ 14; omega) (by show (e 241 13).toNat ≤ 12; omega) (by have y := q5_2 hR; exact y) (by have y := q5_2b hR; exact y) (by have y := q5_19 hR; exact y) (by have y := q5_19b hR; exact y) (fun _ _ => rfl), ⟨⟨WQ_eg hI.1.1 (by have y := wp_i hI.1.1; exact y) (fun _ _ => rfl) (fun i hi => (wp_g hI.1.1 i hi).1), CI_eg hE hI.1.2.1 (Or.inl rfl) (by show (e 241 1).toNat ≤ 14; omega) (Or.inl rfl) (fun l hl => ⟨rfl, rfl, rfl⟩) (Or.inl rfl) (fun l hl => ⟨rfl, rfl⟩) (fun i hi => rfl), UN_eg hI.1.1 hI.1.2.2 (Or.inl rfl) (fun i hi => ⟨rfl, rfl⟩)⟩, LF_eg hI.2 (fun j hj => rfl)⟩, h0, OK_eg hO hE (fun a ha hb => by simp (disch := omega) only [ups_ne]) rfl rfl rfl, ZF_eg hZ (fun j hj => by have hj : (56 + (e 241 1).toNat ≤ j ∧ j < 70) ∨ (84 + (e 241 3).toNat ≤ j ∧ j < 104) ∨ (104 + (e 241 8).toNat ≤ j ∧ j < 112) := hj; exact ⟨by unfold Zx; omega, rfl⟩), XS_up hX (fun a ha => by simp (disch := omega) only [ups_ne]) (by simp (disch := omega) only [ups_same, ups_ne, fs_ne]) (by simp (disch := omega) only [ups_same, ups_ne, fs_ne])⟩
theorem ok_sign {a b c m : Int} (h : HV s d) : Ok2 L (k + 9) 18 85 [vI a, vI b, vI c, vI m] s d := by
  obtain ⟨e, P, h⟩ := h
  have ⟨h1, h2, hf, hM, hE, hR, hI, h0, hO, hZ, hX⟩ := h
  refine (c2_D_sign hf hE).mpr ?_
  by_cases g0 : 0 ≤ a ∧ a < e 241 18
  · rw [if_pos g0]
    by_cases g1 : (0 ≤ b ∧ b ≤ 600) ∧ (0 ≤ c ∧ c < 4) ∧ -999 ≤ m ∧ m ≤ 999
    · rw [if_pos g1]
      by_cases g2 : e 241 26 < 20
      · rw [if_pos g2]
        have hM1 : FM (ups (ups (ups (ups (ups d 24 1 (e 241 26 + 1)) 27 (e 241 26).toNat a) 28 (e 241 26).toNat b) 29 (e 241 26).toNat c) 30 (e 241 26).toNat m) e := FM_cg hM (fun a ha hb hc => by simp (disch := omega) only [ups_ne])
        refine ⟨rfl, h1, ⟨_, rfl⟩, (c2_M_sign hM1 hE).mpr ?_⟩
        rw [if_pos g0, if_pos g1, if_pos g2]
        exact ⟨rfl, rfl, _, _, HE_sign h g0 g1 g2⟩
      · rw [if_neg g2]
        refine ⟨rfl, h1, ⟨_, rfl⟩, (c2_M_sign hM hE).mpr ?_⟩
        rw [if_pos g0, if_pos g1, if_neg g2]
        exact ⟨rfl, rfl, e, P, h⟩
    · rw [if_neg g1]
      refine ⟨rfl, h1, ⟨_, rfl⟩, (c2_M_sign hM hE).mpr ?_⟩
      rw [if_pos g0, if_neg g1]
      exact ⟨rfl, rfl, e, P, h⟩
  · rw [if_neg g0]
    refine ⟨rfl, h1, ⟨_, rfl⟩, (c2_M_sign hM hE).mpr ?_⟩
    rw [if_neg g0]
    exact ⟨rfl, rfl, e, P, h⟩
theorem c2_D_order {a b c m : Int} (hf : FC d e) (hE : WE e) : Cl (k + 9) 21 [vR 10, vI a, vI b, vI c, vI m] (SH L) d R ↔ (if (0 ≤ a ∧ a < e 241 18) ∧ 0 ≤ b ∧ b < e 241 36 then (if 0 ≤ c ∧ c ≤ 5 then (if hasS e c m = true then (if e 241 21 < 16 then R (vI (e 241 21)) (SH L) (ups (ups (ups (ups (ups d 24 2 (e 241 21 + 1)) 32 (e 241 21).toNat a) 33 (e 241 21).toNat b) 34 (e 241 21).toNat c) 35 (e 241 21).toNat m) else R (vI (-4)) (SH L) d) else R (vI (-1)) (SH L) d) else R (vI (-2)) (SH L) d) else R (vI (-1)) (SH L) d) := by
  have n0 := we_k hE
  refine (Cl_iff rfl).trans ?_
  show Go (k + 8) 21 R 0 [vR 10, vI a, vI b, vI c, vI m, vU] [] (SH L) d ↔ _
  by_cases cq : 0 ≤ c ∧ c ≤ 5
  · simp (disch := omega) only [s_D_order_0, s_D_order_1, s_D_order_2, s_D_order_5, s_D_order_8, s_D_order_11, s_D_order_14, s_D_order_15, s_D_order_16, s_D_order_19, s_D_order_22, s_D_order_25, s_D_order_28, s_D_order_29, s_D_order_30, s_D_order_31, s_D_order_33, s_D_order_36, s_D_order_39, s_D_order_41, s_D_order_42, s_D_order_43, s_D_order_46, s_D_order_47, s_D_order_49, s_D_order_52, s_D_order_55, s_D_order_56, s_D_order_57, s_D_order_58, s_D_order_61, s_D_order_64, s_D_order_66, s_D_order_69, s_D_order_71, s_D_order_72, s_D_order_73, s_D_order_76, s_D_order_77, s_D_order_80, s_D_order_81, s_D_order_82, s_D_order_83, s_D_order_86, s_D_order_88, s_D_order_89, s_D_order_92, s_D_order_95, s_D_order_97, s_D_order_98, s_D_order_99, s_D_order_100, s_D_order_103, s_D_order_106, s_D_order_108, s_D_order_109, s_D_order_110, s_D_order_111, s_D_order_114, s_D_order_117, s_D_order_119, s_D_order_120, s_D_order_121, s_D_order_122, s_D_order_125, s_D_order_128, s_D_order_130, s_D_order_132, s_D_order_133, s_D_order_135, c_D_within, c_D_isOf, k_1, n_1, k_2, n_2, k_3, n_3, k_4, n_4, k_5, n_5, k_6, n_6, k_7, n_7, k_8, n_8, k_9, n_9, k_10, r_10_0, r_10_1, r_10_2, r_10_3, r_10_4, r_10_5, k_11, r_11_5, r_11_6, r_11_7, r_11_8, r_11_9, r_11_10, r_11_11, r_11_12, r_11_13, r_11_14, r_11_15, r_11_16, k_12, n_12, k_13, n_13, k_14, n_14, k_15, n_15, k_16, n_16, k_17, n_17, k_18, n_18, k_19, n_19, k_20, n_20, k_21, n_21, k_22, n_22, k_23, n_23, k_24, r_24_3, r_24_4, r_24_5, r_24_6, r_24_7, r_24_8, r_24_9, r_24_10, r_24_11, r_24_12, r_24_13, k_25, n_25, k_26, n_26, k_27, n_27, k_28, n_28, k_29, n_29, k_30, n_30, k_31, n_31, k_32, n_32, k_33, n_33, k_34, n_34, k_35, n_35, k_36, r_36_0, r_36_3, r_36_4, r_36_5, r_36_6, r_36_7, k_37, n_37, k_38, n_38, k_39, n_39, r_39_0, r_39_1, r_39_2, r_39_3, r_39_4, r_39_5, k_40, n_40, k_41, n_41, k_42, n_42, k_43, n_43, k_44, n_44, k_45, n_45, k_46, n_46, k_47, n_47, k_48, r_48_0, r_48_1, r_48_5, k_49, n_49, k_50, n_50, k_51, n_51, k_52, r_52_0, r_52_1, r_52_2, r_52_3, r_52_4, r_52_5, r_52_6, r_52_7, r_52_8, r_52_9, r_52_10, r_52_11, r_52_12, r_52_13, k_53, r_53_0, r_53_1, r_53_2, r_53_3, r_53_4, r_53_5, r_53_6, k_54, n_54, k_55, n_55, k_56, n_56, k_57, n_57, k_58, n_58, k_59, n_59, k_60, n_60, k_61, r_61_0, r_61_1, r_61_2, r_61_3, k_62, n_62, k_63, n_63, k_64, n_64, k_65, n_65, k_66, r_66_0, r_66_1, r_66_2, r_66_3, r_66_4, r_66_5, k_67, n_67, k_68, n_68, k_69, n_69, k_70, n_70, k_71, n_71, k_72, n_72, k_73, n_73, k_74, n_74, k_75, n_75, k_76, n_76, k_77, n_77, k_78, n_78, k_79, n_79, k_80, n_80, k_81, r_81_0, r_81_1, r_81_2, r_81_3, r_81_4, r_81_9, r_81_10, k_82, n_82, r_82_0, r_82_1, r_82_2, r_82_3, k_83, n_83, k_84, n_84, k_85, n_85, k_86, n_86, k_87, r_87_0, r_87_1, r_87_2, r_87_3, r_87_4, r_87_5, r_87_6, r_87_7, r_87_8, r_87_9, r_87_10, r_87_11, r_87_12, r_87_13, k_116, r_116_0, r_116_1, r_116_2, r_116_3, r_116_4, r_116_5, r_116_6, r_116_7, r_116_8, r_116_9, r_116_10, r_116_11, r_116_12, r_116_13, k_145, r_145_0, r_145_1, r_145_2, r_145_3, r_145_4, r_145_5, r_145_6, r_145_7, r_145_8, r_145_9, r_145_10, r_145_11, r_145_12, r_145_13, k_174, r_174_0, r_174_1, r_174_2, r_174_3, r_174_4, r_174_5, r_174_6, r_174_7, r_174_8, r_174_9, r_174_10, r_174_11, r_174_12, r_174_13, k_203, r_203_0, r_203_1, r_203_2, r_203_3, r_203_4, r_203_5, r_203_6, r_203_7, r_203_8, r_203_9, r_203_10, r_203_11, r_203_12, r_203_13, k_232, n_232, r_232_0, r_232_1, r_232_2, r_232_3, k_233, r_233_2, k_234, n_234, k_235, r_235_2, k_236, n_236, k_237, r_237_2, k_238, n_238, k_239, r_239_2, k_240, n_240, ldI, fc_11_0 hf, fc_11_1 hf, fc_11_2 hf, fc_11_3 hf, fc_11_4 hf, fc_24_0 hf, fc_24_1 hf, fc_24_2 hf, fc_36_2 hf, u_ne, u_eq, wr_1p, if10, Classical.not_not, c_F_has hf cq]
    clear hf hE
    grind (splits := 60)
  · simp (disch := omega) only [s_D_order_0, s_D_order_1, s_D_order_2, s_D_order_5, s_D_order_8, s_D_order_11, s_D_order_14, s_D_order_15, s_D_order_16, s_D_order_19, s_D_order_22, s_D_order_25, s_D_order_28, s_D_order_29, s_D_order_30, s_D_order_31, s_D_order_33, s_D_order_36, s_D_order_39, s_D_order_41, s_D_order_43, s_D_order_46, s_D_order_47, s_D_order_49, s_D_order_52, s_D_order_55, s_D_order_56, s_D_order_57, s_D_order_58, s_D_order_61, s_D_order_64, s_D_order_66, s_D_order_69, s_D_order_71, s_D_order_72, s_D_order_73, s_D_order_76, s_D_order_77, s_D_order_80, s_D_order_81, s_D_order_82, s_D_order_83, s_D_order_86, s_D_order_88, s_D_order_89, s_D_order_92, s_D_order_95, s_D_order_97, s_D_order_98, s_D_order_99, s_D_order_100, s_D_order_103, s_D_order_106, s_D_order_108, s_D_order_109, s_D_order_110, s_D_order_111, s_D_order_114, s_D_order_117, s_D_order_119, s_D_order_120, s_D_order_121, s_D_order_122, s_D_order_125, s_D_order_128, s_D_order_130, s_D_order_132, s_D_order_133, s_D_order_135, c_D_within, c_D_isOf, k_1, n_1, k_2, n_2, k_3, n_3, k_4, n_4, k_5, n_5, k_6, n_6, k_7, n_7, k_8, n_8, k_9, n_9, k_10, r_10_0, r_10_1, r_10_2, r_10_3, r_10_4, r_10_5, k_11, r_11_5, r_11_6, r_11_7, r_11_8, r_11_9, r_11_10, r_11_11, r_11_12, r_11_13, r_11_14, r_11_15, r_11_16, k_12, n_12, k_13, n_13, k_14, n_14, k_15, n_15, k_16, n_16, k_17, n_17, k_18, n_18, k_19, n_19, k_20, n_20, k_21, n_21, k_22, n_22, k_23, n_23, k_24, r_24_3, r_24_4, r_24_5, r_24_6, r_24_7, r_24_8, r_24_9, r_24_10, r_24_11, r_24_12, r_24_13, k_25, n_25, k_26, n_26, k_27, n_27, k_28, n_28, k_29, n_29, k_30, n_30, k_31, n_31, k_32, n_32, k_33, n_33, k_34, n_34, k_35, n_35, k_36, r_36_0, r_36_3, r_36_4, r_36_5, r_36_6, r_36_7, k_37, n_37, k_38, n_38, k_39, n_39, r_39_0, r_39_1, r_39_2, r_39_3, r_39_4, r_39_5, k_40, n_40, k_41, n_41, k_42, n_42, k_43, n_43, k_44, n_44, k_45, n_45, k_46, n_46, k_47, n_47, k_48, r_48_0, r_48_1, r_48_5, k_49, n_49, k_50, n_50, k_51, n_51, k_52, r_52_0, r_52_1, r_52_2, r_52_3, r_52_4, r_52_5, r_52_6, r_52_7, r_52_8, r_52_9, r_52_10, r_52_11, r_52_12, r_52_13, k_53, r_53_0, r_53_1, r_53_2, r_53_3, r_53_4, r_53_5, r_53_6, k_54, n_54, k_55, n_55, k_56, n_56, k_57, n_57, k_58, n_58, k_59, n_59, k_60, n_60, k_61, r_61_0, r_61_1, r_61_2, r_61_3, k_62, n_62, k_63, n_63, k_64, n_64, k_65, n_65, k_66, r_66_0, r_66_1, r_66_2, r_66_3, r_66_4, r_66_5, k_67, n_67, k_68, n_68, k_69, n_69, k_70, n_70, k_71, n_71, k_72, n_72, k_73, n_73, k_74, n_74, k_75, n_75, k_76, n_76, k_77, n_77, k_78, n_78, k_79, n_79, k_80, n_80, k_81, r_81_0, r_81_1, r_81_2, r_81_3, r_81_4, r_81_9, r_81_10, k_82, n_82, r_82_0, r_82_1, r_82_2, r_82_3, k_83, n_83, k_84, n_84, k_85, n_85, k_86, n_86, k_87, r_87_0, r_87_1, r_87_2, r_87_3, r_87_4, r_87_5, r_87_6, r_87_7, r_87_8, r_87_9, r_87_10, r_87_11, r_87_12, r_87_13, k_116, r_116_0, r_116_1, r_116_2, r_116_3, r_116_4, r_116_5, r_116_6, r_116_7, r_116_8, r_116_9, r_116_10, r_116_11, r_116_12, r_116_13, k_145, r_145_0, r_145_1, r_145_2, r_145_3, r_145_4, r_145_5, r_145_6, r_145_7, r_145_8, r_145_9, r_145_10, r_145_11, r_145_12, r_145_13, k_174, r_174_0, r_174_1, r_174_2, r_174_3, r_174_4, r_174_5, r_174_6, r_174_7, r_174_8, r_174_9, r_174_10, r_174_11, r_174_12, r_174_13, k_203, r_203_0, r_203_1, r_203_2, r_203_3, r_203_4, r_203_5, r_203_6, r_203_7, r_203_8, r_203_9, r_203_10, r_203_11, r_203_12, r_203_13, k_232, n_232, r_232_0, r_232_1, r_232_2, r_232_3, k_233, r_233_2, k_234, n_234, k_235, r_235_2, k_236, n_236, k_237, r_237_2, k_238, n_238, k_239, r_239_2, k_240, n_240, ldI, fc_11_0 hf, fc_11_1 hf, fc_11_2 hf, fc_11_3 hf, fc_11_4 hf, fc_24_0 hf, fc_24_1 hf, fc_24_2 hf, fc_36_2 hf, u_ne, u_eq, wr_1p, if10, Classical.not_not]
    clear hf hE
    grind (splits := 60)
theorem c2_M_order {a b c m : Int} (hM : FM d e) (hE : WE e) : Cl (k + 9) 91 [vR 241, vI a, vI b, vI c, vI m] (SH L) d R ↔ (if (0 ≤ a ∧ a < e 241 18) ∧ 0 ≤ b ∧ b < e 241 36 then (if 0 ≤ c ∧ c ≤ 5 then (if hasS e c m = true then (if e 241 21 < 16 then R (vI (e 241 21)) (SH L) (ups (ups (ups (ups (ups d 257 (e 241 21).toNat a) 258 (e 241 21).toNat b) 259 (e 241 21).toNat c) 260 (e 241 21).toNat m) 241 21 (e 241 21 + 1)) else R (vI (-4)) (SH L) d) else R (vI (-1)) (SH L) d) else R (vI (-2)) (SH L) d) else R (vI (-1)) (SH L) d) := by
  have n0 := we_k hE
  have n1 := we_r hE
  refine (Cl_iff rfl).trans ?_
  show Go (k + 8) 91 R 0 [vR 241, vI a, vI b, vI c, vI m] [] (SH L) d ↔ _
  simp (disch := omega) only [s_M_order_0, s_M_order_1, s_M_order_2, s_M_order_3, s_M_order_6, s_M_order_7, s_M_order_8, s_M_order_11, s_M_order_14, s_M_order_15, s_M_order_16, s_M_order_19, s_M_order_22, s_M_order_23, s_M_order_24, s_M_order_25, s_M_order_26, s_M_order_27, s_M_order_30, s_M_order_33, s_M_order_35, s_M_order_36, s_M_order_37, s_M_order_38, s_M_order_40, s_M_order_43, s_M_order_46, s_M_order_47, s_M_order_48, s_M_order_49, s_M_order_52, s_M_order_54, s_M_order_57, s_M_order_59, s_M_order_60, s_M_order_61, s_M_order_64, s_M_order_65, s_M_order_68, s_M_order_69, s_M_order_70, s_M_order_71, s_M_order_74, s_M_order_75, s_M_order_78, s_M_order_79, s_M_order_80, s_M_order_81, s_M_order_84, s_M_order_85, s_M_order_88, s_M_order_89, s_M_order_90, s_M_order_91, s_M_order_94, s_M_order_95, s_M_order_98, s_M_order_100, s_M_order_101, s_M_order_102, s_M_order_103, s_M_order_106, s_M_order_107, s_M_order_108, s_M_order_111, s_M_order_112, s_M_order_115, s_M_order_116, s_M_order_117, c_M_within, c_M_isNode2 hM hE, c_M_isText2 hM hE, c_M_isOf2 hM hE, k_1, n_1, k_241, r_241_0, r_241_2, r_241_4, r_241_5, r_241_6, r_241_7, r_241_9, r_241_10, r_241_11, r_241_12, r_241_14, r_241_15, r_241_16, r_241_19, r_241_20, r_241_22, r_241_23, r_241_24, r_241_25, r_241_27, r_241_28, r_241_29, r_241_30, r_241_31, r_241_33, r_241_34, r_241_37, r_241_38, r_241_39, r_241_40, r_241_41, r_241_42, r_241_43, r_241_44, r_241_49, r_241_50, r_241_54, k_242, n_242, k_243, n_243, k_244, n_244, k_245, n_245, k_246, n_246, k_247, n_247, k_248, n_248, k_249, n_249, k_250, n_250, k_251, n_251, k_252, n_252, k_253, n_253, k_254, n_254, k_255, n_255, k_256, n_256, k_257, n_257, k_258, n_258, k_259, n_259, k_260, n_260, k_261, n_261, k_262, n_262, k_263, n_263, k_264, n_264, k_265, n_265, k_266, n_266, k_267, n_267, k_268, n_268, k_269, n_269, k_270, n_270, k_271, n_271, k_272, n_272, k_273, n_273, k_274, n_274, k_275, n_275, k_276, n_276, k_277, n_277, k_278, n_278, ldI, fm_21 hM, fm_18 hM, u_ne, u_eq, wr_1p, wr_1m, wr_m1, in_of, wr_ix, if10, Classical.not_not]
  clear hM hE
  grind (splits := 60)
theorem HE_order {a b c m : Int} (h : HE s e P d) (g0 : (0 ≤ a ∧ a < e 241 18) ∧ 0 ≤ b ∧ b < e 241 36) (g1 : 0 ≤ c ∧ c ≤ 5) (g2 : hasS e c m = true) (g3 : e 241 21 < 16) : HE s (ups (ups (ups (ups (ups e 257 (e 241 21).toNat a) 258 (e 241 21).toNat b) 259 (e 241 21).toNat c) 260 (e 241 21).toNat m) 241 21 (e 241 21 + 1)) P (ups (ups (ups (ups (ups (ups (ups (ups (ups (ups d 24 2 (e 241 21 + 1)) 32 (e 241 21).toNat a) 33 (e 241 21).toNat b) 34 (e 241 21).toNat c) 35 (e 241 21).toNat m) 257 (e 241 21).toNat a) 258 (e 241 21).toNat b) 259 (e 241 21).toNat c) 260 (e 241 21).toNat m) 241 21 (e 241 21 + 1)) := by
  obtain ⟨h1, h2, hf, hM, hE, hR, hI, h0, hO, hZ, hX⟩ := h
  have nn := we_n hE
  have nl := we_l hE
  have np := we_p hE
  have no := we_o hE
  have nc := we_c hE
  have nr := we_r hE
  have nk := we_k hE
  have ns := we_s hE
  have nt := we_t hE
  refine ⟨h1, by show d 242 = P; exact h2, by unfold FC; simp (disch := omega) only [ups_same, ups_ne, fs_eq, fs_ne, (fc_11_0 hf), (fc_11_1 hf), (fc_11_2 hf), (fc_11_3 hf), (fc_11_4 hf), (fc_24_0 hf), (fc_24_1 hf), (fc_24_2 hf), (fc_36_2 hf), (fc_12 hf), (fc_13 hf), (fc_14 hf), (fc_15 hf), (fc_16 hf), (fc_17 hf), (fc_18 hf), (fc_19 hf), (fc_20 hf), (fc_21 hf), (fc_22 hf), (fc_23 hf), (fc_25 hf), (fc_26 hf), (fc_27 hf), (fc_28 hf), (fc_29 hf), (fc_30 hf), (fc_31 hf), (fc_32 hf), (fc_33 hf), (fc_34 hf), (fc_35 hf), (fc_2_0 hf), (fc_2_1 hf), (fc_2_2 hf), (fc_2_3 hf), (fc_2_4 hf), (fc_2_5 hf), (fc_3_0 hf), (fc_3_1 hf), (fc_3_2 hf), (fc_3_3 hf), (fc_3_4 hf), (fc_3_5 hf), (fc_4_0 hf), (fc_4_1 hf), (fc_4_2 hf), (fc_4_3 hf), (fc_4_4 hf), (fc_4_5 hf), (fc_5_0 hf), (fc_5_1 hf), (fc_5_2 hf), (fc_5_3 hf), (fc_5_4 hf), (fc_5_5 hf), (fc_6_0 hf), (fc_6_1 hf), (fc_6_2 hf), (fc_6_3 hf), (fc_6_4 hf), (fc_6_5 hf), true_and, and_true], by unfold FM; simp (disch := omega) only [ups_same, ups_ne, fs_eq, fs_ne, (fm_1 hM), (fm_3 hM), (fm_8 hM), (fm_13 hM), (fm_17 hM), (fm_18 hM), (fm_21 hM), (fm_26 hM), (fm_36 hM), (fm_243 hM), (fm_244 hM), (fm_245 hM), (fm_246 hM), (fm_247 hM), (fm_248 hM), (fm_249 hM), (fm_250 hM), (fm_251 hM), (fm_252 hM), (fm_253 hM), (fm_254 hM), (fm_255 hM), (fm_256 hM), (fm_257 hM), (fm_258 hM), (fm_259 hM), (fm_260 hM), (fm_261 hM), (fm_262 hM), (fm_263 hM), (fm_264 hM), (fm_265 hM), (fm_268 hM), (fm_269 hM), true_and, and_true], ⟨(by have y := we_n hE; exact y), (by have y := we_l hE; exact y), (by have y := we_p hE; exact y), (by have y := we_o hE; exact y), (by have y := we_c hE; exact y), (by have y := we_r hE; exact y), ⟨by show 0 ≤ e 241 21 + 1; omega, by show e 241 21 + 1 ≤ 16; omega⟩, (by have y := we_s hE; exact y), (by have y := we_t hE; exact y), (by have y := we_x hE; exact y), (by have y := we_L hE; exact y), (by have y := we_L2 hE; exact y), (by have y := we_P hE; exact y), (by have y := we_P2 hE; exact y), (by have y := we_O hE; exact y), (by have y := we_O2 hE; exact y), (by have y := we_R hE; exact y), fun i => ?hK, fun i hi => ?hK2, (by have y := we_S hE; exact y)⟩, RL_eg hR (fun a ha hb => by simp (disch := omega) only [ups_ne]) (by show (e 241 1).toNat ≤ 14; omega) (by show (e 241 13).toNat ≤ 12; omega) (by have y := q5_2 hR; exact y) (by have y := q5_2b hR; exact y) (by have y := q5_19 hR; exact y) (by have y := q5_19b hR; exact y) (fun _ _ => rfl), ⟨⟨WQ_eg hI.1.1 (by have y := wp_i hI.1.1; exact y) (fun _ _ => rfl) (fun i hi => (wp_g hI.1.1 i hi).1), CI_eg hE hI.1.2.1 (Or.inl rfl) (by show (e 241 1).toNat ≤ 14; omega) (Or.inl rfl) (fun l hl => ⟨rfl, rfl, rfl⟩) (Or.inl rfl) (fun l hl => ⟨rfl, rfl⟩) (fun i hi => rfl), UN_eg hI.1.1 hI.1.2.2 (Or.inl rfl) (fun i hi => ⟨rfl, rfl⟩)⟩, LF_eg hI.2 (fun j hj => rfl)⟩, h0, OK_eg hO hE (fun a ha hb => by simp (disch := omega) only [ups_ne]) rfl rfl rfl, ZF_eg hZ (fun j hj => by have hj : (56 + (e 241 1).toNat ≤ j ∧ j < 70) ∨ (84 + (e 241 3).toNat ≤ j ∧ j < 104) ∨ (104 + (e 241 8).toNat ≤ j ∧ j < 112) := hj; exact ⟨by unfold Zx; omega, rfl⟩), XS_up hX (fun a ha => by simp (disch := omega) only [ups_ne]) (by simp (disch := omega) only [ups_same, ups_ne, fs_ne]) (by simp (disch := omega) only [ups_same, ups_ne, fs_ne])⟩
  case hK =>
    have y := we_K hE i
    have g2b := g2
    unfold hasS at g2b
    have g2b := of_decide_eq_true g2b
    have g2c : 0 ≤ m ∧ m < 20 := by
      split at g2b
      · omega
      · split at g2b
        · omega
        · omega
    show (0 ≤ fset (e 257) (e 241 21).toNat a i ∧ fset (e 257) (e 241 21).toNat a i < 4) ∧ (0 ≤ fset (e 258) (e 241 21).toNat b i ∧ fset (e 258) (e 241 21).toNat b i < 6) ∧ (0 ≤ fset (e 259) (e 241 21).toNat c i ∧ fset (e 259) (e 241 21).toNat c i ≤ 5) ∧ (0 ≤ fset (e 260) (e 241 21).toNat m i ∧ fset (e 260) (e 241 21).toNat m i < 20)
    simp only [fs_rd]
    by_cases y2 : i = (e 241 21).toNat
    · simp only [if_pos y2]
      omega
    · simp only [if_neg y2]
      exact y
  case hK2 =>
    have hi : i < (e 241 21 + 1).toNat := hi
    have g2b := g2
    unfold hasS at g2b
    have g2b := of_decide_eq_true g2b
    show fset (e 257) (e 241 21).toNat a i < e 241 18 ∧ fset (e 258) (e 241 21).toNat b i < e 241 36 ∧ hasS e (fset (e 259) (e 241 21).toNat c i) (fset (e 260) (e 241 21).toNat m i) = true
    simp only [fs_rd]
    by_cases y2 : i = (e 241 21).toNat
    · simp only [if_pos y2]
      exact ⟨by omega, by omega, g2⟩
    · simp only [if_neg y2]
      exact we_K2 hE i (by omega)
theorem ok_order {a b c m : Int} (h : HV s d) : Ok2 L (k + 9) 21 91 [vI a, vI b, vI c, vI m] s d := by
  obtain ⟨e, P, h⟩ := h
  have ⟨h1, h2, hf, hM, hE, hR, hI, h0, hO, hZ, hX⟩ := h
  refine (c2_D_order hf hE).mpr ?_
  by_cases g0 : (0 ≤ a ∧ a < e 241 18) ∧ 0 ≤ b ∧ b < e 241 36
  · rw [if_pos g0]
    by_cases g1 : 0 ≤ c ∧ c ≤ 5
    · rw [if_pos g1]
      by_cases g2 : hasS e c m = true
      · rw [if_pos g2]
        by_cases g3 : e 241 21 < 16
        · rw [if_pos g3]
          have hM1 : FM (ups (ups (ups (ups (ups d 24 2 (e 241 21 + 1)) 32 (e 241 21).toNat a) 33 (e 241 21).toNat b) 34 (e 241 21).toNat c) 35 (e 241 21).toNat m) e := FM_cg hM (fun a ha hb hc => by simp (disch := omega) only [ups_ne])
          refine ⟨rfl, h1, ⟨_, rfl⟩, (c2_M_order hM1 hE).mpr ?_⟩
          rw [if_pos g0, if_pos g1, if_pos g2, if_pos g3]
          exact ⟨rfl, rfl, _, _, HE_order h g0 g1 g2 g3⟩
        · rw [if_neg g3]
          refine ⟨rfl, h1, ⟨_, rfl⟩, (c2_M_order hM hE).mpr ?_⟩
          rw [if_pos g0, if_pos g1, if_pos g2, if_neg g3]
          exact ⟨rfl, rfl, e, P, h⟩
      · rw [if_neg g2]
        refine ⟨rfl, h1, ⟨_, rfl⟩, (c2_M_order hM hE).mpr ?_⟩
        rw [if_pos g0, if_pos g1, if_neg g2]
        exact ⟨rfl, rfl, e, P, h⟩
    · rw [if_neg g1]
      refine ⟨rfl, h1, ⟨_, rfl⟩, (c2_M_order hM hE).mpr ?_⟩
      rw [if_pos g0, if_neg g1]
      exact ⟨rfl, rfl, e, P, h⟩
  · rw [if_neg g0]
    refine ⟨rfl, h1, ⟨_, rfl⟩, (c2_M_order hM hE).mpr ?_⟩
    rw [if_neg g0]
    exact ⟨rfl, rfl, e, P, h⟩
theorem c2_D_mend {a : Int} (hf : FC d e) (hE : WE e) : Cl (k + 9) 19 [vR 10, vI a] (SH L) d R ↔ (if 0 ≤ a ∧ a < e 241 26 then (if e 265 a.toNat = 0 then R (vI 1) (SH L) (ups d 31 a.toNat 1) else R (vI (-3)) (SH L) d) else R (vI (-1)) (SH L) d) := by
  have n0 := we_s hE
  refine (Cl_iff rfl).trans ?_
  show Go (k + 8) 19 R 0 [vR 10, vI a] [] (SH L) d ↔ _
  simp (disch := omega) only [s_D_mend_0, s_D_mend_1, s_D_mend_2, s_D_mend_5, s_D_mend_8, s_D_mend_11, s_D_mend_14, s_D_mend_15, s_D_mend_16, s_D_mend_17, s_D_mend_20, s_D_mend_23, s_D_mend_24, s_D_mend_25, s_D_mend_28, s_D_mend_30, s_D_mend_31, s_D_mend_32, s_D_mend_35, s_D_mend_38, s_D_mend_39, s_D_mend_40, s_D_mend_41, s_D_mend_42, c_D_isOf, k_1, n_1, k_2, n_2, k_3, n_3, k_4, n_4, k_5, n_5, k_6, n_6, k_7, n_7, k_8, n_8, k_9, n_9, k_10, r_10_0, r_10_1, r_10_2, r_10_3, r_10_4, r_10_5, k_11, r_11_5, r_11_6, r_11_7, r_11_8, r_11_9, r_11_10, r_11_11, r_11_12, r_11_13, r_11_14, r_11_15, r_11_16, k_12, n_12, k_13, n_13, k_14, n_14, k_15, n_15, k_16, n_16, k_17, n_17, k_18, n_18, k_19, n_19, k_20, n_20, k_21, n_21, k_22, n_22, k_23, n_23, k_24, r_24_3, r_24_4, r_24_5, r_24_6, r_24_7, r_24_8, r_24_9, r_24_10, r_24_11, r_24_12, r_24_13, k_25, n_25, k_26, n_26, k_27, n_27, k_28, n_28, k_29, n_29, k_30, n_30, k_31, n_31, k_32, n_32, k_33, n_33, k_34, n_34, k_35, n_35, k_36, r_36_0, r_36_3, r_36_4, r_36_5, r_36_6, r_36_7, k_37, n_37, k_38, n_38, k_39, n_39, r_39_0, r_39_1, r_39_2, r_39_3, r_39_4, r_39_5, k_40, n_40, k_41, n_41, k_42, n_42, k_43, n_43, k_44, n_44, k_45, n_45, k_46, n_46, k_47, n_47, k_48, r_48_0, r_48_1, r_48_5, k_49, n_49, k_50, n_50, k_51, n_51, k_52, r_52_0, r_52_1, r_52_2, r_52_3, r_52_4, r_52_5, r_52_6, r_52_7, r_52_8, r_52_9, r_52_10, r_52_11, r_52_12, r_52_13, k_53, r_53_0, r_53_1, r_53_2, r_53_3, r_53_4, r_53_5, r_53_6, k_54, n_54, k_55, n_55, k_56, n_56, k_57, n_57, k_58, n_58, k_59, n_59, k_60, n_60, k_61, r_61_0, r_61_1, r_61_2, r_61_3, k_62, n_62, k_63, n_63, k_64, n_64, k_65, n_65, k_66, r_66_0, r_66_1, r_66_2, r_66_3, r_66_4, r_66_5, k_67, n_67, k_68, n_68, k_69, n_69, k_70, n_70, k_71, n_71, k_72, n_72, k_73, n_73, k_74, n_74, k_75, n_75, k_76, n_76, k_77, n_77, k_78, n_78, k_79, n_79, k_80, n_80, k_81, r_81_0, r_81_1, r_81_2, r_81_3, r_81_4, r_81_9, r_81_10, k_82, n_82, r_82_0, r_82_1, r_82_2, r_82_3, k_83, n_83, k_84, n_84, k_85, n_85, k_86, n_86, k_87, r_87_0, r_87_1, r_87_2, r_87_3, r_87_4, r_87_5, r_87_6, r_87_7, r_87_8, r_87_9, r_87_10, r_87_11, r_87_12, r_87_13, k_116, r_116_0, r_116_1, r_116_2, r_116_3, r_116_4, r_116_5, r_116_6, r_116_7, r_116_8, r_116_9, r_116_10, r_116_11, r_116_12, r_116_13, k_145, r_145_0, r_145_1, r_145_2, r_145_3, r_145_4, r_145_5, r_145_6, r_145_7, r_145_8, r_145_9, r_145_10, r_145_11, r_145_12, r_145_13, k_174, r_174_0, r_174_1, r_174_2, r_174_3, r_174_4, r_174_5, r_174_6, r_174_7, r_174_8, r_174_9, r_174_10, r_174_11, r_174_12, r_174_13, k_203, r_203_0, r_203_1, r_203_2, r_203_3, r_203_4, r_203_5, r_203_6, r_203_7, r_203_8, r_203_9, r_203_10, r_203_11, r_203_12, r_203_13, k_232, n_232, r_232_0, r_232_1, r_232_2, r_232_3, k_233, r_233_2, k_234, n_234, k_235, r_235_2, k_236, n_236, k_237, r_237_2, k_238, n_238, k_239, r_239_2, k_240, n_240, ldI, fc_24_1 hf, fc_31 hf]
  clear hf hE
  grind
theorem c2_M_mend {a : Int} (hM : FM d e) (hE : WE e) : Cl (k + 9) 86 [vR 241, vI a] (SH L) d R ↔ (if 0 ≤ a ∧ a < e 241 26 then (if e 265 a.toNat = 0 then R (vI 1) (SH L) (ups d 265 a.toNat 1) else R (vI (-3)) (SH L) d) else R (vI (-1)) (SH L) d) := by
  have n0 := we_s hE
  refine (Cl_iff rfl).trans ?_
  show Go (k + 8) 86 R 0 [vR 241, vI a] [] (SH L) d ↔ _
  simp (disch := omega) only [s_M_mend_0, s_M_mend_1, s_M_mend_2, s_M_mend_3, s_M_mend_6, s_M_mend_7, s_M_mend_8, s_M_mend_11, s_M_mend_14, s_M_mend_15, s_M_mend_16, s_M_mend_17, s_M_mend_20, s_M_mend_21, s_M_mend_22, s_M_mend_25, s_M_mend_27, s_M_mend_28, s_M_mend_29, s_M_mend_32, s_M_mend_33, s_M_mend_34, s_M_mend_35, s_M_mend_36, c_M_within, k_1, n_1, k_241, r_241_0, r_241_2, r_241_4, r_241_5, r_241_6, r_241_7, r_241_9, r_241_10, r_241_11, r_241_12, r_241_14, r_241_15, r_241_16, r_241_19, r_241_20, r_241_22, r_241_23, r_241_24, r_241_25, r_241_27, r_241_28, r_241_29, r_241_30, r_241_31, r_241_33, r_241_34, r_241_37, r_241_38, r_241_39, r_241_40, r_241_41, r_241_42, r_241_43, r_241_44, r_241_49, r_241_50, r_241_54, k_242, n_242, k_243, n_243, k_244, n_244, k_245, n_245, k_246, n_246, k_247, n_247, k_248, n_248, k_249, n_249, k_250, n_250, k_251, n_251, k_252, n_252, k_253, n_253, k_254, n_254, k_255, n_255, k_256, n_256, k_257, n_257, k_258, n_258, k_259, n_259, k_260, n_260, k_261, n_261, k_262, n_262, k_263, n_263, k_264, n_264, k_265, n_265, k_266, n_266, k_267, n_267, k_268, n_268, k_269, n_269, k_270, n_270, k_271, n_271, k_272, n_272, k_273, n_273, k_274, n_274, k_275, n_275, k_276, n_276, k_277, n_277, k_278, n_278, ldI, fm_26 hM, fm_265 hM, wr_m1, in_of]
  clear hM hE
  grind
theorem HE_mend {j : Nat} (h : HE s e P d) : HE s (ups e 265 j 1) P (ups (ups d 31 j 1) 265 j 1) := by
  obtain ⟨h1, h2, hf, hM, hE, hR, hI, h0, hO, hZ, hX⟩ := h
  have nn := we_n hE
  have no := we_o hE
  refine ⟨h1, h2, by unfold FC; simp (disch := omega) only [ups_same, ups_ne, fs_eq, fs_ne, (fc_11_0 hf), (fc_11_1 hf), (fc_11_2 hf), (fc_11_3 hf), (fc_11_4 hf), (fc_24_0 hf), (fc_24_1 hf), (fc_24_2 hf), (fc_36_2 hf), (fc_12 hf), (fc_13 hf), (fc_14 hf), (fc_15 hf), (fc_16 hf), (fc_17 hf), (fc_18 hf), (fc_19 hf), (fc_20 hf), (fc_21 hf), (fc_22 hf), (fc_23 hf), (fc_25 hf), (fc_26 hf), (fc_27 hf), (fc_28 hf), (fc_29 hf), (fc_30 hf), (fc_31 hf), (fc_32 hf), (fc_33 hf), (fc_34 hf), (fc_35 hf), (fc_2_0 hf), (fc_2_1 hf), (fc_2_2 hf), (fc_2_3 hf), (fc_2_4 hf), (fc_2_5 hf), (fc_3_0 hf), (fc_3_1 hf), (fc_3_2 hf), (fc_3_3 hf), (fc_3_4 hf), (fc_3_5 hf), (fc_4_0 hf), (fc_4_1 hf), (fc_4_2 hf), (fc_4_3 hf), (fc_4_4 hf), (fc_4_5 hf), (fc_5_0 hf), (fc_5_1 hf), (fc_5_2 hf), (fc_5_3 hf), (fc_5_4 hf), (fc_5_5 hf), (fc_6_0 hf), (fc_6_1 hf), (fc_6_2 hf), (fc_6_3 hf), (fc_6_4 hf), (fc_6_5 hf), true_and, and_true], by unfold FM; simp (disch := omega) only [ups_same, ups_ne, fs_eq, fs_ne, (fm_1 hM), (fm_3 hM), (fm_8 hM), (fm_13 hM), (fm_17 hM), (fm_18 hM), (fm_21 hM), (fm_26 hM), (fm_36 hM), (fm_243 hM), (fm_244 hM), (fm_245 hM), (fm_246 hM), (fm_247 hM), (fm_248 hM), (fm_249 hM), (fm_250 hM), (fm_251 hM), (fm_252 hM), (fm_253 hM), (fm_254 hM), (fm_255 hM), (fm_256 hM), (fm_257 hM), (fm_258 hM), (fm_259 hM), (fm_260 hM), (fm_261 hM), (fm_262 hM), (fm_263 hM), (fm_264 hM), (fm_265 hM), (fm_268 hM), (fm_269 hM), true_and, and_true], ⟨(by have y := we_n hE; exact y), (by have y := we_l hE; exact y), (by have y := we_p hE; exact y), (by have y := we_o hE; exact y), (by have y := we_c hE; exact y), (by have y := we_r hE; exact y), (by have y := we_k hE; exact y), (by have y := we_s hE; exact y), (by have y := we_t hE; exact y), (by have y := we_x hE; exact y), (by have y := we_L hE; exact y), (by have y := we_L2 hE; exact y), (by have y := we_P hE; exact y), (by have y := we_P2 hE; exact y), (by have y := we_O hE; exact y), (by have y := we_O2 hE; exact y), (by have y := we_R hE; exact y), (by have y := we_K hE; exact y), (by have y := we_K2 hE; exact y), fun i => ?hS⟩, RL_eg hR (fun a ha hb => by simp (disch := omega) only [ups_ne]) (by show (e 241 1).toNat ≤ 14; omega) (by show (e 241 13).toNat ≤ 12; omega) (by have y := q5_2 hR; exact y) (by have y := q5_2b hR; exact y) (by have y := q5_19 hR; exact y) (by have y := q5_19b hR; exact y) (fun _ _ => rfl), ⟨⟨WQ_eg hI.1.1 (by have y := wp_i hI.1.1; exact y) (fun _ _ => rfl) (fun i hi => (wp_g hI.1.1 i hi).1), CI_eg hE hI.1.2.1 (Or.inl rfl) (by show (e 241 1).toNat ≤ 14; omega) (Or.inl rfl) (fun l hl => ⟨rfl, rfl, rfl⟩) (Or.inl rfl) (fun l hl => ⟨rfl, rfl⟩) (fun i hi => rfl), UN_eg hI.1.1 hI.1.2.2 (Or.inl rfl) (fun i hi => ⟨rfl, rfl⟩)⟩, hI.2⟩, h0, OK_eg hO hE (fun a ha hb => by simp (disch := omega) only [ups_ne]) rfl rfl rfl, ZF_eg hZ (fun j hj => ⟨hj, rfl⟩), XS_up hX (fun a ha => by simp (disch := omega) only [ups_ne]) (by simp (disch := omega) only [ups_ne]) (by simp (disch := omega) only [ups_ne])⟩
  case hS =>
    show fset (e 265) j 1 i = 0 ∨ fset (e 265) j 1 i = 1
    rw [fs_rd]
    split
    · exact Or.inr rfl
    · exact we_S hE i
theorem ok_mend {a : Int} (h : HV s d) : Ok2 L (k + 9) 19 86 [vI a] s d := by
  obtain ⟨e, P, h⟩ := h
  have ⟨h1, h2, hf, hM, hE, hR, hI, h0, hO, hZ, hX⟩ := h
  refine (c2_D_mend hf hE).mpr ?_
  by_cases g0 : 0 ≤ a ∧ a < e 241 26
  · rw [if_pos g0]
    by_cases g1 : e 265 a.toNat = 0
    · rw [if_pos g1]
      have hM1 : FM (ups d 31 a.toNat 1) e := FM_cg hM (fun a ha hb hc => by simp (disch := omega) only [ups_ne])
      refine ⟨rfl, h1, ⟨_, rfl⟩, (c2_M_mend hM1 hE).mpr ?_⟩
      rw [if_pos g0, if_pos g1]
      exact ⟨rfl, rfl, _, _, HE_mend h⟩
    · rw [if_neg g1]
      refine ⟨rfl, h1, ⟨_, rfl⟩, (c2_M_mend hM hE).mpr ?_⟩
      rw [if_pos g0, if_neg g1]
      exact ⟨rfl, rfl, e, P, h⟩
  · rw [if_neg g0]
    refine ⟨rfl, h1, ⟨_, rfl⟩, (c2_M_mend hM hE).mpr ?_⟩
    rw [if_neg g0]
    exact ⟨rfl, rfl, e, P, h⟩
end
