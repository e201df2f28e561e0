/-! text as a call of the law (expanded by gen18.py) -/
theorem Flt_u {t : Nat → Int} {m j i : Nat} (h : Flt t m j) (h2 : Flt t m i) : j = i := by
  rcases h.2 with ⟨a, b⟩ | ⟨a, b⟩
  · rcases h2.2 with ⟨x, y⟩ | ⟨x, y⟩
    · omega
    · exact absurd x a
  · rcases h2.2 with ⟨x, y⟩ | ⟨x, y⟩
    · exact absurd a x
    · rcases b with b | ⟨O, b, b2⟩
      · rcases y with y | ⟨Q, y, y2⟩
        · rw [b] at y
          exact (Prod.mk.inj y).1
        · rw [b] at y
          exact (Prod.mk.inj y).1
      · rcases y with y | ⟨Q, y, y2⟩
        · rw [b] at y
          exact (Prod.mk.inj y).1
        · rw [b] at y
          exact (Prod.mk.inj y).1
theorem Flt_s {t : Nat → Int} {m j i : Nat} {O : List Int} (h : Flt t m j) (h0 : t 0 = -7) (h1 : yW t (m + 1) true 1 [] [] = (i, some O)) (h2 : t i = -19) : False := by
  rcases h.2 with ⟨a, b⟩ | ⟨a, b⟩
  · exact a h0
  · rcases b with b | ⟨Q, b, b2⟩
    · rw [b] at h1
      cases (Prod.mk.inj h1).2
    · rw [b] at h1
      rw [(Prod.mk.inj h1).1] at b2
      exact b2 h2
theorem hs_cg {f g : Nat → Int} : ∀ n, (∀ k, k < n → f k = g k) → hsT f n = hsT g n
  | 0, _ => rfl
  | n + 1, h => by
    show hsT f n + _ = hsT g n + _
    rw [hs_cg n (fun k hk => h k (by omega)), h n (by omega)]
theorem okT_cg {f g : Nat → Int} {n : Nat} (h : ∀ k, k < n → f k = g k) (h2 : okT f n) : okT g n := by
  refine ⟨fun k hk => ?_, by rw [← hs_cg n h]; exact h2.2⟩
  have := h2.1 k hk
  rw [h k hk, hs_cg k (fun q hq => h q (by omega))] at this
  exact this
theorem okB_at : ∀ (X : List Int) (c : Int) (Y : List Int) (h : Int), okB h (X ++ c :: Y) → okY (hE h X) c
  | [], _, _, _, h1 => h1.1
  | q :: X, c, Y, h, h1 => okB_at X c Y (h + stpH q) h1.2
theorem take_s {O : List Int} {k : Nat} (hk : k < O.length) : O.take (k + 1) = O.take k ++ [O.getD k 0] ∧ O = O.take k ++ O.getD k 0 :: O.drop (k + 1) := by
  have e : O.getD k 0 = O[k] := by
    rw [List.getD_eq_getElem?_getD, List.getElem?_eq_getElem hk]
    rfl
  rw [e]
  refine ⟨(List.take_append_getElem hk).symm, ?_⟩
  rw [List.getElem_cons_drop, List.take_append_drop]
theorem okB_T {f : Nat → Int} {O : List Int} (h1 : okB 0 O) (h2 : hE 0 O = 1) (hf : ∀ k, k < O.length → f k = O.getD k 0) : okT f O.length := by
  have key : ∀ k, k ≤ O.length → hsT f k = hE 0 (O.take k) := by
    intro k
    induction k with
    | zero => intro _; rfl
    | succ k ih =>
      intro hk
      rw [(take_s (show k < O.length by omega)).1, hE_a, ← ih (by omega), ← hf k (by omega)]
      rfl
  refine ⟨fun k hk => ?_, by rw [key _ (Nat.le_refl _), List.take_length]; exact h2⟩
  have h3 := h1
  rw [(take_s hk).2] at h3
  have h4 := okB_at _ _ _ _ h3
  rw [← key k (by omega), ← hf k hk] at h4
  exact h4
theorem gD_map {X : List Int} {k : Nat} (hk : k < X.length) : (X.map trC).getD k 0 = trC (X.getD k 0) ∧ X.getD k 0 ∈ X := by
  have e : X.getD k 0 = X[k] := by
    rw [List.getD_eq_getElem?_getD, List.getElem?_eq_getElem hk]
    rfl
  rw [e]
  refine ⟨?_, List.getElem_mem hk⟩
  rw [List.getD_eq_getElem?_getD, List.getElem?_map, List.getElem?_eq_getElem hk]
  rfl
section
variable {L k : Nat} {s : Row} {d e : Dat} {P : Row} {R : RT}
/-- the texts may change -/
theorem HE_txt {d2 e2 : Dat} (h : HE s e P d) (f : ∀ a, (a < 36 ∨ (52 ≤ a ∧ a ≤ 80) ∨ (242 ≤ a ∧ a < 266)) → d2 a = d a) (fe : ∀ a, 243 ≤ a → a < 266 → e2 a = e a) (fe1 : ∀ i, i < 36 → e2 241 i = e 241 i) (f36 : d2 36 2 = e2 241 36) (f241 : ∀ i, i < 32 → d2 241 i = d 241 i) (f2 : d2 241 36 = e2 241 36) (f268 : d2 268 = e2 268) (f269 : d2 269 = e2 269) (ht : e 241 36 ≤ e2 241 36 ∧ e2 241 36 ≤ 6) (hO2 : OK d2 e2) (hX2 : XS d2) : HE s e2 P d2 := by
  obtain ⟨h1, h2, hf, hM, hE, hR, hI, h0, hO, hZ, _⟩ := h
  have n1 := we_n hE
  have n4 := we_o hE
  have nt := we_t hE
  refine ⟨?_, ?_, ?_, ?_, ?_, ?_, ?_, h0, hO2, ?_, hX2⟩
  · rw [f 1 (by omega)]
    exact h1
  · rw [f 242 (by omega)]
    exact h2
  · unfold FC
    simp (disch := omega) only [f, fe, fe1, (fc_11_0 hf), (fc_11_1 hf), (fc_11_2 hf), (fc_11_3 hf), (fc_11_4 hf), (fc_24_0 hf), (fc_24_1 hf), (fc_24_2 hf), (fc_36_2 hf), (fc_12 hf), (fc_13 hf), (fc_14 hf), (fc_15 hf), (fc_16 hf), (fc_17 hf), (fc_18 hf), (fc_19 hf), (fc_20 hf), (fc_21 hf), (fc_22 hf), (fc_23 hf), (fc_25 hf), (fc_26 hf), (fc_27 hf), (fc_28 hf), (fc_29 hf), (fc_30 hf), (fc_31 hf), (fc_32 hf), (fc_33 hf), (fc_34 hf), (fc_35 hf), (fc_2_0 hf), (fc_2_1 hf), (fc_2_2 hf), (fc_2_3 hf), (fc_2_4 hf), (fc_2_5 hf), (fc_3_0 hf), (fc_3_1 hf), (fc_3_2 hf), (fc_3_3 hf), (fc_3_4 hf), (fc_3_5 hf), (fc_4_0 hf), (fc_4_1 hf), (fc_4_2 hf), (fc_4_3 hf), (fc_4_4 hf), (fc_4_5 hf), (fc_5_0 hf), (fc_5_1 hf), (fc_5_2 hf), (fc_5_3 hf), (fc_5_4 hf), (fc_5_5 hf), (fc_6_0 hf), (fc_6_1 hf), (fc_6_2 hf), (fc_6_3 hf), (fc_6_4 hf), (fc_6_5 hf), true_and, and_true]
    exact f36
  · unfold FM
    simp (disch := omega) only [f, f241, fe, fe1, f268, f269, f2, (fm_1 hM), (fm_3 hM), (fm_8 hM), (fm_13 hM), (fm_17 hM), (fm_18 hM), (fm_21 hM), (fm_26 hM), (fm_36 hM), (fm_243 hM), (fm_244 hM), (fm_245 hM), (fm_246 hM), (fm_247 hM), (fm_248 hM), (fm_249 hM), (fm_250 hM), (fm_251 hM), (fm_252 hM), (fm_253 hM), (fm_254 hM), (fm_255 hM), (fm_256 hM), (fm_257 hM), (fm_258 hM), (fm_259 hM), (fm_260 hM), (fm_261 hM), (fm_262 hM), (fm_263 hM), (fm_264 hM), (fm_265 hM), (fm_268 hM), (fm_269 hM), true_and, and_true]
  · unfold WE
    simp (disch := omega) only [fe, fe1]
    refine ⟨we_n hE, we_l hE, we_p hE, we_o hE, we_c hE, we_r hE, we_k hE, we_s hE, ⟨by omega, by omega⟩, we_x hE, we_L hE, we_L2 hE, we_P hE, we_P2 hE, we_O hE, we_O2 hE, we_R hE, we_K hE, fun i hi => ?_, we_S hE⟩
    have y := we_K2 hE i hi
    exact ⟨y.1, by have := y.2.1; omega, hasS_up y.2.2 (by rw [fe1 3 (by decide)]; exact Int.le_refl _) (by rw [fe1 8 (by decide)]; exact Int.le_refl _) (by rw [fe1 13 (by decide)]; exact Int.le_refl _)⟩
  · exact RL_eg hR (fun a ha hb => f a (by omega)) (by rw [fe1 1 (by decide)]; omega) (by rw [fe1 13 (by decide)]; omega) (fun i hi => by rw [fe1 1 (by decide)] at hi; exact q5_2 hR i hi) (fun i hi hi2 => by rw [fe1 1 (by decide)] at hi; exact q5_2b hR i hi hi2) (fun i hi => by rw [fe1 13 (by decide)] at hi; exact q5_19 hR i hi) (fun i hi hi2 => by rw [fe1 13 (by decide)] at hi; exact q5_19b hR i hi hi2) (fun _ _ => rfl)
  · refine ⟨⟨WQ_eg hI.1.1 (fun i hi => by rw [fe1 1 (by decide)] at hi ⊢; exact wp_i hI.1.1 i hi) (fun _ _ => rfl) (fun i hi => (wp_g hI.1.1 i hi).1), CI_eg hE hI.1.2.1 (Or.inl (by rw [fe1 1 (by decide)])) (by rw [fe1 1 (by decide)]; omega) (Or.inl (by rw [fe1 3 (by decide)])) (fun l hl => ⟨rfl, by rw [fe 244 (by decide) (by decide)], by rw [fe 245 (by decide) (by decide)]⟩) (Or.inl (by rw [fe1 8 (by decide)])) (fun l hl => ⟨rfl, by rw [fe 249 (by decide) (by decide)]⟩) (fun i hi => rfl), UN_eg hI.1.1 hI.1.2.2 (Or.inl (by rw [fe1 1 (by decide)])) (fun i hi => ⟨rfl, rfl⟩)⟩, hI.2⟩
  · refine ZF_eg hZ (fun j hj => ⟨?_, rfl⟩)
    unfold Zx at hj ⊢
    rw [fe1 1 (by decide), fe1 3 (by decide), fe1 8 (by decide)] at hj
    exact hj
/-- the old texts stand -/
theorem TY_txt {d2 e2 : Dat} {t u n : Nat} {y : Row} (h : TY d e u n) (hu : u < t) (f46 : d2 46 u = d 46 u) (f40 : d2 (40 + u) = d (40 + u)) (h268 : ∀ i, (i < 200 * t ∨ 200 * t + 200 ≤ i) → e2 268 i = e 268 i) (h269 : ∀ i, ¬ i = 4 * t → ¬ i = 4 * t + 1 → e2 269 i = e 269 i) : TY d2 e2 u n := by
  obtain ⟨⟨a1, a2, a3, a4⟩, a5, a6⟩ := h
  refine ⟨⟨by rw [h269 _ (by omega) (by omega)]; exact a1, by rw [h269 _ (by omega) (by omega)]; exact a2, a3, okT_cg (fun k hk => (h268 _ (by omega)).symm) a4⟩, by rw [f46]; exact a5, fun k hk => ?_⟩
  rw [f40, h268 _ (by omega)]
  exact a6 k hk
theorem ok_text (h : HV s d) : Ok2 L (k + 81) 28 112 [] s d := by
  obtain ⟨e, P, h⟩ := h
  have ⟨h1, h2, hf, hM, hE, hR, hI, h0, hO, hZ, hX⟩ := h
  obtain ⟨⟨x8, x9, x276⟩, ⟨⟨y0, y1⟩, y2, y3⟩, hXs, hXp⟩ := hX
  have nt := we_t hE
  have t1 := fc_36_2 hf
  have t2 := fm_36 hM
  by_cases c6 : e 241 36 = 6
  · refine ok_tell (n := -4) h (fun R => ?_) (fun R => ?_)
    · refine (Cl_iff rfl).trans ?_
      show Go (k + 80) 28 R 0 [vR 10, vU] [] (SH L) d ↔ _
      rw [c6] at t1
      clear h hf hM hE hR hI hO hZ hXs hXp y3
      simp (disch := omega) only [s_D_text_0, s_D_text_1, s_D_text_4, s_D_text_7, s_D_text_9, s_D_text_12, s_D_text_14, s_D_text_16, s_D_text_19, s_D_text_22, s_D_text_23, s_D_text_24, s_D_text_27, s_D_text_28, s_D_text_31, s_D_text_34, s_D_text_35, s_D_text_36, s_D_text_39, s_D_text_41, s_D_text_42, s_D_text_43, k_1, n_1, k_2, n_2, k_3, n_3, k_4, n_4, k_5, n_5, k_6, n_6, k_7, n_7, k_8, n_8, k_9, n_9, k_10, r_10_0, r_10_1, r_10_2, r_10_3, r_10_4, r_10_5, k_11, r_11_5, r_11_6, r_11_7, r_11_8, r_11_9, r_11_10, r_11_11, r_11_12, r_11_13, r_11_14, r_11_15, r_11_16, k_12, n_12, k_13, n_13, k_14, n_14, k_15, n_15, k_16, n_16, k_17, n_17, k_18, n_18, k_19, n_19, k_20, n_20, k_21, n_21, k_22, n_22, k_23, n_23, k_24, r_24_3, r_24_4, r_24_5, r_24_6, r_24_7, r_24_8, r_24_9, r_24_10, r_24_11, r_24_12, r_24_13, k_25, n_25, k_26, n_26, k_27, n_27, k_28, n_28, k_29, n_29, k_30, n_30, k_31, n_31, k_32, n_32, k_33, n_33, k_34, n_34, k_35, n_35, k_36, r_36_0, r_36_3, r_36_4, r_36_5, r_36_6, r_36_7, k_37, n_37, k_38, n_38, k_39, n_39, r_39_0, r_39_1, r_39_2, r_39_3, r_39_4, r_39_5, k_40, n_40, k_41, n_41, k_42, n_42, k_43, n_43, k_44, n_44, k_45, n_45, k_46, n_46, k_47, n_47, k_48, r_48_0, r_48_1, r_48_5, k_49, n_49, k_50, n_50, k_51, n_51, k_52, r_52_0, r_52_1, r_52_2, r_52_3, r_52_4, r_52_5, r_52_6, r_52_7, r_52_8, r_52_9, r_52_10, r_52_11, r_52_12, r_52_13, k_53, r_53_0, r_53_1, r_53_2, r_53_3, r_53_4, r_53_5, r_53_6, k_54, n_54, k_55, n_55, k_56, n_56, k_57, n_57, k_58, n_58, k_59, n_59, k_60, n_60, k_61, r_61_0, r_61_1, r_61_2, r_61_3, k_62, n_62, k_63, n_63, k_64, n_64, k_65, n_65, k_66, r_66_0, r_66_1, r_66_2, r_66_3, r_66_4, r_66_5, k_67, n_67, k_68, n_68, k_69, n_69, k_70, n_70, k_71, n_71, k_72, n_72, k_73, n_73, k_74, n_74, k_75, n_75, k_76, n_76, k_77, n_77, k_78, n_78, k_79, n_79, k_80, n_80, k_81, r_81_0, r_81_1, r_81_2, r_81_3, r_81_4, r_81_9, r_81_10, k_82, n_82, r_82_0, r_82_1, r_82_2, r_82_3, k_83, n_83, k_84, n_84, k_85, n_85, k_86, n_86, k_87, r_87_0, r_87_1, r_87_2, r_87_3, r_87_4, r_87_5, r_87_6, r_87_7, r_87_8, r_87_9, r_87_10, r_87_11, r_87_12, r_87_13, k_116, r_116_0, r_116_1, r_116_2, r_116_3, r_116_4, r_116_5, r_116_6, r_116_7, r_116_8, r_116_9, r_116_10, r_116_11, r_116_12, r_116_13, k_145, r_145_0, r_145_1, r_145_2, r_145_3, r_145_4, r_145_5, r_145_6, r_145_7, r_145_8, r_145_9, r_145_10, r_145_11, r_145_12, r_145_13, k_174, r_174_0, r_174_1, r_174_2, r_174_3, r_174_4, r_174_5, r_174_6, r_174_7, r_174_8, r_174_9, r_174_10, r_174_11, r_174_12, r_174_13, k_203, r_203_0, r_203_1, r_203_2, r_203_3, r_203_4, r_203_5, r_203_6, r_203_7, r_203_8, r_203_9, r_203_10, r_203_11, r_203_12, r_203_13, k_232, n_232, r_232_0, r_232_1, r_232_2, r_232_3, k_233, r_233_2, k_234, n_234, k_235, r_235_2, k_236, n_236, k_237, r_237_2, k_238, n_238, k_239, r_239_2, k_240, n_240, t1]
      grind
    · refine (Cl_iff rfl).trans ?_
      show Go (k + 80) 112 R 0 [vR 241, vU] [] (SH L) (rset d 242 P) ↔ _
      rw [c6] at t2
      clear h hf hM hE hR hI hO hZ hXs hXp y3
      simp (disch := omega) only [s_M_text_0, s_M_text_1, s_M_text_4, s_M_text_6, s_M_text_9, s_M_text_11, s_M_text_13, s_M_text_14, s_M_text_17, s_M_text_18, s_M_text_19, s_M_text_22, s_M_text_23, s_M_text_26, s_M_text_27, s_M_text_30, s_M_text_31, s_M_text_34, s_M_text_35, s_M_text_38, s_M_text_39, s_M_text_40, s_M_text_41, s_M_text_44, s_M_text_45, s_M_text_46, s_M_text_49, s_M_text_50, s_M_text_51, s_M_text_54, s_M_text_55, s_M_text_56, s_M_text_59, s_M_text_60, s_M_text_63, s_M_text_66, s_M_text_67, s_M_text_70, s_M_text_71, s_M_text_72, s_M_text_73, s_M_text_76, s_M_text_77, s_M_text_80, s_M_text_81, s_M_text_84, s_M_text_87, s_M_text_88, s_M_text_91, s_M_text_92, s_M_text_93, s_M_text_94, s_M_text_97, s_M_text_98, s_M_text_99, s_M_text_102, s_M_text_103, s_M_text_104, s_M_text_105, s_M_text_106, s_M_text_109, s_M_text_110, s_M_text_111, s_M_text_112, s_M_text_115, s_M_text_116, s_M_text_119, s_M_text_121, s_M_text_122, s_M_text_125, s_M_text_126, s_M_text_127, s_M_text_128, s_M_text_129, s_M_text_132, s_M_text_133, s_M_text_134, s_M_text_137, s_M_text_138, s_M_text_141, s_M_text_142, s_M_text_143, k_1, n_1, k_241, r_241_0, r_241_2, r_241_4, r_241_5, r_241_6, r_241_7, r_241_9, r_241_10, r_241_11, r_241_12, r_241_14, r_241_15, r_241_16, r_241_19, r_241_20, r_241_22, r_241_23, r_241_24, r_241_25, r_241_27, r_241_28, r_241_29, r_241_30, r_241_31, r_241_33, r_241_34, r_241_37, r_241_38, r_241_39, r_241_40, r_241_41, r_241_42, r_241_43, r_241_44, r_241_49, r_241_50, r_241_54, k_242, n_242, k_243, n_243, k_244, n_244, k_245, n_245, k_246, n_246, k_247, n_247, k_248, n_248, k_249, n_249, k_250, n_250, k_251, n_251, k_252, n_252, k_253, n_253, k_254, n_254, k_255, n_255, k_256, n_256, k_257, n_257, k_258, n_258, k_259, n_259, k_260, n_260, k_261, n_261, k_262, n_262, k_263, n_263, k_264, n_264, k_265, n_265, k_266, n_266, k_267, n_267, k_268, n_268, k_269, n_269, k_270, n_270, k_271, n_271, k_272, n_272, k_273, n_273, k_274, n_274, k_275, n_275, k_276, n_276, k_277, n_277, k_278, n_278, rs_ne, t2]
      grind
  · obtain ⟨t, ht⟩ : ∃ t : Nat, e 241 36 = (t : Int) := ⟨(e 241 36).toNat, by omega⟩
    obtain ⟨n, hn⟩ : ∃ n : Nat, d 36 1 = (n : Int) := ⟨(d 36 1).toNat, by omega⟩
    have ht2 : t < 6 := by omega
    have hn2 : n ≤ 160 := by omega
    have TU : ∀ i, i < n → d 37 i = d 267 i := fun i hi => (y3 i (by omega)).1
    have tke : tk (d 37) n = tk (d 267) n := funext (fun j => tk_cg TU)
    have bge : ∀ j, bg (d 37) n j = bg (d 267) n j := fun j => bg_cg TU
    have w276 : ∀ q, q < 10 → d 276 q = wdL.getD q 0 := fun q hq => by rw [x276]; exact E276 q hq
    -- what the model's end gives
    have old : ∀ (d2 e2 : Dat) (y : Row), cod y (d 268) t [] → e2 268 = y → (∀ i, ¬ i = 4 * t → ¬ i = 4 * t + 1 → e2 269 i = e 269 i) → (∀ u, u < t → d2 46 u = d 46 u ∧ d2 (40 + u) = d (40 + u)) → ∀ u, u < t → ∃ n, TY d2 e2 u n := by
      intro d2 e2 y hy h268 h269 f u hu
      obtain ⟨m, hm⟩ := hO u (by omega)
      exact ⟨m, TY_txt (y := y) hm hu (f u hu).1 (f u hu).2 (fun i hi => by rw [h268, hy.2 i hi, fm_268 hM]) h269⟩
    have nx : ∀ d2 : Dat, (∀ a, (a = 8 ∨ a = 9 ∨ a = 81 ∨ a = 86 ∨ (233 ≤ a ∧ a ≤ 240) ∨ a = 266 ∨ a = 271 ∨ a = 272 ∨ a = 273 ∨ a = 276) → d2 a = d a) → d2 36 1 = 0 → d2 241 35 = 0 → d2 241 32 = d 241 32 → XS d2 := by
      intro d2 f f1 f2 f3
      unfold XS
      rw [f1, f2, f3, f 8 (by omega), f 9 (by omega), f 276 (by omega), f 81 (by omega), f 86 (by omega), f 266 (by omega), f 271 (by omega), f 272 (by omega), f 273 (by omega)]
      refine ⟨⟨x8, x9, x276⟩, ⟨by omega, rfl, fun i hi => by omega⟩, fun u hu => ?_, hXp⟩
      rw [f (233 + 2 * u) (by omega), f (234 + 2 * u) (by omega)]
      exact hXs u hu
    refine c_D_text (T := d 37) (t := t) rfl (by rw [x8, E8]) (by rw [x9, E9]) hn hn2 (fun i hi => (y3 i (by omega)).2) (by omega) ht2 (fun m j d1 hm hfl f1 f2 => ?_) (fun m j X d1 hm hsu f1 f2 f3 f4 => ?_)
    · rw [tke] at hm hfl
      have hT : TPE (d 267) n m t d1 := ⟨f1 267 (by decide) (by decide), by rw [f1 241 (by decide) (by decide), y2, hn], hn2, fun q hq => by rw [f1 276 (by decide) (by decide)]; exact w276 q hq, by rw [f1 241 (by decide) (by decide), t2, ht], ht2, hm.1, hm.2, fun j => tk_hi⟩
      refine ⟨rfl, by rw [f1 1 (by decide) (by decide)]; exact h1, ⟨_, rfl⟩, ?_⟩
      refine c_M_text (k := k + 74) hT (fun j2 hf2 z a b c v h3 o x y hy => ⟨rfl, ?_, ?_⟩) (fun j2 O z1 z2 z3 => (Flt_s hfl z1 z2 z3).elim) (fun z j2 O hr => ?_)
      · rw [Flt_u hfl hf2, bge]
      · rw [f1 268 (by decide) (by decide)] at hy
        generalize hD : pD (ups (ups (ups d1 269 (4 * t) 0) 269 (4 * t + 1) z) 241 35 0) a b c v h3 o z x y = D
        have g1 : ∀ q, ¬ q = 36 → (q < 48 ∨ 51 < q) → ¬ q = 241 → ¬ q = 268 → ¬ q = 269 → ¬ q = 277 → D q = d q := fun q q1 q2 q3 q4 q5 q6 => by
          rw [← hD, pD_o (by omega), ups_ne q3, ups_ne q5, ups_ne q5, f1 q q1 q2]
        have g36 : D 36 = fset (d 36) 1 0 := by
          rw [← hD, pD_o (by decide), ups_ne (by decide), ups_ne (by decide), ups_ne (by decide), f2]
        have g268 : D 268 = y := by rw [← hD, pD_8]
        have g269 : D 269 = fset (fset (d 269) (4 * t) 0) (4 * t + 1) z := by
          rw [← hD, pD_o (by decide), ups_ne (by decide), ups_same, ups_same, f1 269 (by decide) (by decide)]
        have g241 : ∀ i, i < 35 ∨ i = 36 → D 241 i = d 241 i := fun i hi => by
          rw [← hD, pD_1, ups_same, ups_ne (by decide), ups_ne (by decide), f1 241 (by decide) (by decide)]
          unfold fP fset
          grind
        have g35 : D 241 35 = 0 := by
          rw [← hD, pD_35, ups_same, fs_eq]
        clear hD hT f1 f2
        refine ⟨rset (rset e 268 y) 269 (fset (fset (e 269) (4 * t) 0) (4 * t + 1) z), P, HE_txt h (fun a ha => g1 a (by omega) (by omega) (by omega) (by omega) (by omega) (by omega)) (fun a ha hb => by rw [rs_ne (by omega), rs_ne (by omega)]) (fun i hi => by rw [rs_ne (by decide), rs_ne (by decide)]) (by rw [g36, fs_ne (by decide), t1, rs_ne (by decide), rs_ne (by decide)]) (fun i hi => g241 i (by omega)) (by rw [g241 36 (by omega), t2, rs_ne (by decide), rs_ne (by decide)]) (by rw [g268, rs_ne (by decide), rs_eq]) (by rw [g269, rs_eq, fm_269 hM]) (by rw [rs_ne (by decide), rs_ne (by decide)]; omega) (fun u hu => ?_) (nx D (fun a ha => g1 a (by omega) (by omega) (by omega) (by omega) (by omega) (by omega)) (by rw [g36, fs_eq]) g35 (g241 32 (by omega)))⟩
        rw [rs_ne (by decide), rs_ne (by decide)] at hu
        exact old _ _ y hy (by rw [rs_ne (by decide), rs_eq]) (fun i i1 i2 => by rw [rs_eq, fs_ne i2, fs_ne i1]) (fun u hu => ⟨by rw [g1 46 (by decide) (by decide) (by decide) (by decide) (by decide) (by decide)], g1 (40 + u) (by omega) (by omega) (by omega) (by omega) (by omega) (by omega)⟩) u (by omega)
      · rcases hfl.2 with ⟨a, b⟩ | ⟨a, b⟩
        · exact absurd z a
        · rcases b with b | ⟨Q, b, b2⟩
          · rw [b] at hr
            rw [← (Prod.mk.inj hr).1]
            exact hfl.1
          · rw [b] at hr
            rw [← (Prod.mk.inj hr).1]
            exact hfl.1
    · rw [tke] at hm hsu
      obtain ⟨s1, s2, s3, s4, s5, s6⟩ := hsu
      have hT : TPE (d 267) n m t d1 := ⟨f1 267 (by decide) (by decide) (by omega) (by decide), by rw [f1 241 (by decide) (by decide) (by omega) (by decide), y2, hn], hn2, fun q hq => by rw [f1 276 (by decide) (by decide) (by omega) (by decide)]; exact w276 q hq, by rw [f1 241 (by decide) (by decide) (by omega) (by decide), t2, ht], ht2, hm.1, hm.2, fun j => tk_hi⟩
      refine ⟨rfl, by rw [f1 1 (by decide) (by decide) (by omega) (by decide)]; exact h1, ⟨_, rfl⟩, ?_⟩
      refine c_M_text (k := k + 74) hT (fun j2 hf2 => (Flt_s hf2 s2 s3 s4).elim) (fun j2 O z1 z2 z3 a b c v h3 o x y hy => ⟨rfl, rfl, ?_⟩) (fun z j2 O hr => ?_)
      · rw [s3] at z2
        have zO : X.map trC = O := Option.some.inj (Prod.mk.inj z2).2
        have lO : O.length = X.length := by rw [← zO, List.length_map]
        rw [f1 268 (by decide) (by decide) (by omega) (by decide)] at hy
        generalize hD : pD (ups (ups (ups (ups d1 269 (4 * t) 0) 269 (4 * t + 1) ((O.length : Nat) : Int)) 241 35 0) 241 36 ((t + 1 : Nat) : Int)) a b c v h3 o ((O.length : Nat) : Int) x y = D
        have g1 : ∀ q, ¬ q = 36 → ¬ q = 46 → ¬ q = 40 + t → (q < 48 ∨ 51 < q) → ¬ q = 241 → ¬ q = 268 → ¬ q = 269 → ¬ q = 277 → D q = d q := fun q q1 q7 q8 q2 q3 q4 q5 q6 => by
          rw [← hD, pD_o (by omega), ups_ne q3, ups_ne q3, ups_ne q5, ups_ne q5, f1 q q1 q7 q8 q2]
        have g36 : D 36 = fset (fset (d 36) 1 0) 2 ((t + 1 : Nat) : Int) := by
          rw [← hD, pD_o (by decide), ups_ne (by decide), ups_ne (by decide), ups_ne (by decide), ups_ne (by decide), f2]
        have g46 : D 46 = fset (d 46) t ((X.length : Nat) : Int) := by
          rw [← hD, pD_o (by decide), ups_ne (by decide), ups_ne (by decide), ups_ne (by decide), ups_ne (by decide), f3]
        have g40 : lst (D (40 + t)) X := by
          rw [← hD, pD_o (by omega), ups_ne (by omega), ups_ne (by omega), ups_ne (by omega), ups_ne (by omega)]
          exact f4
        have g268 : D 268 = y := by rw [← hD, pD_8]
        have g269 : D 269 = fset (fset (d 269) (4 * t) 0) (4 * t + 1) ((O.length : Nat) : Int) := by
          rw [← hD, pD_o (by decide), ups_ne (by decide), ups_ne (by decide), ups_same, ups_same, f1 269 (by decide) (by decide) (by omega) (by decide)]
        have g241 : ∀ i, i < 35 → D 241 i = d 241 i := fun i hi => by
          rw [← hD, pD_1, ups_same, ups_same, ups_ne (by decide), ups_ne (by decide), f1 241 (by decide) (by decide) (by omega) (by decide)]
          unfold fP fset
          grind
        have g35 : D 241 35 = 0 := by
          rw [← hD, pD_35, ups_same, fs_ne (by decide), ups_same, fs_eq]
        have g360 : D 241 36 = ((t + 1 : Nat) : Int) := by
          rw [← hD, pD_36, ups_same, fs_eq]
        clear hD hT f1 f2 f3 f4
        generalize hE2 : ups (rset (rset e 268 y) 269 (fset (fset (e 269) (4 * t) 0) (4 * t + 1) ((O.length : Nat) : Int))) 241 36 ((t + 1 : Nat) : Int) = e2
        have k1 : ∀ a, ¬ a = 241 → ¬ a = 268 → ¬ a = 269 → e2 a = e a := fun a a1 a2 a3 => by rw [← hE2, ups_ne a1, rs_ne a3, rs_ne a2]
        have k268 : e2 268 = y := by rw [← hE2, ups_ne (by decide), rs_ne (by decide), rs_eq]
        have k269 : e2 269 = fset (fset (e 269) (4 * t) 0) (4 * t + 1) ((O.length : Nat) : Int) := by rw [← hE2, ups_ne (by decide), rs_eq]
        have k241 : e2 241 = fset (e 241) 36 ((t + 1 : Nat) : Int) := by rw [← hE2, ups_same, rs_ne (by decide), rs_ne (by decide)]
        clear hE2
        have k36 : e2 241 36 = ((t + 1 : Nat) : Int) := by rw [k241, fs_eq]
        refine ⟨e2, P, HE_txt h (fun a ha => g1 a (by omega) (by omega) (by omega) (by omega) (by omega) (by omega) (by omega) (by omega)) (fun a ha hb => k1 a (by omega) (by omega) (by omega)) (fun i hi => by rw [k241, fs_ne (by omega)]) (by rw [g36, fs_eq, k36]) (fun i hi => g241 i (by omega)) (by rw [g360, k36]) (by rw [g268, k268]) (by rw [g269, k269, fm_269 hM]) (by rw [k36]; omega) (fun u hu => ?_) (nx D (fun a ha => g1 a (by omega) (by omega) (by omega) (by omega) (by omega) (by omega) (by omega) (by omega)) (by rw [g36, fs_ne (by decide), fs_eq]) g35 (g241 32 (by omega)))⟩
        rw [k36] at hu
        by_cases cu : u < t
        · exact old _ _ y (cod_0 hy) k268 (fun i i1 i2 => by rw [k269, fs_ne i2, fs_ne i1]) (fun u hu => ⟨by rw [g46, fs_ne (by omega)], g1 (40 + u) (by omega) (by omega) (by omega) (by omega) (by omega) (by omega) (by omega) (by omega)⟩) u cu
        · have ut : u = t := by omega
          subst ut
          have ox := s5.2 0 (by omega) (by omega)
          rw [zO] at ox
          refine ⟨X.length, ⟨by rw [k269, fs_ne (by omega), fs_eq], by rw [k269, fs_eq, lO], s6, ?_⟩, by rw [g46, fs_eq], fun q hq => ?_⟩
          · have := okB_T (f := fun k => e2 268 (200 * u + k)) ox.1 ox.2 (fun q hq => by
              show e2 268 (200 * u + q) = _
              rw [k268]
              exact hy.1 q hq)
            rw [lO] at this
            exact this
          · have gm := gD_map hq
            rw [k268, hy.1 q (by omega), ← zO, gm.1, g40 q hq]
            exact s5.1 _ gm.2
      · rw [s3] at hr
        rw [← (Prod.mk.inj hr).1]
        exact s1
end
