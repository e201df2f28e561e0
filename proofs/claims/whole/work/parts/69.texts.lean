/-! what a text comes to, on both sides (expanded by gen18.py) -/
def stk (x : Row) (s : List Int) : Prop := ∀ j, j < s.length → x j = s.getD (s.length - 1 - j) 0
theorem stk_cons {x : Row} {a : Int} {s : List Int} : stk x (a :: s) ↔ x s.length = a ∧ stk x s := by
  unfold stk
  constructor
  · intro h
    refine ⟨?_, fun j hj => ?_⟩
    · have := h s.length (by simp)
      simpa using this
    · have := h j (by simp; omega)
      rw [this]
      simp only [List.length_cons]
      rw [show s.length + 1 - 1 - j = (s.length - 1 - j) + 1 by omega, List.getD_cons_succ]
  · rintro ⟨h1, h2⟩ j hj
    simp only [List.length_cons] at hj ⊢
    by_cases c : j = s.length
    · subst c
      rw [h1, show s.length + 1 - 1 - s.length = 0 by omega]
      rfl
    · rw [h2 j (by omega), show s.length + 1 - 1 - j = (s.length - 1 - j) + 1 by omega, List.getD_cons_succ]
theorem stk_fs {x : Row} {s : List Int} {i : Nat} {v : Int} (hi : s.length ≤ i) (h : stk x s) : stk (fset x i v) s := by
  intro j hj
  rw [fs_ne (by omega)]
  exact h j hj
theorem stk_nil {x : Row} : stk x [] := fun j hj => absurd hj (by simp)
def pushT (m : Int) : Prop := 100000 ≤ m ∨ m ≤ 5
def hsT (f : Nat → Int) : Nat → Int
  | 0 => 0
  | n + 1 => hsT f n + (if 100000 ≤ f n ∨ f n ≤ 5 then 1 else if f n = 13 ∨ f n = 19 then 0 else -1)
def okT (f : Nat → Int) (n : Nat) : Prop := (∀ k, k < n → ((0 ≤ f k ∧ f k ≤ 5 ∨ 100000 ≤ f k ∧ f k ≤ 109999) ∧ 0 ≤ hsT f k ∧ hsT f k ≤ 63) ∨ ((f k = 13 ∨ f k = 19) ∧ 1 ≤ hsT f k ∧ hsT f k ≤ 64) ∨ ((f k = 11 ∨ f k = 12 ∨ f k = 14 ∨ f k = 15 ∨ f k = 16 ∨ f k = 17 ∨ f k = 18) ∧ 2 ≤ hsT f k ∧ hsT f k ≤ 64)) ∧ hsT f n = 1
def TX (e : Dat) (t n : Nat) : Prop := e 269 (4 * t) = 0 ∧ e 269 (4 * t + 1) = (n : Int) ∧ n ≤ 160 ∧ okT (fun k => e 268 (200 * t + k)) n
theorem ev_push {e : Dat} {P : Row} {r c : Int} {s : List Int} (h : 100000 ≤ c ∨ c ≤ 5) : evT e P r c s = (if c ≤ 5 then namedS e P r c else wr (c - 100000)) :: s := if_pos h
theorem ev_not {e : Dat} {P : Row} {r a : Int} {s : List Int} : evT e P r 13 (a :: s) = (if a = 0 then 1 else 0) :: s := rfl
theorem ev_neg {e : Dat} {P : Row} {r a : Int} {s : List Int} : evT e P r 19 (a :: s) = wr (0 - a) :: s := rfl
theorem ev_two {e : Dat} {P : Row} {r c a b : Int} {s : List Int} (h : c = 11 ∨ c = 12 ∨ c = 14 ∨ c = 15 ∨ c = 16 ∨ c = 17 ∨ c = 18) : evT e P r c (a :: b :: s) = twoS c b a :: s := by
  unfold evT
  rw [if_neg (by omega), if_neg (by omega), if_neg (by omega)]
  rfl
theorem ev_len {e : Dat} {P : Row} {r : Int} {f : Nat → Int} {n k : Nat} {s : List Int} (h : okT f n) (hk : k < n) (hs : (s.length : Int) = hsT f k) : ((evT e P r (f k) s).length : Int) = hsT f (k + 1) := by
  have h1 := h.1 k hk
  show _ = hsT f k + (if 100000 ≤ f k ∨ f k ≤ 5 then (1 : Int) else if f k = 13 ∨ f k = 19 then 0 else -1)
  rcases h1 with ⟨h1, h2, h3⟩ | ⟨h1, h2, h3⟩ | ⟨h1, h2, h3⟩
  · have e1 : (if 100000 ≤ f k ∨ f k ≤ 5 then (1 : Int) else if f k = 13 ∨ f k = 19 then 0 else -1) = 1 := if_pos (by omega)
    rw [e1, ev_push (by omega), List.length_cons]
    omega
  · have e1 : (if 100000 ≤ f k ∨ f k ≤ 5 then (1 : Int) else if f k = 13 ∨ f k = 19 then 0 else -1) = 0 := by
      rw [if_neg (by omega), if_pos h1]
    rw [e1]
    obtain ⟨a, s, rfl⟩ : ∃ a s', s = a :: s' := by
      cases s with
      | nil => simp only [List.length_nil] at hs; omega
      | cons a s => exact ⟨a, s, rfl⟩
    rcases h1 with z | z <;> rw [z]
    · rw [ev_not]
      simp only [List.length_cons] at hs ⊢
      omega
    · rw [ev_neg]
      simp only [List.length_cons] at hs ⊢
      omega
  · have e1 : (if 100000 ≤ f k ∨ f k ≤ 5 then (1 : Int) else if f k = 13 ∨ f k = 19 then 0 else -1) = -1 := by
      rw [if_neg (by omega), if_neg (by omega)]
    rw [e1]
    obtain ⟨a, b, s, rfl⟩ : ∃ a b s', s = a :: b :: s' := by
      cases s with
      | nil => simp only [List.length_nil] at hs; omega
      | cons a s => cases s with
        | nil => simp only [List.length_cons, List.length_nil] at hs; omega
        | cons b s => exact ⟨a, b, s, rfl⟩
    rw [ev_two h1]
    simp only [List.length_cons] at hs ⊢
    omega
theorem wm_4 {t : Nat} (h : t < 10) : wr (4 * (t : Int)) = ((4 * t : Nat) : Int) := by
  rw [wr_of (by omega)]
  omega
theorem wm_200 {t : Nat} (h : t < 10) : wr (200 * (t : Int)) = ((200 * t : Nat) : Int) := by
  rw [wr_of (by omega)]
  omega
theorem wa_n {a b : Nat} (h : a + b < 5000) : wr ((a : Int) + (b : Int)) = ((a + b : Nat) : Int) := by
  rw [wr_of (by omega)]
  omega
theorem wd_n {a : Nat} (h : a < 100000) : wr (((a + 1 : Nat) : Int) - 1) = (a : Int) := by
  rw [wr_of (by omega)]
  omega
theorem wd_m {a : Nat} (h : a < 100000) : wr (((a + 1 : Nat) : Int) + -1) = (a : Int) := by
  rw [wr_of (by omega)]
  omega
theorem FM_278 {d e : Dat} {x : Row} (h : FM d e) : FM (rset d 278 x) e := by
  unfold FM at h ⊢
  simp (disch := omega) only [rs_ne]
  exact h
theorem ups_278 {d : Dat} {x P : Row} {i : Nat} {v : Int} : ups (rset (rset d 278 x) 242 P) 278 i v = rset (rset d 278 (fset x i v)) 242 P := by
  unfold ups
  rw [rs_ne (by omega), rs_eq]
  funext a
  unfold rset
  grind
section
variable {k L : Nat} {e : Dat} {P : Row} {R : RT}
theorem c_M_two {sh : Shp} {d : Dat} {c a b : Int} (h : c = 11 ∨ c = 12 ∨ c = 14 ∨ c = 15 ∨ c = 16 ∨ c = 17 ∨ c = 18) : Cl (k + 1) 113 [vI c, vI a, vI b] sh d R ↔ R (vI (twoS c a b)) sh d := by
  refine (Cl_iff rfl).trans ?_
  show Go k 113 R 0 [vI c, vI a, vI b] [] sh d ↔ _
  rcases h with q | q | q | q | q | q | q <;> subst q <;> simp only [s_M_two_0, s_M_two_1, s_M_two_44, s_M_two_45, s_M_two_48, s_M_two_49, s_M_two_52, s_M_two_53, s_M_two_56, s_M_two_57, s_M_two_58, s_M_two_59, s_M_two_62, s_M_two_63, s_M_two_66, s_M_two_67, s_M_two_70, s_M_two_71, s_M_two_72, s_M_two_73, s_M_two_74, s_M_two_77, s_M_two_78, s_M_two_81, s_M_two_82, s_M_two_83, s_M_two_84, s_M_two_85, s_M_two_88, s_M_two_89, s_M_two_92, s_M_two_93, s_M_two_94, s_M_two_95, s_M_two_96, s_M_two_97, s_M_two_98, s_M_two_99, s_M_two_100, s_M_two_101, s_M_two_102, s_M_two_103, s_M_two_104, s_M_two_105, twoS, swC] <;> grind
theorem c_M_worth {d : Dat} {x0 : Row} {t r n : Nat} (hM : FM d e) (hE : WE e) (hm : 0 ≤ P 285 ∧ P 285 ≤ 600) (ht : t < 6) (hr : r < 4) (hT : TX e t n) (h : ∀ x, R (vI (worthS e P (t : Int) (r : Int))) (SH L) (rset (rset d 278 x) 242 P)) : Cl (k + 5) 115 [vR 241, vI (t : Int), vI (r : Int)] (SH L) (rset (rset d 278 x0) 242 P) R := by
  obtain ⟨t1, t2, t3, t4⟩ := hT
  refine Cl_succ rfl ?_
  show Go (k + 4) 115 R 0 [vR 241, vI (t : Int), vI (r : Int), vU, vU, vU] [] (SH L) (rset (rset d 278 x0) 242 P)
  have key : ∀ x a5, stk x [] → Go (k + 4) 115 R 12 [vR 241, vI (t : Int), vI (r : Int), vI (([] : List Int).length : Int), vI (0 : Nat), a5] [] (SH L) (rset (rset d 278 x) 242 P) := by
    refine loop_up (G := fun j (s : List Int) => ∀ x a5, stk x s → Go (k + 4) 115 R 12 [vR 241, vI (t : Int), vI (r : Int), vI (s.length : Int), vI (j : Int), a5] [] (SH L) (rset (rset d 278 x) 242 P)) (f := fun j s => evT e P (r : Int) (e 268 (200 * t + j)) s) (s := ([] : List Int)) (fun j s => (s.length : Int) = hsT (fun k => e 268 (200 * t + k)) j) n (fun j hj s hs hG x a5 hx => ?_) rfl (fun hs x a5 hx => ?_)
    · have hM1 := FM_278 (x := x) hM
      have hG := hG (ev_len (f := fun k => e 268 (200 * t + k)) t4 hj hs)
      have ok := t4.1 j hj
      simp only [] at ok
      have nm := fun (c : Nat) (hc : c < 6) (Q : RT) => c_M_named (k := k + 1) (L := L) (d := rset d 278 x) (P := P) (R := Q) (r := r) (c := c) hM1 hE hm hr hc
      have t5 := t4.2
      clear h t4
      have st : ∀ c, e 268 (200 * t + j) = c → Go (k + 4) 115 R 42 [vR 241, vI (t : Int), vI (r : Int), vI (s.length : Int), vI (j : Int), vI c] [] (SH L) (rset (rset d 278 x) 242 P) := by
        intro c hc
        rw [hc] at hG ok
        clear hc t1 t2 hM1 hE
        rcases ok with ⟨o1, o2, o3⟩ | ⟨o1, o2, o3⟩ | ⟨o1, o2, o3⟩
        · rw [ev_push (by omega)] at hG
          have hG := fun v => hG (fset x s.length v) (vI c)
          by_cases c5 : c ≤ 5
          · obtain ⟨q, rfl⟩ : ∃ q : Nat, c = (q : Int) := ⟨c.toNat, by omega⟩
            rw [if_pos c5] at hG
            have hG := hG _ (stk_cons.mpr ⟨fs_eq, stk_fs (Nat.le_refl _) hx⟩)
            have nm := nm q (by omega)
            simp (disch := omega) only [s_M_worth_0, s_M_worth_1, s_M_worth_2, s_M_worth_3, s_M_worth_6, s_M_worth_7, s_M_worth_8, s_M_worth_9, s_M_worth_10, s_M_worth_14, s_M_worth_15, s_M_worth_18, s_M_worth_19, s_M_worth_20, s_M_worth_21, s_M_worth_22, s_M_worth_23, s_M_worth_24, s_M_worth_27, s_M_worth_28, s_M_worth_31, s_M_worth_34, s_M_worth_35, s_M_worth_36, s_M_worth_38, s_M_worth_39, s_M_worth_40, s_M_worth_42, s_M_worth_44, s_M_worth_47, s_M_worth_50, s_M_worth_52, s_M_worth_53, s_M_worth_56, s_M_worth_57, s_M_worth_60, s_M_worth_61, s_M_worth_63, s_M_worth_64, s_M_worth_67, s_M_worth_68, s_M_worth_70, s_M_worth_71, s_M_worth_74, s_M_worth_77, s_M_worth_79, s_M_worth_82, s_M_worth_83, s_M_worth_84, s_M_worth_87, s_M_worth_90, s_M_worth_92, s_M_worth_94, s_M_worth_97, s_M_worth_98, s_M_worth_101, s_M_worth_102, s_M_worth_103, s_M_worth_104, s_M_worth_105, s_M_worth_108, s_M_worth_109, s_M_worth_110, s_M_worth_111, s_M_worth_112, s_M_worth_115, s_M_worth_116, s_M_worth_119, s_M_worth_120, s_M_worth_121, s_M_worth_124, s_M_worth_126, s_M_worth_128, s_M_worth_131, s_M_worth_132, s_M_worth_135, s_M_worth_136, s_M_worth_137, s_M_worth_138, s_M_worth_139, s_M_worth_142, s_M_worth_143, s_M_worth_144, s_M_worth_145, s_M_worth_146, s_M_worth_147, s_M_worth_148, s_M_worth_151, s_M_worth_154, s_M_worth_155, s_M_worth_158, s_M_worth_159, s_M_worth_160, s_M_worth_161, s_M_worth_163, s_M_worth_164, s_M_worth_167, s_M_worth_168, s_M_worth_169, s_M_worth_170, s_M_worth_171, s_M_worth_172, s_M_worth_175, s_M_worth_176, s_M_worth_177, s_M_worth_180, s_M_worth_181, s_M_worth_184, s_M_worth_187, s_M_worth_188, s_M_worth_191, s_M_worth_192, s_M_worth_193, k_1, n_1, k_241, r_241_0, r_241_2, r_241_4, r_241_5, r_241_6, r_241_7, r_241_9, r_241_10, r_241_11, r_241_12, r_241_14, r_241_15, r_241_16, r_241_19, r_241_20, r_241_22, r_241_23, r_241_24, r_241_25, r_241_27, r_241_28, r_241_29, r_241_30, r_241_31, r_241_33, r_241_34, r_241_37, r_241_38, r_241_39, r_241_40, r_241_41, r_241_42, r_241_43, r_241_44, r_241_49, r_241_50, r_241_54, k_242, n_242, k_243, n_243, k_244, n_244, k_245, n_245, k_246, n_246, k_247, n_247, k_248, n_248, k_249, n_249, k_250, n_250, k_251, n_251, k_252, n_252, k_253, n_253, k_254, n_254, k_255, n_255, k_256, n_256, k_257, n_257, k_258, n_258, k_259, n_259, k_260, n_260, k_261, n_261, k_262, n_262, k_263, n_263, k_264, n_264, k_265, n_265, k_266, n_266, k_267, n_267, k_268, n_268, k_269, n_269, k_270, n_270, k_271, n_271, k_272, n_272, k_273, n_273, k_274, n_274, k_275, n_275, k_276, n_276, k_277, n_277, k_278, n_278, ld20, ld30, rs_eq, rs_ne, (fm_1 hM), (fm_3 hM), (fm_8 hM), (fm_13 hM), (fm_17 hM), (fm_18 hM), (fm_21 hM), (fm_26 hM), (fm_36 hM), (fm_243 hM), (fm_244 hM), (fm_245 hM), (fm_246 hM), (fm_247 hM), (fm_248 hM), (fm_249 hM), (fm_250 hM), (fm_251 hM), (fm_252 hM), (fm_253 hM), (fm_254 hM), (fm_255 hM), (fm_256 hM), (fm_257 hM), (fm_258 hM), (fm_259 hM), (fm_260 hM), (fm_261 hM), (fm_262 hM), (fm_263 hM), (fm_264 hM), (fm_265 hM), (fm_268 hM), (fm_269 hM), wm_4, wm_200, wa_n, wr_inc, wd_n, wd_m, ups_278, fs_eq, fs_ne, le_T, lt_T, le_F, lt_F, Int.toNat_natCast, Int.reduceToNat, List.length_cons, cat_n, cat_i, cat_r, cat_l, Nat.ble_eq, Nat.reduceAdd, Nat.reduceLeDiff, true_and, and_true, true_implies, false_implies, not_true_eq_false, not_false_eq_true, implies_true, nm]
            grind
          · rw [if_neg c5] at hG
            have hG := hG _ (stk_cons.mpr ⟨fs_eq, stk_fs (Nat.le_refl _) hx⟩)
            clear nm
            simp (disch := omega) only [s_M_worth_0, s_M_worth_1, s_M_worth_2, s_M_worth_3, s_M_worth_6, s_M_worth_7, s_M_worth_8, s_M_worth_9, s_M_worth_10, s_M_worth_14, s_M_worth_15, s_M_worth_18, s_M_worth_19, s_M_worth_20, s_M_worth_21, s_M_worth_22, s_M_worth_23, s_M_worth_24, s_M_worth_27, s_M_worth_28, s_M_worth_31, s_M_worth_34, s_M_worth_35, s_M_worth_36, s_M_worth_38, s_M_worth_39, s_M_worth_40, s_M_worth_42, s_M_worth_44, s_M_worth_47, s_M_worth_50, s_M_worth_52, s_M_worth_53, s_M_worth_56, s_M_worth_57, s_M_worth_60, s_M_worth_61, s_M_worth_63, s_M_worth_64, s_M_worth_67, s_M_worth_68, s_M_worth_70, s_M_worth_71, s_M_worth_74, s_M_worth_77, s_M_worth_79, s_M_worth_82, s_M_worth_83, s_M_worth_84, s_M_worth_87, s_M_worth_90, s_M_worth_92, s_M_worth_94, s_M_worth_97, s_M_worth_98, s_M_worth_101, s_M_worth_102, s_M_worth_103, s_M_worth_104, s_M_worth_105, s_M_worth_108, s_M_worth_109, s_M_worth_110, s_M_worth_111, s_M_worth_112, s_M_worth_115, s_M_worth_116, s_M_worth_119, s_M_worth_120, s_M_worth_121, s_M_worth_124, s_M_worth_126, s_M_worth_128, s_M_worth_131, s_M_worth_132, s_M_worth_135, s_M_worth_136, s_M_worth_137, s_M_worth_138, s_M_worth_139, s_M_worth_142, s_M_worth_143, s_M_worth_144, s_M_worth_145, s_M_worth_146, s_M_worth_147, s_M_worth_148, s_M_worth_151, s_M_worth_154, s_M_worth_155, s_M_worth_158, s_M_worth_159, s_M_worth_160, s_M_worth_161, s_M_worth_163, s_M_worth_164, s_M_worth_167, s_M_worth_168, s_M_worth_169, s_M_worth_170, s_M_worth_171, s_M_worth_172, s_M_worth_175, s_M_worth_176, s_M_worth_177, s_M_worth_180, s_M_worth_181, s_M_worth_184, s_M_worth_187, s_M_worth_188, s_M_worth_191, s_M_worth_192, s_M_worth_193, k_1, n_1, k_241, r_241_0, r_241_2, r_241_4, r_241_5, r_241_6, r_241_7, r_241_9, r_241_10, r_241_11, r_241_12, r_241_14, r_241_15, r_241_16, r_241_19, r_241_20, r_241_22, r_241_23, r_241_24, r_241_25, r_241_27, r_241_28, r_241_29, r_241_30, r_241_31, r_241_33, r_241_34, r_241_37, r_241_38, r_241_39, r_241_40, r_241_41, r_241_42, r_241_43, r_241_44, r_241_49, r_241_50, r_241_54, k_242, n_242, k_243, n_243, k_244, n_244, k_245, n_245, k_246, n_246, k_247, n_247, k_248, n_248, k_249, n_249, k_250, n_250, k_251, n_251, k_252, n_252, k_253, n_253, k_254, n_254, k_255, n_255, k_256, n_256, k_257, n_257, k_258, n_258, k_259, n_259, k_260, n_260, k_261, n_261, k_262, n_262, k_263, n_263, k_264, n_264, k_265, n_265, k_266, n_266, k_267, n_267, k_268, n_268, k_269, n_269, k_270, n_270, k_271, n_271, k_272, n_272, k_273, n_273, k_274, n_274, k_275, n_275, k_276, n_276, k_277, n_277, k_278, n_278, ld20, ld30, rs_eq, rs_ne, (fm_1 hM), (fm_3 hM), (fm_8 hM), (fm_13 hM), (fm_17 hM), (fm_18 hM), (fm_21 hM), (fm_26 hM), (fm_36 hM), (fm_243 hM), (fm_244 hM), (fm_245 hM), (fm_246 hM), (fm_247 hM), (fm_248 hM), (fm_249 hM), (fm_250 hM), (fm_251 hM), (fm_252 hM), (fm_253 hM), (fm_254 hM), (fm_255 hM), (fm_256 hM), (fm_257 hM), (fm_258 hM), (fm_259 hM), (fm_260 hM), (fm_261 hM), (fm_262 hM), (fm_263 hM), (fm_264 hM), (fm_265 hM), (fm_268 hM), (fm_269 hM), wm_4, wm_200, wa_n, wr_inc, wd_n, wd_m, ups_278, fs_eq, fs_ne, le_T, lt_T, le_F, lt_F, Int.toNat_natCast, Int.reduceToNat, List.length_cons, cat_n, cat_i, cat_r, cat_l, Nat.ble_eq, Nat.reduceAdd, Nat.reduceLeDiff, true_and, and_true, true_implies, false_implies, not_true_eq_false, not_false_eq_true, implies_true]
            grind
        · obtain ⟨a, s, rfl⟩ : ∃ a s', s = a :: s' := by
            cases s with
            | nil => simp only [List.length_nil] at hs; omega
            | cons a s => exact ⟨a, s, rfl⟩
          have hx2 := stk_cons.mp hx
          simp only [List.length_cons] at hs hx2
          clear nm
          rcases o1 with z | z <;> subst z
          · rw [ev_not] at hG
            have hG := hG (fset x s.length _) (vI 13) (stk_cons.mpr ⟨fs_eq, stk_fs (Nat.le_refl _) hx2.2⟩)
            have hx3 := hx2.1
            simp (disch := omega) only [s_M_worth_0, s_M_worth_1, s_M_worth_2, s_M_worth_3, s_M_worth_6, s_M_worth_7, s_M_worth_8, s_M_worth_9, s_M_worth_10, s_M_worth_14, s_M_worth_15, s_M_worth_18, s_M_worth_19, s_M_worth_20, s_M_worth_21, s_M_worth_22, s_M_worth_23, s_M_worth_24, s_M_worth_27, s_M_worth_28, s_M_worth_31, s_M_worth_34, s_M_worth_35, s_M_worth_36, s_M_worth_38, s_M_worth_39, s_M_worth_40, s_M_worth_42, s_M_worth_44, s_M_worth_47, s_M_worth_50, s_M_worth_52, s_M_worth_53, s_M_worth_56, s_M_worth_57, s_M_worth_60, s_M_worth_61, s_M_worth_63, s_M_worth_64, s_M_worth_67, s_M_worth_68, s_M_worth_70, s_M_worth_71, s_M_worth_74, s_M_worth_77, s_M_worth_79, s_M_worth_82, s_M_worth_83, s_M_worth_84, s_M_worth_87, s_M_worth_90, s_M_worth_92, s_M_worth_94, s_M_worth_97, s_M_worth_98, s_M_worth_101, s_M_worth_102, s_M_worth_103, s_M_worth_104, s_M_worth_105, s_M_worth_108, s_M_worth_109, s_M_worth_110, s_M_worth_111, s_M_worth_112, s_M_worth_115, s_M_worth_116, s_M_worth_119, s_M_worth_120, s_M_worth_121, s_M_worth_124, s_M_worth_126, s_M_worth_128, s_M_worth_131, s_M_worth_132, s_M_worth_135, s_M_worth_136, s_M_worth_137, s_M_worth_138, s_M_worth_139, s_M_worth_142, s_M_worth_143, s_M_worth_144, s_M_worth_145, s_M_worth_146, s_M_worth_147, s_M_worth_148, s_M_worth_151, s_M_worth_154, s_M_worth_155, s_M_worth_158, s_M_worth_159, s_M_worth_160, s_M_worth_161, s_M_worth_163, s_M_worth_164, s_M_worth_167, s_M_worth_168, s_M_worth_169, s_M_worth_170, s_M_worth_171, s_M_worth_172, s_M_worth_175, s_M_worth_176, s_M_worth_177, s_M_worth_180, s_M_worth_181, s_M_worth_184, s_M_worth_187, s_M_worth_188, s_M_worth_191, s_M_worth_192, s_M_worth_193, k_1, n_1, k_241, r_241_0, r_241_2, r_241_4, r_241_5, r_241_6, r_241_7, r_241_9, r_241_10, r_241_11, r_241_12, r_241_14, r_241_15, r_241_16, r_241_19, r_241_20, r_241_22, r_241_23, r_241_24, r_241_25, r_241_27, r_241_28, r_241_29, r_241_30, r_241_31, r_241_33, r_241_34, r_241_37, r_241_38, r_241_39, r_241_40, r_241_41, r_241_42, r_241_43, r_241_44, r_241_49, r_241_50, r_241_54, k_242, n_242, k_243, n_243, k_244, n_244, k_245, n_245, k_246, n_246, k_247, n_247, k_248, n_248, k_249, n_249, k_250, n_250, k_251, n_251, k_252, n_252, k_253, n_253, k_254, n_254, k_255, n_255, k_256, n_256, k_257, n_257, k_258, n_258, k_259, n_259, k_260, n_260, k_261, n_261, k_262, n_262, k_263, n_263, k_264, n_264, k_265, n_265, k_266, n_266, k_267, n_267, k_268, n_268, k_269, n_269, k_270, n_270, k_271, n_271, k_272, n_272, k_273, n_273, k_274, n_274, k_275, n_275, k_276, n_276, k_277, n_277, k_278, n_278, ld20, ld30, rs_eq, rs_ne, (fm_1 hM), (fm_3 hM), (fm_8 hM), (fm_13 hM), (fm_17 hM), (fm_18 hM), (fm_21 hM), (fm_26 hM), (fm_36 hM), (fm_243 hM), (fm_244 hM), (fm_245 hM), (fm_246 hM), (fm_247 hM), (fm_248 hM), (fm_249 hM), (fm_250 hM), (fm_251 hM), (fm_252 hM), (fm_253 hM), (fm_254 hM), (fm_255 hM), (fm_256 hM), (fm_257 hM), (fm_258 hM), (fm_259 hM), (fm_260 hM), (fm_261 hM), (fm_262 hM), (fm_263 hM), (fm_264 hM), (fm_265 hM), (fm_268 hM), (fm_269 hM), wm_4, wm_200, wa_n, wr_inc, wd_n, wd_m, ups_278, fs_eq, fs_ne, le_T, lt_T, le_F, lt_F, Int.toNat_natCast, Int.reduceToNat, List.length_cons, cat_n, cat_i, cat_r, cat_l, Nat.ble_eq, Nat.reduceAdd, Nat.reduceLeDiff, true_and, and_true, true_implies, false_implies, not_true_eq_false, not_false_eq_true, implies_true, hx3]
            grind
          · rw [ev_neg] at hG
            have hG := hG (fset x s.length _) (vI 19) (stk_cons.mpr ⟨fs_eq, stk_fs (Nat.le_refl _) hx2.2⟩)
            have hx3 := hx2.1
            simp (disch := omega) only [s_M_worth_0, s_M_worth_1, s_M_worth_2, s_M_worth_3, s_M_worth_6, s_M_worth_7, s_M_worth_8, s_M_worth_9, s_M_worth_10, s_M_worth_14, s_M_worth_15, s_M_worth_18, s_M_worth_19, s_M_worth_20, s_M_worth_21, s_M_worth_22, s_M_worth_23, s_M_worth_24, s_M_worth_27, s_M_worth_28, s_M_worth_31, s_M_worth_34, s_M_worth_35, s_M_worth_36, s_M_worth_38, s_M_worth_39, s_M_worth_40, s_M_worth_42, s_M_worth_44, s_M_worth_47, s_M_worth_50, s_M_worth_52, s_M_worth_53, s_M_worth_56, s_M_worth_57, s_M_worth_60, s_M_worth_61, s_M_worth_63, s_M_worth_64, s_M_worth_67, s_M_worth_68, s_M_worth_70, s_M_worth_71, s_M_worth_74, s_M_worth_77, s_M_worth_79, s_M_worth_82, s_M_worth_83, s_M_worth_84, s_M_worth_87, s_M_worth_90, s_M_worth_92, s_M_worth_94, s_M_worth_97, s_M_worth_98, s_M_worth_101, s_M_worth_102, s_M_worth_103, s_M_worth_104, s_M_worth_105, s_M_worth_108, s_M_worth_109, s_M_worth_110, s_M_worth_111, s_M_worth_112, s_M_worth_115, s_M_worth_116, s_M_worth_119, s_M_worth_120, s_M_worth_121, s_M_worth_124, s_M_worth_126, s_M_worth_128, s_M_worth_131, s_M_worth_132, s_M_worth_135, s_M_worth_136, s_M_worth_137, s_M_worth_138, s_M_worth_139, s_M_worth_142, s_M_worth_143, s_M_worth_144, s_M_worth_145, s_M_worth_146, s_M_worth_147, s_M_worth_148, s_M_worth_151, s_M_worth_154, s_M_worth_155, s_M_worth_158, s_M_worth_159, s_M_worth_160, s_M_worth_161, s_M_worth_163, s_M_worth_164, s_M_worth_167, s_M_worth_168, s_M_worth_169, s_M_worth_170, s_M_worth_171, s_M_worth_172, s_M_worth_175, s_M_worth_176, s_M_worth_177, s_M_worth_180, s_M_worth_181, s_M_worth_184, s_M_worth_187, s_M_worth_188, s_M_worth_191, s_M_worth_192, s_M_worth_193, k_1, n_1, k_241, r_241_0, r_241_2, r_241_4, r_241_5, r_241_6, r_241_7, r_241_9, r_241_10, r_241_11, r_241_12, r_241_14, r_241_15, r_241_16, r_241_19, r_241_20, r_241_22, r_241_23, r_241_24, r_241_25, r_241_27, r_241_28, r_241_29, r_241_30, r_241_31, r_241_33, r_241_34, r_241_37, r_241_38, r_241_39, r_241_40, r_241_41, r_241_42, r_241_43, r_241_44, r_241_49, r_241_50, r_241_54, k_242, n_242, k_243, n_243, k_244, n_244, k_245, n_245, k_246, n_246, k_247, n_247, k_248, n_248, k_249, n_249, k_250, n_250, k_251, n_251, k_252, n_252, k_253, n_253, k_254, n_254, k_255, n_255, k_256, n_256, k_257, n_257, k_258, n_258, k_259, n_259, k_260, n_260, k_261, n_261, k_262, n_262, k_263, n_263, k_264, n_264, k_265, n_265, k_266, n_266, k_267, n_267, k_268, n_268, k_269, n_269, k_270, n_270, k_271, n_271, k_272, n_272, k_273, n_273, k_274, n_274, k_275, n_275, k_276, n_276, k_277, n_277, k_278, n_278, ld20, ld30, rs_eq, rs_ne, (fm_1 hM), (fm_3 hM), (fm_8 hM), (fm_13 hM), (fm_17 hM), (fm_18 hM), (fm_21 hM), (fm_26 hM), (fm_36 hM), (fm_243 hM), (fm_244 hM), (fm_245 hM), (fm_246 hM), (fm_247 hM), (fm_248 hM), (fm_249 hM), (fm_250 hM), (fm_251 hM), (fm_252 hM), (fm_253 hM), (fm_254 hM), (fm_255 hM), (fm_256 hM), (fm_257 hM), (fm_258 hM), (fm_259 hM), (fm_260 hM), (fm_261 hM), (fm_262 hM), (fm_263 hM), (fm_264 hM), (fm_265 hM), (fm_268 hM), (fm_269 hM), wm_4, wm_200, wa_n, wr_inc, wd_n, wd_m, ups_278, fs_eq, fs_ne, le_T, lt_T, le_F, lt_F, Int.toNat_natCast, Int.reduceToNat, List.length_cons, cat_n, cat_i, cat_r, cat_l, Nat.ble_eq, Nat.reduceAdd, Nat.reduceLeDiff, true_and, and_true, true_implies, false_implies, not_true_eq_false, not_false_eq_true, implies_true, hx3]
            grind
        · obtain ⟨a, b, s, rfl⟩ : ∃ a b s', s = a :: b :: s' := by
            cases s with
            | nil => simp only [List.length_nil] at hs; omega
            | cons a s => cases s with
              | nil => simp only [List.length_cons, List.length_nil] at hs; omega
              | cons b s => exact ⟨a, b, s, rfl⟩
          have hx2 := stk_cons.mp hx
          simp only [List.length_cons] at hs hx2
          have hx4 := stk_cons.mp hx2.2
          clear nm
          rw [ev_two o1] at hG
          have hG := hG (fset x s.length _) (vI c) (stk_cons.mpr ⟨fs_eq, stk_fs (Nat.le_refl _) hx4.2⟩)
          have hx3 := hx2.1
          have hx5 := hx4.1
          have tw := fun (sh : Shp) (d : Dat) (Q : RT) (a b : Int) => c_M_two (k := k + 3) (sh := sh) (d := d) (R := Q) (a := a) (b := b) o1
          simp (disch := omega) only [s_M_worth_0, s_M_worth_1, s_M_worth_2, s_M_worth_3, s_M_worth_6, s_M_worth_7, s_M_worth_8, s_M_worth_9, s_M_worth_10, s_M_worth_14, s_M_worth_15, s_M_worth_18, s_M_worth_19, s_M_worth_20, s_M_worth_21, s_M_worth_22, s_M_worth_23, s_M_worth_24, s_M_worth_27, s_M_worth_28, s_M_worth_31, s_M_worth_34, s_M_worth_35, s_M_worth_36, s_M_worth_38, s_M_worth_39, s_M_worth_40, s_M_worth_42, s_M_worth_44, s_M_worth_47, s_M_worth_50, s_M_worth_52, s_M_worth_53, s_M_worth_56, s_M_worth_57, s_M_worth_60, s_M_worth_61, s_M_worth_63, s_M_worth_64, s_M_worth_67, s_M_worth_68, s_M_worth_70, s_M_worth_71, s_M_worth_74, s_M_worth_77, s_M_worth_79, s_M_worth_82, s_M_worth_83, s_M_worth_84, s_M_worth_87, s_M_worth_90, s_M_worth_92, s_M_worth_94, s_M_worth_97, s_M_worth_98, s_M_worth_101, s_M_worth_102, s_M_worth_103, s_M_worth_104, s_M_worth_105, s_M_worth_108, s_M_worth_109, s_M_worth_110, s_M_worth_111, s_M_worth_112, s_M_worth_115, s_M_worth_116, s_M_worth_119, s_M_worth_120, s_M_worth_121, s_M_worth_124, s_M_worth_126, s_M_worth_128, s_M_worth_131, s_M_worth_132, s_M_worth_135, s_M_worth_136, s_M_worth_137, s_M_worth_138, s_M_worth_139, s_M_worth_142, s_M_worth_143, s_M_worth_144, s_M_worth_145, s_M_worth_146, s_M_worth_147, s_M_worth_148, s_M_worth_151, s_M_worth_154, s_M_worth_155, s_M_worth_158, s_M_worth_159, s_M_worth_160, s_M_worth_161, s_M_worth_163, s_M_worth_164, s_M_worth_167, s_M_worth_168, s_M_worth_169, s_M_worth_170, s_M_worth_171, s_M_worth_172, s_M_worth_175, s_M_worth_176, s_M_worth_177, s_M_worth_180, s_M_worth_181, s_M_worth_184, s_M_worth_187, s_M_worth_188, s_M_worth_191, s_M_worth_192, s_M_worth_193, k_1, n_1, k_241, r_241_0, r_241_2, r_241_4, r_241_5, r_241_6, r_241_7, r_241_9, r_241_10, r_241_11, r_241_12, r_241_14, r_241_15, r_241_16, r_241_19, r_241_20, r_241_22, r_241_23, r_241_24, r_241_25, r_241_27, r_241_28, r_241_29, r_241_30, r_241_31, r_241_33, r_241_34, r_241_37, r_241_38, r_241_39, r_241_40, r_241_41, r_241_42, r_241_43, r_241_44, r_241_49, r_241_50, r_241_54, k_242, n_242, k_243, n_243, k_244, n_244, k_245, n_245, k_246, n_246, k_247, n_247, k_248, n_248, k_249, n_249, k_250, n_250, k_251, n_251, k_252, n_252, k_253, n_253, k_254, n_254, k_255, n_255, k_256, n_256, k_257, n_257, k_258, n_258, k_259, n_259, k_260, n_260, k_261, n_261, k_262, n_262, k_263, n_263, k_264, n_264, k_265, n_265, k_266, n_266, k_267, n_267, k_268, n_268, k_269, n_269, k_270, n_270, k_271, n_271, k_272, n_272, k_273, n_273, k_274, n_274, k_275, n_275, k_276, n_276, k_277, n_277, k_278, n_278, ld20, ld30, rs_eq, rs_ne, (fm_1 hM), (fm_3 hM), (fm_8 hM), (fm_13 hM), (fm_17 hM), (fm_18 hM), (fm_21 hM), (fm_26 hM), (fm_36 hM), (fm_243 hM), (fm_244 hM), (fm_245 hM), (fm_246 hM), (fm_247 hM), (fm_248 hM), (fm_249 hM), (fm_250 hM), (fm_251 hM), (fm_252 hM), (fm_253 hM), (fm_254 hM), (fm_255 hM), (fm_256 hM), (fm_257 hM), (fm_258 hM), (fm_259 hM), (fm_260 hM), (fm_261 hM), (fm_262 hM), (fm_263 hM), (fm_264 hM), (fm_265 hM), (fm_268 hM), (fm_269 hM), wm_4, wm_200, wa_n, wr_inc, wd_n, wd_m, ups_278, fs_eq, fs_ne, le_T, lt_T, le_F, lt_F, Int.toNat_natCast, Int.reduceToNat, List.length_cons, cat_n, cat_i, cat_r, cat_l, Nat.ble_eq, Nat.reduceAdd, Nat.reduceLeDiff, true_and, and_true, true_implies, false_implies, not_true_eq_false, not_false_eq_true, implies_true, hx3, hx5, tw]
          grind
      have st := st _ rfl
      clear hG ok nm
      rw [s_M_worth_12]
      simp (disch := omega) only [s_M_worth_0, s_M_worth_1, s_M_worth_2, s_M_worth_3, s_M_worth_6, s_M_worth_7, s_M_worth_8, s_M_worth_9, s_M_worth_10, s_M_worth_14, s_M_worth_15, s_M_worth_18, s_M_worth_19, s_M_worth_20, s_M_worth_21, s_M_worth_22, s_M_worth_23, s_M_worth_24, s_M_worth_27, s_M_worth_28, s_M_worth_31, s_M_worth_34, s_M_worth_35, s_M_worth_36, s_M_worth_38, s_M_worth_39, s_M_worth_40, s_M_worth_44, s_M_worth_47, s_M_worth_50, s_M_worth_52, s_M_worth_53, s_M_worth_56, s_M_worth_57, s_M_worth_60, s_M_worth_61, s_M_worth_63, s_M_worth_64, s_M_worth_67, s_M_worth_68, s_M_worth_70, s_M_worth_71, s_M_worth_74, s_M_worth_77, s_M_worth_79, s_M_worth_82, s_M_worth_83, s_M_worth_84, s_M_worth_87, s_M_worth_90, s_M_worth_92, s_M_worth_94, s_M_worth_97, s_M_worth_98, s_M_worth_101, s_M_worth_102, s_M_worth_103, s_M_worth_104, s_M_worth_105, s_M_worth_108, s_M_worth_109, s_M_worth_110, s_M_worth_111, s_M_worth_112, s_M_worth_115, s_M_worth_116, s_M_worth_119, s_M_worth_120, s_M_worth_121, s_M_worth_124, s_M_worth_126, s_M_worth_128, s_M_worth_131, s_M_worth_132, s_M_worth_135, s_M_worth_136, s_M_worth_137, s_M_worth_138, s_M_worth_139, s_M_worth_142, s_M_worth_143, s_M_worth_144, s_M_worth_145, s_M_worth_146, s_M_worth_147, s_M_worth_148, s_M_worth_151, s_M_worth_154, s_M_worth_155, s_M_worth_158, s_M_worth_159, s_M_worth_160, s_M_worth_161, s_M_worth_163, s_M_worth_164, s_M_worth_167, s_M_worth_168, s_M_worth_169, s_M_worth_170, s_M_worth_171, s_M_worth_172, s_M_worth_175, s_M_worth_176, s_M_worth_177, s_M_worth_180, s_M_worth_181, s_M_worth_184, s_M_worth_187, s_M_worth_188, s_M_worth_191, s_M_worth_192, s_M_worth_193, k_1, n_1, k_241, r_241_0, r_241_2, r_241_4, r_241_5, r_241_6, r_241_7, r_241_9, r_241_10, r_241_11, r_241_12, r_241_14, r_241_15, r_241_16, r_241_19, r_241_20, r_241_22, r_241_23, r_241_24, r_241_25, r_241_27, r_241_28, r_241_29, r_241_30, r_241_31, r_241_33, r_241_34, r_241_37, r_241_38, r_241_39, r_241_40, r_241_41, r_241_42, r_241_43, r_241_44, r_241_49, r_241_50, r_241_54, k_242, n_242, k_243, n_243, k_244, n_244, k_245, n_245, k_246, n_246, k_247, n_247, k_248, n_248, k_249, n_249, k_250, n_250, k_251, n_251, k_252, n_252, k_253, n_253, k_254, n_254, k_255, n_255, k_256, n_256, k_257, n_257, k_258, n_258, k_259, n_259, k_260, n_260, k_261, n_261, k_262, n_262, k_263, n_263, k_264, n_264, k_265, n_265, k_266, n_266, k_267, n_267, k_268, n_268, k_269, n_269, k_270, n_270, k_271, n_271, k_272, n_272, k_273, n_273, k_274, n_274, k_275, n_275, k_276, n_276, k_277, n_277, k_278, n_278, ld20, ld30, rs_eq, rs_ne, (fm_1 hM), (fm_3 hM), (fm_8 hM), (fm_13 hM), (fm_17 hM), (fm_18 hM), (fm_21 hM), (fm_26 hM), (fm_36 hM), (fm_243 hM), (fm_244 hM), (fm_245 hM), (fm_246 hM), (fm_247 hM), (fm_248 hM), (fm_249 hM), (fm_250 hM), (fm_251 hM), (fm_252 hM), (fm_253 hM), (fm_254 hM), (fm_255 hM), (fm_256 hM), (fm_257 hM), (fm_258 hM), (fm_259 hM), (fm_260 hM), (fm_261 hM), (fm_262 hM), (fm_263 hM), (fm_264 hM), (fm_265 hM), (fm_268 hM), (fm_269 hM), wm_4, wm_200, wa_n, wr_inc, wd_n, wd_m, ups_278, fs_eq, fs_ne, le_T, lt_T, le_F, lt_F, Int.toNat_natCast, Int.reduceToNat, List.length_cons, cat_n, cat_i, cat_r, cat_l, Nat.ble_eq, Nat.reduceAdd, Nat.reduceLeDiff, true_and, and_true, true_implies, false_implies, not_true_eq_false, not_false_eq_true, implies_true, t1, t2]
      grind
    · have hs1 := hs
      rw [t4.2] at hs1
      unfold worthS at h
      rw [Int.toNat_natCast, t2, Int.toNat_natCast] at h
      generalize iterN _ n ([] : List Int) = s at *
      obtain ⟨a, rfl⟩ : ∃ a, s = [a] := by
        cases s with
        | nil => simp only [List.length_nil] at hs1; omega
        | cons a s => cases s with
          | nil => exact ⟨a, rfl⟩
          | cons b s => simp only [List.length_cons] at hs1; omega
      have h := h x
      have hx3 := (stk_cons.mp hx).1
      rw [s_M_worth_12]
      simp (disch := omega) only [s_M_worth_0, s_M_worth_1, s_M_worth_2, s_M_worth_3, s_M_worth_6, s_M_worth_7, s_M_worth_8, s_M_worth_9, s_M_worth_10, s_M_worth_14, s_M_worth_15, s_M_worth_18, s_M_worth_19, s_M_worth_20, s_M_worth_21, s_M_worth_22, s_M_worth_23, s_M_worth_24, s_M_worth_27, s_M_worth_28, s_M_worth_31, s_M_worth_34, s_M_worth_35, s_M_worth_36, s_M_worth_38, s_M_worth_39, s_M_worth_40, s_M_worth_44, s_M_worth_47, s_M_worth_50, s_M_worth_52, s_M_worth_53, s_M_worth_56, s_M_worth_57, s_M_worth_60, s_M_worth_61, s_M_worth_63, s_M_worth_64, s_M_worth_67, s_M_worth_68, s_M_worth_70, s_M_worth_71, s_M_worth_74, s_M_worth_77, s_M_worth_79, s_M_worth_82, s_M_worth_83, s_M_worth_84, s_M_worth_87, s_M_worth_90, s_M_worth_92, s_M_worth_94, s_M_worth_97, s_M_worth_98, s_M_worth_101, s_M_worth_102, s_M_worth_103, s_M_worth_104, s_M_worth_105, s_M_worth_108, s_M_worth_109, s_M_worth_110, s_M_worth_111, s_M_worth_112, s_M_worth_115, s_M_worth_116, s_M_worth_119, s_M_worth_120, s_M_worth_121, s_M_worth_124, s_M_worth_126, s_M_worth_128, s_M_worth_131, s_M_worth_132, s_M_worth_135, s_M_worth_136, s_M_worth_137, s_M_worth_138, s_M_worth_139, s_M_worth_142, s_M_worth_143, s_M_worth_144, s_M_worth_145, s_M_worth_146, s_M_worth_147, s_M_worth_148, s_M_worth_151, s_M_worth_154, s_M_worth_155, s_M_worth_158, s_M_worth_159, s_M_worth_160, s_M_worth_161, s_M_worth_163, s_M_worth_164, s_M_worth_167, s_M_worth_168, s_M_worth_169, s_M_worth_170, s_M_worth_171, s_M_worth_172, s_M_worth_175, s_M_worth_176, s_M_worth_177, s_M_worth_180, s_M_worth_181, s_M_worth_184, s_M_worth_187, s_M_worth_188, s_M_worth_191, s_M_worth_192, s_M_worth_193, k_1, n_1, k_241, r_241_0, r_241_2, r_241_4, r_241_5, r_241_6, r_241_7, r_241_9, r_241_10, r_241_11, r_241_12, r_241_14, r_241_15, r_241_16, r_241_19, r_241_20, r_241_22, r_241_23, r_241_24, r_241_25, r_241_27, r_241_28, r_241_29, r_241_30, r_241_31, r_241_33, r_241_34, r_241_37, r_241_38, r_241_39, r_241_40, r_241_41, r_241_42, r_241_43, r_241_44, r_241_49, r_241_50, r_241_54, k_242, n_242, k_243, n_243, k_244, n_244, k_245, n_245, k_246, n_246, k_247, n_247, k_248, n_248, k_249, n_249, k_250, n_250, k_251, n_251, k_252, n_252, k_253, n_253, k_254, n_254, k_255, n_255, k_256, n_256, k_257, n_257, k_258, n_258, k_259, n_259, k_260, n_260, k_261, n_261, k_262, n_262, k_263, n_263, k_264, n_264, k_265, n_265, k_266, n_266, k_267, n_267, k_268, n_268, k_269, n_269, k_270, n_270, k_271, n_271, k_272, n_272, k_273, n_273, k_274, n_274, k_275, n_275, k_276, n_276, k_277, n_277, k_278, n_278, ld20, ld30, rs_eq, rs_ne, (fm_1 hM), (fm_3 hM), (fm_8 hM), (fm_13 hM), (fm_17 hM), (fm_18 hM), (fm_21 hM), (fm_26 hM), (fm_36 hM), (fm_243 hM), (fm_244 hM), (fm_245 hM), (fm_246 hM), (fm_247 hM), (fm_248 hM), (fm_249 hM), (fm_250 hM), (fm_251 hM), (fm_252 hM), (fm_253 hM), (fm_254 hM), (fm_255 hM), (fm_256 hM), (fm_257 hM), (fm_258 hM), (fm_259 hM), (fm_260 hM), (fm_261 hM), (fm_262 hM), (fm_263 hM), (fm_264 hM), (fm_265 hM), (fm_268 hM), (fm_269 hM), wm_4, wm_200, wa_n, wr_inc, wd_n, wd_m, ups_278, fs_eq, fs_ne, le_T, lt_T, le_F, lt_F, Int.toNat_natCast, Int.reduceToNat, List.length_cons, cat_n, cat_i, cat_r, cat_l, Nat.ble_eq, Nat.reduceAdd, Nat.reduceLeDiff, true_and, and_true, true_implies, false_implies, not_true_eq_false, not_false_eq_true, implies_true, t1, t2]
      grind
  have key := key x0 vU stk_nil
  simp (disch := omega) only [s_M_worth_0, s_M_worth_1, s_M_worth_2, s_M_worth_3, s_M_worth_6, s_M_worth_7, s_M_worth_8, s_M_worth_9, s_M_worth_10, s_M_worth_14, s_M_worth_15, s_M_worth_18, s_M_worth_19, s_M_worth_20, s_M_worth_21, s_M_worth_22, s_M_worth_23, s_M_worth_24, s_M_worth_27, s_M_worth_28, s_M_worth_31, s_M_worth_34, s_M_worth_35, s_M_worth_36, s_M_worth_38, s_M_worth_39, s_M_worth_40, s_M_worth_44, s_M_worth_47, s_M_worth_50, s_M_worth_52, s_M_worth_53, s_M_worth_56, s_M_worth_57, s_M_worth_60, s_M_worth_61, s_M_worth_63, s_M_worth_64, s_M_worth_67, s_M_worth_68, s_M_worth_70, s_M_worth_71, s_M_worth_74, s_M_worth_77, s_M_worth_79, s_M_worth_82, s_M_worth_83, s_M_worth_84, s_M_worth_87, s_M_worth_90, s_M_worth_92, s_M_worth_94, s_M_worth_97, s_M_worth_98, s_M_worth_101, s_M_worth_102, s_M_worth_103, s_M_worth_104, s_M_worth_105, s_M_worth_108, s_M_worth_109, s_M_worth_110, s_M_worth_111, s_M_worth_112, s_M_worth_115, s_M_worth_116, s_M_worth_119, s_M_worth_120, s_M_worth_121, s_M_worth_124, s_M_worth_126, s_M_worth_128, s_M_worth_131, s_M_worth_132, s_M_worth_135, s_M_worth_136, s_M_worth_137, s_M_worth_138, s_M_worth_139, s_M_worth_142, s_M_worth_143, s_M_worth_144, s_M_worth_145, s_M_worth_146, s_M_worth_147, s_M_worth_148, s_M_worth_151, s_M_worth_154, s_M_worth_155, s_M_worth_158, s_M_worth_159, s_M_worth_160, s_M_worth_161, s_M_worth_163, s_M_worth_164, s_M_worth_167, s_M_worth_168, s_M_worth_169, s_M_worth_170, s_M_worth_171, s_M_worth_172, s_M_worth_175, s_M_worth_176, s_M_worth_177, s_M_worth_180, s_M_worth_181, s_M_worth_184, s_M_worth_187, s_M_worth_188, s_M_worth_191, s_M_worth_192, s_M_worth_193, k_1, n_1, k_241, r_241_0, r_241_2, r_241_4, r_241_5, r_241_6, r_241_7, r_241_9, r_241_10, r_241_11, r_241_12, r_241_14, r_241_15, r_241_16, r_241_19, r_241_20, r_241_22, r_241_23, r_241_24, r_241_25, r_241_27, r_241_28, r_241_29, r_241_30, r_241_31, r_241_33, r_241_34, r_241_37, r_241_38, r_241_39, r_241_40, r_241_41, r_241_42, r_241_43, r_241_44, r_241_49, r_241_50, r_241_54, k_242, n_242, k_243, n_243, k_244, n_244, k_245, n_245, k_246, n_246, k_247, n_247, k_248, n_248, k_249, n_249, k_250, n_250, k_251, n_251, k_252, n_252, k_253, n_253, k_254, n_254, k_255, n_255, k_256, n_256, k_257, n_257, k_258, n_258, k_259, n_259, k_260, n_260, k_261, n_261, k_262, n_262, k_263, n_263, k_264, n_264, k_265, n_265, k_266, n_266, k_267, n_267, k_268, n_268, k_269, n_269, k_270, n_270, k_271, n_271, k_272, n_272, k_273, n_273, k_274, n_274, k_275, n_275, k_276, n_276, k_277, n_277, k_278, n_278, ld20, ld30, rs_eq, rs_ne, (fm_1 hM), (fm_3 hM), (fm_8 hM), (fm_13 hM), (fm_17 hM), (fm_18 hM), (fm_21 hM), (fm_26 hM), (fm_36 hM), (fm_243 hM), (fm_244 hM), (fm_245 hM), (fm_246 hM), (fm_247 hM), (fm_248 hM), (fm_249 hM), (fm_250 hM), (fm_251 hM), (fm_252 hM), (fm_253 hM), (fm_254 hM), (fm_255 hM), (fm_256 hM), (fm_257 hM), (fm_258 hM), (fm_259 hM), (fm_260 hM), (fm_261 hM), (fm_262 hM), (fm_263 hM), (fm_264 hM), (fm_265 hM), (fm_268 hM), (fm_269 hM), wm_4, wm_200, wa_n, wr_inc, wd_n, wd_m, ups_278, fs_eq, fs_ne, le_T, lt_T, le_F, lt_F, Int.toNat_natCast, Int.reduceToNat, List.length_cons, cat_n, cat_i, cat_r, cat_l, Nat.ble_eq, Nat.reduceAdd, Nat.reduceLeDiff, true_and, and_true, true_implies, false_implies, not_true_eq_false, not_false_eq_true, implies_true, t1]
  grind
end
