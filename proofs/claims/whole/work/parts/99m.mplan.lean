/-! the reference's planning (expanded by gen18.py) -/
def PMd (P : Row) (d1 dd : Dat) : Prop := dd 242 = P ∧ (∀ a, ¬ (a = 241 ∨ a = 266 ∨ a = 275 ∨ a = 278) → dd a = d1 a) ∧ ∀ i, ¬ i = 32 → dd 241 i = d1 241 i
def PAm (acc : Acc) (d : Dat) : Prop := d 241 32 = ((acc.2.length : Nat) : Int) ∧ acc.2.length ≤ 4 ∧ ∀ i, i < acc.2.length → d 266 i = ((acc.2.getD i 0 : Nat) : Int)
def PRm (r : List Nat) (d : Dat) : Prop := ∀ i, i < r.length → d 275 i = ((r.getD i 0 : Nat) : Int)
section
variable {L k : Nat} {e d1 dd : Dat} {P : Row} {R : RT} {acc : Acc} {r : List Nat}
theorem PMd_u {a i : Nat} {v : Int} (h : PMd P d1 dd) (ha : a = 266 ∨ a = 275) : PMd P d1 (ups dd a i v) := by
  refine ⟨?_, fun q hq => ?_, fun j hj => ?_⟩
  · rw [ups_ne (by omega)]
    exact h.1
  · rw [ups_ne (by omega)]
    exact h.2.1 q hq
  · rw [ups_ne (by omega)]
    exact h.2.2 j hj
theorem PMd_32 {v : Int} (h : PMd P d1 dd) : PMd P d1 (ups dd 241 32 v) := by
  refine ⟨?_, fun q hq => ?_, fun j hj => ?_⟩
  · rw [ups_ne (by omega)]
    exact h.1
  · rw [ups_ne (by omega)]
    exact h.2.1 q hq
  · rw [ups_same, fs_ne hj]
    exact h.2.2 j hj
theorem PMd_278 {x : Row} (h : PMd P d1 dd) : PMd P d1 (rset (rset dd 278 x) 242 P) := by
  refine ⟨rs_eq, fun q hq => ?_, fun j hj => ?_⟩
  · by_cases c : q = 242
    · rw [c, rs_eq, ← h.2.1 242 (by omega), h.1]
    · rw [rs_ne c, rs_ne (by omega)]
      exact h.2.1 q hq
  · rw [rs_ne (by omega), rs_ne (by omega)]
    exact h.2.2 j hj
theorem PMd_rs (h : PMd P d1 dd) : rset (rset dd 278 (dd 278)) 242 P = dd := by
  rw [rs_self, ← h.1]
  exact rs_self
theorem PAm_cg {d2 : Dat} (h : PAm acc dd) (f : d2 241 32 = dd 241 32) (g : d2 266 = dd 266) : PAm acc d2 := by
  unfold PAm
  rw [f, g]
  exact h
theorem PRm_cg {d2 : Dat} (h : PRm r dd) (g : d2 275 = dd 275) : PRm r d2 := by
  unfold PRm
  rw [g]
  exact h
set_option maxHeartbeats 400000 in
theorem m_dig {C many : Nat} {b1 b2 b3 b5 b6 b7 b8 b11 : V} (hC : 0 < C) (hm : many ≤ 4) : ∀ (q ρ : Nat) (z : List Nat) (dd : Dat), q + z.length = many → ρ < 5000 → PMd P d1 dd → PAm acc dd → (∀ i, i < z.length → dd 275 (q + i) = ((z.getD i 0 : Nat) : Int)) → (∀ (dd2 : Dat) (a9 : V), PMd P d1 dd2 → PAm acc dd2 → PRm (digs C q ρ ++ z) dd2 → Go k 99 R 106 [vR 241, b1, b2, b3, vI (C : Int), b5, b6, b7, b8, a9, vI (-1), b11] [] (SH L) dd2) → Go k 99 R 76 [vR 241, b1, b2, b3, vI (C : Int), b5, b6, b7, b8, vI (ρ : Int), vI ((q : Int) - 1), b11] [] (SH L) dd
  | 0, ρ, z, dd, hq, hρ, h1, h2, h3, h => by
    have h := h dd (vI (ρ : Int)) h1 h2 (fun i hi => by
      have := h3 i hi
      rwa [Nat.zero_add] at this)
    clear h1 h2 h3
    rw [show ((0 : Nat) : Int) - 1 = -1 from rfl]
    simp (disch := omega) only [s_M_plan_0, s_M_plan_1, s_M_plan_2, s_M_plan_3, s_M_plan_4, s_M_plan_7, s_M_plan_10, s_M_plan_13, s_M_plan_14, s_M_plan_15, s_M_plan_18, s_M_plan_19, s_M_plan_20, s_M_plan_21, s_M_plan_22, s_M_plan_24, s_M_plan_25, s_M_plan_27, s_M_plan_28, s_M_plan_29, s_M_plan_32, s_M_plan_33, s_M_plan_34, s_M_plan_37, s_M_plan_38, s_M_plan_40, s_M_plan_41, s_M_plan_43, s_M_plan_45, s_M_plan_46, s_M_plan_49, s_M_plan_51, s_M_plan_53, s_M_plan_54, s_M_plan_56, s_M_plan_57, s_M_plan_59, s_M_plan_61, s_M_plan_63, s_M_plan_66, s_M_plan_68, s_M_plan_70, s_M_plan_72, s_M_plan_73, s_M_plan_74, s_M_plan_76, s_M_plan_78, s_M_plan_82, s_M_plan_85, s_M_plan_87, s_M_plan_89, s_M_plan_91, s_M_plan_92, s_M_plan_93, s_M_plan_95, s_M_plan_97, s_M_plan_98, s_M_plan_100, s_M_plan_103, s_M_plan_107, s_M_plan_109, s_M_plan_112, s_M_plan_115, s_M_plan_116, s_M_plan_117, s_M_plan_119, s_M_plan_120, s_M_plan_121, s_M_plan_124, s_M_plan_127, s_M_plan_128, s_M_plan_130, s_M_plan_132, s_M_plan_134, s_M_plan_137, s_M_plan_139, s_M_plan_141, s_M_plan_142, s_M_plan_144, s_M_plan_147, s_M_plan_148, s_M_plan_150, s_M_plan_152, s_M_plan_154, s_M_plan_157, s_M_plan_158, s_M_plan_161, s_M_plan_163, s_M_plan_164, s_M_plan_167, s_M_plan_169, s_M_plan_170, s_M_plan_171, s_M_plan_174, s_M_plan_177, s_M_plan_180, s_M_plan_183, s_M_plan_186, s_M_plan_189, s_M_plan_191, s_M_plan_192, le_T, lt_T, le_F, lt_F, Int.toNat_natCast, cat_n, cat_i, cat_r, cat_l, Nat.ble_eq, Nat.reduceAdd, Nat.reduceLeDiff, true_and, and_true, true_implies, false_implies, not_true_eq_false, not_false_eq_true, implies_true]
    grind
  | q + 1, ρ, z, dd, hq, hρ, h1, h2, h3, h => by
    have hz : (ρ % C :: z).length = z.length + 1 := rfl
    have h := m_dig hC hm q (ρ / C) (ρ % C :: z) (ups dd 275 q ((ρ % C : Nat) : Int)) (by rw [hz]; omega) (Nat.lt_of_le_of_lt (Nat.div_le_self ρ C) hρ) (PMd_u h1 (Or.inr rfl)) (PAm_cg h2 (by rw [ups_ne (by omega)]) (ups_ne (by omega))) (fun i hi => by
      rw [ups_same]
      cases i with
      | zero => exact fs_eq
      | succ j =>
        rw [fs_ne (by omega)]
        have := h3 j (by rw [hz] at hi; omega)
        rw [show q + (j + 1) = q + 1 + j by omega]
        exact this) (fun dd2 a9 x1 x2 x3 => h dd2 a9 x1 x2 (by
          have e1 : digs C (q + 1) ρ ++ z = digs C q (ρ / C) ++ (ρ % C :: z) := by
            show (digs C q (ρ / C) ++ [ρ % C]) ++ z = _
            rw [List.append_assoc]
            rfl
          rw [e1]
          exact x3))
    have q4 : q < 4 := by omega
    have wq : Unit → wr ((q : Int) + -1) = (q : Int) - 1 := fun _ => wr_of (by omega)
    have wd : Unit → wr (((ρ / C : Nat) : Int)) = ((ρ / C : Nat) : Int) := fun _ => by
      have := Nat.div_le_self ρ C
      generalize ρ / C = x at this ⊢
      exact wr_n (by omega)
    have g0 : ¬ (C : Int) = 0 := by omega
    rw [show ((q + 1 : Nat) : Int) - 1 = (q : Int) by omega]
    clear h1 h2 h3 hz hq hm hρ hC
    rw [s_M_plan_76]
    simp (disch := omega) only [s_M_plan_0, s_M_plan_1, s_M_plan_2, s_M_plan_3, s_M_plan_4, s_M_plan_7, s_M_plan_10, s_M_plan_13, s_M_plan_14, s_M_plan_15, s_M_plan_18, s_M_plan_19, s_M_plan_20, s_M_plan_21, s_M_plan_22, s_M_plan_24, s_M_plan_25, s_M_plan_27, s_M_plan_28, s_M_plan_29, s_M_plan_32, s_M_plan_33, s_M_plan_34, s_M_plan_37, s_M_plan_38, s_M_plan_40, s_M_plan_41, s_M_plan_43, s_M_plan_45, s_M_plan_46, s_M_plan_49, s_M_plan_51, s_M_plan_53, s_M_plan_54, s_M_plan_56, s_M_plan_57, s_M_plan_59, s_M_plan_61, s_M_plan_63, s_M_plan_66, s_M_plan_68, s_M_plan_70, s_M_plan_72, s_M_plan_73, s_M_plan_74, s_M_plan_78, s_M_plan_81, s_M_plan_82, s_M_plan_85, s_M_plan_87, s_M_plan_89, s_M_plan_91, s_M_plan_92, s_M_plan_93, s_M_plan_95, s_M_plan_97, s_M_plan_98, s_M_plan_100, s_M_plan_103, s_M_plan_107, s_M_plan_109, s_M_plan_112, s_M_plan_115, s_M_plan_116, s_M_plan_117, s_M_plan_119, s_M_plan_120, s_M_plan_121, s_M_plan_124, s_M_plan_127, s_M_plan_128, s_M_plan_130, s_M_plan_132, s_M_plan_134, s_M_plan_137, s_M_plan_139, s_M_plan_141, s_M_plan_142, s_M_plan_144, s_M_plan_147, s_M_plan_148, s_M_plan_150, s_M_plan_152, s_M_plan_154, s_M_plan_157, s_M_plan_158, s_M_plan_161, s_M_plan_163, s_M_plan_164, s_M_plan_167, s_M_plan_169, s_M_plan_170, s_M_plan_171, s_M_plan_174, s_M_plan_177, s_M_plan_180, s_M_plan_183, s_M_plan_186, s_M_plan_189, s_M_plan_191, s_M_plan_192, k_1, n_1, k_241, r_241_0, r_241_2, r_241_4, r_241_5, r_241_6, r_241_7, r_241_9, r_241_10, r_241_11, r_241_12, r_241_14, r_241_15, r_241_16, r_241_19, r_241_20, r_241_22, r_241_23, r_241_24, r_241_25, r_241_27, r_241_28, r_241_29, r_241_30, r_241_31, r_241_33, r_241_34, r_241_37, r_241_38, r_241_39, r_241_40, r_241_41, r_241_42, r_241_43, r_241_44, r_241_49, r_241_50, r_241_54, k_242, n_242, k_243, n_243, k_244, n_244, k_245, n_245, k_246, n_246, k_247, n_247, k_248, n_248, k_249, n_249, k_250, n_250, k_251, n_251, k_252, n_252, k_253, n_253, k_254, n_254, k_255, n_255, k_256, n_256, k_257, n_257, k_258, n_258, k_259, n_259, k_260, n_260, k_261, n_261, k_262, n_262, k_263, n_263, k_264, n_264, k_265, n_265, k_266, n_266, k_267, n_267, k_268, n_268, k_269, n_269, k_270, n_270, k_271, n_271, k_272, n_272, k_273, n_273, k_274, n_274, k_275, n_275, k_276, n_276, k_277, n_277, k_278, n_278, tmN, tdN, wq (), wd (), g0, ne_eq, le_T, lt_T, le_F, lt_F, Int.toNat_natCast, cat_n, cat_i, cat_r, cat_l, Nat.ble_eq, Nat.reduceAdd, Nat.reduceLeDiff, true_and, and_true, true_implies, false_implies, not_true_eq_false, not_false_eq_true, implies_true]
    clear wq wd
    grind
set_option maxHeartbeats 400000 in
theorem m_cmp {many : Nat} {v : Int} {b1 b2 b3 b4 b6 b8 b9 b10 b11 : V} (hl : r.length = many) (h4 : many ≤ 4) (h1 : PMd P d1 dd) (h2 : PAm acc dd) (hr : PRm r dd) (h : ∀ (dd2 : Dat) (a10 a11 : V), PMd P d1 dd2 → PAm (cmpM r v acc) dd2 → Go k 99 R 177 [vR 241, b1, b2, b3, b4, vI (cmpM r v acc).1, b6, vI (many : Int), b8, b9, a10, a11] [] (SH L) dd2) : Go k 99 R 128 [vR 241, b1, b2, b3, b4, vI acc.1, b6, vI (many : Int), b8, b9, b10, b11] [vI v] (SH L) dd := by
  by_cases c : acc.1 < v
  · have e : cmpM r v acc = (v, r) := if_pos c
    rw [e] at h
    have key : ∀ dd3 : Dat, PMd P d1 dd3 → dd3 241 32 = (many : Int) → PRm r dd3 → (∀ j, j < 0 → dd3 266 j = ((r.getD j 0 : Nat) : Int)) → Go k 99 R 150 [vR 241, b1, b2, b3, b4, vI v, b6, vI (many : Int), b8, b9, vI v, vI ((0 : Nat) : Int)] [] (SH L) dd3 := by
      refine loop_up (G := fun i (_ : Unit) => ∀ dd3 : Dat, PMd P d1 dd3 → dd3 241 32 = (many : Int) → PRm r dd3 → (∀ j, j < i → dd3 266 j = ((r.getD j 0 : Nat) : Int)) → Go k 99 R 150 [vR 241, b1, b2, b3, b4, vI v, b6, vI (many : Int), b8, b9, vI v, vI (i : Int)] [] (SH L) dd3) (f := fun _ u => u) (s := ()) (fun _ _ => True) many (fun i hi _ _ hG dd3 x1 x2 x3 x4 => ?_) trivial (fun _ dd3 x1 x2 x3 x4 => ?_)
      · have hG := hG trivial (ups dd3 266 i (dd3 275 i)) (PMd_u x1 (Or.inl rfl)) (by rw [ups_ne (by omega)]; exact x2) (PRm_cg x3 (ups_ne (by omega))) (fun j hj => by
          rw [ups_same]
          by_cases q : j = i
          · rw [q, fs_eq]
            exact x3 i (by omega)
          · rw [fs_ne q]
            exact x4 j (by omega))
        clear h x1 x2 x3 x4 hr h1 h2 hl
        rw [s_M_plan_150]
        simp (disch := omega) only [s_M_plan_0, s_M_plan_1, s_M_plan_2, s_M_plan_3, s_M_plan_4, s_M_plan_7, s_M_plan_10, s_M_plan_13, s_M_plan_14, s_M_plan_15, s_M_plan_18, s_M_plan_19, s_M_plan_20, s_M_plan_21, s_M_plan_22, s_M_plan_24, s_M_plan_25, s_M_plan_27, s_M_plan_28, s_M_plan_29, s_M_plan_32, s_M_plan_33, s_M_plan_34, s_M_plan_37, s_M_plan_38, s_M_plan_40, s_M_plan_41, s_M_plan_43, s_M_plan_45, s_M_plan_46, s_M_plan_49, s_M_plan_51, s_M_plan_53, s_M_plan_54, s_M_plan_56, s_M_plan_57, s_M_plan_59, s_M_plan_61, s_M_plan_63, s_M_plan_66, s_M_plan_68, s_M_plan_70, s_M_plan_72, s_M_plan_73, s_M_plan_74, s_M_plan_76, s_M_plan_78, s_M_plan_81, s_M_plan_82, s_M_plan_85, s_M_plan_87, s_M_plan_89, s_M_plan_91, s_M_plan_92, s_M_plan_93, s_M_plan_95, s_M_plan_97, s_M_plan_98, s_M_plan_100, s_M_plan_103, s_M_plan_106, s_M_plan_107, s_M_plan_109, s_M_plan_112, s_M_plan_115, s_M_plan_116, s_M_plan_117, s_M_plan_119, s_M_plan_120, s_M_plan_121, s_M_plan_124, s_M_plan_127, s_M_plan_128, s_M_plan_130, s_M_plan_132, s_M_plan_134, s_M_plan_137, s_M_plan_139, s_M_plan_141, s_M_plan_142, s_M_plan_144, s_M_plan_147, s_M_plan_148, s_M_plan_152, s_M_plan_154, s_M_plan_157, s_M_plan_158, s_M_plan_161, s_M_plan_163, s_M_plan_164, s_M_plan_167, s_M_plan_169, s_M_plan_170, s_M_plan_171, s_M_plan_174, s_M_plan_180, s_M_plan_183, s_M_plan_186, s_M_plan_189, s_M_plan_191, s_M_plan_192, k_1, n_1, k_241, r_241_0, r_241_2, r_241_4, r_241_5, r_241_6, r_241_7, r_241_9, r_241_10, r_241_11, r_241_12, r_241_14, r_241_15, r_241_16, r_241_19, r_241_20, r_241_22, r_241_23, r_241_24, r_241_25, r_241_27, r_241_28, r_241_29, r_241_30, r_241_31, r_241_33, r_241_34, r_241_37, r_241_38, r_241_39, r_241_40, r_241_41, r_241_42, r_241_43, r_241_44, r_241_49, r_241_50, r_241_54, k_242, n_242, k_243, n_243, k_244, n_244, k_245, n_245, k_246, n_246, k_247, n_247, k_248, n_248, k_249, n_249, k_250, n_250, k_251, n_251, k_252, n_252, k_253, n_253, k_254, n_254, k_255, n_255, k_256, n_256, k_257, n_257, k_258, n_258, k_259, n_259, k_260, n_260, k_261, n_261, k_262, n_262, k_263, n_263, k_264, n_264, k_265, n_265, k_266, n_266, k_267, n_267, k_268, n_268, k_269, n_269, k_270, n_270, k_271, n_271, k_272, n_272, k_273, n_273, k_274, n_274, k_275, n_275, k_276, n_276, k_277, n_277, k_278, n_278, ld20, wr_inc, le_T, lt_T, le_F, lt_F, Int.toNat_natCast, cat_n, cat_i, cat_r, cat_l, Nat.ble_eq, Nat.reduceAdd, Nat.reduceLeDiff, true_and, and_true, true_implies, false_implies, not_true_eq_false, not_false_eq_true, implies_true]
        grind
      · have h := h dd3 (vI v) (vI (many : Int)) x1 ⟨by rw [hl]; exact x2, by rw [hl]; exact h4, fun i hi => x4 i (by rw [← hl]; exact hi)⟩
        clear x1 x2 x3 x4 hr h1 h2 hl
        rw [s_M_plan_150]
        simp (disch := omega) only [s_M_plan_0, s_M_plan_1, s_M_plan_2, s_M_plan_3, s_M_plan_4, s_M_plan_7, s_M_plan_10, s_M_plan_13, s_M_plan_14, s_M_plan_15, s_M_plan_18, s_M_plan_19, s_M_plan_20, s_M_plan_21, s_M_plan_22, s_M_plan_24, s_M_plan_25, s_M_plan_27, s_M_plan_28, s_M_plan_29, s_M_plan_32, s_M_plan_33, s_M_plan_34, s_M_plan_37, s_M_plan_38, s_M_plan_40, s_M_plan_41, s_M_plan_43, s_M_plan_45, s_M_plan_46, s_M_plan_49, s_M_plan_51, s_M_plan_53, s_M_plan_54, s_M_plan_56, s_M_plan_57, s_M_plan_59, s_M_plan_61, s_M_plan_63, s_M_plan_66, s_M_plan_68, s_M_plan_70, s_M_plan_72, s_M_plan_73, s_M_plan_74, s_M_plan_76, s_M_plan_78, s_M_plan_81, s_M_plan_82, s_M_plan_85, s_M_plan_87, s_M_plan_89, s_M_plan_91, s_M_plan_92, s_M_plan_93, s_M_plan_95, s_M_plan_97, s_M_plan_98, s_M_plan_100, s_M_plan_103, s_M_plan_106, s_M_plan_107, s_M_plan_109, s_M_plan_112, s_M_plan_115, s_M_plan_116, s_M_plan_117, s_M_plan_119, s_M_plan_120, s_M_plan_121, s_M_plan_124, s_M_plan_127, s_M_plan_128, s_M_plan_130, s_M_plan_132, s_M_plan_134, s_M_plan_137, s_M_plan_139, s_M_plan_141, s_M_plan_142, s_M_plan_144, s_M_plan_147, s_M_plan_148, s_M_plan_152, s_M_plan_154, s_M_plan_158, s_M_plan_161, s_M_plan_163, s_M_plan_164, s_M_plan_167, s_M_plan_169, s_M_plan_170, s_M_plan_171, s_M_plan_174, s_M_plan_180, s_M_plan_183, s_M_plan_186, s_M_plan_189, s_M_plan_191, s_M_plan_192, le_T, lt_T, le_F, lt_F, Int.toNat_natCast, cat_n, cat_i, cat_r, cat_l, Nat.ble_eq, Nat.reduceAdd, Nat.reduceLeDiff, true_and, and_true, true_implies, false_implies, not_true_eq_false, not_false_eq_true, implies_true]
        grind
    have key := key (ups dd 241 32 (many : Int)) (PMd_32 h1) u_eq (PRm_cg hr (ups_ne (by omega))) (fun j hj => absurd hj (Nat.not_lt_zero _))
    clear h hr h1 h2
    generalize acc.1 = a1 at *
    simp (disch := omega) only [s_M_plan_0, s_M_plan_1, s_M_plan_2, s_M_plan_3, s_M_plan_4, s_M_plan_7, s_M_plan_10, s_M_plan_13, s_M_plan_14, s_M_plan_15, s_M_plan_18, s_M_plan_19, s_M_plan_20, s_M_plan_21, s_M_plan_22, s_M_plan_24, s_M_plan_25, s_M_plan_27, s_M_plan_28, s_M_plan_29, s_M_plan_32, s_M_plan_33, s_M_plan_34, s_M_plan_37, s_M_plan_38, s_M_plan_40, s_M_plan_41, s_M_plan_43, s_M_plan_45, s_M_plan_46, s_M_plan_49, s_M_plan_51, s_M_plan_53, s_M_plan_54, s_M_plan_56, s_M_plan_57, s_M_plan_59, s_M_plan_61, s_M_plan_63, s_M_plan_66, s_M_plan_68, s_M_plan_70, s_M_plan_72, s_M_plan_73, s_M_plan_74, s_M_plan_76, s_M_plan_78, s_M_plan_81, s_M_plan_82, s_M_plan_85, s_M_plan_87, s_M_plan_89, s_M_plan_91, s_M_plan_92, s_M_plan_93, s_M_plan_95, s_M_plan_97, s_M_plan_98, s_M_plan_100, s_M_plan_103, s_M_plan_106, s_M_plan_107, s_M_plan_109, s_M_plan_112, s_M_plan_115, s_M_plan_116, s_M_plan_117, s_M_plan_119, s_M_plan_120, s_M_plan_121, s_M_plan_124, s_M_plan_127, s_M_plan_128, s_M_plan_130, s_M_plan_132, s_M_plan_134, s_M_plan_137, s_M_plan_139, s_M_plan_141, s_M_plan_142, s_M_plan_144, s_M_plan_147, s_M_plan_148, s_M_plan_152, s_M_plan_154, s_M_plan_157, s_M_plan_158, s_M_plan_161, s_M_plan_163, s_M_plan_164, s_M_plan_167, s_M_plan_169, s_M_plan_170, s_M_plan_171, s_M_plan_174, s_M_plan_180, s_M_plan_183, s_M_plan_186, s_M_plan_189, s_M_plan_191, s_M_plan_192, k_1, n_1, k_241, r_241_0, r_241_2, r_241_4, r_241_5, r_241_6, r_241_7, r_241_9, r_241_10, r_241_11, r_241_12, r_241_14, r_241_15, r_241_16, r_241_19, r_241_20, r_241_22, r_241_23, r_241_24, r_241_25, r_241_27, r_241_28, r_241_29, r_241_30, r_241_31, r_241_33, r_241_34, r_241_37, r_241_38, r_241_39, r_241_40, r_241_41, r_241_42, r_241_43, r_241_44, r_241_49, r_241_50, r_241_54, k_242, n_242, k_243, n_243, k_244, n_244, k_245, n_245, k_246, n_246, k_247, n_247, k_248, n_248, k_249, n_249, k_250, n_250, k_251, n_251, k_252, n_252, k_253, n_253, k_254, n_254, k_255, n_255, k_256, n_256, k_257, n_257, k_258, n_258, k_259, n_259, k_260, n_260, k_261, n_261, k_262, n_262, k_263, n_263, k_264, n_264, k_265, n_265, k_266, n_266, k_267, n_267, k_268, n_268, k_269, n_269, k_270, n_270, k_271, n_271, k_272, n_272, k_273, n_273, k_274, n_274, k_275, n_275, k_276, n_276, k_277, n_277, k_278, n_278, le_T, lt_T, le_F, lt_F, Int.toNat_natCast, cat_n, cat_i, cat_r, cat_l, Nat.ble_eq, Nat.reduceAdd, Nat.reduceLeDiff, true_and, and_true, true_implies, false_implies, not_true_eq_false, not_false_eq_true, implies_true]
    grind
  · have e : cmpM r v acc = acc := if_neg c
    rw [e] at h
    have h := h dd (vI v) b11 h1 h2
    clear hr h1 h2
    generalize acc.1 = a1 at *
    simp (disch := omega) only [s_M_plan_0, s_M_plan_1, s_M_plan_2, s_M_plan_3, s_M_plan_4, s_M_plan_7, s_M_plan_10, s_M_plan_13, s_M_plan_14, s_M_plan_15, s_M_plan_18, s_M_plan_19, s_M_plan_20, s_M_plan_21, s_M_plan_22, s_M_plan_24, s_M_plan_25, s_M_plan_27, s_M_plan_28, s_M_plan_29, s_M_plan_32, s_M_plan_33, s_M_plan_34, s_M_plan_37, s_M_plan_38, s_M_plan_40, s_M_plan_41, s_M_plan_43, s_M_plan_45, s_M_plan_46, s_M_plan_49, s_M_plan_51, s_M_plan_53, s_M_plan_54, s_M_plan_56, s_M_plan_57, s_M_plan_59, s_M_plan_61, s_M_plan_63, s_M_plan_66, s_M_plan_68, s_M_plan_70, s_M_plan_72, s_M_plan_73, s_M_plan_74, s_M_plan_76, s_M_plan_78, s_M_plan_81, s_M_plan_82, s_M_plan_85, s_M_plan_87, s_M_plan_89, s_M_plan_91, s_M_plan_92, s_M_plan_93, s_M_plan_95, s_M_plan_97, s_M_plan_98, s_M_plan_100, s_M_plan_103, s_M_plan_106, s_M_plan_107, s_M_plan_109, s_M_plan_112, s_M_plan_115, s_M_plan_116, s_M_plan_117, s_M_plan_119, s_M_plan_120, s_M_plan_121, s_M_plan_124, s_M_plan_127, s_M_plan_128, s_M_plan_130, s_M_plan_132, s_M_plan_134, s_M_plan_139, s_M_plan_141, s_M_plan_142, s_M_plan_144, s_M_plan_147, s_M_plan_148, s_M_plan_150, s_M_plan_152, s_M_plan_154, s_M_plan_157, s_M_plan_158, s_M_plan_161, s_M_plan_163, s_M_plan_164, s_M_plan_167, s_M_plan_169, s_M_plan_170, s_M_plan_171, s_M_plan_174, s_M_plan_180, s_M_plan_183, s_M_plan_186, s_M_plan_189, s_M_plan_191, s_M_plan_192, le_T, lt_T, le_F, lt_F, Int.toNat_natCast, cat_n, cat_i, cat_r, cat_l, Nat.ble_eq, Nat.reduceAdd, Nat.reduceLeDiff, true_and, and_true, true_implies, false_implies, not_true_eq_false, not_false_eq_true, implies_true]
    grind
theorem pw_le {C : Nat} (hC : C ≤ 5) : ∀ m, m ≤ 4 → C ^ m ≤ 625 := fun m hm => Nat.le_trans (Nat.pow_le_pow_left hC m) (Nat.le_trans (Nat.pow_le_pow_right (by decide) hm) (by decide))
set_option maxHeartbeats 400000 in
theorem c_M_plan {C g n t : Nat} {D W : Row} {d : Dat} (hM : FM d e) (hE : WE e) (hO : OM e) (hD : ∀ c, 0 ≤ D c ∧ D c ≤ 5) (hP : PO e P n) (hm : 0 ≤ P 285) (hg : 1 ≤ g ∧ g ≤ 10) (hn : n ≤ 40) (ht : t < 4) (hC : 0 < C ∧ C ≤ 5) (h242 : d 242 = P) (h272 : d 272 t = ((2 * C : Nat) : Int)) (h273 : ∀ c, c < C → d 273 (40 * t + 2 * c) = D c ∧ d 273 (40 * t + 2 * c + 1) = W c) (hip : ∀ R : RT, Cl (k + 10) 98 [vR 241, vI (t : Int), vI (g : Int), vI (n : Int)] (SH L) d R ↔ R (vI 1) (SH L) d) (h : ∀ dd, PMd P (rset d 274 (cutR 2102 P (d 274))) dd → PAm (bfS C (valS e D W g n P) 4) dd → R (vL (bfS C (valS e D W g n P) 4).1) (SH L) dd) : Cl (k + 11) 99 [vR 241, vI (t : Int), vI (g : Int), vI (n : Int)] (SH L) d R := by
  refine Cl_succ rfl ?_
  show Go (k + 10) 99 R 0 [vR 241, vI (t : Int), vI (g : Int), vI (n : Int), vU, vU, vU, vU, vU, vU, vU, vU] [] (SH L) d
  obtain ⟨d1, hd1⟩ : ∃ d1, rset d 274 (cutR 2102 P (d 274)) = d1 := ⟨_, rfl⟩
  rw [hd1] at h
  have f1 : ∀ a, ¬ a = 274 → d1 a = d a := fun a ha => by rw [← hd1, rs_ne ha]
  have f274 : d1 274 = cutR 2102 P (d 274) := by rw [← hd1, rs_eq]
  have fM : ∀ dd, PMd P d1 dd → FM dd e := fun dd h1 => FM_cg2 hM (fun a ha hb => by
    by_cases q : a = 242
    · omega
    · rw [h1.2.1 a (by omega), f1 a (by omega)]) (fun i hi => by rw [h1.2.2 i (by omega), f1 241 (by omega)])
  have f3 : ∀ dd, PMd P d1 dd → ∀ c, c < C → dd 273 (40 * t + 2 * c) = D c ∧ dd 273 (40 * t + 2 * c + 1) = W c := fun dd h1 c hc => by
    rw [h1.2.1 273 (by omega), f1 273 (by omega)]
    exact h273 c hc
  have f4 : ∀ dd, PMd P d1 dd → dd 274 = cutR 2102 P (d 274) := fun dd h1 => by
    rw [h1.2.1 274 (by omega)]
    exact f274
  -- the loop over how many
  have key : ∀ (dd : Dat) (a8 a9 a10 a11 : V), PMd P d1 dd → PAm (-1, []) dd → Go (k + 10) 99 R 43 [vR 241, vI (t : Int), vI (g : Int), vI (n : Int), vI (C : Int), vI (-1 : Int), vI ((C ^ 0 : Nat) : Int), vI ((0 + 1 : Nat) : Int), a8, a9, a10, a11] [] (SH L) dd := by
    refine loop_up (G := fun m (acc : Acc) => ∀ (dd : Dat) (a8 a9 a10 a11 : V), PMd P d1 dd → PAm acc dd → Go (k + 10) 99 R 43 [vR 241, vI (t : Int), vI (g : Int), vI (n : Int), vI (C : Int), vI acc.1, vI ((C ^ m : Nat) : Int), vI ((m + 1 : Nat) : Int), a8, a9, a10, a11] [] (SH L) dd) (s := ((-1, []) : Acc)) (f := fun m acc => iterN (rowF C (valS e D W g n P) (m + 1)) (C ^ (m + 1)) acc) (fun m acc => acc = bfS C (valS e D W g n P) m) 4 (fun m hm4 acc hacc hG dd a8 a9 a10 a11 h1 h2 => ?_) rfl (fun hacc dd a8 a9 a10 a11 h1 h2 => ?_)
    · have hG := hG (by rw [hacc]; rfl)
      have pw := pw_le hC.2 (m + 1) (by omega)
      obtain ⟨many, hmany⟩ : ∃ x, m + 1 = x := ⟨_, rfl⟩
      have wp : Unit → wr (((C ^ m : Nat) : Int) * (C : Int)) = ((C ^ many : Nat) : Int) := fun _ => by
        rw [← hmany]
        have e1 : ((C ^ m : Nat) : Int) * (C : Int) = ((C ^ (m + 1) : Nat) : Int) := by
          rw [← Int.natCast_mul]
          rfl
        rw [e1]
        exact wr_n (by omega)
      have wm : Unit → wr ((many : Int) + 1) = ((many + 1 : Nat) : Int) := fun _ => wr_inc (by omega)
      have wm1 : Unit → wr ((many : Int) - 1) = (many : Int) - 1 := fun _ => wr_of (by omega)
      rw [hmany] at hG pw ⊢
      -- the loop over the rows
      have key : ∀ (dd : Dat) (a9 a10 a11 : V), PMd P d1 dd → PAm acc dd → Go (k + 10) 99 R 59 [vR 241, vI (t : Int), vI (g : Int), vI (n : Int), vI (C : Int), vI acc.1, vI ((C ^ many : Nat) : Int), vI (many : Int), vI ((0 : Nat) : Int), a9, a10, a11] [] (SH L) dd := by
        refine loop_up (G := fun row (acc : Acc) => ∀ (dd : Dat) (a9 a10 a11 : V), PMd P d1 dd → PAm acc dd → Go (k + 10) 99 R 59 [vR 241, vI (t : Int), vI (g : Int), vI (n : Int), vI (C : Int), vI acc.1, vI ((C ^ many : Nat) : Int), vI (many : Int), vI (row : Int), a9, a10, a11] [] (SH L) dd) (f := rowF C (valS e D W g n P) many) (fun row a => a = iterN (rowF C (valS e D W g n P) many) row acc) (C ^ many) (fun row hrow acc2 hac2 hG2 dd a9 a10 a11 h1 h2 => ?_) rfl (fun hac2 dd a9 a10 a11 h1 h2 => ?_)
        · have hG2 := hG2 (by rw [hac2]; rfl)
          obtain ⟨r, hr⟩ : ∃ r, digs C many row = r := ⟨_, rfl⟩
          have hrl : r.length = many := by rw [← hr]; exact digs_len many row
          have hrC : ∀ c, c ∈ r → c < C := by rw [← hr]; exact digs_lt hC.1 many row
          have hrf : rowF C (valS e D W g n P) many row acc2 = cmpM r (if r.Nodup then valS e D W g n P r else -1) acc2 := by
            rw [← hr]
            rfl
          rw [hrf] at hG2
          have wr1 : Unit → wr ((row : Int) + 1) = ((row + 1 : Nat) : Int) := fun _ => wr_inc (by omega)
          have g177 : ∀ (dd2 : Dat) (a9 a10 a11 : V), PMd P d1 dd2 → PAm (cmpM r (if r.Nodup then valS e D W g n P r else -1) acc2) dd2 → Go (k + 10) 99 R 177 [vR 241, vI (t : Int), vI (g : Int), vI (n : Int), vI (C : Int), vI (cmpM r (if r.Nodup then valS e D W g n P r else -1) acc2).1, vI ((C ^ many : Nat) : Int), vI (many : Int), vI (row : Int), a9, a10, a11] [] (SH L) dd2 := fun dd2 a9 a10 a11 y1 y2 => by
            have hG2 := hG2 dd2 a9 a10 a11 y1 y2
            rw [s_M_plan_177, wr1 (), s_M_plan_180]
            exact hG2
          have g106 : ∀ (dd2 : Dat) (a9 : V), PMd P d1 dd2 → PAm acc2 dd2 → PRm (digs C many row ++ []) dd2 → Go (k + 10) 99 R 106 [vR 241, vI (t : Int), vI (g : Int), vI (n : Int), vI (C : Int), vI acc2.1, vI ((C ^ many : Nat) : Int), vI (many : Int), vI (row : Int), a9, vI (-1), a11] [] (SH L) dd2 := fun dd2 a9 y1 y2 y3 => by
            rw [List.append_nil, hr] at y3
            have cm := fun (dd3 : Dat) (z1 : PMd P d1 dd3) (z2 : PAm acc2 dd3) (z3 : PRm r dd3) => m_cmp (k := k + 10) (L := L) (R := R) (v := if r.Nodup then valS e D W g n P r else -1) (b1 := vI (t : Int)) (b2 := vI (g : Int)) (b3 := vI (n : Int)) (b4 := vI (C : Int)) (b6 := vI ((C ^ many : Nat) : Int)) (b8 := vI (row : Int)) (b9 := a9) (b10 := vI (-1)) (b11 := a11) hrl (by omega) z1 z2 z3 (fun dd4 a10 a11 w1 w2 => g177 dd4 a9 a10 a11 w1 w2)
            have un := fun (S : RT) => c_M_areUnlike (k := k + 9) (L := L) (R := S) (d := dd2) (r := r) y3 (by omega) (fun c hc => Nat.lt_of_lt_of_le (hrC c hc) hC.2)
            rw [hrl] at un
            by_cases nd : r.Nodup
            · simp only [if_pos nd] at cm un
              have gr := c_M_growsBy (k := k) (L := L) (u := t) (C := C) (g := g) (n := n) (r := r) (D := D) (W := W) (y0 := d 274) (x0 := dd2 278) (d := dd2) (P := P) (R := fun v sh d' => sh = SH L ∧ Go (k + 10) 99 R 124 [vR 241, vI (t : Int), vI (g : Int), vI (n : Int), vI (C : Int), vI acc2.1, vI ((C ^ many : Nat) : Int), vI (many : Int), vI (row : Int), a9, vI (-1), a11] [v] (SH L) d') (fM dd2 y1) hE hO hD hP hm hg hn ht (by omega) hC.2 hrC y3 (f3 dd2 y1) (f4 dd2 y1) (fun x => ⟨rfl, s_M_plan_124.mpr (cm _ (PMd_278 y1) (PAm_cg y2 (by rw [rs_ne (by omega), rs_ne (by omega)]) (by rw [rs_ne (by omega), rs_ne (by omega)])) (PRm_cg y3 (by rw [rs_ne (by omega), rs_ne (by omega)])))⟩)
              rw [PMd_rs y1, hrl] at gr
              clear cm g177 hG2 hG hrf y1 y2 y3 h1 h2 fM f3 f4 h hM hE hO hD hP h273 hip f1 hrC hac2 hacc wp wm wm1 wr1
              generalize acc2.1 = a1 at *
              generalize C ^ many = tot at *
              simp (disch := omega) only [s_M_plan_0, s_M_plan_1, s_M_plan_2, s_M_plan_3, s_M_plan_4, s_M_plan_7, s_M_plan_10, s_M_plan_13, s_M_plan_14, s_M_plan_15, s_M_plan_18, s_M_plan_19, s_M_plan_20, s_M_plan_21, s_M_plan_22, s_M_plan_24, s_M_plan_25, s_M_plan_27, s_M_plan_28, s_M_plan_29, s_M_plan_32, s_M_plan_33, s_M_plan_34, s_M_plan_37, s_M_plan_38, s_M_plan_40, s_M_plan_41, s_M_plan_43, s_M_plan_45, s_M_plan_46, s_M_plan_49, s_M_plan_51, s_M_plan_53, s_M_plan_54, s_M_plan_56, s_M_plan_57, s_M_plan_59, s_M_plan_61, s_M_plan_63, s_M_plan_66, s_M_plan_68, s_M_plan_70, s_M_plan_72, s_M_plan_73, s_M_plan_74, s_M_plan_76, s_M_plan_78, s_M_plan_81, s_M_plan_82, s_M_plan_85, s_M_plan_87, s_M_plan_89, s_M_plan_91, s_M_plan_92, s_M_plan_93, s_M_plan_95, s_M_plan_97, s_M_plan_98, s_M_plan_100, s_M_plan_103, s_M_plan_106, s_M_plan_107, s_M_plan_109, s_M_plan_112, s_M_plan_115, s_M_plan_116, s_M_plan_117, s_M_plan_119, s_M_plan_120, s_M_plan_121, s_M_plan_130, s_M_plan_132, s_M_plan_134, s_M_plan_137, s_M_plan_139, s_M_plan_141, s_M_plan_142, s_M_plan_144, s_M_plan_147, s_M_plan_148, s_M_plan_150, s_M_plan_152, s_M_plan_154, s_M_plan_157, s_M_plan_158, s_M_plan_161, s_M_plan_163, s_M_plan_164, s_M_plan_167, s_M_plan_169, s_M_plan_170, s_M_plan_171, s_M_plan_174, s_M_plan_177, s_M_plan_180, s_M_plan_183, s_M_plan_186, s_M_plan_189, s_M_plan_191, s_M_plan_192, un, k_241, le_T, lt_T, le_F, lt_F, Int.toNat_natCast, cat_n, cat_i, cat_r, cat_l, Nat.ble_eq, Nat.reduceAdd, Nat.reduceLeDiff, true_and, and_true, true_implies, false_implies, not_true_eq_false, not_false_eq_true, implies_true]
              clear un
              first | exact gr | grind
            · simp only [if_neg nd] at cm un
              have cm := cm dd2 y1 y2 y3
              clear g177 hG2 hG hrf y1 y2 y3 h1 h2 fM f3 f4 h hM hE hO hD hP h273 hip f1 hrC hac2 hacc wp wm wm1 wr1
              generalize acc2.1 = a1 at *
              generalize C ^ many = tot at *
              simp (disch := omega) only [s_M_plan_0, s_M_plan_1, s_M_plan_2, s_M_plan_3, s_M_plan_4, s_M_plan_7, s_M_plan_10, s_M_plan_13, s_M_plan_14, s_M_plan_15, s_M_plan_18, s_M_plan_19, s_M_plan_20, s_M_plan_21, s_M_plan_22, s_M_plan_24, s_M_plan_25, s_M_plan_27, s_M_plan_28, s_M_plan_29, s_M_plan_32, s_M_plan_33, s_M_plan_34, s_M_plan_37, s_M_plan_38, s_M_plan_40, s_M_plan_41, s_M_plan_43, s_M_plan_45, s_M_plan_46, s_M_plan_49, s_M_plan_51, s_M_plan_53, s_M_plan_54, s_M_plan_56, s_M_plan_57, s_M_plan_59, s_M_plan_61, s_M_plan_63, s_M_plan_66, s_M_plan_68, s_M_plan_70, s_M_plan_72, s_M_plan_73, s_M_plan_74, s_M_plan_76, s_M_plan_78, s_M_plan_81, s_M_plan_82, s_M_plan_85, s_M_plan_87, s_M_plan_89, s_M_plan_91, s_M_plan_92, s_M_plan_93, s_M_plan_95, s_M_plan_97, s_M_plan_98, s_M_plan_100, s_M_plan_103, s_M_plan_106, s_M_plan_107, s_M_plan_109, s_M_plan_112, s_M_plan_116, s_M_plan_117, s_M_plan_119, s_M_plan_120, s_M_plan_121, s_M_plan_124, s_M_plan_127, s_M_plan_130, s_M_plan_132, s_M_plan_134, s_M_plan_137, s_M_plan_139, s_M_plan_141, s_M_plan_142, s_M_plan_144, s_M_plan_147, s_M_plan_148, s_M_plan_150, s_M_plan_152, s_M_plan_154, s_M_plan_157, s_M_plan_158, s_M_plan_161, s_M_plan_163, s_M_plan_164, s_M_plan_167, s_M_plan_169, s_M_plan_170, s_M_plan_171, s_M_plan_174, s_M_plan_177, s_M_plan_180, s_M_plan_183, s_M_plan_186, s_M_plan_189, s_M_plan_191, s_M_plan_192, un, k_241, le_T, lt_T, le_F, lt_F, Int.toNat_natCast, cat_n, cat_i, cat_r, cat_l, Nat.ble_eq, Nat.reduceAdd, Nat.reduceLeDiff, true_and, and_true, true_implies, false_implies, not_true_eq_false, not_false_eq_true, implies_true]
              clear un
              first | exact cm | grind
          have g76 := m_dig (k := k + 10) (L := L) (R := R) (d1 := d1) (P := P) (acc := acc2) (C := C) (many := many) (b1 := vI (t : Int)) (b2 := vI (g : Int)) (b3 := vI (n : Int)) (b5 := vI acc2.1) (b6 := vI ((C ^ many : Nat) : Int)) (b7 := vI (many : Int)) (b8 := vI (row : Int)) (b11 := a11) hC.1 (by omega) many row [] dd rfl (by omega) h1 h2 (fun i hi => absurd hi (Nat.not_lt_zero _)) g106
          clear g106 g177 hG2 hG hrf h1 h2 fM f3 f4 h hM hE hO hD hP h273 hip f1 hrC hac2 hacc wp wm wr1
          have lr : (row : Int) < ((C ^ many : Nat) : Int) := by omega
          generalize acc2.1 = a1 at *
          generalize C ^ many = tot at *
          rw [s_M_plan_59]
          simp (disch := omega) only [s_M_plan_0, s_M_plan_1, s_M_plan_2, s_M_plan_3, s_M_plan_4, s_M_plan_7, s_M_plan_10, s_M_plan_13, s_M_plan_14, s_M_plan_15, s_M_plan_18, s_M_plan_19, s_M_plan_20, s_M_plan_21, s_M_plan_22, s_M_plan_24, s_M_plan_25, s_M_plan_27, s_M_plan_28, s_M_plan_29, s_M_plan_32, s_M_plan_33, s_M_plan_34, s_M_plan_37, s_M_plan_38, s_M_plan_40, s_M_plan_41, s_M_plan_43, s_M_plan_45, s_M_plan_46, s_M_plan_49, s_M_plan_51, s_M_plan_53, s_M_plan_54, s_M_plan_56, s_M_plan_57, s_M_plan_61, s_M_plan_63, s_M_plan_66, s_M_plan_68, s_M_plan_70, s_M_plan_72, s_M_plan_73, s_M_plan_74, s_M_plan_78, s_M_plan_81, s_M_plan_82, s_M_plan_85, s_M_plan_87, s_M_plan_89, s_M_plan_91, s_M_plan_92, s_M_plan_93, s_M_plan_95, s_M_plan_97, s_M_plan_98, s_M_plan_100, s_M_plan_103, s_M_plan_106, s_M_plan_107, s_M_plan_109, s_M_plan_112, s_M_plan_115, s_M_plan_116, s_M_plan_117, s_M_plan_119, s_M_plan_120, s_M_plan_121, s_M_plan_124, s_M_plan_127, s_M_plan_128, s_M_plan_130, s_M_plan_132, s_M_plan_134, s_M_plan_137, s_M_plan_139, s_M_plan_141, s_M_plan_142, s_M_plan_144, s_M_plan_147, s_M_plan_148, s_M_plan_150, s_M_plan_152, s_M_plan_154, s_M_plan_157, s_M_plan_158, s_M_plan_161, s_M_plan_163, s_M_plan_164, s_M_plan_167, s_M_plan_169, s_M_plan_170, s_M_plan_171, s_M_plan_174, s_M_plan_177, s_M_plan_180, s_M_plan_186, s_M_plan_189, s_M_plan_191, s_M_plan_192, wm1 (), le_T, lt_T, le_F, lt_F, Int.toNat_natCast, cat_n, cat_i, cat_r, cat_l, Nat.ble_eq, Nat.reduceAdd, Nat.reduceLeDiff, true_and, and_true, true_implies, false_implies, not_true_eq_false, not_false_eq_true, implies_true]
          clear wm1
          first | exact g76 | grind
        · rw [← hac2] at hG
          have hG := hG dd (vI ((C ^ many : Nat) : Int)) a9 a10 a11 h1 h2
          clear h1 h2 fM f3 f4 h hM hE hO hD hP h273 hip f1 hac2 hacc wp wm1
          generalize acc.1 = a1 at *
          generalize C ^ many = tot at *
          rw [s_M_plan_59]
          simp (disch := omega) only [s_M_plan_0, s_M_plan_1, s_M_plan_2, s_M_plan_3, s_M_plan_4, s_M_plan_7, s_M_plan_10, s_M_plan_13, s_M_plan_14, s_M_plan_15, s_M_plan_18, s_M_plan_19, s_M_plan_20, s_M_plan_21, s_M_plan_22, s_M_plan_24, s_M_plan_25, s_M_plan_27, s_M_plan_28, s_M_plan_29, s_M_plan_32, s_M_plan_33, s_M_plan_34, s_M_plan_37, s_M_plan_38, s_M_plan_40, s_M_plan_41, s_M_plan_45, s_M_plan_46, s_M_plan_49, s_M_plan_51, s_M_plan_53, s_M_plan_54, s_M_plan_56, s_M_plan_57, s_M_plan_61, s_M_plan_63, s_M_plan_68, s_M_plan_70, s_M_plan_72, s_M_plan_73, s_M_plan_74, s_M_plan_76, s_M_plan_78, s_M_plan_81, s_M_plan_82, s_M_plan_85, s_M_plan_87, s_M_plan_89, s_M_plan_91, s_M_plan_92, s_M_plan_93, s_M_plan_95, s_M_plan_97, s_M_plan_98, s_M_plan_100, s_M_plan_103, s_M_plan_106, s_M_plan_107, s_M_plan_109, s_M_plan_112, s_M_plan_115, s_M_plan_116, s_M_plan_117, s_M_plan_119, s_M_plan_120, s_M_plan_121, s_M_plan_124, s_M_plan_127, s_M_plan_128, s_M_plan_130, s_M_plan_132, s_M_plan_134, s_M_plan_137, s_M_plan_139, s_M_plan_141, s_M_plan_142, s_M_plan_144, s_M_plan_147, s_M_plan_148, s_M_plan_150, s_M_plan_152, s_M_plan_154, s_M_plan_157, s_M_plan_158, s_M_plan_161, s_M_plan_163, s_M_plan_164, s_M_plan_167, s_M_plan_169, s_M_plan_170, s_M_plan_171, s_M_plan_174, s_M_plan_177, s_M_plan_180, s_M_plan_183, s_M_plan_186, s_M_plan_189, s_M_plan_191, s_M_plan_192, wm (), le_T, lt_T, le_F, lt_F, Int.toNat_natCast, cat_n, cat_i, cat_r, cat_l, Nat.ble_eq, Nat.reduceAdd, Nat.reduceLeDiff, true_and, and_true, true_implies, false_implies, not_true_eq_false, not_false_eq_true, implies_true]
          clear wm
          first | exact hG | grind
      have key := key dd a9 a10 a11 h1 h2
      clear h1 h2 fM f3 f4 h hM hE hO hD hP h273 hip f1 hacc wm wm1 hG
      generalize acc.1 = a1 at *
      generalize C ^ many = tot at *
      generalize C ^ m = tot0 at *
      rw [s_M_plan_43]
      simp (disch := omega) only [s_M_plan_0, s_M_plan_1, s_M_plan_2, s_M_plan_3, s_M_plan_4, s_M_plan_7, s_M_plan_10, s_M_plan_13, s_M_plan_14, s_M_plan_15, s_M_plan_18, s_M_plan_19, s_M_plan_20, s_M_plan_21, s_M_plan_22, s_M_plan_24, s_M_plan_25, s_M_plan_27, s_M_plan_28, s_M_plan_29, s_M_plan_32, s_M_plan_33, s_M_plan_34, s_M_plan_37, s_M_plan_38, s_M_plan_40, s_M_plan_41, s_M_plan_45, s_M_plan_46, s_M_plan_49, s_M_plan_51, s_M_plan_53, s_M_plan_54, s_M_plan_56, s_M_plan_57, s_M_plan_61, s_M_plan_63, s_M_plan_66, s_M_plan_68, s_M_plan_70, s_M_plan_72, s_M_plan_73, s_M_plan_74, s_M_plan_76, s_M_plan_78, s_M_plan_81, s_M_plan_82, s_M_plan_85, s_M_plan_87, s_M_plan_89, s_M_plan_91, s_M_plan_92, s_M_plan_93, s_M_plan_95, s_M_plan_97, s_M_plan_98, s_M_plan_100, s_M_plan_103, s_M_plan_106, s_M_plan_107, s_M_plan_109, s_M_plan_112, s_M_plan_115, s_M_plan_116, s_M_plan_117, s_M_plan_119, s_M_plan_120, s_M_plan_121, s_M_plan_124, s_M_plan_127, s_M_plan_128, s_M_plan_130, s_M_plan_132, s_M_plan_134, s_M_plan_137, s_M_plan_139, s_M_plan_141, s_M_plan_142, s_M_plan_144, s_M_plan_147, s_M_plan_148, s_M_plan_150, s_M_plan_152, s_M_plan_154, s_M_plan_157, s_M_plan_158, s_M_plan_161, s_M_plan_163, s_M_plan_164, s_M_plan_167, s_M_plan_169, s_M_plan_170, s_M_plan_171, s_M_plan_174, s_M_plan_177, s_M_plan_180, s_M_plan_183, s_M_plan_186, s_M_plan_191, s_M_plan_192, wp (), le_T, lt_T, le_F, lt_F, Int.toNat_natCast, cat_n, cat_i, cat_r, cat_l, Nat.ble_eq, Nat.reduceAdd, Nat.reduceLeDiff, true_and, and_true, true_implies, false_implies, not_true_eq_false, not_false_eq_true, implies_true]
      clear wp
      first | exact key | grind
    · rw [hacc] at h2 ⊢
      have h := h dd h1 h2
      clear h1 h2 fM f3 f4 hM hE hO hD hP h273 hip f1 hacc
      generalize bfS C (valS e D W g n P) 4 = A at *
      simp (disch := omega) only [s_M_plan_0, s_M_plan_1, s_M_plan_2, s_M_plan_3, s_M_plan_4, s_M_plan_7, s_M_plan_10, s_M_plan_13, s_M_plan_14, s_M_plan_15, s_M_plan_18, s_M_plan_19, s_M_plan_20, s_M_plan_21, s_M_plan_22, s_M_plan_24, s_M_plan_25, s_M_plan_27, s_M_plan_28, s_M_plan_29, s_M_plan_32, s_M_plan_33, s_M_plan_34, s_M_plan_37, s_M_plan_38, s_M_plan_40, s_M_plan_41, s_M_plan_43, s_M_plan_45, s_M_plan_46, s_M_plan_51, s_M_plan_53, s_M_plan_54, s_M_plan_56, s_M_plan_57, s_M_plan_59, s_M_plan_61, s_M_plan_63, s_M_plan_66, s_M_plan_68, s_M_plan_70, s_M_plan_72, s_M_plan_73, s_M_plan_74, s_M_plan_76, s_M_plan_78, s_M_plan_81, s_M_plan_82, s_M_plan_85, s_M_plan_87, s_M_plan_89, s_M_plan_91, s_M_plan_92, s_M_plan_93, s_M_plan_95, s_M_plan_97, s_M_plan_98, s_M_plan_100, s_M_plan_103, s_M_plan_106, s_M_plan_107, s_M_plan_109, s_M_plan_112, s_M_plan_115, s_M_plan_116, s_M_plan_117, s_M_plan_119, s_M_plan_120, s_M_plan_121, s_M_plan_124, s_M_plan_127, s_M_plan_128, s_M_plan_130, s_M_plan_132, s_M_plan_134, s_M_plan_137, s_M_plan_139, s_M_plan_141, s_M_plan_142, s_M_plan_144, s_M_plan_147, s_M_plan_148, s_M_plan_150, s_M_plan_152, s_M_plan_154, s_M_plan_157, s_M_plan_158, s_M_plan_161, s_M_plan_163, s_M_plan_164, s_M_plan_167, s_M_plan_169, s_M_plan_170, s_M_plan_171, s_M_plan_174, s_M_plan_177, s_M_plan_180, s_M_plan_183, s_M_plan_186, s_M_plan_189, s_M_plan_191, s_M_plan_192, le_T, lt_T, le_F, lt_F, Int.toNat_natCast, cat_n, cat_i, cat_r, cat_l, Nat.ble_eq, Nat.reduceAdd, Nat.reduceLeDiff, true_and, and_true, true_implies, false_implies, not_true_eq_false, not_false_eq_true, implies_true]
      grind
  -- the beginning
  obtain ⟨d2, hd2⟩ : ∃ d2, ups d 241 32 0 = d2 := ⟨_, rfl⟩
  have q2 : ∀ a, ¬ a = 241 → d2 a = d a := fun a ha => by rw [← hd2, ups_ne ha]
  have e2 : rset (rset d2 274 (d 274)) 242 P = d2 := by
    rw [← q2 274 (by omega), rs_self, ← h242, ← q2 242 (by omega)]
    exact rs_self
  have q3 : PMd P d1 (rset (rset d2 274 (cutR 2102 P (d 274))) 242 P) := by
    refine ⟨rs_eq, fun a ha => ?_, fun i hi => ?_⟩
    · by_cases c : a = 242
      · rw [c, rs_eq, f1 242 (by omega), h242]
      · rw [rs_ne c]
        by_cases c2 : a = 274
        · rw [c2, rs_eq, f274]
        · rw [rs_ne c2, q2 a (by omega), f1 a c2]
    · rw [rs_ne (by omega), rs_ne (by omega), f1 241 (by omega), ← hd2, ups_same, fs_ne hi]
  have q4 : PAm (-1, []) (rset (rset d2 274 (cutR 2102 P (d 274))) 242 P) := by
    refine ⟨?_, by decide, fun i hi => absurd hi (Nat.not_lt_zero _)⟩
    rw [rs_ne (by omega), rs_ne (by omega), ← hd2, u_eq]
    rfl
  have key := key _ vU vU vU vU q3 q4
  have la := c_M_lays0 (k := k + 9) (L := L) (d := d2) (x := d 274) (P := P) (R := fun _ sh d' => sh = SH L ∧ Go (k + 10) 99 R 37 [vR 241, vI (t : Int), vI (g : Int), vI (n : Int), vI (C : Int), vI (-1), vU, vU, vU, vU, vU, vU] [] (SH L) d') ⟨rfl, by
    clear h fM f3 f4 hM hE hO hD hP h273 hip f1 e2 q2 q3 q4 f274
    simp (disch := omega) only [s_M_plan_0, s_M_plan_1, s_M_plan_2, s_M_plan_3, s_M_plan_4, s_M_plan_7, s_M_plan_10, s_M_plan_13, s_M_plan_14, s_M_plan_15, s_M_plan_18, s_M_plan_19, s_M_plan_20, s_M_plan_21, s_M_plan_22, s_M_plan_24, s_M_plan_25, s_M_plan_27, s_M_plan_28, s_M_plan_29, s_M_plan_32, s_M_plan_33, s_M_plan_34, s_M_plan_37, s_M_plan_38, s_M_plan_40, s_M_plan_41, s_M_plan_45, s_M_plan_46, s_M_plan_49, s_M_plan_51, s_M_plan_53, s_M_plan_54, s_M_plan_56, s_M_plan_57, s_M_plan_59, s_M_plan_61, s_M_plan_63, s_M_plan_66, s_M_plan_68, s_M_plan_70, s_M_plan_72, s_M_plan_73, s_M_plan_74, s_M_plan_76, s_M_plan_78, s_M_plan_81, s_M_plan_82, s_M_plan_85, s_M_plan_87, s_M_plan_89, s_M_plan_91, s_M_plan_92, s_M_plan_93, s_M_plan_95, s_M_plan_97, s_M_plan_98, s_M_plan_100, s_M_plan_103, s_M_plan_106, s_M_plan_107, s_M_plan_109, s_M_plan_112, s_M_plan_115, s_M_plan_116, s_M_plan_117, s_M_plan_119, s_M_plan_120, s_M_plan_121, s_M_plan_124, s_M_plan_127, s_M_plan_128, s_M_plan_130, s_M_plan_132, s_M_plan_134, s_M_plan_137, s_M_plan_139, s_M_plan_141, s_M_plan_142, s_M_plan_144, s_M_plan_147, s_M_plan_148, s_M_plan_150, s_M_plan_152, s_M_plan_154, s_M_plan_157, s_M_plan_158, s_M_plan_161, s_M_plan_163, s_M_plan_164, s_M_plan_167, s_M_plan_169, s_M_plan_170, s_M_plan_171, s_M_plan_174, s_M_plan_177, s_M_plan_180, s_M_plan_183, s_M_plan_186, s_M_plan_189, s_M_plan_191, s_M_plan_192, le_T, lt_T, le_F, lt_F, Int.toNat_natCast, cat_n, cat_i, cat_r, cat_l, Nat.ble_eq, Nat.reduceAdd, Nat.reduceLeDiff, true_and, and_true, true_implies, false_implies, not_true_eq_false, not_false_eq_true, implies_true]
    exact key⟩
  rw [e2, ← hd2] at la
  have e1 : Unit → wr (Int.tdiv ((2 * C : Nat) : Int) 2) = (C : Int) := fun _ => by
    have e1 : Int.tdiv ((2 * C : Nat) : Int) 2 = (C : Int) := by
      show ((2 * C / 2 : Nat) : Int) = (C : Int)
      omega
    rw [e1, wr_of (by omega)]
  clear h fM f3 f4 hM hE hO hD hP h273 f1 e2 q2 q3 q4 f274 key
  simp (disch := omega) only [s_M_plan_0, s_M_plan_1, s_M_plan_2, s_M_plan_3, s_M_plan_4, s_M_plan_7, s_M_plan_13, s_M_plan_14, s_M_plan_15, s_M_plan_18, s_M_plan_19, s_M_plan_20, s_M_plan_21, s_M_plan_22, s_M_plan_24, s_M_plan_25, s_M_plan_27, s_M_plan_28, s_M_plan_29, s_M_plan_32, s_M_plan_33, s_M_plan_34, s_M_plan_38, s_M_plan_40, s_M_plan_41, s_M_plan_43, s_M_plan_45, s_M_plan_46, s_M_plan_49, s_M_plan_51, s_M_plan_53, s_M_plan_54, s_M_plan_56, s_M_plan_57, s_M_plan_59, s_M_plan_61, s_M_plan_63, s_M_plan_66, s_M_plan_68, s_M_plan_70, s_M_plan_72, s_M_plan_73, s_M_plan_74, s_M_plan_76, s_M_plan_78, s_M_plan_81, s_M_plan_82, s_M_plan_85, s_M_plan_87, s_M_plan_89, s_M_plan_91, s_M_plan_92, s_M_plan_93, s_M_plan_95, s_M_plan_97, s_M_plan_98, s_M_plan_100, s_M_plan_103, s_M_plan_106, s_M_plan_107, s_M_plan_109, s_M_plan_112, s_M_plan_115, s_M_plan_116, s_M_plan_117, s_M_plan_119, s_M_plan_120, s_M_plan_121, s_M_plan_124, s_M_plan_127, s_M_plan_128, s_M_plan_130, s_M_plan_132, s_M_plan_134, s_M_plan_137, s_M_plan_139, s_M_plan_141, s_M_plan_142, s_M_plan_144, s_M_plan_147, s_M_plan_148, s_M_plan_150, s_M_plan_152, s_M_plan_154, s_M_plan_157, s_M_plan_158, s_M_plan_161, s_M_plan_163, s_M_plan_164, s_M_plan_167, s_M_plan_169, s_M_plan_170, s_M_plan_171, s_M_plan_174, s_M_plan_177, s_M_plan_180, s_M_plan_183, s_M_plan_186, s_M_plan_189, s_M_plan_191, s_M_plan_192, k_1, n_1, k_241, r_241_0, r_241_2, r_241_4, r_241_5, r_241_6, r_241_7, r_241_9, r_241_10, r_241_11, r_241_12, r_241_14, r_241_15, r_241_16, r_241_19, r_241_20, r_241_22, r_241_23, r_241_24, r_241_25, r_241_27, r_241_28, r_241_29, r_241_30, r_241_31, r_241_33, r_241_34, r_241_37, r_241_38, r_241_39, r_241_40, r_241_41, r_241_42, r_241_43, r_241_44, r_241_49, r_241_50, r_241_54, k_242, n_242, k_243, n_243, k_244, n_244, k_245, n_245, k_246, n_246, k_247, n_247, k_248, n_248, k_249, n_249, k_250, n_250, k_251, n_251, k_252, n_252, k_253, n_253, k_254, n_254, k_255, n_255, k_256, n_256, k_257, n_257, k_258, n_258, k_259, n_259, k_260, n_260, k_261, n_261, k_262, n_262, k_263, n_263, k_264, n_264, k_265, n_265, k_266, n_266, k_267, n_267, k_268, n_268, k_269, n_269, k_270, n_270, k_271, n_271, k_272, n_272, k_273, n_273, k_274, n_274, k_275, n_275, k_276, n_276, k_277, n_277, k_278, n_278, ld20, hip, h272, e1 (), le_T, lt_T, le_F, lt_F, Int.toNat_natCast, cat_n, cat_i, cat_r, cat_l, Nat.ble_eq, Nat.reduceAdd, Nat.reduceLeDiff, true_and, and_true, true_implies, false_implies, not_true_eq_false, not_false_eq_true, implies_true]
  clear hip e1
  first | exact la | grind
end
