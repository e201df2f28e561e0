/-! the reference's playing of one row (expanded by gen18.py) -/
theorem ub_1 : ∀ s : Nat, s < 32 → ∀ c : Nat, c < 5 → (Int32.ofInt ((Int32.ofInt (s : Int) >>> (Int32.ofInt (c : Int) &&& 31)).toInt) &&& Int32.ofInt 1).toInt = if s.testBit c = true then 1 else 0 := by decide +kernel
theorem ub_2 : ∀ s : Nat, s < 32 → ∀ c : Nat, c < 5 → (Int32.ofInt (s : Int) ||| Int32.ofInt ((Int32.ofInt 1 <<< (Int32.ofInt (c : Int) &&& 31)).toInt)).toInt = ((s ||| 2 ^ c : Nat) : Int) ∧ (s ||| 2 ^ c) < 32 ∧ ∀ q : Nat, q < 5 → (s ||| 2 ^ c).testBit q = (s.testBit q || decide (q = c)) := by decide +kernel
theorem take_sN {r : List Nat} {k : Nat} (hk : k < r.length) : r.take (k + 1) = r.take k ++ [r.getD k 0] := by
  have e : r.getD k 0 = r[k] := by
    rw [List.getD_eq_getElem?_getD, List.getElem?_eq_getElem hk]
    rfl
  rw [e]
  exact (List.take_append_getElem hk).symm
theorem gDn_m {r : List Nat} {k : Nat} (hk : k < r.length) : r.getD k 0 ∈ r := mem_gD.mpr ⟨k, hk, rfl⟩
theorem tmN {a b : Nat} : (a : Int).tmod (b : Int) = ((a % b : Nat) : Int) := rfl
theorem tdN {a b : Nat} : (a : Int).tdiv (b : Int) = ((a / b : Nat) : Int) := rfl
section
variable {L k : Nat} {e d : Dat} {P : Row} {R : RT}
set_option maxHeartbeats 400000 in
theorem c_M_areUnlike {r : List Nat} (h275 : ∀ i, i < r.length → d 275 i = ((r.getD i 0 : Nat) : Int)) (hl : r.length ≤ 4) (hr : ∀ c, c ∈ r → c < 5) : Cl (k + 1) 96 [vR 241, vI ((r.length : Nat) : Int)] (SH L) d R ↔ R (vI (if r.Nodup then 1 else 0)) (SH L) d := by
  refine det_iff (fun R h => ?_)
  refine Cl_succ rfl ?_
  show Go k 96 R 0 [vR 241, vI ((r.length : Nat) : Int), vU, vU] [] (SH L) d
  have key : ∀ s : Nat, s < 32 → (∀ c, c < 5 → s.testBit c = decide (c ∈ r.take 0)) → Go k 96 R 4 [vR 241, vI ((r.length : Nat) : Int), vI (s : Int), vI ((0 : Nat) : Int)] [] (SH L) d := by
    refine loop_up (G := fun i (_ : Unit) => ∀ s : Nat, s < 32 → (∀ c, c < 5 → s.testBit c = decide (c ∈ r.take i)) → Go k 96 R 4 [vR 241, vI ((r.length : Nat) : Int), vI (s : Int), vI (i : Int)] [] (SH L) d) (f := fun _ u => u) (s := ()) (fun i _ => (r.take i).Nodup) r.length (fun i hi _ hI hG s hs hb => ?_) (by rw [List.take_zero]; exact List.nodup_nil) (fun hI s hs hb => ?_)
    · have x := h275 i hi
      have c5 := hr _ (gDn_m hi)
      have b1 := ub_1 s hs _ c5
      obtain ⟨b2, b3, b4⟩ := ub_2 s hs _ c5
      have tk := take_sN hi
      have hbc := hb _ c5
      have hlc : (i : Int) < ((r.length : Nat) : Int) := by omega
      have hlc2 : ((r.length : Nat) : Int) ≤ 4 := by omega
      by_cases z : r.getD i 0 ∈ r.take i
      · rw [if_pos (by rw [hbc]; exact decide_eq_true z)] at b1
        have nd : ¬ r.Nodup := fun y => by
          have y2 : (r.take (i + 1)).Nodup := List.Nodup.sublist (List.take_sublist _ _) y
          rw [tk, List.nodup_append] at y2
          exact y2.2.2 _ z _ (by simp) rfl
        rw [if_neg nd] at h
        have b1 := fun (_ : Unit) => b1
        clear hG hI h275 hb b2 b3 b4 tk hbc z nd hr hi hl
        generalize r.getD i 0 = c at *
        generalize ((r.length : Nat) : Int) = l at *
        rw [s_M_areUnlike_4]
        simp (disch := omega) only [s_M_areUnlike_0, s_M_areUnlike_1, s_M_areUnlike_2, s_M_areUnlike_3, s_M_areUnlike_5, s_M_areUnlike_6, s_M_areUnlike_9, s_M_areUnlike_10, s_M_areUnlike_11, s_M_areUnlike_14, s_M_areUnlike_15, s_M_areUnlike_16, s_M_areUnlike_17, s_M_areUnlike_18, s_M_areUnlike_19, s_M_areUnlike_20, s_M_areUnlike_23, s_M_areUnlike_24, s_M_areUnlike_26, s_M_areUnlike_27, s_M_areUnlike_28, s_M_areUnlike_31, s_M_areUnlike_32, s_M_areUnlike_33, s_M_areUnlike_34, s_M_areUnlike_35, s_M_areUnlike_36, s_M_areUnlike_39, s_M_areUnlike_43, k_1, n_1, k_241, r_241_0, r_241_2, r_241_4, r_241_5, r_241_6, r_241_7, r_241_9, r_241_10, r_241_11, r_241_12, r_241_14, r_241_15, r_241_16, r_241_19, r_241_20, r_241_22, r_241_23, r_241_24, r_241_25, r_241_27, r_241_28, r_241_29, r_241_30, r_241_31, r_241_33, r_241_34, r_241_37, r_241_38, r_241_39, r_241_40, r_241_41, r_241_42, r_241_43, r_241_44, r_241_49, r_241_50, r_241_54, k_242, n_242, k_243, n_243, k_244, n_244, k_245, n_245, k_246, n_246, k_247, n_247, k_248, n_248, k_249, n_249, k_250, n_250, k_251, n_251, k_252, n_252, k_253, n_253, k_254, n_254, k_255, n_255, k_256, n_256, k_257, n_257, k_258, n_258, k_259, n_259, k_260, n_260, k_261, n_261, k_262, n_262, k_263, n_263, k_264, n_264, k_265, n_265, k_266, n_266, k_267, n_267, k_268, n_268, k_269, n_269, k_270, n_270, k_271, n_271, k_272, n_272, k_273, n_273, k_274, n_274, k_275, n_275, k_276, n_276, k_277, n_277, k_278, n_278, ld20, x, b1 (), le_T, lt_T, le_F, lt_F, Int.toNat_natCast, cat_n, cat_i, cat_r, cat_l, Nat.ble_eq, Nat.reduceAdd, Nat.reduceLeDiff, true_and, and_true, true_implies, false_implies, not_true_eq_false, not_false_eq_true, implies_true]
        clear x b1
        grind
      · rw [if_neg (by rw [hbc]; simpa using z)] at b1
        have hG := hG (by
          rw [tk, List.nodup_append]
          refine ⟨hI, by simp, fun a ha b hb2 => ?_⟩
          have : b = r.getD i 0 := by simpa using hb2
          rw [this]
          exact fun y => z (y ▸ ha)) _ b3 (fun q hq => by
          rw [b4 q hq, hb q hq, tk]
          by_cases y1 : q ∈ r.take i
          · simp [y1]
          · simp [y1])
        have b1 := fun (_ : Unit) => b1
        have b2 := fun (_ : Unit) => b2
        clear h hI h275 hb b3 b4 tk hbc z hr hi hl
        generalize r.getD i 0 = c at *
        generalize hl2 : ((r.length : Nat) : Int) = l at *
        have hi2 : i < 4 := by omega
        clear hl2
        rw [s_M_areUnlike_4]
        simp (disch := omega) only [s_M_areUnlike_0, s_M_areUnlike_1, s_M_areUnlike_2, s_M_areUnlike_3, s_M_areUnlike_5, s_M_areUnlike_6, s_M_areUnlike_9, s_M_areUnlike_10, s_M_areUnlike_11, s_M_areUnlike_14, s_M_areUnlike_15, s_M_areUnlike_16, s_M_areUnlike_17, s_M_areUnlike_18, s_M_areUnlike_19, s_M_areUnlike_20, s_M_areUnlike_24, s_M_areUnlike_25, s_M_areUnlike_26, s_M_areUnlike_27, s_M_areUnlike_28, s_M_areUnlike_31, s_M_areUnlike_32, s_M_areUnlike_33, s_M_areUnlike_34, s_M_areUnlike_35, s_M_areUnlike_36, s_M_areUnlike_39, s_M_areUnlike_43, k_1, n_1, k_241, r_241_0, r_241_2, r_241_4, r_241_5, r_241_6, r_241_7, r_241_9, r_241_10, r_241_11, r_241_12, r_241_14, r_241_15, r_241_16, r_241_19, r_241_20, r_241_22, r_241_23, r_241_24, r_241_25, r_241_27, r_241_28, r_241_29, r_241_30, r_241_31, r_241_33, r_241_34, r_241_37, r_241_38, r_241_39, r_241_40, r_241_41, r_241_42, r_241_43, r_241_44, r_241_49, r_241_50, r_241_54, k_242, n_242, k_243, n_243, k_244, n_244, k_245, n_245, k_246, n_246, k_247, n_247, k_248, n_248, k_249, n_249, k_250, n_250, k_251, n_251, k_252, n_252, k_253, n_253, k_254, n_254, k_255, n_255, k_256, n_256, k_257, n_257, k_258, n_258, k_259, n_259, k_260, n_260, k_261, n_261, k_262, n_262, k_263, n_263, k_264, n_264, k_265, n_265, k_266, n_266, k_267, n_267, k_268, n_268, k_269, n_269, k_270, n_270, k_271, n_271, k_272, n_272, k_273, n_273, k_274, n_274, k_275, n_275, k_276, n_276, k_277, n_277, k_278, n_278, ld20, x, b1 (), b2 (), wr_inc, le_T, lt_T, le_F, lt_F, Int.toNat_natCast, cat_n, cat_i, cat_r, cat_l, Nat.ble_eq, Nat.reduceAdd, Nat.reduceLeDiff, true_and, and_true, true_implies, false_implies, not_true_eq_false, not_false_eq_true, implies_true]
        clear x b1 b2
        grind
    · rw [List.take_length] at hI
      rw [if_pos hI] at h
      clear hI hb h275 hr
      generalize r.length = l at *
      rw [s_M_areUnlike_4]
      simp (disch := omega) only [s_M_areUnlike_0, s_M_areUnlike_1, s_M_areUnlike_2, s_M_areUnlike_3, s_M_areUnlike_5, s_M_areUnlike_6, s_M_areUnlike_10, s_M_areUnlike_11, s_M_areUnlike_14, s_M_areUnlike_15, s_M_areUnlike_16, s_M_areUnlike_17, s_M_areUnlike_18, s_M_areUnlike_19, s_M_areUnlike_20, s_M_areUnlike_23, s_M_areUnlike_24, s_M_areUnlike_25, s_M_areUnlike_26, s_M_areUnlike_27, s_M_areUnlike_28, s_M_areUnlike_31, s_M_areUnlike_32, s_M_areUnlike_33, s_M_areUnlike_34, s_M_areUnlike_35, s_M_areUnlike_36, s_M_areUnlike_39, s_M_areUnlike_42, s_M_areUnlike_43, le_T, lt_T, le_F, lt_F, Int.toNat_natCast, cat_n, cat_i, cat_r, cat_l, Nat.ble_eq, Nat.reduceAdd, Nat.reduceLeDiff, true_and, and_true, true_implies, false_implies, not_true_eq_false, not_false_eq_true, implies_true]
      grind
  have k0 := key 0 (by decide) (fun c _ => by rw [List.take_zero, Nat.zero_testBit]; simp)
  clear h h275 hr key
  simp only [s_M_areUnlike_0, s_M_areUnlike_1, s_M_areUnlike_2, s_M_areUnlike_3, s_M_areUnlike_5, s_M_areUnlike_6, s_M_areUnlike_9, s_M_areUnlike_10, s_M_areUnlike_11, s_M_areUnlike_14, s_M_areUnlike_15, s_M_areUnlike_16, s_M_areUnlike_17, s_M_areUnlike_18, s_M_areUnlike_19, s_M_areUnlike_20, s_M_areUnlike_23, s_M_areUnlike_24, s_M_areUnlike_25, s_M_areUnlike_26, s_M_areUnlike_27, s_M_areUnlike_28, s_M_areUnlike_31, s_M_areUnlike_32, s_M_areUnlike_33, s_M_areUnlike_34, s_M_areUnlike_35, s_M_areUnlike_36, s_M_areUnlike_39, s_M_areUnlike_42, s_M_areUnlike_43]
  exact k0
theorem mg_v {D W : Row} {g : Nat} {x : List Nat} {f0 : Int} {t : Nat} {Q : Row} : mgS e D W g x f0 t (some Q) = (if t % g = 0 ∧ t / g < x.length then tryS e Q (D (x.getD (t / g) 0)) (W (x.getD (t / g) 0)) else some Q).bind (fun Q1 => if minS e Q1 224 = f0 then some (minS e Q1) else none) := rfl
theorem wg_9 {u c : Nat} (hu : u < 4) (hc : c < 5) : wr (wr (40 * (u : Int)) + wr (2 * (c : Int))) = ((40 * u + 2 * c : Nat) : Int) := by
  rw [wr_of (x := 40 * (u : Int)) (by omega), wr_of (x := 2 * (c : Int)) (by omega), wr_of (by omega)]
  omega
set_option maxHeartbeats 400000 in
theorem c_M_growsBy {u C g n : Nat} {r : List Nat} {D W y0 : Row} {x0 : Row} (hM : FM d e) (hE : WE e) (hO : OM e) (hD : ∀ c, 0 ≤ D c ∧ D c ≤ 5) (hP : PO e P n) (hm : 0 ≤ P 285) (hg : 1 ≤ g ∧ g ≤ 10) (hn : n ≤ 40) (hu : u < 4) (hr4 : r.length ≤ 4) (hC : C ≤ 5) (hrC : ∀ c, c ∈ r → c < C) (h275 : ∀ i, i < r.length → d 275 i = ((r.getD i 0 : Nat) : Int)) (h273 : ∀ c, c < C → d 273 (40 * u + 2 * c) = D c ∧ d 273 (40 * u + 2 * c + 1) = W c) (h274 : d 274 = cutR 2102 P y0) (hR : ∀ x, R (vI (valS e D W g n P r)) (SH L) (rset (rset d 278 x) 242 P)) : Cl (k + 10) 97 [vR 241, vI (u : Int), vI ((r.length : Nat) : Int), vI (g : Int), vI (n : Int)] (SH L) (rset (rset d 278 x0) 242 P) R := by
  have hM2 := fun x => FM_278 (x := x) hM
  refine Cl_succ rfl ?_
  show Go (k + 9) 97 R 0 [vR 241, vI (u : Int), vI ((r.length : Nat) : Int), vI (g : Int), vI (n : Int), vU, vU, vU, vU, vU] [] (SH L) (rset (rset d 278 x0) 242 P)
  -- the end
  have fin : ∀ (x Q : Row) (v : Int) (a5 a6 a7 a8 a9 : V), HF P Q → v = valS e D W g n P r → Go (k + 9) 97 R 171 [vR 241, vI (u : Int), vI ((r.length : Nat) : Int), vI (g : Int), vI (n : Int), a5, a6, a7, a8, a9] [vI v] (SH L) (rset (rset d 278 x) 242 Q) := by
    intro x Q v a5 a6 a7 a8 a9 hf hv
    have hR := hR x
    rw [← hv] at hR
    have e1 : rset (rset d 278 x) 274 (cutR 2102 P y0) = rset d 278 x := by
      rw [← h274, show d 274 = rset d 278 x 274 by rw [rs_ne (by decide)]]
      exact rs_self
    have e2 : cutR 2102 (cutR 2102 P y0) Q = P := by
      funext i
      unfold cutR
      by_cases c : i < 2102
      · rw [if_pos c, if_pos c]
      · rw [if_neg c]
        exact hf i (by omega)
    have l1 := c_M_lays1 (k := k + 8) (L := L) (d := rset d 278 x) (x := cutR 2102 P y0) (P := Q) (R := fun _ sh' d' => sh' = SH L ∧ Go (k + 9) 97 R 178 [vR 241, vI (u : Int), vI ((r.length : Nat) : Int), vI (g : Int), vI (n : Int), a5, a6, a7, vI v, a9] [] (SH L) d') ⟨rfl, by
      rw [e1, e2, s_M_growsBy_178, s_M_growsBy_180]
      exact ⟨trivial, hR⟩⟩
    rw [e1] at l1
    clear hR hM2 hE hO hD hP h275 h273 hrC hM e1 e2
    simp only [s_M_growsBy_1, s_M_growsBy_4, s_M_growsBy_6, s_M_growsBy_7, s_M_growsBy_10, s_M_growsBy_13, s_M_growsBy_14, s_M_growsBy_16, s_M_growsBy_17, s_M_growsBy_19, s_M_growsBy_20, s_M_growsBy_24, s_M_growsBy_26, s_M_growsBy_29, s_M_growsBy_31, s_M_growsBy_34, s_M_growsBy_36, s_M_growsBy_37, s_M_growsBy_38, s_M_growsBy_41, s_M_growsBy_43, s_M_growsBy_44, s_M_growsBy_45, s_M_growsBy_46, s_M_growsBy_49, s_M_growsBy_51, s_M_growsBy_52, s_M_growsBy_53, s_M_growsBy_54, s_M_growsBy_55, s_M_growsBy_58, s_M_growsBy_60, s_M_growsBy_61, s_M_growsBy_62, s_M_growsBy_63, s_M_growsBy_64, s_M_growsBy_65, s_M_growsBy_67, s_M_growsBy_68, s_M_growsBy_69, s_M_growsBy_72, s_M_growsBy_74, s_M_growsBy_75, s_M_growsBy_76, s_M_growsBy_79, s_M_growsBy_81, s_M_growsBy_82, s_M_growsBy_83, s_M_growsBy_84, s_M_growsBy_87, s_M_growsBy_90, s_M_growsBy_91, s_M_growsBy_92, s_M_growsBy_95, s_M_growsBy_97, s_M_growsBy_98, s_M_growsBy_99, s_M_growsBy_102, s_M_growsBy_104, s_M_growsBy_105, s_M_growsBy_106, s_M_growsBy_107, s_M_growsBy_110, s_M_growsBy_113, s_M_growsBy_114, s_M_growsBy_117, s_M_growsBy_118, s_M_growsBy_120, s_M_growsBy_122, s_M_growsBy_125, s_M_growsBy_126, s_M_growsBy_129, s_M_growsBy_130, s_M_growsBy_133, s_M_growsBy_136, s_M_growsBy_137, s_M_growsBy_139, s_M_growsBy_142, s_M_growsBy_143, s_M_growsBy_146, s_M_growsBy_147, s_M_growsBy_149, s_M_growsBy_152, s_M_growsBy_155, s_M_growsBy_157, s_M_growsBy_160, s_M_growsBy_161, s_M_growsBy_164, s_M_growsBy_166, s_M_growsBy_167, s_M_growsBy_170, s_M_growsBy_171, s_M_growsBy_173, s_M_growsBy_174, s_M_growsBy_175, s_M_growsBy_180, k_241]
    first | exact l1 | grind
  have none_ : ∀ (x Q : Row) (t : Nat) (a9 : V), t ≤ n → HF P Q → iterN (mgS e D W g r (P 224)) t (some P) = none → Go (k + 9) 97 R 22 [vR 241, vI (u : Int), vI ((r.length : Nat) : Int), vI (g : Int), vI (n : Int), vI (worthW e P), vI (P 224), vI 0, vI (t : Int), a9] [] (SH L) (rset (rset d 278 x) 242 Q) := by
    intro x Q t a9 ht hf hno
    have no := mg_no hno (n - t)
    rw [show t + (n - t) = n by omega] at no
    have fv := fin x Q (-1) (vI (worthW e P)) (vI (P 224)) (vI 0) (vI (t : Int)) a9 hf (by unfold valS; rw [no])
    clear fin hR hM2 hE hO hD hP h275 h273 hrC hM hno no hf
    generalize worthW e P = w0 at *
    rw [s_M_growsBy_22]
    simp only [s_M_growsBy_1, s_M_growsBy_4, s_M_growsBy_6, s_M_growsBy_7, s_M_growsBy_10, s_M_growsBy_13, s_M_growsBy_14, s_M_growsBy_16, s_M_growsBy_17, s_M_growsBy_19, s_M_growsBy_20, s_M_growsBy_24, s_M_growsBy_26, s_M_growsBy_29, s_M_growsBy_31, s_M_growsBy_36, s_M_growsBy_37, s_M_growsBy_38, s_M_growsBy_41, s_M_growsBy_43, s_M_growsBy_44, s_M_growsBy_45, s_M_growsBy_46, s_M_growsBy_49, s_M_growsBy_51, s_M_growsBy_52, s_M_growsBy_53, s_M_growsBy_54, s_M_growsBy_55, s_M_growsBy_58, s_M_growsBy_60, s_M_growsBy_61, s_M_growsBy_62, s_M_growsBy_63, s_M_growsBy_64, s_M_growsBy_65, s_M_growsBy_67, s_M_growsBy_68, s_M_growsBy_69, s_M_growsBy_72, s_M_growsBy_74, s_M_growsBy_75, s_M_growsBy_76, s_M_growsBy_79, s_M_growsBy_81, s_M_growsBy_82, s_M_growsBy_83, s_M_growsBy_84, s_M_growsBy_87, s_M_growsBy_90, s_M_growsBy_91, s_M_growsBy_92, s_M_growsBy_95, s_M_growsBy_97, s_M_growsBy_98, s_M_growsBy_99, s_M_growsBy_102, s_M_growsBy_104, s_M_growsBy_105, s_M_growsBy_106, s_M_growsBy_107, s_M_growsBy_110, s_M_growsBy_113, s_M_growsBy_114, s_M_growsBy_117, s_M_growsBy_118, s_M_growsBy_120, s_M_growsBy_122, s_M_growsBy_125, s_M_growsBy_126, s_M_growsBy_129, s_M_growsBy_130, s_M_growsBy_133, s_M_growsBy_136, s_M_growsBy_137, s_M_growsBy_139, s_M_growsBy_142, s_M_growsBy_143, s_M_growsBy_146, s_M_growsBy_147, s_M_growsBy_149, s_M_growsBy_152, s_M_growsBy_155, s_M_growsBy_157, s_M_growsBy_161, s_M_growsBy_164, s_M_growsBy_166, s_M_growsBy_167, s_M_growsBy_170, s_M_growsBy_173, s_M_growsBy_174, s_M_growsBy_175, s_M_growsBy_178, s_M_growsBy_180]
    grind
  have key : ∀ (x : Row) (a9 : V) (Q : Row), some P = some Q → HF P Q → PO e Q n → Q 224 = P 224 → Q 285 = P 285 + ((0 : Nat) : Int) → Go (k + 9) 97 R 22 [vR 241, vI (u : Int), vI ((r.length : Nat) : Int), vI (g : Int), vI (n : Int), vI (worthW e P), vI (P 224), vI 1, vI ((0 : Nat) : Int), a9] [] (SH L) (rset (rset d 278 x) 242 Q) := by
    refine loop_up (G := fun t (o : Option Row) => ∀ (x : Row) (a9 : V) (Q : Row), o = some Q → HF P Q → PO e Q (n - t) → Q 224 = P 224 → Q 285 = P 285 + (t : Int) → Go (k + 9) 97 R 22 [vR 241, vI (u : Int), vI ((r.length : Nat) : Int), vI (g : Int), vI (n : Int), vI (worthW e P), vI (P 224), vI 1, vI (t : Int), a9] [] (SH L) (rset (rset d 278 x) 242 Q)) (f := mgS e D W g r (P 224)) (fun t o => o = iterN (mgS e D W g r (P 224)) t (some P)) n (fun t ht o ho hG x a9 Q hoq hf hp h2 h3 => ?_) rfl (fun ho x a9 Q hoq hf hp h2 h3 => ?_)
    · subst hoq
      have hG := hG (by rw [ho]; rfl)
      have hst : iterN (mgS e D W g r (P 224)) (t + 1) (some P) = mgS e D W g r (P 224) t (some Q) := by
        show mgS e D W g r (P 224) t (iterN (mgS e D W g r (P 224)) t (some P)) = _
        rw [← ho]
      have w1 : Unit → wr ((t : Int) + 1) = ((t + 1 : Nat) : Int) := fun _ => wr_inc (by omega)
      -- a minute passes
      have g120 : ∀ (x : Row) (a9 : V) (Q1 : Row), mgS e D W g r (P 224) t (some Q) = (if minS e Q1 224 = P 224 then some (minS e Q1) else none) → HF P Q1 → PO e Q1 (n - t) → Q1 224 = P 224 → Q1 285 = P 285 + (t : Int) → Go (k + 9) 97 R 120 [vR 241, vI (u : Int), vI ((r.length : Nat) : Int), vI (g : Int), vI (n : Int), vI (worthW e P), vI (P 224), vI 1, vI (t : Int), a9] [] (SH L) (rset (rset d 278 x) 242 Q1) := by
        intro x a9 Q1 hmg f1 p1 q2 q3
        have po := p1
        have mp := mins_P (m := 1) (k := n - (t + 1)) hE (by rw [show 1 + (n - (t + 1)) = n - t by omega]; exact p1)
        have f2 : HF P (minS e Q1) := HF_min hE f1
        have mi := c_M_minute (k := k + 2) (L := L) (d := d) (x0 := x) (P := Q1) (R := fun _ sh' d' => sh' = SH L ∧ Go (k + 9) 97 R 129 [vR 241, vI (u : Int), vI ((r.length : Nat) : Int), vI (g : Int), vI (n : Int), vI (worthW e P), vI (P 224), vI 1, vI (t : Int), a9] [] (SH L) d') hM hE hO po.1.1 po.1.2 (by have := po.2.1; omega) (by have := po.2.2; omega) (fun x => ⟨rfl, by
          by_cases c : minS e Q1 224 = P 224
          · rw [if_pos c] at hmg
            have nt := hG x a9 (minS e Q1) hmg f2 mp.1 c (by
              have := mp.2.1
              have e0 : mins e 1 Q1 285 = minS e Q1 285 := rfl
              rw [e0] at this
              omega)
            clear fin none_ hR hM2 hE hO hD hP h275 h273 hrC hM hst hG mp f2 f1 p1 po hmg ho
            generalize worthW e P = w0 at *
            simp (disch := omega) only [s_M_growsBy_1, s_M_growsBy_4, s_M_growsBy_6, s_M_growsBy_7, s_M_growsBy_10, s_M_growsBy_13, s_M_growsBy_14, s_M_growsBy_16, s_M_growsBy_17, s_M_growsBy_19, s_M_growsBy_20, s_M_growsBy_24, s_M_growsBy_26, s_M_growsBy_29, s_M_growsBy_31, s_M_growsBy_34, s_M_growsBy_36, s_M_growsBy_37, s_M_growsBy_38, s_M_growsBy_41, s_M_growsBy_43, s_M_growsBy_44, s_M_growsBy_45, s_M_growsBy_46, s_M_growsBy_49, s_M_growsBy_51, s_M_growsBy_52, s_M_growsBy_53, s_M_growsBy_54, s_M_growsBy_55, s_M_growsBy_58, s_M_growsBy_60, s_M_growsBy_61, s_M_growsBy_62, s_M_growsBy_63, s_M_growsBy_64, s_M_growsBy_65, s_M_growsBy_67, s_M_growsBy_68, s_M_growsBy_69, s_M_growsBy_72, s_M_growsBy_74, s_M_growsBy_75, s_M_growsBy_76, s_M_growsBy_79, s_M_growsBy_81, s_M_growsBy_82, s_M_growsBy_83, s_M_growsBy_84, s_M_growsBy_87, s_M_growsBy_90, s_M_growsBy_91, s_M_growsBy_92, s_M_growsBy_95, s_M_growsBy_97, s_M_growsBy_98, s_M_growsBy_99, s_M_growsBy_102, s_M_growsBy_104, s_M_growsBy_105, s_M_growsBy_106, s_M_growsBy_107, s_M_growsBy_110, s_M_growsBy_113, s_M_growsBy_114, s_M_growsBy_117, s_M_growsBy_118, s_M_growsBy_120, s_M_growsBy_122, s_M_growsBy_125, s_M_growsBy_126, s_M_growsBy_129, s_M_growsBy_130, s_M_growsBy_133, s_M_growsBy_136, s_M_growsBy_137, s_M_growsBy_139, s_M_growsBy_142, s_M_growsBy_143, s_M_growsBy_147, s_M_growsBy_149, s_M_growsBy_152, s_M_growsBy_155, s_M_growsBy_157, s_M_growsBy_160, s_M_growsBy_161, s_M_growsBy_164, s_M_growsBy_166, s_M_growsBy_167, s_M_growsBy_170, s_M_growsBy_171, s_M_growsBy_173, s_M_growsBy_174, s_M_growsBy_175, s_M_growsBy_178, s_M_growsBy_180, k_1, n_1, k_241, r_241_0, r_241_2, r_241_4, r_241_5, r_241_6, r_241_7, r_241_9, r_241_10, r_241_11, r_241_12, r_241_14, r_241_15, r_241_16, r_241_19, r_241_20, r_241_22, r_241_23, r_241_24, r_241_25, r_241_27, r_241_28, r_241_29, r_241_30, r_241_31, r_241_33, r_241_34, r_241_37, r_241_38, r_241_39, r_241_40, r_241_41, r_241_42, r_241_43, r_241_44, r_241_49, r_241_50, r_241_54, k_242, n_242, k_243, n_243, k_244, n_244, k_245, n_245, k_246, n_246, k_247, n_247, k_248, n_248, k_249, n_249, k_250, n_250, k_251, n_251, k_252, n_252, k_253, n_253, k_254, n_254, k_255, n_255, k_256, n_256, k_257, n_257, k_258, n_258, k_259, n_259, k_260, n_260, k_261, n_261, k_262, n_262, k_263, n_263, k_264, n_264, k_265, n_265, k_266, n_266, k_267, n_267, k_268, n_268, k_269, n_269, k_270, n_270, k_271, n_271, k_272, n_272, k_273, n_273, k_274, n_274, k_275, n_275, k_276, n_276, k_277, n_277, k_278, n_278, ld20, rs_eq, c, w1 (), Int.reduceToNat, le_T, lt_T, le_F, lt_F, Int.toNat_natCast, cat_n, cat_i, cat_r, cat_l, Nat.ble_eq, Nat.reduceAdd, Nat.reduceLeDiff, true_and, and_true, true_implies, false_implies, not_true_eq_false, not_false_eq_true, implies_true]
            clear w1
            grind
          · rw [if_neg c] at hmg
            have nt := none_ x (minS e Q1) (t + 1) a9 (by omega) f2 (by rw [hst]; exact hmg)
            clear fin none_ hR hM2 hE hO hD hP h275 h273 hrC hM hst hG mp f2 f1 p1 po hmg ho
            generalize worthW e P = w0 at *
            simp (disch := omega) only [s_M_growsBy_1, s_M_growsBy_4, s_M_growsBy_6, s_M_growsBy_7, s_M_growsBy_10, s_M_growsBy_13, s_M_growsBy_14, s_M_growsBy_16, s_M_growsBy_17, s_M_growsBy_19, s_M_growsBy_20, s_M_growsBy_24, s_M_growsBy_26, s_M_growsBy_29, s_M_growsBy_31, s_M_growsBy_34, s_M_growsBy_36, s_M_growsBy_37, s_M_growsBy_38, s_M_growsBy_41, s_M_growsBy_43, s_M_growsBy_44, s_M_growsBy_45, s_M_growsBy_46, s_M_growsBy_49, s_M_growsBy_51, s_M_growsBy_52, s_M_growsBy_53, s_M_growsBy_54, s_M_growsBy_55, s_M_growsBy_58, s_M_growsBy_60, s_M_growsBy_61, s_M_growsBy_62, s_M_growsBy_63, s_M_growsBy_64, s_M_growsBy_65, s_M_growsBy_67, s_M_growsBy_68, s_M_growsBy_69, s_M_growsBy_72, s_M_growsBy_74, s_M_growsBy_75, s_M_growsBy_76, s_M_growsBy_79, s_M_growsBy_81, s_M_growsBy_82, s_M_growsBy_83, s_M_growsBy_84, s_M_growsBy_87, s_M_growsBy_90, s_M_growsBy_91, s_M_growsBy_92, s_M_growsBy_95, s_M_growsBy_97, s_M_growsBy_98, s_M_growsBy_99, s_M_growsBy_102, s_M_growsBy_104, s_M_growsBy_105, s_M_growsBy_106, s_M_growsBy_107, s_M_growsBy_110, s_M_growsBy_113, s_M_growsBy_114, s_M_growsBy_117, s_M_growsBy_118, s_M_growsBy_120, s_M_growsBy_122, s_M_growsBy_125, s_M_growsBy_126, s_M_growsBy_129, s_M_growsBy_130, s_M_growsBy_133, s_M_growsBy_136, s_M_growsBy_137, s_M_growsBy_139, s_M_growsBy_143, s_M_growsBy_146, s_M_growsBy_147, s_M_growsBy_149, s_M_growsBy_152, s_M_growsBy_155, s_M_growsBy_157, s_M_growsBy_160, s_M_growsBy_161, s_M_growsBy_164, s_M_growsBy_166, s_M_growsBy_167, s_M_growsBy_170, s_M_growsBy_171, s_M_growsBy_173, s_M_growsBy_174, s_M_growsBy_175, s_M_growsBy_178, s_M_growsBy_180, k_1, n_1, k_241, r_241_0, r_241_2, r_241_4, r_241_5, r_241_6, r_241_7, r_241_9, r_241_10, r_241_11, r_241_12, r_241_14, r_241_15, r_241_16, r_241_19, r_241_20, r_241_22, r_241_23, r_241_24, r_241_25, r_241_27, r_241_28, r_241_29, r_241_30, r_241_31, r_241_33, r_241_34, r_241_37, r_241_38, r_241_39, r_241_40, r_241_41, r_241_42, r_241_43, r_241_44, r_241_49, r_241_50, r_241_54, k_242, n_242, k_243, n_243, k_244, n_244, k_245, n_245, k_246, n_246, k_247, n_247, k_248, n_248, k_249, n_249, k_250, n_250, k_251, n_251, k_252, n_252, k_253, n_253, k_254, n_254, k_255, n_255, k_256, n_256, k_257, n_257, k_258, n_258, k_259, n_259, k_260, n_260, k_261, n_261, k_262, n_262, k_263, n_263, k_264, n_264, k_265, n_265, k_266, n_266, k_267, n_267, k_268, n_268, k_269, n_269, k_270, n_270, k_271, n_271, k_272, n_272, k_273, n_273, k_274, n_274, k_275, n_275, k_276, n_276, k_277, n_277, k_278, n_278, ld20, rs_eq, c, w1 (), Int.reduceToNat, le_T, lt_T, le_F, lt_F, Int.toNat_natCast, cat_n, cat_i, cat_r, cat_l, Nat.ble_eq, Nat.reduceAdd, Nat.reduceLeDiff, true_and, and_true, true_implies, false_implies, not_true_eq_false, not_false_eq_true, implies_true]
            clear w1
            grind⟩)
        clear fin none_ hR hM2 hE hO hD hP h275 h273 hrC hM hst hG mp f2 f1 p1 po hmg ho
        generalize worthW e P = w0 at *
        simp only [s_M_growsBy_1, s_M_growsBy_4, s_M_growsBy_6, s_M_growsBy_7, s_M_growsBy_10, s_M_growsBy_13, s_M_growsBy_14, s_M_growsBy_16, s_M_growsBy_17, s_M_growsBy_19, s_M_growsBy_20, s_M_growsBy_24, s_M_growsBy_26, s_M_growsBy_29, s_M_growsBy_31, s_M_growsBy_34, s_M_growsBy_36, s_M_growsBy_37, s_M_growsBy_38, s_M_growsBy_41, s_M_growsBy_43, s_M_growsBy_44, s_M_growsBy_45, s_M_growsBy_46, s_M_growsBy_49, s_M_growsBy_51, s_M_growsBy_52, s_M_growsBy_53, s_M_growsBy_54, s_M_growsBy_55, s_M_growsBy_58, s_M_growsBy_60, s_M_growsBy_61, s_M_growsBy_62, s_M_growsBy_63, s_M_growsBy_64, s_M_growsBy_65, s_M_growsBy_67, s_M_growsBy_68, s_M_growsBy_69, s_M_growsBy_72, s_M_growsBy_74, s_M_growsBy_75, s_M_growsBy_76, s_M_growsBy_79, s_M_growsBy_81, s_M_growsBy_82, s_M_growsBy_83, s_M_growsBy_84, s_M_growsBy_87, s_M_growsBy_90, s_M_growsBy_91, s_M_growsBy_92, s_M_growsBy_95, s_M_growsBy_97, s_M_growsBy_98, s_M_growsBy_99, s_M_growsBy_102, s_M_growsBy_104, s_M_growsBy_105, s_M_growsBy_106, s_M_growsBy_107, s_M_growsBy_110, s_M_growsBy_113, s_M_growsBy_114, s_M_growsBy_117, s_M_growsBy_118, s_M_growsBy_120, s_M_growsBy_122, s_M_growsBy_125, s_M_growsBy_126, s_M_growsBy_130, s_M_growsBy_133, s_M_growsBy_136, s_M_growsBy_137, s_M_growsBy_139, s_M_growsBy_142, s_M_growsBy_143, s_M_growsBy_146, s_M_growsBy_147, s_M_growsBy_152, s_M_growsBy_155, s_M_growsBy_157, s_M_growsBy_160, s_M_growsBy_161, s_M_growsBy_164, s_M_growsBy_166, s_M_growsBy_167, s_M_growsBy_170, s_M_growsBy_171, s_M_growsBy_173, s_M_growsBy_174, s_M_growsBy_175, s_M_growsBy_178, s_M_growsBy_180, k_241]
        grind
      rw [mg_v] at g120 hst
      by_cases cd : t % g = 0 ∧ t / g < r.length
      · rw [if_pos cd] at g120 hst
        obtain ⟨q, hq⟩ : ∃ q, r.getD (t / g) 0 = q := ⟨_, rfl⟩
        have x275 := h275 _ cd.2
        rw [hq] at x275 g120 hst
        have qC : q < C := by
          rw [← hq]
          exact hrC _ (gDn_m cd.2)
        obtain ⟨c1, c2⟩ := h273 q qC
        have g90 : Go (k + 9) 97 R 118 [vR 241, vI (u : Int), vI ((r.length : Nat) : Int), vI (g : Int), vI (n : Int), vI (worthW e P), vI (P 224), vI 1, vI (t : Int), vI ((40 * u + 2 * q : Nat) : Int)] [vI 0] (SH L) (rset (rset d 278 x) 242 Q) ∨ ¬ tryS e Q (D q) (W q) = none := by
          by_cases ts : tryS e Q (D q) (W q) = none
          · refine Or.inl ?_
            rw [ts] at hst
            have nt := none_ x Q (t + 1) (vI ((40 * u + 2 * q : Nat) : Int)) (by omega) hf hst
            clear g120 fin none_ hR hM2 hE hO hD hP h275 h273 hrC hM hst hG hp ho hf x275 c1 c2
            generalize worthW e P = w0 at *
            simp only [s_M_growsBy_1, s_M_growsBy_4, s_M_growsBy_6, s_M_growsBy_7, s_M_growsBy_10, s_M_growsBy_13, s_M_growsBy_14, s_M_growsBy_16, s_M_growsBy_17, s_M_growsBy_19, s_M_growsBy_20, s_M_growsBy_24, s_M_growsBy_26, s_M_growsBy_29, s_M_growsBy_31, s_M_growsBy_34, s_M_growsBy_36, s_M_growsBy_37, s_M_growsBy_38, s_M_growsBy_41, s_M_growsBy_43, s_M_growsBy_44, s_M_growsBy_45, s_M_growsBy_46, s_M_growsBy_49, s_M_growsBy_51, s_M_growsBy_52, s_M_growsBy_53, s_M_growsBy_54, s_M_growsBy_55, s_M_growsBy_58, s_M_growsBy_60, s_M_growsBy_61, s_M_growsBy_62, s_M_growsBy_63, s_M_growsBy_64, s_M_growsBy_65, s_M_growsBy_67, s_M_growsBy_68, s_M_growsBy_69, s_M_growsBy_72, s_M_growsBy_74, s_M_growsBy_75, s_M_growsBy_76, s_M_growsBy_79, s_M_growsBy_81, s_M_growsBy_82, s_M_growsBy_83, s_M_growsBy_84, s_M_growsBy_87, s_M_growsBy_90, s_M_growsBy_91, s_M_growsBy_92, s_M_growsBy_95, s_M_growsBy_97, s_M_growsBy_98, s_M_growsBy_99, s_M_growsBy_102, s_M_growsBy_104, s_M_growsBy_105, s_M_growsBy_106, s_M_growsBy_107, s_M_growsBy_110, s_M_growsBy_113, s_M_growsBy_114, s_M_growsBy_117, s_M_growsBy_118, s_M_growsBy_120, s_M_growsBy_122, s_M_growsBy_126, s_M_growsBy_129, s_M_growsBy_130, s_M_growsBy_133, s_M_growsBy_136, s_M_growsBy_137, s_M_growsBy_139, s_M_growsBy_142, s_M_growsBy_143, s_M_growsBy_146, s_M_growsBy_147, s_M_growsBy_149, s_M_growsBy_152, s_M_growsBy_155, s_M_growsBy_157, s_M_growsBy_160, s_M_growsBy_161, s_M_growsBy_164, s_M_growsBy_166, s_M_growsBy_167, s_M_growsBy_170, s_M_growsBy_171, s_M_growsBy_173, s_M_growsBy_174, s_M_growsBy_175, s_M_growsBy_178, s_M_growsBy_180, w1 ()]
            clear w1
            grind
          · exact Or.inr ts
        have g67 : Go (k + 9) 97 R 67 [vR 241, vI (u : Int), vI ((r.length : Nat) : Int), vI (g : Int), vI (n : Int), vI (worthW e P), vI (P 224), vI 1, vI (t : Int), vI ((40 * u + 2 * q : Nat) : Int)] [] (SH L) (rset (rset d 278 x) 242 Q) := by
          have io := fun (S : RT) => c_M_isOf (k := k + 7) (L := L) (d := rset d 278 x) (P := Q) (R := S) (q := D q) (n := W q) (hM2 x) hE
          have wi : Unit → wr (((40 * u + 2 * q : Nat) : Int) + 1) = ((40 * u + 2 * q + 1 : Nat) : Int) := fun _ => wr_inc (by omega)
          by_cases hh : hasS e (D q) (W q) = true
          · simp only [if_pos hh] at io
            have hhz := hh
            unfold hasS at hhz
            have hhz := of_decide_eq_true hhz
            have ds := fun (S : RT) => c_M_does (k := k + 5) (L := L) (d := rset d 278 x) (P := Q) (R := S) (hM2 x) hE hp.1.1.1 (hD q) hh (fun z1 z2 _ => by
              rw [z1] at hhz z2
              have hz3 : 0 ≤ W q ∧ W q < e 241 3 := hhz
              exact may_w hE hp.1.1.2.1 (by omega) z2)
            by_cases hc : canS e Q (D q) (W q).toNat = true
            · have ts : tryS e Q (D q) (W q) = some (doesS e Q (D q) (W q).toNat) := if_pos ⟨hh, hc⟩
              obtain ⟨t1, t2, t3, t4⟩ := try_P hE (hD q) hp ts
              rw [ts] at g120
              have gg := g120 x (vI ((40 * u + 2 * q : Nat) : Int)) _ rfl (t4 _ hf) t1 (t2.trans h2) (t3.trans h3)
              simp only [hc, if_true] at ds
              clear g90 g120 fin none_ hR hM2 hE hO hD hP h275 h273 hrC hM hst hG hp ho hf x275 hhz w1 ts t1 t2 t3 t4
              generalize worthW e P = w0 at *
              clear hG cd hq ht h2 h3 h274 hm hg hn hr4
              have lz : 40 * u + 2 * q < 159 := by omega
              clear hC hu qC
              generalize 40 * u + 2 * q = z at *
              simp (disch := omega) only [s_M_growsBy_1, s_M_growsBy_4, s_M_growsBy_6, s_M_growsBy_7, s_M_growsBy_10, s_M_growsBy_13, s_M_growsBy_14, s_M_growsBy_16, s_M_growsBy_17, s_M_growsBy_19, s_M_growsBy_20, s_M_growsBy_24, s_M_growsBy_26, s_M_growsBy_29, s_M_growsBy_31, s_M_growsBy_34, s_M_growsBy_36, s_M_growsBy_37, s_M_growsBy_38, s_M_growsBy_41, s_M_growsBy_43, s_M_growsBy_44, s_M_growsBy_45, s_M_growsBy_46, s_M_growsBy_49, s_M_growsBy_51, s_M_growsBy_52, s_M_growsBy_53, s_M_growsBy_54, s_M_growsBy_55, s_M_growsBy_58, s_M_growsBy_60, s_M_growsBy_61, s_M_growsBy_62, s_M_growsBy_63, s_M_growsBy_64, s_M_growsBy_65, s_M_growsBy_67, s_M_growsBy_68, s_M_growsBy_69, s_M_growsBy_72, s_M_growsBy_74, s_M_growsBy_75, s_M_growsBy_76, s_M_growsBy_79, s_M_growsBy_81, s_M_growsBy_82, s_M_growsBy_83, s_M_growsBy_84, s_M_growsBy_87, s_M_growsBy_90, s_M_growsBy_91, s_M_growsBy_92, s_M_growsBy_95, s_M_growsBy_97, s_M_growsBy_98, s_M_growsBy_99, s_M_growsBy_102, s_M_growsBy_104, s_M_growsBy_105, s_M_growsBy_106, s_M_growsBy_107, s_M_growsBy_110, s_M_growsBy_113, s_M_growsBy_114, s_M_growsBy_118, s_M_growsBy_122, s_M_growsBy_125, s_M_growsBy_126, s_M_growsBy_129, s_M_growsBy_130, s_M_growsBy_133, s_M_growsBy_136, s_M_growsBy_137, s_M_growsBy_139, s_M_growsBy_142, s_M_growsBy_143, s_M_growsBy_146, s_M_growsBy_147, s_M_growsBy_149, s_M_growsBy_152, s_M_growsBy_155, s_M_growsBy_157, s_M_growsBy_160, s_M_growsBy_161, s_M_growsBy_164, s_M_growsBy_166, s_M_growsBy_167, s_M_growsBy_170, s_M_growsBy_171, s_M_growsBy_173, s_M_growsBy_174, s_M_growsBy_175, s_M_growsBy_178, s_M_growsBy_180, k_1, n_1, k_241, r_241_0, r_241_2, r_241_4, r_241_5, r_241_6, r_241_7, r_241_9, r_241_10, r_241_11, r_241_12, r_241_14, r_241_15, r_241_16, r_241_19, r_241_20, r_241_22, r_241_23, r_241_24, r_241_25, r_241_27, r_241_28, r_241_29, r_241_30, r_241_31, r_241_33, r_241_34, r_241_37, r_241_38, r_241_39, r_241_40, r_241_41, r_241_42, r_241_43, r_241_44, r_241_49, r_241_50, r_241_54, k_242, n_242, k_243, n_243, k_244, n_244, k_245, n_245, k_246, n_246, k_247, n_247, k_248, n_248, k_249, n_249, k_250, n_250, k_251, n_251, k_252, n_252, k_253, n_253, k_254, n_254, k_255, n_255, k_256, n_256, k_257, n_257, k_258, n_258, k_259, n_259, k_260, n_260, k_261, n_261, k_262, n_262, k_263, n_263, k_264, n_264, k_265, n_265, k_266, n_266, k_267, n_267, k_268, n_268, k_269, n_269, k_270, n_270, k_271, n_271, k_272, n_272, k_273, n_273, k_274, n_274, k_275, n_275, k_276, n_276, k_277, n_277, k_278, n_278, ld20, rs_ne, c1, c2, io, ds, wi (), le_T, lt_T, le_F, lt_F, Int.toNat_natCast, cat_n, cat_i, cat_r, cat_l, Nat.ble_eq, Nat.reduceAdd, Nat.reduceLeDiff, true_and, and_true, true_implies, false_implies, not_true_eq_false, not_false_eq_true, implies_true]
              clear io ds wi c1 c2
              grind
            · have ts : tryS e Q (D q) (W q) = none := if_neg (fun z => hc z.2)
              have gg := g90.resolve_right (fun z => z ts)
              simp only [hc, if_false] at ds
              clear g90 g120 fin none_ hR hM2 hE hO hD hP h275 h273 hrC hM hst hG hp ho hf x275 hhz w1 ts
              generalize worthW e P = w0 at *
              clear hG cd hq ht h2 h3 h274 hm hg hn hr4
              have lz : 40 * u + 2 * q < 159 := by omega
              clear hC hu qC
              generalize 40 * u + 2 * q = z at *
              simp (disch := omega) only [s_M_growsBy_1, s_M_growsBy_4, s_M_growsBy_6, s_M_growsBy_7, s_M_growsBy_10, s_M_growsBy_13, s_M_growsBy_14, s_M_growsBy_16, s_M_growsBy_17, s_M_growsBy_19, s_M_growsBy_20, s_M_growsBy_24, s_M_growsBy_26, s_M_growsBy_29, s_M_growsBy_31, s_M_growsBy_34, s_M_growsBy_36, s_M_growsBy_37, s_M_growsBy_38, s_M_growsBy_41, s_M_growsBy_43, s_M_growsBy_44, s_M_growsBy_45, s_M_growsBy_46, s_M_growsBy_49, s_M_growsBy_51, s_M_growsBy_52, s_M_growsBy_53, s_M_growsBy_54, s_M_growsBy_55, s_M_growsBy_58, s_M_growsBy_60, s_M_growsBy_61, s_M_growsBy_62, s_M_growsBy_63, s_M_growsBy_64, s_M_growsBy_65, s_M_growsBy_67, s_M_growsBy_68, s_M_growsBy_69, s_M_growsBy_72, s_M_growsBy_74, s_M_growsBy_75, s_M_growsBy_76, s_M_growsBy_79, s_M_growsBy_81, s_M_growsBy_82, s_M_growsBy_83, s_M_growsBy_84, s_M_growsBy_87, s_M_growsBy_90, s_M_growsBy_91, s_M_growsBy_92, s_M_growsBy_95, s_M_growsBy_97, s_M_growsBy_98, s_M_growsBy_99, s_M_growsBy_102, s_M_growsBy_104, s_M_growsBy_105, s_M_growsBy_106, s_M_growsBy_107, s_M_growsBy_110, s_M_growsBy_114, s_M_growsBy_117, s_M_growsBy_120, s_M_growsBy_122, s_M_growsBy_125, s_M_growsBy_126, s_M_growsBy_129, s_M_growsBy_130, s_M_growsBy_133, s_M_growsBy_136, s_M_growsBy_137, s_M_growsBy_139, s_M_growsBy_142, s_M_growsBy_143, s_M_growsBy_146, s_M_growsBy_147, s_M_growsBy_149, s_M_growsBy_152, s_M_growsBy_155, s_M_growsBy_157, s_M_growsBy_160, s_M_growsBy_161, s_M_growsBy_164, s_M_growsBy_166, s_M_growsBy_167, s_M_growsBy_170, s_M_growsBy_171, s_M_growsBy_173, s_M_growsBy_174, s_M_growsBy_175, s_M_growsBy_178, s_M_growsBy_180, k_1, n_1, k_241, r_241_0, r_241_2, r_241_4, r_241_5, r_241_6, r_241_7, r_241_9, r_241_10, r_241_11, r_241_12, r_241_14, r_241_15, r_241_16, r_241_19, r_241_20, r_241_22, r_241_23, r_241_24, r_241_25, r_241_27, r_241_28, r_241_29, r_241_30, r_241_31, r_241_33, r_241_34, r_241_37, r_241_38, r_241_39, r_241_40, r_241_41, r_241_42, r_241_43, r_241_44, r_241_49, r_241_50, r_241_54, k_242, n_242, k_243, n_243, k_244, n_244, k_245, n_245, k_246, n_246, k_247, n_247, k_248, n_248, k_249, n_249, k_250, n_250, k_251, n_251, k_252, n_252, k_253, n_253, k_254, n_254, k_255, n_255, k_256, n_256, k_257, n_257, k_258, n_258, k_259, n_259, k_260, n_260, k_261, n_261, k_262, n_262, k_263, n_263, k_264, n_264, k_265, n_265, k_266, n_266, k_267, n_267, k_268, n_268, k_269, n_269, k_270, n_270, k_271, n_271, k_272, n_272, k_273, n_273, k_274, n_274, k_275, n_275, k_276, n_276, k_277, n_277, k_278, n_278, ld20, rs_ne, c1, c2, io, ds, wi (), le_T, lt_T, le_F, lt_F, Int.toNat_natCast, cat_n, cat_i, cat_r, cat_l, Nat.ble_eq, Nat.reduceAdd, Nat.reduceLeDiff, true_and, and_true, true_implies, false_implies, not_true_eq_false, not_false_eq_true, implies_true]
              clear io ds wi c1 c2
              grind
          · have ts : tryS e Q (D q) (W q) = none := if_neg (fun z => hh z.1)
            have gg := g90.resolve_right (fun z => z ts)
            simp only [if_neg hh] at io
            clear g90 g120 fin none_ hR hM2 hE hO hD hP h275 h273 hrC hM hst hG hp ho hf x275 w1 ts
            generalize worthW e P = w0 at *
            clear hG cd hq ht h2 h3 h274 hm hg hn hr4
            have lz : 40 * u + 2 * q < 159 := by omega
            clear hC hu qC
            generalize 40 * u + 2 * q = z at *
            simp (disch := omega) only [s_M_growsBy_1, s_M_growsBy_4, s_M_growsBy_6, s_M_growsBy_7, s_M_growsBy_10, s_M_growsBy_13, s_M_growsBy_14, s_M_growsBy_16, s_M_growsBy_17, s_M_growsBy_19, s_M_growsBy_20, s_M_growsBy_24, s_M_growsBy_26, s_M_growsBy_29, s_M_growsBy_31, s_M_growsBy_34, s_M_growsBy_36, s_M_growsBy_37, s_M_growsBy_38, s_M_growsBy_41, s_M_growsBy_43, s_M_growsBy_44, s_M_growsBy_45, s_M_growsBy_46, s_M_growsBy_49, s_M_growsBy_51, s_M_growsBy_52, s_M_growsBy_53, s_M_growsBy_54, s_M_growsBy_55, s_M_growsBy_58, s_M_growsBy_60, s_M_growsBy_61, s_M_growsBy_62, s_M_growsBy_63, s_M_growsBy_64, s_M_growsBy_65, s_M_growsBy_67, s_M_growsBy_68, s_M_growsBy_69, s_M_growsBy_72, s_M_growsBy_74, s_M_growsBy_75, s_M_growsBy_76, s_M_growsBy_79, s_M_growsBy_81, s_M_growsBy_82, s_M_growsBy_83, s_M_growsBy_84, s_M_growsBy_87, s_M_growsBy_91, s_M_growsBy_92, s_M_growsBy_95, s_M_growsBy_97, s_M_growsBy_98, s_M_growsBy_99, s_M_growsBy_102, s_M_growsBy_104, s_M_growsBy_105, s_M_growsBy_106, s_M_growsBy_107, s_M_growsBy_110, s_M_growsBy_113, s_M_growsBy_114, s_M_growsBy_117, s_M_growsBy_120, s_M_growsBy_122, s_M_growsBy_125, s_M_growsBy_126, s_M_growsBy_129, s_M_growsBy_130, s_M_growsBy_133, s_M_growsBy_136, s_M_growsBy_137, s_M_growsBy_139, s_M_growsBy_142, s_M_growsBy_143, s_M_growsBy_146, s_M_growsBy_147, s_M_growsBy_149, s_M_growsBy_152, s_M_growsBy_155, s_M_growsBy_157, s_M_growsBy_160, s_M_growsBy_161, s_M_growsBy_164, s_M_growsBy_166, s_M_growsBy_167, s_M_growsBy_170, s_M_growsBy_171, s_M_growsBy_173, s_M_growsBy_174, s_M_growsBy_175, s_M_growsBy_178, s_M_growsBy_180, k_1, n_1, k_241, r_241_0, r_241_2, r_241_4, r_241_5, r_241_6, r_241_7, r_241_9, r_241_10, r_241_11, r_241_12, r_241_14, r_241_15, r_241_16, r_241_19, r_241_20, r_241_22, r_241_23, r_241_24, r_241_25, r_241_27, r_241_28, r_241_29, r_241_30, r_241_31, r_241_33, r_241_34, r_241_37, r_241_38, r_241_39, r_241_40, r_241_41, r_241_42, r_241_43, r_241_44, r_241_49, r_241_50, r_241_54, k_242, n_242, k_243, n_243, k_244, n_244, k_245, n_245, k_246, n_246, k_247, n_247, k_248, n_248, k_249, n_249, k_250, n_250, k_251, n_251, k_252, n_252, k_253, n_253, k_254, n_254, k_255, n_255, k_256, n_256, k_257, n_257, k_258, n_258, k_259, n_259, k_260, n_260, k_261, n_261, k_262, n_262, k_263, n_263, k_264, n_264, k_265, n_265, k_266, n_266, k_267, n_267, k_268, n_268, k_269, n_269, k_270, n_270, k_271, n_271, k_272, n_272, k_273, n_273, k_274, n_274, k_275, n_275, k_276, n_276, k_277, n_277, k_278, n_278, ld20, rs_ne, c1, c2, io, wi (), le_T, lt_T, le_F, lt_F, Int.toNat_natCast, cat_n, cat_i, cat_r, cat_l, Nat.ble_eq, Nat.reduceAdd, Nat.reduceLeDiff, true_and, and_true, true_implies, false_implies, not_true_eq_false, not_false_eq_true, implies_true]
            clear io wi c1 c2
            grind
        have tz : t / g < 4 := Nat.lt_of_lt_of_le cd.2 hr4
        have wq : Unit → wr (((t / g : Nat) : Int)) = ((t / g : Nat) : Int) := fun _ => by
          generalize t / g = z at tz ⊢
          exact wr_n (by omega)
        have cm : ((t % g : Nat) : Int) = 0 := by rw [cd.1]; rfl
        have cl : ((t / g : Nat) : Int) < ((r.length : Nat) : Int) := by omega
        have g0 : ¬ (g : Int) = 0 := by omega
        have w9 := fun (_ : Unit) => wg_9 (u := u) (c := q) hu (by omega)
        clear g90 g120 fin none_ hR hM2 hE hO hD hP h275 h273 hrC hM hst hG hp ho hf c1 c2 w1
        generalize worthW e P = w0 at *
        rw [s_M_growsBy_22]
        simp (disch := omega) only [s_M_growsBy_1, s_M_growsBy_4, s_M_growsBy_6, s_M_growsBy_7, s_M_growsBy_10, s_M_growsBy_13, s_M_growsBy_14, s_M_growsBy_16, s_M_growsBy_17, s_M_growsBy_19, s_M_growsBy_20, s_M_growsBy_24, s_M_growsBy_26, s_M_growsBy_29, s_M_growsBy_31, s_M_growsBy_34, s_M_growsBy_36, s_M_growsBy_37, s_M_growsBy_38, s_M_growsBy_41, s_M_growsBy_43, s_M_growsBy_44, s_M_growsBy_45, s_M_growsBy_46, s_M_growsBy_49, s_M_growsBy_51, s_M_growsBy_52, s_M_growsBy_53, s_M_growsBy_54, s_M_growsBy_55, s_M_growsBy_58, s_M_growsBy_60, s_M_growsBy_61, s_M_growsBy_62, s_M_growsBy_63, s_M_growsBy_64, s_M_growsBy_65, s_M_growsBy_68, s_M_growsBy_69, s_M_growsBy_72, s_M_growsBy_74, s_M_growsBy_75, s_M_growsBy_76, s_M_growsBy_79, s_M_growsBy_81, s_M_growsBy_82, s_M_growsBy_83, s_M_growsBy_84, s_M_growsBy_87, s_M_growsBy_90, s_M_growsBy_91, s_M_growsBy_92, s_M_growsBy_95, s_M_growsBy_97, s_M_growsBy_98, s_M_growsBy_99, s_M_growsBy_102, s_M_growsBy_104, s_M_growsBy_105, s_M_growsBy_106, s_M_growsBy_107, s_M_growsBy_110, s_M_growsBy_113, s_M_growsBy_114, s_M_growsBy_117, s_M_growsBy_118, s_M_growsBy_122, s_M_growsBy_125, s_M_growsBy_126, s_M_growsBy_129, s_M_growsBy_130, s_M_growsBy_133, s_M_growsBy_136, s_M_growsBy_137, s_M_growsBy_139, s_M_growsBy_142, s_M_growsBy_143, s_M_growsBy_146, s_M_growsBy_147, s_M_growsBy_149, s_M_growsBy_152, s_M_growsBy_157, s_M_growsBy_160, s_M_growsBy_161, s_M_growsBy_164, s_M_growsBy_166, s_M_growsBy_167, s_M_growsBy_170, s_M_growsBy_171, s_M_growsBy_173, s_M_growsBy_174, s_M_growsBy_175, s_M_growsBy_178, s_M_growsBy_180, k_1, n_1, k_241, r_241_0, r_241_2, r_241_4, r_241_5, r_241_6, r_241_7, r_241_9, r_241_10, r_241_11, r_241_12, r_241_14, r_241_15, r_241_16, r_241_19, r_241_20, r_241_22, r_241_23, r_241_24, r_241_25, r_241_27, r_241_28, r_241_29, r_241_30, r_241_31, r_241_33, r_241_34, r_241_37, r_241_38, r_241_39, r_241_40, r_241_41, r_241_42, r_241_43, r_241_44, r_241_49, r_241_50, r_241_54, k_242, n_242, k_243, n_243, k_244, n_244, k_245, n_245, k_246, n_246, k_247, n_247, k_248, n_248, k_249, n_249, k_250, n_250, k_251, n_251, k_252, n_252, k_253, n_253, k_254, n_254, k_255, n_255, k_256, n_256, k_257, n_257, k_258, n_258, k_259, n_259, k_260, n_260, k_261, n_261, k_262, n_262, k_263, n_263, k_264, n_264, k_265, n_265, k_266, n_266, k_267, n_267, k_268, n_268, k_269, n_269, k_270, n_270, k_271, n_271, k_272, n_272, k_273, n_273, k_274, n_274, k_275, n_275, k_276, n_276, k_277, n_277, k_278, n_278, ld20, rs_ne, tmN, tdN, cm, wq (), w9 (), x275, g0, ne_eq, le_T, lt_T, le_F, lt_F, Int.toNat_natCast, cat_n, cat_i, cat_r, cat_l, Nat.ble_eq, Nat.reduceAdd, Nat.reduceLeDiff, true_and, and_true, true_implies, false_implies, not_true_eq_false, not_false_eq_true, implies_true]
        clear wq w9 x275
        grind
      · rw [if_neg cd] at g120
        have gg := g120 x a9 Q rfl hf hp h2 h3
        have wq : Unit → wr (((t / g : Nat) : Int)) = ((t / g : Nat) : Int) := fun _ => by
          have := Nat.div_le_self t g
          generalize t / g = z at this ⊢
          exact wr_n (by omega)
        have g0 : ¬ (g : Int) = 0 := by omega
        have cdi : ¬ ((((t % g : Nat) : Int) = 0) ∧ ((t / g : Nat) : Int) < ((r.length : Nat) : Int)) := by omega
        clear g120 fin none_ hR hM2 hE hO hD hP h275 h273 hrC hM hst hG hp ho hf w1 cd
        generalize worthW e P = w0 at *
        rw [s_M_growsBy_22]
        simp (disch := omega) only [s_M_growsBy_1, s_M_growsBy_4, s_M_growsBy_6, s_M_growsBy_7, s_M_growsBy_10, s_M_growsBy_13, s_M_growsBy_14, s_M_growsBy_16, s_M_growsBy_17, s_M_growsBy_19, s_M_growsBy_20, s_M_growsBy_24, s_M_growsBy_26, s_M_growsBy_29, s_M_growsBy_31, s_M_growsBy_34, s_M_growsBy_36, s_M_growsBy_37, s_M_growsBy_38, s_M_growsBy_41, s_M_growsBy_43, s_M_growsBy_44, s_M_growsBy_45, s_M_growsBy_46, s_M_growsBy_51, s_M_growsBy_52, s_M_growsBy_53, s_M_growsBy_54, s_M_growsBy_55, s_M_growsBy_58, s_M_growsBy_60, s_M_growsBy_61, s_M_growsBy_62, s_M_growsBy_63, s_M_growsBy_64, s_M_growsBy_65, s_M_growsBy_67, s_M_growsBy_68, s_M_growsBy_69, s_M_growsBy_72, s_M_growsBy_74, s_M_growsBy_75, s_M_growsBy_76, s_M_growsBy_79, s_M_growsBy_81, s_M_growsBy_82, s_M_growsBy_83, s_M_growsBy_84, s_M_growsBy_87, s_M_growsBy_90, s_M_growsBy_91, s_M_growsBy_92, s_M_growsBy_95, s_M_growsBy_97, s_M_growsBy_98, s_M_growsBy_99, s_M_growsBy_102, s_M_growsBy_104, s_M_growsBy_105, s_M_growsBy_106, s_M_growsBy_107, s_M_growsBy_110, s_M_growsBy_113, s_M_growsBy_114, s_M_growsBy_117, s_M_growsBy_118, s_M_growsBy_122, s_M_growsBy_125, s_M_growsBy_126, s_M_growsBy_129, s_M_growsBy_130, s_M_growsBy_133, s_M_growsBy_136, s_M_growsBy_137, s_M_growsBy_139, s_M_growsBy_142, s_M_growsBy_143, s_M_growsBy_146, s_M_growsBy_147, s_M_growsBy_149, s_M_growsBy_152, s_M_growsBy_157, s_M_growsBy_160, s_M_growsBy_161, s_M_growsBy_164, s_M_growsBy_166, s_M_growsBy_167, s_M_growsBy_170, s_M_growsBy_171, s_M_growsBy_173, s_M_growsBy_174, s_M_growsBy_175, s_M_growsBy_178, s_M_growsBy_180, k_1, n_1, k_241, r_241_0, r_241_2, r_241_4, r_241_5, r_241_6, r_241_7, r_241_9, r_241_10, r_241_11, r_241_12, r_241_14, r_241_15, r_241_16, r_241_19, r_241_20, r_241_22, r_241_23, r_241_24, r_241_25, r_241_27, r_241_28, r_241_29, r_241_30, r_241_31, r_241_33, r_241_34, r_241_37, r_241_38, r_241_39, r_241_40, r_241_41, r_241_42, r_241_43, r_241_44, r_241_49, r_241_50, r_241_54, k_242, n_242, k_243, n_243, k_244, n_244, k_245, n_245, k_246, n_246, k_247, n_247, k_248, n_248, k_249, n_249, k_250, n_250, k_251, n_251, k_252, n_252, k_253, n_253, k_254, n_254, k_255, n_255, k_256, n_256, k_257, n_257, k_258, n_258, k_259, n_259, k_260, n_260, k_261, n_261, k_262, n_262, k_263, n_263, k_264, n_264, k_265, n_265, k_266, n_266, k_267, n_267, k_268, n_268, k_269, n_269, k_270, n_270, k_271, n_271, k_272, n_272, k_273, n_273, k_274, n_274, k_275, n_275, k_276, n_276, k_277, n_277, k_278, n_278, tmN, tdN, wq (), g0, ne_eq, le_T, lt_T, le_F, lt_F, Int.toNat_natCast, cat_n, cat_i, cat_r, cat_l, Nat.ble_eq, Nat.reduceAdd, Nat.reduceLeDiff, true_and, and_true, true_implies, false_implies, not_true_eq_false, not_false_eq_true, implies_true]
        clear wq
        grind
    · rw [← ho] at hoq
      have wn := fun (S : RT) => c_M_worthNow (k := k + 8) (L := L) (d := rset d 278 x) (P := Q) (R := S) (hM2 x) hE
      have fv := fin x Q (wr (worthW e Q - worthW e P)) (vI (worthW e P)) (vI (P 224)) (vI 1) (vI (n : Int)) a9 hf (by
        unfold valS
        rw [← ho, hoq])
      clear fin none_ hR hM2 hE hO hD hP h275 h273 hrC hM ho hf hoq hp
      generalize worthW e P = w0 at *
      generalize worthW e Q = w2 at *
      rw [s_M_growsBy_22]
      simp (disch := omega) only [s_M_growsBy_1, s_M_growsBy_4, s_M_growsBy_6, s_M_growsBy_7, s_M_growsBy_10, s_M_growsBy_13, s_M_growsBy_14, s_M_growsBy_16, s_M_growsBy_17, s_M_growsBy_19, s_M_growsBy_20, s_M_growsBy_24, s_M_growsBy_26, s_M_growsBy_31, s_M_growsBy_34, s_M_growsBy_36, s_M_growsBy_37, s_M_growsBy_38, s_M_growsBy_41, s_M_growsBy_43, s_M_growsBy_44, s_M_growsBy_45, s_M_growsBy_46, s_M_growsBy_49, s_M_growsBy_51, s_M_growsBy_52, s_M_growsBy_53, s_M_growsBy_54, s_M_growsBy_55, s_M_growsBy_58, s_M_growsBy_60, s_M_growsBy_61, s_M_growsBy_62, s_M_growsBy_63, s_M_growsBy_64, s_M_growsBy_65, s_M_growsBy_67, s_M_growsBy_68, s_M_growsBy_69, s_M_growsBy_72, s_M_growsBy_74, s_M_growsBy_75, s_M_growsBy_76, s_M_growsBy_79, s_M_growsBy_81, s_M_growsBy_82, s_M_growsBy_83, s_M_growsBy_84, s_M_growsBy_87, s_M_growsBy_90, s_M_growsBy_91, s_M_growsBy_92, s_M_growsBy_95, s_M_growsBy_97, s_M_growsBy_98, s_M_growsBy_99, s_M_growsBy_102, s_M_growsBy_104, s_M_growsBy_105, s_M_growsBy_106, s_M_growsBy_107, s_M_growsBy_110, s_M_growsBy_113, s_M_growsBy_114, s_M_growsBy_117, s_M_growsBy_118, s_M_growsBy_120, s_M_growsBy_122, s_M_growsBy_125, s_M_growsBy_126, s_M_growsBy_129, s_M_growsBy_130, s_M_growsBy_133, s_M_growsBy_136, s_M_growsBy_137, s_M_growsBy_139, s_M_growsBy_142, s_M_growsBy_143, s_M_growsBy_146, s_M_growsBy_147, s_M_growsBy_149, s_M_growsBy_152, s_M_growsBy_155, s_M_growsBy_157, s_M_growsBy_160, s_M_growsBy_161, s_M_growsBy_164, s_M_growsBy_166, s_M_growsBy_167, s_M_growsBy_173, s_M_growsBy_174, s_M_growsBy_175, s_M_growsBy_178, s_M_growsBy_180, k_241, wn, le_T, lt_T, le_F, lt_F, Int.toNat_natCast, cat_n, cat_i, cat_r, cat_l, Nat.ble_eq, Nat.reduceAdd, Nat.reduceLeDiff, true_and, and_true, true_implies, false_implies, not_true_eq_false, not_false_eq_true, implies_true]
      clear wn
      grind
  have wn := fun (S : RT) => c_M_worthNow (k := k + 8) (L := L) (d := rset d 278 x0) (P := P) (R := S) (hM2 x0) hE
  have k0 := key x0 vU P rfl HF_rf hP rfl (by simp)
  clear fin none_ hR hM2 hE hO hD hP h275 h273 hrC hM key
  generalize worthW e P = w0 at *
  simp (disch := omega) only [s_M_growsBy_0, s_M_growsBy_1, s_M_growsBy_4, s_M_growsBy_6, s_M_growsBy_7, s_M_growsBy_10, s_M_growsBy_13, s_M_growsBy_14, s_M_growsBy_16, s_M_growsBy_17, s_M_growsBy_19, s_M_growsBy_20, s_M_growsBy_24, s_M_growsBy_26, s_M_growsBy_29, s_M_growsBy_31, s_M_growsBy_34, s_M_growsBy_36, s_M_growsBy_37, s_M_growsBy_38, s_M_growsBy_41, s_M_growsBy_43, s_M_growsBy_44, s_M_growsBy_45, s_M_growsBy_46, s_M_growsBy_49, s_M_growsBy_51, s_M_growsBy_52, s_M_growsBy_53, s_M_growsBy_54, s_M_growsBy_55, s_M_growsBy_58, s_M_growsBy_60, s_M_growsBy_61, s_M_growsBy_62, s_M_growsBy_63, s_M_growsBy_64, s_M_growsBy_65, s_M_growsBy_67, s_M_growsBy_68, s_M_growsBy_69, s_M_growsBy_72, s_M_growsBy_74, s_M_growsBy_75, s_M_growsBy_76, s_M_growsBy_79, s_M_growsBy_81, s_M_growsBy_82, s_M_growsBy_83, s_M_growsBy_84, s_M_growsBy_87, s_M_growsBy_90, s_M_growsBy_91, s_M_growsBy_92, s_M_growsBy_95, s_M_growsBy_97, s_M_growsBy_98, s_M_growsBy_99, s_M_growsBy_102, s_M_growsBy_104, s_M_growsBy_105, s_M_growsBy_106, s_M_growsBy_107, s_M_growsBy_110, s_M_growsBy_113, s_M_growsBy_114, s_M_growsBy_117, s_M_growsBy_118, s_M_growsBy_120, s_M_growsBy_122, s_M_growsBy_125, s_M_growsBy_126, s_M_growsBy_129, s_M_growsBy_130, s_M_growsBy_133, s_M_growsBy_136, s_M_growsBy_137, s_M_growsBy_139, s_M_growsBy_142, s_M_growsBy_143, s_M_growsBy_146, s_M_growsBy_147, s_M_growsBy_149, s_M_growsBy_152, s_M_growsBy_155, s_M_growsBy_157, s_M_growsBy_160, s_M_growsBy_161, s_M_growsBy_164, s_M_growsBy_166, s_M_growsBy_167, s_M_growsBy_170, s_M_growsBy_171, s_M_growsBy_173, s_M_growsBy_174, s_M_growsBy_175, s_M_growsBy_178, s_M_growsBy_180, k_1, n_1, k_241, r_241_0, r_241_2, r_241_4, r_241_5, r_241_6, r_241_7, r_241_9, r_241_10, r_241_11, r_241_12, r_241_14, r_241_15, r_241_16, r_241_19, r_241_20, r_241_22, r_241_23, r_241_24, r_241_25, r_241_27, r_241_28, r_241_29, r_241_30, r_241_31, r_241_33, r_241_34, r_241_37, r_241_38, r_241_39, r_241_40, r_241_41, r_241_42, r_241_43, r_241_44, r_241_49, r_241_50, r_241_54, k_242, n_242, k_243, n_243, k_244, n_244, k_245, n_245, k_246, n_246, k_247, n_247, k_248, n_248, k_249, n_249, k_250, n_250, k_251, n_251, k_252, n_252, k_253, n_253, k_254, n_254, k_255, n_255, k_256, n_256, k_257, n_257, k_258, n_258, k_259, n_259, k_260, n_260, k_261, n_261, k_262, n_262, k_263, n_263, k_264, n_264, k_265, n_265, k_266, n_266, k_267, n_267, k_268, n_268, k_269, n_269, k_270, n_270, k_271, n_271, k_272, n_272, k_273, n_273, k_274, n_274, k_275, n_275, k_276, n_276, k_277, n_277, k_278, n_278, ld20, rs_eq, wn, Int.reduceToNat, le_T, lt_T, le_F, lt_F, Int.toNat_natCast, cat_n, cat_i, cat_r, cat_l, Nat.ble_eq, Nat.reduceAdd, Nat.reduceLeDiff, true_and, and_true, true_implies, false_implies, not_true_eq_false, not_false_eq_true, implies_true]
  clear wn
  first | exact k0 | grind
end
