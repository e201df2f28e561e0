/-! text, on both sides (expanded by gen18.py) -/
theorem run_cg {p : Int → Bool} {T U : Row} {n : Nat} (h : ∀ i, i < n → T i = U i) : ∀ f j, runE p T n f j = runE p U n f j
  | 0, _ => rfl
  | f + 1, j => by
    show (if j < n ∧ p (T j) = true then runE p T n f (j + 1) else j) = (if j < n ∧ p (U j) = true then runE p U n f (j + 1) else j)
    by_cases c : j < n
    · rw [h j c, run_cg h f (j + 1)]
    · rw [if_neg (fun z => c z.1), if_neg (fun z => c z.1)]
theorem rn_cg {p : Int → Bool} {T U : Row} {n j : Nat} (h : ∀ i, i < n → T i = U i) : rn p T n j = rn p U n j := run_cg h _ _
theorem en_cg {T U : Row} {n i : Nat} (h : ∀ i, i < n → T i = U i) (hi : i < n) : enT T n i = enT U n i := by
  unfold enT
  rw [h i hi]
  exact rn_cg h
theorem ps_cg {T U : Row} {n : Nat} (h : ∀ i, i < n → T i = U i) : ∀ j, ps T n j = ps U n j
  | 0 => rfl
  | j + 1 => by
    show (if rn blk T n (ps T n j) < n then enT T n (rn blk T n (ps T n j)) else n) = (if rn blk U n (ps U n j) < n then enT U n (rn blk U n (ps U n j)) else n)
    rw [ps_cg h j, rn_cg h]
    by_cases c : rn blk U n (ps U n j) < n
    · rw [if_pos c, if_pos c, en_cg h c]
    · rw [if_neg c, if_neg c]
theorem bg_cg {T U : Row} {n j : Nat} (h : ∀ i, i < n → T i = U i) : bg T n j = bg U n j := by
  unfold bg
  rw [ps_cg h, rn_cg h]
theorem nv_cg {T U : Row} {i : Nat} : ∀ r, (∀ q, q < r → T (i + q) = U (i + q)) → nv T i r = nv U i r
  | 0, _ => rfl
  | r + 1, h => by
    show 10 * nv T i r + T (i + r) - 48 = 10 * nv U i r + U (i + r) - 48
    rw [nv_cg r (fun q hq => h q (by omega)), h r (by omega)]
theorem tk_cg {T U : Row} {n j : Nat} (h : ∀ i, i < n → T i = U i) : tk T n j = tk U n j := by
  unfold tk
  rw [bg_cg h]
  by_cases c : bg U n j < n
  · rw [if_pos c, if_pos c, en_cg h c]
    have e : enT U n (bg U n j) ≤ n := rn_le (by omega)
    generalize bg U n j = i at *
    unfold tokC
    rw [h i c]
    have s1 : sl T i (enT U n i - i) = sl U i (enT U n i - i) := by
      unfold sl
      exact List.map_congr_left (fun r hr => h _ (by have := List.mem_range.mp hr; omega))
    have s2 : nv T i (enT U n i - i) = nv U i (enT U n i - i) := nv_cg _ (fun q hq => h _ (by omega))
    rw [s1, s2]
  · rw [if_neg c, if_neg c]
theorem tk_hi {T : Row} {n j : Nat} : tk T n j ≤ 9999 := by
  unfold tk
  by_cases c : bg T n j < n
  · rw [if_pos c]
    generalize bg T n j = i at *
    have h3 : dgt (T i) = true → ∀ q, q < enT T n i - i → 48 ≤ T (i + q) ∧ T (i + q) ≤ 57 := by
      intro z q hq
      have zz := z
      unfold dgt at z
      have z := of_decide_eq_true z
      by_cases y : q = 0
      · rw [y]
        exact z
      · have := rn_in (p := pw (T i)) (T := T) (n := n) (j := i + 1) (i := i + q) (by omega) (by unfold enT at hq; omega)
        rw [pw_d zz] at this
        unfold dgt at this
        exact of_decide_eq_true this
    unfold tokC
    by_cases c1 : ltr (T i) = true
    · rw [if_pos c1]
      have := tokL_r (l := sl T i (enT T n i - i))
      omega
    · rw [if_neg c1]
      by_cases c2 : dgt (T i) = true
      · rw [if_pos c2]
        by_cases c4 : 4 < enT T n i - i
        · rw [if_pos c4]
          decide
        · rw [if_neg c4]
          have := (nv_bd (T := T) (i := i) (enT T n i - i) (by omega) (h3 c2)).2
          refine Int.le_trans this ?_
          split
          · decide
          · split
            · decide
            · split
              · decide
              · split <;> decide
      · rw [if_neg c2]
        unfold sgC
        repeat' split
        all_goals omega
  · rw [if_neg c]
    decide
/-- how it ends: with a fault at token j, or as a text of codes X -/
def Flt (t : Nat → Int) (m j : Nat) : Prop := j ≤ m ∧ ((¬ t 0 = -7 ∧ j = 0) ∨ (t 0 = -7 ∧ (yW t (m + 1) true 1 [] [] = (j, none) ∨ ∃ O, yW t (m + 1) true 1 [] [] = (j, some O) ∧ ¬ t j = -19)))
def Suc (t : Nat → Int) (m j : Nat) (X : List Int) : Prop := j ≤ m ∧ t 0 = -7 ∧ yW t (m + 1) true 1 [] [] = (j, some (X.map trC)) ∧ t j = -19 ∧ okX 31 X ∧ X.length ≤ 160
theorem y_top {t : Nat → Int} {m j : Nat} {X : List Int} (h : Cn t (m + 1) 0 0 0 1 j 0 X) : yW t (m + 1) true 1 [] [] = if t j = -13 then (j + 1, some (X.map trC)) else (j, none) := by
  obtain ⟨a1, a4, a5⟩ := h
  obtain ⟨b1, b2, b3, b4⟩ := a5 rfl
  rw [b4 true [] [] rfl trivial ⟨fun _ => rfl, fun z => by omega⟩]
  unfold yC
  by_cases c : t j = -17 ∨ t j = -18
  · rw [if_pos ⟨by omega, c⟩, if_neg (by omega)]
  · rw [if_neg (fun z => c z.2), yN_s a1.2.1]
    have n8 := b3.1 (by omega)
    have n9 := b3.2.1 (by omega)
    have n14 := b3.2.2.1 (by omega)
    have n16 := b3.2.2.2 (by omega)
    by_cases c1 : t j = -13
    · rw [if_pos c1, if_pos c1]
      rfl
    · rw [if_neg c1, if_neg c1]
      by_cases c2 : t j = -12
      · rw [if_pos c2]
        rfl
      · rw [if_neg c2, if_neg (by unfold isB; omega)]
section
variable {L k n : Nat} {d : Dat} {T : Row} {R : RT}
theorem SPL_T {m : Nat} {x y : Row} (h : SPL T n m x y) (hn : n ≤ 160) : TKS (tk T n) m (splD d m x y) := by
  obtain ⟨h1, h2, h3⟩ := h
  refine ⟨splD_2, by omega, fun j hj => ?_, ?_, fun j => tk_hi⟩
  · unfold splD
    rw [rs_ne (by decide), rs_eq]
    exact (h3 j hj).1
  · unfold tk
    rw [if_neg (by omega)]
theorem SPL_p {m : Nat} {x y : Row} (h : SPL T n m x y) {j : Nat} (hj : j ≤ m) : splD d m x y 50 j = ((bg T n j : Nat) : Int) := by
  unfold splD
  rw [rs_eq]
  exact (h.2.2 j hj).2.1
set_option maxHeartbeats 400000 in
theorem c_R_read (hT : d 37 = T) (h8 : d 8 = wsR) (h9 : d 9 = sgR) (hn : n ≤ 160) (hb : ∀ i, i < n → 0 ≤ T i ∧ T i ≤ 255)
    (hF : ∀ m x y j a w z c, SPL T n m x y → Flt (tk T n) m j → R (vI ((bg T n j : Nat) : Int)) (SH L) (qD (splD d m x y) a w z c))
    (hS : ∀ m x y j a c X, SPL T n m x y → Suc (tk T n) m j X → lst c X → R (vI (-1)) (SH L) (qD (splD d m x y) a 0 ((X.length : Nat) : Int) c)) : Cl (k + 79) 182 [vR 48, vR 37, vI (n : Int)] (SH L) d R := by
  refine Cl_succ rfl ?_
  show Go (k + 78) 182 R 0 [vR 48, vR 37, vI (n : Int)] [] (SH L) d
  have st : ∀ m x y, SPL T n m x y → Go (k + 78) 182 R 6 [vR 48, vR 37, vI (n : Int)] [] (SH L) (splD d m x y) := by
    intro m x y hs
    have hF := fun j a w z c => hF m x y j a w z c hs
    have hS := fun j a c X => hS m x y j a c X hs
    have hk := SPL_T (d := d) hs hn
    have hp := fun (j : Nat) (hj : j ≤ m) => SPL_p (d := d) hs hj
    have hm := hk.2.1
    generalize hD : splD d m x y = D at *
    clear hD hs
    -- from the first need on
    have ret : ∀ (j : Nat) (w z : Int) (c : Row), j ≤ m → w = 1 → Flt (tk T n) m j → Go (k + 78) 182 R 39 [vR 48, vR 37, vI (n : Int)] [] (SH L) (qD D (j : Int) w z c) := by
      intro j w z c hj hw hf
      subst hw
      have hF := hF j (j : Int) 1 z c hf
      have hp := hp j hj
      clear hS hk hf
      simp (disch := omega) only [s_Reader_read_1, s_Reader_read_2, s_Reader_read_3, s_Reader_read_7, s_Reader_read_8, s_Reader_read_11, s_Reader_read_12, s_Reader_read_13, s_Reader_read_16, s_Reader_read_17, s_Reader_read_18, s_Reader_read_21, s_Reader_read_22, s_Reader_read_24, s_Reader_read_27, s_Reader_read_28, s_Reader_read_29, s_Reader_read_30, s_Reader_read_33, s_Reader_read_34, s_Reader_read_36, s_Reader_read_39, s_Reader_read_40, s_Reader_read_43, s_Reader_read_47, s_Reader_read_50, s_Reader_read_51, s_Reader_read_54, s_Reader_read_55, s_Reader_read_57, s_Reader_read_60, s_Reader_read_61, s_Reader_read_62, s_Reader_read_63, s_Reader_read_66, s_Reader_read_67, s_Reader_read_70, s_Reader_read_71, k_1, n_1, k_2, n_2, k_3, n_3, k_4, n_4, k_5, n_5, k_6, n_6, k_7, n_7, k_8, n_8, k_9, n_9, k_10, r_10_0, r_10_1, r_10_2, r_10_3, r_10_4, r_10_5, k_11, r_11_5, r_11_6, r_11_7, r_11_8, r_11_9, r_11_10, r_11_11, r_11_12, r_11_13, r_11_14, r_11_15, r_11_16, k_12, n_12, k_13, n_13, k_14, n_14, k_15, n_15, k_16, n_16, k_17, n_17, k_18, n_18, k_19, n_19, k_20, n_20, k_21, n_21, k_22, n_22, k_23, n_23, k_24, r_24_3, r_24_4, r_24_5, r_24_6, r_24_7, r_24_8, r_24_9, r_24_10, r_24_11, r_24_12, r_24_13, k_25, n_25, k_26, n_26, k_27, n_27, k_28, n_28, k_29, n_29, k_30, n_30, k_31, n_31, k_32, n_32, k_33, n_33, k_34, n_34, k_35, n_35, k_36, r_36_0, r_36_3, r_36_4, r_36_5, r_36_6, r_36_7, k_37, n_37, k_38, n_38, k_39, n_39, r_39_0, r_39_1, r_39_2, r_39_3, r_39_4, r_39_5, k_40, n_40, k_41, n_41, k_42, n_42, k_43, n_43, k_44, n_44, k_45, n_45, k_46, n_46, k_47, n_47, k_48, r_48_0, r_48_1, r_48_5, k_49, n_49, k_50, n_50, k_51, n_51, k_52, r_52_0, r_52_1, r_52_2, r_52_3, r_52_4, r_52_5, r_52_6, r_52_7, r_52_8, r_52_9, r_52_10, r_52_11, r_52_12, r_52_13, k_53, r_53_0, r_53_1, r_53_2, r_53_3, r_53_4, r_53_5, r_53_6, k_54, n_54, k_55, n_55, k_56, n_56, k_57, n_57, k_58, n_58, k_59, n_59, k_60, n_60, k_61, r_61_0, r_61_1, r_61_2, r_61_3, k_62, n_62, k_63, n_63, k_64, n_64, k_65, n_65, k_66, r_66_0, r_66_1, r_66_2, r_66_3, r_66_4, r_66_5, k_67, n_67, k_68, n_68, k_69, n_69, k_70, n_70, k_71, n_71, k_72, n_72, k_73, n_73, k_74, n_74, k_75, n_75, k_76, n_76, k_77, n_77, k_78, n_78, k_79, n_79, k_80, n_80, k_81, r_81_0, r_81_1, r_81_2, r_81_3, r_81_4, r_81_9, r_81_10, k_82, n_82, r_82_0, r_82_1, r_82_2, r_82_3, k_83, n_83, k_84, n_84, k_85, n_85, k_86, n_86, k_87, r_87_0, r_87_1, r_87_2, r_87_3, r_87_4, r_87_5, r_87_6, r_87_7, r_87_8, r_87_9, r_87_10, r_87_11, r_87_12, r_87_13, k_116, r_116_0, r_116_1, r_116_2, r_116_3, r_116_4, r_116_5, r_116_6, r_116_7, r_116_8, r_116_9, r_116_10, r_116_11, r_116_12, r_116_13, k_145, r_145_0, r_145_1, r_145_2, r_145_3, r_145_4, r_145_5, r_145_6, r_145_7, r_145_8, r_145_9, r_145_10, r_145_11, r_145_12, r_145_13, k_174, r_174_0, r_174_1, r_174_2, r_174_3, r_174_4, r_174_5, r_174_6, r_174_7, r_174_8, r_174_9, r_174_10, r_174_11, r_174_12, r_174_13, k_203, r_203_0, r_203_1, r_203_2, r_203_3, r_203_4, r_203_5, r_203_6, r_203_7, r_203_8, r_203_9, r_203_10, r_203_11, r_203_12, r_203_13, k_232, n_232, r_232_0, r_232_1, r_232_2, r_232_3, k_233, r_233_2, k_234, n_234, k_235, r_235_2, k_236, n_236, k_237, r_237_2, k_238, n_238, k_239, r_239_2, k_240, n_240, ld20, qD_4, qD_3, qD_o, hp, le_T, lt_T, le_F, lt_F, Int.toNat_natCast, cat_n, cat_i, cat_r, cat_l, Nat.ble_eq, Nat.reduceAdd, Nat.reduceLeDiff, true_and, and_true, true_implies, false_implies, not_true_eq_false, not_false_eq_true, implies_true]
      clear hp
      grind
    have go24 : ∀ c, Go (k + 78) 182 R 21 [vR 48, vR 37, vI (n : Int)] [] (SH L) (qD D ((0 : Nat) : Int) 0 ((([] : List Int).length : Nat) : Int) c) := by
      intro c
      have n7 := fun (S : RT) => c_R_need0 (k := k + 77) (L := L) (D := D) (j := 0) (s := -7) (z := ((([] : List Int).length : Nat) : Int)) (c := c) (R := S) hk (Nat.zero_le _)
      by_cases c7 : tk T n 0 = -7
      · simp only [if_pos c7] at n7
        have hm1 := tk_lt hk (Nat.zero_le _) (by omega)
        have pt := PartC_m (part00 (L := L) hk) (show 74 ≤ k + 78 by omega) 1 c [] (fun _ sh' d' => sh' = SH L ∧ Go (k + 78) 182 R 33 [vR 48, vR 37, vI (n : Int)] [] (SH L) d') (by omega) (by simp) (fun i hi => absurd hi (Nat.not_lt_zero _)) (fun j2 w z2 c2 X hcn hz => ⟨rfl, by
          have l1 := hcn.1
          rcases hcn.1.2.2 with q | q
          · subst q
            obtain ⟨z1, z3⟩ := hz rfl
            subst z1
            have pl := Cn_j hcn
            have hj2 : j2 ≤ m := by omega
            have yt := y_top hcn
            have ok := (hcn.2.2 rfl).2.1
            have n13 := fun (S : RT) => c_R_need0 (k := k + 77) (L := L) (D := D) (j := j2) (s := -13) (z := ((([] ++ X).length : Nat) : Int)) (c := c2) (R := S) hk hj2
            by_cases c13 : tk T n j2 = -13
            · rw [if_pos c13] at yt
              simp only [if_pos c13] at n13
              have hj3 := tk_lt hk hj2 (by omega)
              have t3 := hk.2.2.1 (j2 + 1) (by omega)
              by_cases c19 : tk T n (j2 + 1) = -19
              · have hS := hS (j2 + 1) ((j2 + 1 : Nat) : Int) c2 X ⟨by omega, c7, yt, c19, okX_m ok (by omega), by omega⟩ z3
                rw [c19] at t3
                rw [show (([] ++ X : List Int)) = X from rfl] at n13 ⊢
                clear hF hk hcn hz z3 n7 ret hp yt ok c13 c7
                simp (disch := omega) only [s_Reader_read_1, s_Reader_read_2, s_Reader_read_3, s_Reader_read_7, s_Reader_read_8, s_Reader_read_11, s_Reader_read_12, s_Reader_read_13, s_Reader_read_16, s_Reader_read_17, s_Reader_read_18, s_Reader_read_21, s_Reader_read_22, s_Reader_read_24, s_Reader_read_27, s_Reader_read_28, s_Reader_read_29, s_Reader_read_30, s_Reader_read_33, s_Reader_read_34, s_Reader_read_36, s_Reader_read_39, s_Reader_read_40, s_Reader_read_43, s_Reader_read_46, s_Reader_read_47, s_Reader_read_50, s_Reader_read_51, s_Reader_read_54, s_Reader_read_55, s_Reader_read_57, s_Reader_read_60, s_Reader_read_61, s_Reader_read_63, s_Reader_read_66, s_Reader_read_67, s_Reader_read_70, s_Reader_read_71, k_1, n_1, k_2, n_2, k_3, n_3, k_4, n_4, k_5, n_5, k_6, n_6, k_7, n_7, k_8, n_8, k_9, n_9, k_10, r_10_0, r_10_1, r_10_2, r_10_3, r_10_4, r_10_5, k_11, r_11_5, r_11_6, r_11_7, r_11_8, r_11_9, r_11_10, r_11_11, r_11_12, r_11_13, r_11_14, r_11_15, r_11_16, k_12, n_12, k_13, n_13, k_14, n_14, k_15, n_15, k_16, n_16, k_17, n_17, k_18, n_18, k_19, n_19, k_20, n_20, k_21, n_21, k_22, n_22, k_23, n_23, k_24, r_24_3, r_24_4, r_24_5, r_24_6, r_24_7, r_24_8, r_24_9, r_24_10, r_24_11, r_24_12, r_24_13, k_25, n_25, k_26, n_26, k_27, n_27, k_28, n_28, k_29, n_29, k_30, n_30, k_31, n_31, k_32, n_32, k_33, n_33, k_34, n_34, k_35, n_35, k_36, r_36_0, r_36_3, r_36_4, r_36_5, r_36_6, r_36_7, k_37, n_37, k_38, n_38, k_39, n_39, r_39_0, r_39_1, r_39_2, r_39_3, r_39_4, r_39_5, k_40, n_40, k_41, n_41, k_42, n_42, k_43, n_43, k_44, n_44, k_45, n_45, k_46, n_46, k_47, n_47, k_48, r_48_0, r_48_1, r_48_5, k_49, n_49, k_50, n_50, k_51, n_51, k_52, r_52_0, r_52_1, r_52_2, r_52_3, r_52_4, r_52_5, r_52_6, r_52_7, r_52_8, r_52_9, r_52_10, r_52_11, r_52_12, r_52_13, k_53, r_53_0, r_53_1, r_53_2, r_53_3, r_53_4, r_53_5, r_53_6, k_54, n_54, k_55, n_55, k_56, n_56, k_57, n_57, k_58, n_58, k_59, n_59, k_60, n_60, k_61, r_61_0, r_61_1, r_61_2, r_61_3, k_62, n_62, k_63, n_63, k_64, n_64, k_65, n_65, k_66, r_66_0, r_66_1, r_66_2, r_66_3, r_66_4, r_66_5, k_67, n_67, k_68, n_68, k_69, n_69, k_70, n_70, k_71, n_71, k_72, n_72, k_73, n_73, k_74, n_74, k_75, n_75, k_76, n_76, k_77, n_77, k_78, n_78, k_79, n_79, k_80, n_80, k_81, r_81_0, r_81_1, r_81_2, r_81_3, r_81_4, r_81_9, r_81_10, k_82, n_82, r_82_0, r_82_1, r_82_2, r_82_3, k_83, n_83, k_84, n_84, k_85, n_85, k_86, n_86, k_87, r_87_0, r_87_1, r_87_2, r_87_3, r_87_4, r_87_5, r_87_6, r_87_7, r_87_8, r_87_9, r_87_10, r_87_11, r_87_12, r_87_13, k_116, r_116_0, r_116_1, r_116_2, r_116_3, r_116_4, r_116_5, r_116_6, r_116_7, r_116_8, r_116_9, r_116_10, r_116_11, r_116_12, r_116_13, k_145, r_145_0, r_145_1, r_145_2, r_145_3, r_145_4, r_145_5, r_145_6, r_145_7, r_145_8, r_145_9, r_145_10, r_145_11, r_145_12, r_145_13, k_174, r_174_0, r_174_1, r_174_2, r_174_3, r_174_4, r_174_5, r_174_6, r_174_7, r_174_8, r_174_9, r_174_10, r_174_11, r_174_12, r_174_13, k_203, r_203_0, r_203_1, r_203_2, r_203_3, r_203_4, r_203_5, r_203_6, r_203_7, r_203_8, r_203_9, r_203_10, r_203_11, r_203_12, r_203_13, k_232, n_232, r_232_0, r_232_1, r_232_2, r_232_3, k_233, r_233_2, k_234, n_234, k_235, r_235_2, k_236, n_236, k_237, r_237_2, k_238, n_238, k_239, r_239_2, k_240, n_240, ld20, n13, qD_4, qD_3, qD_o, t3, le_T, lt_T, le_F, lt_F, Int.toNat_natCast, cat_n, cat_i, cat_r, cat_l, Nat.ble_eq, Nat.reduceAdd, Nat.reduceLeDiff, true_and, and_true, true_implies, false_implies, not_true_eq_false, not_false_eq_true, implies_true]
                clear n13 t3
                grind
              · have hF := hF (j2 + 1) ((j2 + 1 : Nat) : Int) 0 ((([] ++ X).length : Nat) : Int) c2 ⟨by omega, Or.inr ⟨c7, Or.inr ⟨_, yt, c19⟩⟩⟩
                have hp := hp (j2 + 1) (by omega)
                clear hS hk hcn hz z3 n7 ret yt ok c13 c7
                generalize tk T n (j2 + 1) = s at *
                simp (disch := omega) only [s_Reader_read_1, s_Reader_read_2, s_Reader_read_3, s_Reader_read_7, s_Reader_read_8, s_Reader_read_11, s_Reader_read_12, s_Reader_read_13, s_Reader_read_16, s_Reader_read_17, s_Reader_read_18, s_Reader_read_21, s_Reader_read_22, s_Reader_read_24, s_Reader_read_27, s_Reader_read_28, s_Reader_read_29, s_Reader_read_30, s_Reader_read_33, s_Reader_read_34, s_Reader_read_36, s_Reader_read_39, s_Reader_read_40, s_Reader_read_43, s_Reader_read_46, s_Reader_read_47, s_Reader_read_50, s_Reader_read_51, s_Reader_read_54, s_Reader_read_55, s_Reader_read_57, s_Reader_read_61, s_Reader_read_62, s_Reader_read_63, s_Reader_read_66, s_Reader_read_67, s_Reader_read_70, s_Reader_read_71, k_1, n_1, k_2, n_2, k_3, n_3, k_4, n_4, k_5, n_5, k_6, n_6, k_7, n_7, k_8, n_8, k_9, n_9, k_10, r_10_0, r_10_1, r_10_2, r_10_3, r_10_4, r_10_5, k_11, r_11_5, r_11_6, r_11_7, r_11_8, r_11_9, r_11_10, r_11_11, r_11_12, r_11_13, r_11_14, r_11_15, r_11_16, k_12, n_12, k_13, n_13, k_14, n_14, k_15, n_15, k_16, n_16, k_17, n_17, k_18, n_18, k_19, n_19, k_20, n_20, k_21, n_21, k_22, n_22, k_23, n_23, k_24, r_24_3, r_24_4, r_24_5, r_24_6, r_24_7, r_24_8, r_24_9, r_24_10, r_24_11, r_24_12, r_24_13, k_25, n_25, k_26, n_26, k_27, n_27, k_28, n_28, k_29, n_29, k_30, n_30, k_31, n_31, k_32, n_32, k_33, n_33, k_34, n_34, k_35, n_35, k_36, r_36_0, r_36_3, r_36_4, r_36_5, r_36_6, r_36_7, k_37, n_37, k_38, n_38, k_39, n_39, r_39_0, r_39_1, r_39_2, r_39_3, r_39_4, r_39_5, k_40, n_40, k_41, n_41, k_42, n_42, k_43, n_43, k_44, n_44, k_45, n_45, k_46, n_46, k_47, n_47, k_48, r_48_0, r_48_1, r_48_5, k_49, n_49, k_50, n_50, k_51, n_51, k_52, r_52_0, r_52_1, r_52_2, r_52_3, r_52_4, r_52_5, r_52_6, r_52_7, r_52_8, r_52_9, r_52_10, r_52_11, r_52_12, r_52_13, k_53, r_53_0, r_53_1, r_53_2, r_53_3, r_53_4, r_53_5, r_53_6, k_54, n_54, k_55, n_55, k_56, n_56, k_57, n_57, k_58, n_58, k_59, n_59, k_60, n_60, k_61, r_61_0, r_61_1, r_61_2, r_61_3, k_62, n_62, k_63, n_63, k_64, n_64, k_65, n_65, k_66, r_66_0, r_66_1, r_66_2, r_66_3, r_66_4, r_66_5, k_67, n_67, k_68, n_68, k_69, n_69, k_70, n_70, k_71, n_71, k_72, n_72, k_73, n_73, k_74, n_74, k_75, n_75, k_76, n_76, k_77, n_77, k_78, n_78, k_79, n_79, k_80, n_80, k_81, r_81_0, r_81_1, r_81_2, r_81_3, r_81_4, r_81_9, r_81_10, k_82, n_82, r_82_0, r_82_1, r_82_2, r_82_3, k_83, n_83, k_84, n_84, k_85, n_85, k_86, n_86, k_87, r_87_0, r_87_1, r_87_2, r_87_3, r_87_4, r_87_5, r_87_6, r_87_7, r_87_8, r_87_9, r_87_10, r_87_11, r_87_12, r_87_13, k_116, r_116_0, r_116_1, r_116_2, r_116_3, r_116_4, r_116_5, r_116_6, r_116_7, r_116_8, r_116_9, r_116_10, r_116_11, r_116_12, r_116_13, k_145, r_145_0, r_145_1, r_145_2, r_145_3, r_145_4, r_145_5, r_145_6, r_145_7, r_145_8, r_145_9, r_145_10, r_145_11, r_145_12, r_145_13, k_174, r_174_0, r_174_1, r_174_2, r_174_3, r_174_4, r_174_5, r_174_6, r_174_7, r_174_8, r_174_9, r_174_10, r_174_11, r_174_12, r_174_13, k_203, r_203_0, r_203_1, r_203_2, r_203_3, r_203_4, r_203_5, r_203_6, r_203_7, r_203_8, r_203_9, r_203_10, r_203_11, r_203_12, r_203_13, k_232, n_232, r_232_0, r_232_1, r_232_2, r_232_3, k_233, r_233_2, k_234, n_234, k_235, r_235_2, k_236, n_236, k_237, r_237_2, k_238, n_238, k_239, r_239_2, k_240, n_240, ld20, n13, qD_4, qD_3, qD_o, t3, hp, le_T, lt_T, le_F, lt_F, Int.toNat_natCast, cat_n, cat_i, cat_r, cat_l, Nat.ble_eq, Nat.reduceAdd, Nat.reduceLeDiff, true_and, and_true, true_implies, false_implies, not_true_eq_false, not_false_eq_true, implies_true]
                clear n13 t3 hp
                grind
            · rw [if_neg c13] at yt
              simp only [if_neg c13] at n13
              have rt := ret j2 1 ((([] ++ X).length : Nat) : Int) c2 hj2 rfl ⟨hj2, Or.inr ⟨c7, Or.inl yt⟩⟩
              clear hF hS hk hcn hz z3 n7 ret yt ok c13 c7 hp
              simp only [s_Reader_read_1, s_Reader_read_2, s_Reader_read_3, s_Reader_read_7, s_Reader_read_8, s_Reader_read_11, s_Reader_read_12, s_Reader_read_13, s_Reader_read_16, s_Reader_read_17, s_Reader_read_18, s_Reader_read_21, s_Reader_read_22, s_Reader_read_24, s_Reader_read_27, s_Reader_read_28, s_Reader_read_29, s_Reader_read_30, s_Reader_read_33, s_Reader_read_34, s_Reader_read_36, s_Reader_read_40, s_Reader_read_43, s_Reader_read_46, s_Reader_read_47, s_Reader_read_50, s_Reader_read_51, s_Reader_read_54, s_Reader_read_55, s_Reader_read_57, s_Reader_read_60, s_Reader_read_61, s_Reader_read_62, s_Reader_read_63, s_Reader_read_66, s_Reader_read_67, s_Reader_read_70, s_Reader_read_71, k_1, n_1, k_2, n_2, k_3, n_3, k_4, n_4, k_5, n_5, k_6, n_6, k_7, n_7, k_8, n_8, k_9, n_9, k_10, r_10_0, r_10_1, r_10_2, r_10_3, r_10_4, r_10_5, k_11, r_11_5, r_11_6, r_11_7, r_11_8, r_11_9, r_11_10, r_11_11, r_11_12, r_11_13, r_11_14, r_11_15, r_11_16, k_12, n_12, k_13, n_13, k_14, n_14, k_15, n_15, k_16, n_16, k_17, n_17, k_18, n_18, k_19, n_19, k_20, n_20, k_21, n_21, k_22, n_22, k_23, n_23, k_24, r_24_3, r_24_4, r_24_5, r_24_6, r_24_7, r_24_8, r_24_9, r_24_10, r_24_11, r_24_12, r_24_13, k_25, n_25, k_26, n_26, k_27, n_27, k_28, n_28, k_29, n_29, k_30, n_30, k_31, n_31, k_32, n_32, k_33, n_33, k_34, n_34, k_35, n_35, k_36, r_36_0, r_36_3, r_36_4, r_36_5, r_36_6, r_36_7, k_37, n_37, k_38, n_38, k_39, n_39, r_39_0, r_39_1, r_39_2, r_39_3, r_39_4, r_39_5, k_40, n_40, k_41, n_41, k_42, n_42, k_43, n_43, k_44, n_44, k_45, n_45, k_46, n_46, k_47, n_47, k_48, r_48_0, r_48_1, r_48_5, k_49, n_49, k_50, n_50, k_51, n_51, k_52, r_52_0, r_52_1, r_52_2, r_52_3, r_52_4, r_52_5, r_52_6, r_52_7, r_52_8, r_52_9, r_52_10, r_52_11, r_52_12, r_52_13, k_53, r_53_0, r_53_1, r_53_2, r_53_3, r_53_4, r_53_5, r_53_6, k_54, n_54, k_55, n_55, k_56, n_56, k_57, n_57, k_58, n_58, k_59, n_59, k_60, n_60, k_61, r_61_0, r_61_1, r_61_2, r_61_3, k_62, n_62, k_63, n_63, k_64, n_64, k_65, n_65, k_66, r_66_0, r_66_1, r_66_2, r_66_3, r_66_4, r_66_5, k_67, n_67, k_68, n_68, k_69, n_69, k_70, n_70, k_71, n_71, k_72, n_72, k_73, n_73, k_74, n_74, k_75, n_75, k_76, n_76, k_77, n_77, k_78, n_78, k_79, n_79, k_80, n_80, k_81, r_81_0, r_81_1, r_81_2, r_81_3, r_81_4, r_81_9, r_81_10, k_82, n_82, r_82_0, r_82_1, r_82_2, r_82_3, k_83, n_83, k_84, n_84, k_85, n_85, k_86, n_86, k_87, r_87_0, r_87_1, r_87_2, r_87_3, r_87_4, r_87_5, r_87_6, r_87_7, r_87_8, r_87_9, r_87_10, r_87_11, r_87_12, r_87_13, k_116, r_116_0, r_116_1, r_116_2, r_116_3, r_116_4, r_116_5, r_116_6, r_116_7, r_116_8, r_116_9, r_116_10, r_116_11, r_116_12, r_116_13, k_145, r_145_0, r_145_1, r_145_2, r_145_3, r_145_4, r_145_5, r_145_6, r_145_7, r_145_8, r_145_9, r_145_10, r_145_11, r_145_12, r_145_13, k_174, r_174_0, r_174_1, r_174_2, r_174_3, r_174_4, r_174_5, r_174_6, r_174_7, r_174_8, r_174_9, r_174_10, r_174_11, r_174_12, r_174_13, k_203, r_203_0, r_203_1, r_203_2, r_203_3, r_203_4, r_203_5, r_203_6, r_203_7, r_203_8, r_203_9, r_203_10, r_203_11, r_203_12, r_203_13, k_232, n_232, r_232_0, r_232_1, r_232_2, r_232_3, k_233, r_233_2, k_234, n_234, k_235, r_235_2, k_236, n_236, k_237, r_237_2, k_238, n_238, k_239, r_239_2, k_240, n_240, n13]
              clear n13
              grind
          · subst q
            have rt := ret j2 1 z2 c2 (by omega) rfl ⟨by omega, Or.inr ⟨c7, Or.inl (hcn.2.1 rfl true [] [] rfl trivial ⟨fun _ => rfl, fun z => by omega⟩)⟩⟩
            clear hF hS hk hcn hz n7 ret c7 hp
            simp only [s_Reader_read_1, s_Reader_read_2, s_Reader_read_3, s_Reader_read_7, s_Reader_read_8, s_Reader_read_11, s_Reader_read_12, s_Reader_read_13, s_Reader_read_16, s_Reader_read_17, s_Reader_read_18, s_Reader_read_21, s_Reader_read_22, s_Reader_read_24, s_Reader_read_27, s_Reader_read_28, s_Reader_read_29, s_Reader_read_30, s_Reader_read_33, s_Reader_read_34, s_Reader_read_36, s_Reader_read_40, s_Reader_read_43, s_Reader_read_46, s_Reader_read_47, s_Reader_read_50, s_Reader_read_51, s_Reader_read_54, s_Reader_read_55, s_Reader_read_57, s_Reader_read_60, s_Reader_read_61, s_Reader_read_62, s_Reader_read_63, s_Reader_read_66, s_Reader_read_67, s_Reader_read_70, s_Reader_read_71, k_1, n_1, k_2, n_2, k_3, n_3, k_4, n_4, k_5, n_5, k_6, n_6, k_7, n_7, k_8, n_8, k_9, n_9, k_10, r_10_0, r_10_1, r_10_2, r_10_3, r_10_4, r_10_5, k_11, r_11_5, r_11_6, r_11_7, r_11_8, r_11_9, r_11_10, r_11_11, r_11_12, r_11_13, r_11_14, r_11_15, r_11_16, k_12, n_12, k_13, n_13, k_14, n_14, k_15, n_15, k_16, n_16, k_17, n_17, k_18, n_18, k_19, n_19, k_20, n_20, k_21, n_21, k_22, n_22, k_23, n_23, k_24, r_24_3, r_24_4, r_24_5, r_24_6, r_24_7, r_24_8, r_24_9, r_24_10, r_24_11, r_24_12, r_24_13, k_25, n_25, k_26, n_26, k_27, n_27, k_28, n_28, k_29, n_29, k_30, n_30, k_31, n_31, k_32, n_32, k_33, n_33, k_34, n_34, k_35, n_35, k_36, r_36_0, r_36_3, r_36_4, r_36_5, r_36_6, r_36_7, k_37, n_37, k_38, n_38, k_39, n_39, r_39_0, r_39_1, r_39_2, r_39_3, r_39_4, r_39_5, k_40, n_40, k_41, n_41, k_42, n_42, k_43, n_43, k_44, n_44, k_45, n_45, k_46, n_46, k_47, n_47, k_48, r_48_0, r_48_1, r_48_5, k_49, n_49, k_50, n_50, k_51, n_51, k_52, r_52_0, r_52_1, r_52_2, r_52_3, r_52_4, r_52_5, r_52_6, r_52_7, r_52_8, r_52_9, r_52_10, r_52_11, r_52_12, r_52_13, k_53, r_53_0, r_53_1, r_53_2, r_53_3, r_53_4, r_53_5, r_53_6, k_54, n_54, k_55, n_55, k_56, n_56, k_57, n_57, k_58, n_58, k_59, n_59, k_60, n_60, k_61, r_61_0, r_61_1, r_61_2, r_61_3, k_62, n_62, k_63, n_63, k_64, n_64, k_65, n_65, k_66, r_66_0, r_66_1, r_66_2, r_66_3, r_66_4, r_66_5, k_67, n_67, k_68, n_68, k_69, n_69, k_70, n_70, k_71, n_71, k_72, n_72, k_73, n_73, k_74, n_74, k_75, n_75, k_76, n_76, k_77, n_77, k_78, n_78, k_79, n_79, k_80, n_80, k_81, r_81_0, r_81_1, r_81_2, r_81_3, r_81_4, r_81_9, r_81_10, k_82, n_82, r_82_0, r_82_1, r_82_2, r_82_3, k_83, n_83, k_84, n_84, k_85, n_85, k_86, n_86, k_87, r_87_0, r_87_1, r_87_2, r_87_3, r_87_4, r_87_5, r_87_6, r_87_7, r_87_8, r_87_9, r_87_10, r_87_11, r_87_12, r_87_13, k_116, r_116_0, r_116_1, r_116_2, r_116_3, r_116_4, r_116_5, r_116_6, r_116_7, r_116_8, r_116_9, r_116_10, r_116_11, r_116_12, r_116_13, k_145, r_145_0, r_145_1, r_145_2, r_145_3, r_145_4, r_145_5, r_145_6, r_145_7, r_145_8, r_145_9, r_145_10, r_145_11, r_145_12, r_145_13, k_174, r_174_0, r_174_1, r_174_2, r_174_3, r_174_4, r_174_5, r_174_6, r_174_7, r_174_8, r_174_9, r_174_10, r_174_11, r_174_12, r_174_13, k_203, r_203_0, r_203_1, r_203_2, r_203_3, r_203_4, r_203_5, r_203_6, r_203_7, r_203_8, r_203_9, r_203_10, r_203_11, r_203_12, r_203_13, k_232, n_232, r_232_0, r_232_1, r_232_2, r_232_3, k_233, r_233_2, k_234, n_234, k_235, r_235_2, k_236, n_236, k_237, r_237_2, k_238, n_238, k_239, r_239_2, k_240, n_240, c_R_need1]
            grind⟩)
        clear hF hS hk ret hp c7
        simp only [s_Reader_read_1, s_Reader_read_2, s_Reader_read_3, s_Reader_read_7, s_Reader_read_8, s_Reader_read_11, s_Reader_read_12, s_Reader_read_13, s_Reader_read_16, s_Reader_read_17, s_Reader_read_18, s_Reader_read_21, s_Reader_read_22, s_Reader_read_24, s_Reader_read_27, s_Reader_read_28, s_Reader_read_29, s_Reader_read_30, s_Reader_read_34, s_Reader_read_36, s_Reader_read_39, s_Reader_read_40, s_Reader_read_43, s_Reader_read_46, s_Reader_read_47, s_Reader_read_50, s_Reader_read_51, s_Reader_read_54, s_Reader_read_55, s_Reader_read_57, s_Reader_read_60, s_Reader_read_61, s_Reader_read_62, s_Reader_read_63, s_Reader_read_66, s_Reader_read_67, s_Reader_read_70, s_Reader_read_71, k_1, n_1, k_2, n_2, k_3, n_3, k_4, n_4, k_5, n_5, k_6, n_6, k_7, n_7, k_8, n_8, k_9, n_9, k_10, r_10_0, r_10_1, r_10_2, r_10_3, r_10_4, r_10_5, k_11, r_11_5, r_11_6, r_11_7, r_11_8, r_11_9, r_11_10, r_11_11, r_11_12, r_11_13, r_11_14, r_11_15, r_11_16, k_12, n_12, k_13, n_13, k_14, n_14, k_15, n_15, k_16, n_16, k_17, n_17, k_18, n_18, k_19, n_19, k_20, n_20, k_21, n_21, k_22, n_22, k_23, n_23, k_24, r_24_3, r_24_4, r_24_5, r_24_6, r_24_7, r_24_8, r_24_9, r_24_10, r_24_11, r_24_12, r_24_13, k_25, n_25, k_26, n_26, k_27, n_27, k_28, n_28, k_29, n_29, k_30, n_30, k_31, n_31, k_32, n_32, k_33, n_33, k_34, n_34, k_35, n_35, k_36, r_36_0, r_36_3, r_36_4, r_36_5, r_36_6, r_36_7, k_37, n_37, k_38, n_38, k_39, n_39, r_39_0, r_39_1, r_39_2, r_39_3, r_39_4, r_39_5, k_40, n_40, k_41, n_41, k_42, n_42, k_43, n_43, k_44, n_44, k_45, n_45, k_46, n_46, k_47, n_47, k_48, r_48_0, r_48_1, r_48_5, k_49, n_49, k_50, n_50, k_51, n_51, k_52, r_52_0, r_52_1, r_52_2, r_52_3, r_52_4, r_52_5, r_52_6, r_52_7, r_52_8, r_52_9, r_52_10, r_52_11, r_52_12, r_52_13, k_53, r_53_0, r_53_1, r_53_2, r_53_3, r_53_4, r_53_5, r_53_6, k_54, n_54, k_55, n_55, k_56, n_56, k_57, n_57, k_58, n_58, k_59, n_59, k_60, n_60, k_61, r_61_0, r_61_1, r_61_2, r_61_3, k_62, n_62, k_63, n_63, k_64, n_64, k_65, n_65, k_66, r_66_0, r_66_1, r_66_2, r_66_3, r_66_4, r_66_5, k_67, n_67, k_68, n_68, k_69, n_69, k_70, n_70, k_71, n_71, k_72, n_72, k_73, n_73, k_74, n_74, k_75, n_75, k_76, n_76, k_77, n_77, k_78, n_78, k_79, n_79, k_80, n_80, k_81, r_81_0, r_81_1, r_81_2, r_81_3, r_81_4, r_81_9, r_81_10, k_82, n_82, r_82_0, r_82_1, r_82_2, r_82_3, k_83, n_83, k_84, n_84, k_85, n_85, k_86, n_86, k_87, r_87_0, r_87_1, r_87_2, r_87_3, r_87_4, r_87_5, r_87_6, r_87_7, r_87_8, r_87_9, r_87_10, r_87_11, r_87_12, r_87_13, k_116, r_116_0, r_116_1, r_116_2, r_116_3, r_116_4, r_116_5, r_116_6, r_116_7, r_116_8, r_116_9, r_116_10, r_116_11, r_116_12, r_116_13, k_145, r_145_0, r_145_1, r_145_2, r_145_3, r_145_4, r_145_5, r_145_6, r_145_7, r_145_8, r_145_9, r_145_10, r_145_11, r_145_12, r_145_13, k_174, r_174_0, r_174_1, r_174_2, r_174_3, r_174_4, r_174_5, r_174_6, r_174_7, r_174_8, r_174_9, r_174_10, r_174_11, r_174_12, r_174_13, k_203, r_203_0, r_203_1, r_203_2, r_203_3, r_203_4, r_203_5, r_203_6, r_203_7, r_203_8, r_203_9, r_203_10, r_203_11, r_203_12, r_203_13, k_232, n_232, r_232_0, r_232_1, r_232_2, r_232_3, k_233, r_233_2, k_234, n_234, k_235, r_235_2, k_236, n_236, k_237, r_237_2, k_238, n_238, k_239, r_239_2, k_240, n_240, n7]
        clear n7
        grind
      · simp only [if_neg c7] at n7
        have rt := ret 0 1 ((([] : List Int).length : Nat) : Int) c (Nat.zero_le _) rfl ⟨Nat.zero_le _, Or.inl ⟨c7, rfl⟩⟩
        have pw0 := fun (S : RT) => c_R_part0_w (k := k + 70) (L := L) (D := D) (j := 0) (o := 0) (z := ((([] : List Int).length : Nat) : Int)) (c := c) (R := S)
        clear hF hS hk ret hp c7
        simp only [s_Reader_read_1, s_Reader_read_2, s_Reader_read_3, s_Reader_read_7, s_Reader_read_8, s_Reader_read_11, s_Reader_read_12, s_Reader_read_13, s_Reader_read_16, s_Reader_read_17, s_Reader_read_18, s_Reader_read_21, s_Reader_read_22, s_Reader_read_24, s_Reader_read_27, s_Reader_read_28, s_Reader_read_29, s_Reader_read_30, s_Reader_read_33, s_Reader_read_34, s_Reader_read_36, s_Reader_read_40, s_Reader_read_43, s_Reader_read_46, s_Reader_read_47, s_Reader_read_50, s_Reader_read_51, s_Reader_read_54, s_Reader_read_55, s_Reader_read_57, s_Reader_read_60, s_Reader_read_61, s_Reader_read_62, s_Reader_read_63, s_Reader_read_66, s_Reader_read_67, s_Reader_read_70, s_Reader_read_71, k_1, n_1, k_2, n_2, k_3, n_3, k_4, n_4, k_5, n_5, k_6, n_6, k_7, n_7, k_8, n_8, k_9, n_9, k_10, r_10_0, r_10_1, r_10_2, r_10_3, r_10_4, r_10_5, k_11, r_11_5, r_11_6, r_11_7, r_11_8, r_11_9, r_11_10, r_11_11, r_11_12, r_11_13, r_11_14, r_11_15, r_11_16, k_12, n_12, k_13, n_13, k_14, n_14, k_15, n_15, k_16, n_16, k_17, n_17, k_18, n_18, k_19, n_19, k_20, n_20, k_21, n_21, k_22, n_22, k_23, n_23, k_24, r_24_3, r_24_4, r_24_5, r_24_6, r_24_7, r_24_8, r_24_9, r_24_10, r_24_11, r_24_12, r_24_13, k_25, n_25, k_26, n_26, k_27, n_27, k_28, n_28, k_29, n_29, k_30, n_30, k_31, n_31, k_32, n_32, k_33, n_33, k_34, n_34, k_35, n_35, k_36, r_36_0, r_36_3, r_36_4, r_36_5, r_36_6, r_36_7, k_37, n_37, k_38, n_38, k_39, n_39, r_39_0, r_39_1, r_39_2, r_39_3, r_39_4, r_39_5, k_40, n_40, k_41, n_41, k_42, n_42, k_43, n_43, k_44, n_44, k_45, n_45, k_46, n_46, k_47, n_47, k_48, r_48_0, r_48_1, r_48_5, k_49, n_49, k_50, n_50, k_51, n_51, k_52, r_52_0, r_52_1, r_52_2, r_52_3, r_52_4, r_52_5, r_52_6, r_52_7, r_52_8, r_52_9, r_52_10, r_52_11, r_52_12, r_52_13, k_53, r_53_0, r_53_1, r_53_2, r_53_3, r_53_4, r_53_5, r_53_6, k_54, n_54, k_55, n_55, k_56, n_56, k_57, n_57, k_58, n_58, k_59, n_59, k_60, n_60, k_61, r_61_0, r_61_1, r_61_2, r_61_3, k_62, n_62, k_63, n_63, k_64, n_64, k_65, n_65, k_66, r_66_0, r_66_1, r_66_2, r_66_3, r_66_4, r_66_5, k_67, n_67, k_68, n_68, k_69, n_69, k_70, n_70, k_71, n_71, k_72, n_72, k_73, n_73, k_74, n_74, k_75, n_75, k_76, n_76, k_77, n_77, k_78, n_78, k_79, n_79, k_80, n_80, k_81, r_81_0, r_81_1, r_81_2, r_81_3, r_81_4, r_81_9, r_81_10, k_82, n_82, r_82_0, r_82_1, r_82_2, r_82_3, k_83, n_83, k_84, n_84, k_85, n_85, k_86, n_86, k_87, r_87_0, r_87_1, r_87_2, r_87_3, r_87_4, r_87_5, r_87_6, r_87_7, r_87_8, r_87_9, r_87_10, r_87_11, r_87_12, r_87_13, k_116, r_116_0, r_116_1, r_116_2, r_116_3, r_116_4, r_116_5, r_116_6, r_116_7, r_116_8, r_116_9, r_116_10, r_116_11, r_116_12, r_116_13, k_145, r_145_0, r_145_1, r_145_2, r_145_3, r_145_4, r_145_5, r_145_6, r_145_7, r_145_8, r_145_9, r_145_10, r_145_11, r_145_12, r_145_13, k_174, r_174_0, r_174_1, r_174_2, r_174_3, r_174_4, r_174_5, r_174_6, r_174_7, r_174_8, r_174_9, r_174_10, r_174_11, r_174_12, r_174_13, k_203, r_203_0, r_203_1, r_203_2, r_203_3, r_203_4, r_203_5, r_203_6, r_203_7, r_203_8, r_203_9, r_203_10, r_203_11, r_203_12, r_203_13, k_232, n_232, r_232_0, r_232_1, r_232_2, r_232_3, k_233, r_233_2, k_234, n_234, k_235, r_235_2, k_236, n_236, k_237, r_237_2, k_238, n_238, k_239, r_239_2, k_240, n_240, n7, pw0, c_R_need1]
        clear n7 pw0
        grind
    have g2 := go24 (D 51)
    have e0 : ups (ups (ups D 48 3 0) 48 6 0) 48 4 0 = qD D ((0 : Nat) : Int) 0 ((([] : List Int).length : Nat) : Int) (D 51) := by
      calc ups (ups (ups D 48 3 0) 48 6 0) 48 4 0 = ups (ups (ups (qD D (D 48 3) (D 48 4) (D 48 6) (D 51)) 48 3 0) 48 6 0) 48 4 0 := by rw [qD_id]
        _ = qD D 0 0 0 (D 51) := by rw [qu_3, qu_6, qu_4]
    clear hF hS hk ret hp go24
    rw [← e0] at g2
    simp only [s_Reader_read_1, s_Reader_read_2, s_Reader_read_3, s_Reader_read_6, s_Reader_read_7, s_Reader_read_8, s_Reader_read_11, s_Reader_read_12, s_Reader_read_13, s_Reader_read_16, s_Reader_read_17, s_Reader_read_18, s_Reader_read_22, s_Reader_read_24, s_Reader_read_27, s_Reader_read_28, s_Reader_read_29, s_Reader_read_30, s_Reader_read_33, s_Reader_read_34, s_Reader_read_36, s_Reader_read_39, s_Reader_read_40, s_Reader_read_43, s_Reader_read_46, s_Reader_read_47, s_Reader_read_50, s_Reader_read_51, s_Reader_read_54, s_Reader_read_55, s_Reader_read_57, s_Reader_read_60, s_Reader_read_61, s_Reader_read_62, s_Reader_read_63, s_Reader_read_66, s_Reader_read_67, s_Reader_read_70, s_Reader_read_71, k_1, n_1, k_2, n_2, k_3, n_3, k_4, n_4, k_5, n_5, k_6, n_6, k_7, n_7, k_8, n_8, k_9, n_9, k_10, r_10_0, r_10_1, r_10_2, r_10_3, r_10_4, r_10_5, k_11, r_11_5, r_11_6, r_11_7, r_11_8, r_11_9, r_11_10, r_11_11, r_11_12, r_11_13, r_11_14, r_11_15, r_11_16, k_12, n_12, k_13, n_13, k_14, n_14, k_15, n_15, k_16, n_16, k_17, n_17, k_18, n_18, k_19, n_19, k_20, n_20, k_21, n_21, k_22, n_22, k_23, n_23, k_24, r_24_3, r_24_4, r_24_5, r_24_6, r_24_7, r_24_8, r_24_9, r_24_10, r_24_11, r_24_12, r_24_13, k_25, n_25, k_26, n_26, k_27, n_27, k_28, n_28, k_29, n_29, k_30, n_30, k_31, n_31, k_32, n_32, k_33, n_33, k_34, n_34, k_35, n_35, k_36, r_36_0, r_36_3, r_36_4, r_36_5, r_36_6, r_36_7, k_37, n_37, k_38, n_38, k_39, n_39, r_39_0, r_39_1, r_39_2, r_39_3, r_39_4, r_39_5, k_40, n_40, k_41, n_41, k_42, n_42, k_43, n_43, k_44, n_44, k_45, n_45, k_46, n_46, k_47, n_47, k_48, r_48_0, r_48_1, r_48_5, k_49, n_49, k_50, n_50, k_51, n_51, k_52, r_52_0, r_52_1, r_52_2, r_52_3, r_52_4, r_52_5, r_52_6, r_52_7, r_52_8, r_52_9, r_52_10, r_52_11, r_52_12, r_52_13, k_53, r_53_0, r_53_1, r_53_2, r_53_3, r_53_4, r_53_5, r_53_6, k_54, n_54, k_55, n_55, k_56, n_56, k_57, n_57, k_58, n_58, k_59, n_59, k_60, n_60, k_61, r_61_0, r_61_1, r_61_2, r_61_3, k_62, n_62, k_63, n_63, k_64, n_64, k_65, n_65, k_66, r_66_0, r_66_1, r_66_2, r_66_3, r_66_4, r_66_5, k_67, n_67, k_68, n_68, k_69, n_69, k_70, n_70, k_71, n_71, k_72, n_72, k_73, n_73, k_74, n_74, k_75, n_75, k_76, n_76, k_77, n_77, k_78, n_78, k_79, n_79, k_80, n_80, k_81, r_81_0, r_81_1, r_81_2, r_81_3, r_81_4, r_81_9, r_81_10, k_82, n_82, r_82_0, r_82_1, r_82_2, r_82_3, k_83, n_83, k_84, n_84, k_85, n_85, k_86, n_86, k_87, r_87_0, r_87_1, r_87_2, r_87_3, r_87_4, r_87_5, r_87_6, r_87_7, r_87_8, r_87_9, r_87_10, r_87_11, r_87_12, r_87_13, k_116, r_116_0, r_116_1, r_116_2, r_116_3, r_116_4, r_116_5, r_116_6, r_116_7, r_116_8, r_116_9, r_116_10, r_116_11, r_116_12, r_116_13, k_145, r_145_0, r_145_1, r_145_2, r_145_3, r_145_4, r_145_5, r_145_6, r_145_7, r_145_8, r_145_9, r_145_10, r_145_11, r_145_12, r_145_13, k_174, r_174_0, r_174_1, r_174_2, r_174_3, r_174_4, r_174_5, r_174_6, r_174_7, r_174_8, r_174_9, r_174_10, r_174_11, r_174_12, r_174_13, k_203, r_203_0, r_203_1, r_203_2, r_203_3, r_203_4, r_203_5, r_203_6, r_203_7, r_203_8, r_203_9, r_203_10, r_203_11, r_203_12, r_203_13, k_232, n_232, r_232_0, r_232_1, r_232_2, r_232_3, k_233, r_233_2, k_234, n_234, k_235, r_235_2, k_236, n_236, k_237, r_237_2, k_238, n_238, k_239, r_239_2, k_240, n_240, true_or, true_and]
    exact g2
  have sp := c_R_split (L := L) (k := k + 74) (R := fun _ sh' d' => sh' = SH L ∧ Go (k + 78) 182 R 6 [vR 48, vR 37, vI (n : Int)] [] (SH L) d') hT h8 h9 hn hb (fun m x y hs => ⟨rfl, st m x y hs⟩)
  clear hF hS st hb
  simp only [s_Reader_read_0, s_Reader_read_1, s_Reader_read_2, s_Reader_read_3, s_Reader_read_7, s_Reader_read_8, s_Reader_read_11, s_Reader_read_12, s_Reader_read_13, s_Reader_read_16, s_Reader_read_17, s_Reader_read_18, s_Reader_read_21, s_Reader_read_22, s_Reader_read_24, s_Reader_read_27, s_Reader_read_28, s_Reader_read_29, s_Reader_read_30, s_Reader_read_33, s_Reader_read_34, s_Reader_read_36, s_Reader_read_39, s_Reader_read_40, s_Reader_read_43, s_Reader_read_46, s_Reader_read_47, s_Reader_read_50, s_Reader_read_51, s_Reader_read_54, s_Reader_read_55, s_Reader_read_57, s_Reader_read_60, s_Reader_read_61, s_Reader_read_62, s_Reader_read_63, s_Reader_read_66, s_Reader_read_67, s_Reader_read_70, s_Reader_read_71]
  first | exact ⟨k_48, sp⟩ | exact sp | grind
end
