/-! the class's tokens, on (expanded by gen18.py) -/
theorem pw_l {a : Int} (h : ltr a = true) : pw a = ltr := by
  funext c
  have h2 : dgt a = false := by
    unfold ltr at h
    have h := of_decide_eq_true h
    unfold dgt
    exact decide_eq_false (by omega)
  unfold pw
  rw [h, h2, Bool.true_and, Bool.false_and, Bool.or_false]
theorem pw_d {a : Int} (h : dgt a = true) : pw a = dgt := by
  funext c
  have h2 : ltr a = false := by
    unfold dgt at h
    have h := of_decide_eq_true h
    unfold ltr
    exact decide_eq_false (by omega)
  unfold pw
  rw [h, h2, Bool.true_and, Bool.false_and, Bool.false_or]
theorem pw_n {a : Int} (h : ¬ ltr a = true) (h2 : ¬ dgt a = true) : pw a = fun _ => false := by
  funext c
  rw [Bool.not_eq_true] at h h2
  unfold pw
  rw [h, h2, Bool.false_and, Bool.false_and, Bool.or_false]
theorem en_n {T : Row} {n i : Nat} (h : ¬ ltr (T i) = true) (h2 : ¬ dgt (T i) = true) : enT T n i = i + 1 := by
  unfold enT
  rw [pw_n h h2]
  exact rn_f (fun z => by cases z.2)
theorem nv_bd {T : Row} {i : Nat} : ∀ r, r ≤ 4 → (∀ q, q < r → 48 ≤ T (i + q) ∧ T (i + q) ≤ 57) → 0 ≤ nv T i r ∧ nv T i r ≤ (if r = 0 then 0 else if r = 1 then 9 else if r = 2 then 99 else if r = 3 then 999 else 9999)
  | 0, _, _ => (by decide : (0 : Int) ≤ 0 ∧ (0 : Int) ≤ 0)
  | r + 1, hr, h => by
    have ih := nv_bd r (by omega) (fun q hq => h q (by omega))
    have x := h r (by omega)
    show 0 ≤ 10 * nv T i r + T (i + r) - 48 ∧ 10 * nv T i r + T (i + r) - 48 ≤ _
    have : r = 0 ∨ r = 1 ∨ r = 2 ∨ r = 3 := by omega
    rcases this with z | z | z | z <;> subst z <;> simp at ih x ⊢ <;> omega
theorem wn_v {v c : Int} (h : 0 ≤ v ∧ v ≤ 99999) (hc : 0 ≤ c ∧ c ≤ 255) : wr (wr (wr (10 * v) + c) - 48) = 10 * v + c - 48 := by
  rw [wr_of (x := 10 * v) (by omega), wr_of (x := 10 * v + c) (by omega), wr_of (by omega)]
section
variable {L k : Nat} {d : Dat} {T : Row} {R : RT}
theorem c_R_endOf {i n : Nat} (hT : d 37 = T) (hi : i < n) (hn : n ≤ 160) : Cl (k + 3) 187 [vR 37, vI (n : Int), vI (i : Int)] (SH L) d R ↔ R (vI ((enT T n i : Nat) : Int)) (SH L) d := by
  refine det_iff (fun R h => ?_)
  refine Cl_succ rfl ?_
  show Go (k + 2) 187 R 0 [vR 37, vI (n : Int), vI (i : Int), vU, vU, vU] [] (SH L) d
  have key : Go (k + 2) 187 R 20 [vR 37, vI (n : Int), vI (i : Int), vI (if ltr (T i) = true then 1 else 0), vI (if dgt (T i) = true then 1 else 0), vI ((i + 1 : Nat) : Int)] [] (SH L) d := by
    refine rn_loop (p := pw (T i)) (T := T) (n := n) (e := enT T n i) (G := fun j => Go (k + 2) 187 R 20 [vR 37, vI (n : Int), vI (i : Int), vI (if ltr (T i) = true then 1 else 0), vI (if dgt (T i) = true then 1 else 0), vI ((j : Nat) : Int)] [] (SH L) d) (fun j hj hp he hG => ?_) (fun hp => ?_) _ _ rfl (by omega) rfl
    · unfold pw at hp
      clear h
      rw [s_Reader_endOf_20]
      simp (disch := omega) only [s_Reader_endOf_0, s_Reader_endOf_1, s_Reader_endOf_2, s_Reader_endOf_3, s_Reader_endOf_6, s_Reader_endOf_7, s_Reader_endOf_8, s_Reader_endOf_9, s_Reader_endOf_10, s_Reader_endOf_13, s_Reader_endOf_15, s_Reader_endOf_16, s_Reader_endOf_17, s_Reader_endOf_18, s_Reader_endOf_22, s_Reader_endOf_23, s_Reader_endOf_26, s_Reader_endOf_27, s_Reader_endOf_30, s_Reader_endOf_31, s_Reader_endOf_33, s_Reader_endOf_34, s_Reader_endOf_37, s_Reader_endOf_40, s_Reader_endOf_42, s_Reader_endOf_45, s_Reader_endOf_46, s_Reader_endOf_48, s_Reader_endOf_49, s_Reader_endOf_52, s_Reader_endOf_55, s_Reader_endOf_58, s_Reader_endOf_61, s_Reader_endOf_63, c_R_letter, c_R_digit, k_37, n_37, ld20, hT, wr_inc, le_T, lt_T, le_F, lt_F, Int.toNat_natCast, cat_n, cat_i, Nat.ble_eq, Nat.reduceAdd, Nat.reduceLeDiff, true_and, and_true, true_implies, false_implies, not_true_eq_false, not_false_eq_true, implies_true]
      clear hT
      grind
    · have hle : enT T n i ≤ n := rn_le (by omega)
      generalize enT T n i = e at *
      unfold pw at hp
      rw [s_Reader_endOf_20]
      by_cases c : e < n
      · have hp := hp c
        simp (disch := omega) only [s_Reader_endOf_0, s_Reader_endOf_1, s_Reader_endOf_2, s_Reader_endOf_3, s_Reader_endOf_6, s_Reader_endOf_7, s_Reader_endOf_8, s_Reader_endOf_9, s_Reader_endOf_10, s_Reader_endOf_13, s_Reader_endOf_15, s_Reader_endOf_16, s_Reader_endOf_17, s_Reader_endOf_18, s_Reader_endOf_22, s_Reader_endOf_23, s_Reader_endOf_26, s_Reader_endOf_27, s_Reader_endOf_30, s_Reader_endOf_31, s_Reader_endOf_33, s_Reader_endOf_34, s_Reader_endOf_37, s_Reader_endOf_40, s_Reader_endOf_42, s_Reader_endOf_45, s_Reader_endOf_46, s_Reader_endOf_48, s_Reader_endOf_49, s_Reader_endOf_52, s_Reader_endOf_55, s_Reader_endOf_58, s_Reader_endOf_61, s_Reader_endOf_63, c_R_letter, c_R_digit, k_37, n_37, ld20, hT, le_T, lt_T, le_F, lt_F, Int.toNat_natCast, cat_n, cat_i, Nat.ble_eq, Nat.reduceAdd, Nat.reduceLeDiff, true_and, and_true, true_implies, false_implies, not_true_eq_false, not_false_eq_true, implies_true]
        clear hT
        grind
      · clear hp
        simp (disch := omega) only [s_Reader_endOf_0, s_Reader_endOf_1, s_Reader_endOf_2, s_Reader_endOf_3, s_Reader_endOf_6, s_Reader_endOf_7, s_Reader_endOf_8, s_Reader_endOf_9, s_Reader_endOf_10, s_Reader_endOf_13, s_Reader_endOf_15, s_Reader_endOf_16, s_Reader_endOf_17, s_Reader_endOf_18, s_Reader_endOf_22, s_Reader_endOf_23, s_Reader_endOf_27, s_Reader_endOf_30, s_Reader_endOf_31, s_Reader_endOf_33, s_Reader_endOf_34, s_Reader_endOf_37, s_Reader_endOf_40, s_Reader_endOf_42, s_Reader_endOf_45, s_Reader_endOf_46, s_Reader_endOf_48, s_Reader_endOf_49, s_Reader_endOf_52, s_Reader_endOf_55, s_Reader_endOf_58, s_Reader_endOf_61, s_Reader_endOf_63, le_T, lt_T, le_F, lt_F, true_and, and_true, true_implies, false_implies, not_true_eq_false, not_false_eq_true, implies_true]
        clear hT
        grind
  clear h
  simp (disch := omega) only [s_Reader_endOf_0, s_Reader_endOf_1, s_Reader_endOf_2, s_Reader_endOf_3, s_Reader_endOf_6, s_Reader_endOf_7, s_Reader_endOf_8, s_Reader_endOf_9, s_Reader_endOf_10, s_Reader_endOf_13, s_Reader_endOf_15, s_Reader_endOf_16, s_Reader_endOf_17, s_Reader_endOf_18, s_Reader_endOf_22, s_Reader_endOf_23, s_Reader_endOf_26, s_Reader_endOf_27, s_Reader_endOf_30, s_Reader_endOf_31, s_Reader_endOf_33, s_Reader_endOf_34, s_Reader_endOf_37, s_Reader_endOf_40, s_Reader_endOf_42, s_Reader_endOf_45, s_Reader_endOf_46, s_Reader_endOf_48, s_Reader_endOf_49, s_Reader_endOf_52, s_Reader_endOf_55, s_Reader_endOf_58, s_Reader_endOf_61, s_Reader_endOf_63, c_R_letter, c_R_digit, k_37, n_37, ld20, hT, wr_inc, le_T, lt_T, Int.toNat_natCast, cat_n, cat_i, Nat.ble_eq, Nat.reduceAdd, Nat.reduceLeDiff, true_and, and_true]
  clear hT
  grind
theorem c_R_numberOf {i e : Nat} (hT : d 37 = T) (hi : i ≤ e) (he : e ≤ 160) (hd : ∀ q, q < e - i → 48 ≤ T (i + q) ∧ T (i + q) ≤ 57) : Cl (k + 1) 189 [vR 37, vI (i : Int), vI (e : Int)] (SH L) d R ↔ R (vI (if 4 < e - i then -20 else nv T i (e - i))) (SH L) d := by
  refine det_iff (fun R h => ?_)
  refine Cl_succ rfl ?_
  show Go k 189 R 0 [vR 37, vI (i : Int), vI (e : Int), vU, vU] [] (SH L) d
  have w0 : Unit → wr ((e : Int) - (i : Int)) = (e : Int) - (i : Int) := fun _ => wr_of (by omega)
  by_cases c : 4 < e - i
  · rw [if_pos c] at h
    clear hd
    simp (disch := omega) only [s_Reader_numberOf_0, s_Reader_numberOf_1, s_Reader_numberOf_2, s_Reader_numberOf_3, s_Reader_numberOf_4, s_Reader_numberOf_7, s_Reader_numberOf_9, s_Reader_numberOf_10, s_Reader_numberOf_11, s_Reader_numberOf_12, s_Reader_numberOf_13, s_Reader_numberOf_17, s_Reader_numberOf_18, s_Reader_numberOf_21, s_Reader_numberOf_23, s_Reader_numberOf_24, s_Reader_numberOf_25, s_Reader_numberOf_26, s_Reader_numberOf_28, s_Reader_numberOf_29, s_Reader_numberOf_30, s_Reader_numberOf_32, s_Reader_numberOf_33, s_Reader_numberOf_34, s_Reader_numberOf_37, s_Reader_numberOf_40, s_Reader_numberOf_41, w0 (), le_T, lt_T, le_F, lt_F, true_and, and_true, true_implies, false_implies, not_true_eq_false, not_false_eq_true, implies_true]
    clear w0
    grind
  · rw [if_neg c] at h
    have key : Go k 189 R 15 [vR 37, vI (i : Int), vI (e : Int), vI 0, vI ((i + 0 : Nat) : Int)] [] (SH L) d := by
      refine loop_up (G := fun r v => Go k 189 R 15 [vR 37, vI (i : Int), vI (e : Int), vI v, vI ((i + r : Nat) : Int)] [] (SH L) d) (f := fun r v => 10 * v + T (i + r) - 48) (s := (0 : Int)) (fun r v => v = nv T i r) (e - i) (fun r hr v hv hG => ?_) rfl (fun hv => ?_)
      · have hG := hG (by rw [hv]; rfl)
        have b := nv_bd (T := T) (i := i) r (by omega) (fun q hq => hd q (by omega))
        have b2 : 0 ≤ v ∧ v ≤ 99999 := by
          rw [hv]
          have : r = 0 ∨ r = 1 ∨ r = 2 ∨ r = 3 := by omega
          rcases this with z | z | z | z <;> subst z <;> simp at b <;> omega
        have b3 := hd r hr
        have w1 : Unit → wr (wr (wr (10 * v) + T (i + r)) - 48) = 10 * v + T (i + r) - 48 := fun _ => wn_v b2 (by omega)
        clear h hv b hd w0
        rw [s_Reader_numberOf_15]
        simp (disch := omega) only [s_Reader_numberOf_0, s_Reader_numberOf_1, s_Reader_numberOf_2, s_Reader_numberOf_3, s_Reader_numberOf_4, s_Reader_numberOf_7, s_Reader_numberOf_9, s_Reader_numberOf_10, s_Reader_numberOf_11, s_Reader_numberOf_12, s_Reader_numberOf_13, s_Reader_numberOf_17, s_Reader_numberOf_18, s_Reader_numberOf_21, s_Reader_numberOf_23, s_Reader_numberOf_24, s_Reader_numberOf_25, s_Reader_numberOf_26, s_Reader_numberOf_28, s_Reader_numberOf_29, s_Reader_numberOf_30, s_Reader_numberOf_32, s_Reader_numberOf_33, s_Reader_numberOf_34, s_Reader_numberOf_37, s_Reader_numberOf_40, s_Reader_numberOf_41, k_37, n_37, ld20, hT, w1 (), wr_inc, le_T, lt_T, le_F, lt_F, Int.toNat_natCast, true_and, and_true, true_implies, false_implies, not_true_eq_false, not_false_eq_true, implies_true]
        clear w1 hT
        grind
      · rw [← hv] at h
        clear hv hd w0
        generalize iterN _ (e - i) (0 : Int) = v at *
        rw [s_Reader_numberOf_15]
        simp (disch := omega) only [s_Reader_numberOf_0, s_Reader_numberOf_1, s_Reader_numberOf_2, s_Reader_numberOf_3, s_Reader_numberOf_4, s_Reader_numberOf_7, s_Reader_numberOf_9, s_Reader_numberOf_10, s_Reader_numberOf_11, s_Reader_numberOf_12, s_Reader_numberOf_13, s_Reader_numberOf_17, s_Reader_numberOf_18, s_Reader_numberOf_21, s_Reader_numberOf_23, s_Reader_numberOf_24, s_Reader_numberOf_25, s_Reader_numberOf_26, s_Reader_numberOf_28, s_Reader_numberOf_29, s_Reader_numberOf_30, s_Reader_numberOf_32, s_Reader_numberOf_33, s_Reader_numberOf_34, s_Reader_numberOf_37, s_Reader_numberOf_40, s_Reader_numberOf_41, le_T, lt_T, le_F, lt_F, true_and, and_true, true_implies, false_implies, not_true_eq_false, not_false_eq_true, implies_true]
        grind
    clear h hd
    simp (disch := omega) only [s_Reader_numberOf_0, s_Reader_numberOf_1, s_Reader_numberOf_2, s_Reader_numberOf_3, s_Reader_numberOf_4, s_Reader_numberOf_7, s_Reader_numberOf_9, s_Reader_numberOf_10, s_Reader_numberOf_11, s_Reader_numberOf_12, s_Reader_numberOf_13, s_Reader_numberOf_17, s_Reader_numberOf_18, s_Reader_numberOf_21, s_Reader_numberOf_23, s_Reader_numberOf_24, s_Reader_numberOf_25, s_Reader_numberOf_26, s_Reader_numberOf_28, s_Reader_numberOf_29, s_Reader_numberOf_30, s_Reader_numberOf_32, s_Reader_numberOf_33, s_Reader_numberOf_34, s_Reader_numberOf_37, s_Reader_numberOf_40, s_Reader_numberOf_41, w0 (), le_T, lt_T, le_F, lt_F, true_and, and_true, true_implies, false_implies, not_true_eq_false, not_false_eq_true, implies_true]
    clear w0
    grind
theorem c_R_tokenOf {i n : Nat} (hT : d 37 = T) (h8 : d 8 = wsR) (h9 : d 9 = sgR) (hb : 0 ≤ T i ∧ T i ≤ 255) (hi : i < n) (hn : n ≤ 160) : Cl (k + 3) 188 [vR 37, vI (i : Int), vI ((enT T n i : Nat) : Int)] (SH L) d R ↔ R (vI (tokC T i (enT T n i))) (SH L) d := by
  have h1 : i + 1 ≤ enT T n i := rn_ge
  have h2 : enT T n i ≤ n := rn_le (by omega)
  have h3 : dgt (T i) = true → ∀ q, q < enT T n i - i → 48 ≤ T (i + q) ∧ T (i + q) ≤ 57 := by
    intro z q hq
    have zz := z
    unfold dgt at z
    have z := of_decide_eq_true z
    by_cases y : q = 0
    · rw [y]
      exact z
    · have := rn_in (p := pw (T i)) (T := T) (n := n) (j := i + 1) (i := i + q) (by omega) (by unfold enT at hq; omega)
      rw [pw_d zz] at this
      unfold dgt at this
      exact of_decide_eq_true this
  generalize enT T n i = e at *
  refine (Cl_iff rfl).trans ?_
  show Go (k + 2) 188 R 0 [vR 37, vI (i : Int), vI (e : Int), vU] [] (SH L) d ↔ _
  unfold tokC
  by_cases c1 : ltr (T i) = true
  · have wo := fun (S : RT) => c_R_wordOf (k := k) (L := L) (d := d) (R := S) (i := i) (e := e) hT h8 (by omega) (by omega)
    rw [if_pos c1]
    clear h3 h9
    simp (disch := omega) only [s_Reader_tokenOf_0, s_Reader_tokenOf_1, s_Reader_tokenOf_2, s_Reader_tokenOf_3, s_Reader_tokenOf_6, s_Reader_tokenOf_9, s_Reader_tokenOf_10, s_Reader_tokenOf_11, s_Reader_tokenOf_12, s_Reader_tokenOf_15, s_Reader_tokenOf_17, s_Reader_tokenOf_18, s_Reader_tokenOf_19, s_Reader_tokenOf_22, s_Reader_tokenOf_25, s_Reader_tokenOf_26, s_Reader_tokenOf_27, s_Reader_tokenOf_28, s_Reader_tokenOf_31, s_Reader_tokenOf_32, s_Reader_tokenOf_33, s_Reader_tokenOf_34, s_Reader_tokenOf_35, s_Reader_tokenOf_38, s_Reader_tokenOf_41, s_Reader_tokenOf_43, s_Reader_tokenOf_44, s_Reader_tokenOf_45, s_Reader_tokenOf_46, s_Reader_tokenOf_47, s_Reader_tokenOf_50, s_Reader_tokenOf_53, s_Reader_tokenOf_54, s_Reader_tokenOf_55, s_Reader_tokenOf_56, s_Reader_tokenOf_59, s_Reader_tokenOf_61, s_Reader_tokenOf_64, s_Reader_tokenOf_66, s_Reader_tokenOf_67, s_Reader_tokenOf_68, c_R_letter, c1, wo, k_37, n_37, ld20, hT, le_T, lt_T, Int.toNat_natCast, cat_n, cat_i, Nat.ble_eq, Nat.reduceAdd, Nat.reduceLeDiff, true_and, and_true]
    clear wo hT h8
    grind
  · rw [if_neg c1]
    by_cases c2 : dgt (T i) = true
    · have no := fun (S : RT) => c_R_numberOf (k := k + 1) (L := L) (d := d) (R := S) (i := i) (e := e) hT (by omega) (by omega) (h3 c2)
      rw [if_pos c2]
      clear h3 h9
      simp (disch := omega) only [s_Reader_tokenOf_0, s_Reader_tokenOf_1, s_Reader_tokenOf_2, s_Reader_tokenOf_3, s_Reader_tokenOf_6, s_Reader_tokenOf_10, s_Reader_tokenOf_11, s_Reader_tokenOf_12, s_Reader_tokenOf_15, s_Reader_tokenOf_16, s_Reader_tokenOf_17, s_Reader_tokenOf_18, s_Reader_tokenOf_19, s_Reader_tokenOf_22, s_Reader_tokenOf_25, s_Reader_tokenOf_26, s_Reader_tokenOf_27, s_Reader_tokenOf_28, s_Reader_tokenOf_31, s_Reader_tokenOf_33, s_Reader_tokenOf_34, s_Reader_tokenOf_35, s_Reader_tokenOf_38, s_Reader_tokenOf_41, s_Reader_tokenOf_43, s_Reader_tokenOf_44, s_Reader_tokenOf_45, s_Reader_tokenOf_46, s_Reader_tokenOf_47, s_Reader_tokenOf_50, s_Reader_tokenOf_53, s_Reader_tokenOf_54, s_Reader_tokenOf_55, s_Reader_tokenOf_56, s_Reader_tokenOf_59, s_Reader_tokenOf_61, s_Reader_tokenOf_64, s_Reader_tokenOf_66, s_Reader_tokenOf_67, s_Reader_tokenOf_68, c_R_letter, c_R_digit, c1, c2, no, k_37, n_37, ld20, hT, le_T, lt_T, Int.toNat_natCast, cat_n, cat_i, Nat.ble_eq, Nat.reduceAdd, Nat.reduceLeDiff, true_and, and_true]
      clear no hT h8
      grind
    · rw [if_neg c2]
      have m1 : T i % 65536 = T i := by omega
      have i9 := idx9 (c := T i)
      clear h3
      have fin : Go (k + 2) 188 R 54 [vR 37, vI (i : Int), vI (e : Int), vU] [vI (if T i < 128 then idxO sgR 8 (T i) else -1)] (SH L) d ↔ R (vI (sgC (T i))) (SH L) d := by
        have e1 : (if T i < 128 then idxO sgR 8 (T i) else -1) = idxO sgR 8 (T i) := by
          by_cases z : T i < 128
          · rw [if_pos z]
          · rw [if_neg z, i9]
            rw [if_neg (by omega), if_neg (by omega), if_neg (by omega), if_neg (by omega), if_neg (by omega), if_neg (by omega), if_neg (by omega), if_neg (by omega)]
        rw [e1, i9]
        clear hT h8 h9 e1 i9 m1
        unfold sgC
        have w1 : wr (-11 - 0) = -11 := by decide
        have w2 : wr (-11 - 1) = -12 := by decide
        have w3 : wr (-11 - 2) = -13 := by decide
        have w4 : wr (-11 - 3) = -14 := by decide
        have w5 : wr (-11 - 4) = -15 := by decide
        have w6 : wr (-11 - 5) = -16 := by decide
        have w7 : wr (-11 - 6) = -17 := by decide
        have w8 : wr (-11 - 7) = -18 := by decide
        simp only [s_Reader_tokenOf_0, s_Reader_tokenOf_1, s_Reader_tokenOf_2, s_Reader_tokenOf_3, s_Reader_tokenOf_6, s_Reader_tokenOf_9, s_Reader_tokenOf_10, s_Reader_tokenOf_11, s_Reader_tokenOf_12, s_Reader_tokenOf_15, s_Reader_tokenOf_16, s_Reader_tokenOf_17, s_Reader_tokenOf_18, s_Reader_tokenOf_19, s_Reader_tokenOf_22, s_Reader_tokenOf_25, s_Reader_tokenOf_26, s_Reader_tokenOf_27, s_Reader_tokenOf_28, s_Reader_tokenOf_31, s_Reader_tokenOf_32, s_Reader_tokenOf_33, s_Reader_tokenOf_34, s_Reader_tokenOf_35, s_Reader_tokenOf_38, s_Reader_tokenOf_41, s_Reader_tokenOf_43, s_Reader_tokenOf_44, s_Reader_tokenOf_45, s_Reader_tokenOf_46, s_Reader_tokenOf_47, s_Reader_tokenOf_50, s_Reader_tokenOf_53, s_Reader_tokenOf_54, s_Reader_tokenOf_55, s_Reader_tokenOf_56, s_Reader_tokenOf_59, s_Reader_tokenOf_61, s_Reader_tokenOf_64, s_Reader_tokenOf_66, s_Reader_tokenOf_67, s_Reader_tokenOf_68]
        grind
      by_cases z : T i < 128
      · rw [if_pos z] at fin
        clear i9
        simp (disch := omega) only [s_Reader_tokenOf_0, s_Reader_tokenOf_1, s_Reader_tokenOf_2, s_Reader_tokenOf_3, s_Reader_tokenOf_6, s_Reader_tokenOf_10, s_Reader_tokenOf_11, s_Reader_tokenOf_12, s_Reader_tokenOf_15, s_Reader_tokenOf_16, s_Reader_tokenOf_17, s_Reader_tokenOf_18, s_Reader_tokenOf_19, s_Reader_tokenOf_22, s_Reader_tokenOf_26, s_Reader_tokenOf_27, s_Reader_tokenOf_28, s_Reader_tokenOf_31, s_Reader_tokenOf_32, s_Reader_tokenOf_33, s_Reader_tokenOf_34, s_Reader_tokenOf_35, s_Reader_tokenOf_38, s_Reader_tokenOf_41, s_Reader_tokenOf_43, s_Reader_tokenOf_44, s_Reader_tokenOf_45, s_Reader_tokenOf_46, s_Reader_tokenOf_47, s_Reader_tokenOf_50, s_Reader_tokenOf_53, s_Reader_tokenOf_55, s_Reader_tokenOf_56, s_Reader_tokenOf_59, s_Reader_tokenOf_61, s_Reader_tokenOf_64, s_Reader_tokenOf_66, s_Reader_tokenOf_67, s_Reader_tokenOf_68, c_R_letter, c_R_digit, c1, c2, k_37, n_37, k_9, n_9, ld20, hT, h9, m1, z, le_T, lt_T, le_F, lt_F, Int.toNat_natCast, Int.reduceToNat, cat_n, cat_i, Nat.ble_eq, Nat.reduceAdd, Nat.reduceLeDiff, true_and, and_true, true_implies, false_implies, not_true_eq_false, not_false_eq_true, implies_true]
        clear hT h8 h9
        grind
      · rw [if_neg z] at fin
        clear i9
        simp (disch := omega) only [s_Reader_tokenOf_0, s_Reader_tokenOf_1, s_Reader_tokenOf_2, s_Reader_tokenOf_3, s_Reader_tokenOf_6, s_Reader_tokenOf_10, s_Reader_tokenOf_11, s_Reader_tokenOf_12, s_Reader_tokenOf_15, s_Reader_tokenOf_16, s_Reader_tokenOf_17, s_Reader_tokenOf_18, s_Reader_tokenOf_19, s_Reader_tokenOf_22, s_Reader_tokenOf_26, s_Reader_tokenOf_27, s_Reader_tokenOf_28, s_Reader_tokenOf_31, s_Reader_tokenOf_32, s_Reader_tokenOf_33, s_Reader_tokenOf_34, s_Reader_tokenOf_35, s_Reader_tokenOf_38, s_Reader_tokenOf_41, s_Reader_tokenOf_43, s_Reader_tokenOf_44, s_Reader_tokenOf_45, s_Reader_tokenOf_46, s_Reader_tokenOf_47, s_Reader_tokenOf_50, s_Reader_tokenOf_53, s_Reader_tokenOf_55, s_Reader_tokenOf_56, s_Reader_tokenOf_59, s_Reader_tokenOf_61, s_Reader_tokenOf_64, s_Reader_tokenOf_66, s_Reader_tokenOf_67, s_Reader_tokenOf_68, c_R_letter, c_R_digit, c1, c2, k_37, n_37, ld20, hT, z, le_T, lt_T, le_F, lt_F, Int.toNat_natCast, Int.reduceToNat, cat_n, cat_i, Nat.ble_eq, Nat.reduceAdd, Nat.reduceLeDiff, true_and, and_true, true_implies, false_implies, not_true_eq_false, not_false_eq_true, implies_true]
        clear hT h8 h9
        grind
/-- tokens as they lie after split -/
def SPL (T : Row) (n m : Nat) (x y : Row) : Prop := m ≤ n ∧ bg T n m = n ∧ ∀ j, j ≤ m → x j = tk T n j ∧ y j = ((bg T n j : Nat) : Int) ∧ (j < m → bg T n j < n)
def splF (T : Row) (n i : Nat) (s : Nat × Row × Row) : Nat × Row × Row := if ps T n s.1 ≤ i ∧ ¬ blk (T i) = true then (s.1 + 1, fset s.2.1 s.1 (tokC T i (enT T n i)), fset s.2.2 s.1 (i : Int)) else s
def splD (d : Dat) (m : Nat) (x y : Row) : Dat := rset (rset (rset d 48 (fset (d 48) 2 (m : Int))) 49 x) 50 y
theorem splD_o {d : Dat} {m : Nat} {x y : Row} {a : Nat} (h : ¬ a = 48 ∧ ¬ a = 49 ∧ ¬ a = 50) : splD d m x y a = d a := by
  unfold splD
  rw [rs_ne h.2.2, rs_ne h.2.1, rs_ne h.1]
theorem splD_2 {d : Dat} {m : Nat} {x y : Row} : splD d m x y 48 2 = (m : Int) := by
  unfold splD
  rw [rs_ne (by decide), rs_ne (by decide), rs_eq, fs_eq]
theorem splD_49 {d : Dat} {m : Nat} {x y : Row} {i : Nat} {v : Int} : ups (splD d m x y) 49 i v = splD d m (fset x i v) y := by
  unfold splD ups
  rw [rs_ne (by decide), rs_eq, rs_swap (a := 50) (by decide), rs_rs]
theorem splD_50 {d : Dat} {m : Nat} {x y : Row} {i : Nat} {v : Int} : ups (splD d m x y) 50 i v = splD d m x (fset y i v) := ups_rs
theorem splD_48 {d : Dat} {m : Nat} {x y : Row} {v : Nat} : ups (splD d m x y) 48 2 (v : Int) = splD d v x y := by
  unfold splD ups
  rw [rs_ne (by decide), rs_ne (by decide), rs_eq]
  funext a j
  unfold rset fset
  grind
theorem ps_le {T : Row} {n : Nat} : ∀ m, ps T n m ≤ n
  | 0 => Nat.zero_le _
  | m + 1 => by
    show (if rn blk T n (ps T n m) < n then enT T n (rn blk T n (ps T n m)) else n) ≤ n
    split
    · exact rn_le (by omega)
    · exact Nat.le_refl _
theorem bg_le {T : Row} {n m : Nat} : bg T n m ≤ n := rn_le (ps_le m)
theorem ps_bg {T : Row} {n m : Nat} : ps T n m ≤ bg T n m := rn_ge
theorem ps_s {T : Row} {n m : Nat} (h : bg T n m < n) : ps T n (m + 1) = enT T n (bg T n m) := if_pos h
theorem bg_nb {T : Row} {n m : Nat} (h : bg T n m < n) : ¬ blk (T (bg T n m)) = true := rn_out h
theorem bg_in {T : Row} {n m i : Nat} (h1 : ps T n m ≤ i) (h2 : i < bg T n m) : blk (T i) = true := rn_in h1 h2
theorem c_R_split {n : Nat} (hT : d 37 = T) (h8 : d 8 = wsR) (h9 : d 9 = sgR) (hn : n ≤ 160) (hb : ∀ i, i < n → 0 ≤ T i ∧ T i ≤ 255) (h : ∀ m x y, SPL T n m x y → R vU (SH L) (splD d m x y)) : Cl (k + 4) 183 [vR 48, vR 37, vI (n : Int)] (SH L) d R := by
  refine Cl_succ rfl ?_
  show Go (k + 3) 183 R 0 [vR 48, vR 37, vI (n : Int), vU, vU] [] (SH L) d
  have d0 : ups d 48 2 0 = splD d 0 (d 49) (d 50) := by
    unfold splD ups
    funext a j
    unfold rset fset
    grind
  have key : Go (k + 3) 183 R 10 [vR 48, vR 37, vI (n : Int), vI ((ps T n 0 : Nat) : Int), vI ((0 : Nat) : Int)] [] (SH L) (splD d 0 (d 49) (d 50)) := by
    refine loop_up (G := fun i (s : Nat × Row × Row) => Go (k + 3) 183 R 10 [vR 48, vR 37, vI (n : Int), vI ((ps T n s.1 : Nat) : Int), vI (i : Int)] [] (SH L) (splD d s.1 s.2.1 s.2.2)) (f := splF T n) (s := ((0 : Nat), d 49, d 50)) (fun i s => s.1 ≤ i ∧ i ≤ bg T n s.1 ∧ ∀ j, j < s.1 → s.2.1 j = tk T n j ∧ s.2.2 j = ((bg T n j : Nat) : Int) ∧ bg T n j < n) n (fun i hi s hI hG => ?_) ⟨Nat.le_refl _, Nat.zero_le _, fun j hj => absurd hj (Nat.not_lt_zero _)⟩ (fun hI => ?_)
    · obtain ⟨m, x, y⟩ := s
      obtain ⟨i1, i2, i3⟩ := hI
      simp only [] at i1 i2 i3
      unfold splF at hG
      simp only [] at hG ⊢
      have hb := hb i hi
      have hTs : splD d m x y 37 = T := by rw [splD_o (by decide)]; exact hT
      have h8s : splD d m x y 8 = wsR := by rw [splD_o (by decide)]; exact h8
      have h9s : splD d m x y 9 = sgR := by rw [splD_o (by decide)]; exact h9
      have pl := ps_le (T := T) (n := n) m
      by_cases c : ps T n m ≤ i ∧ ¬ blk (T i) = true
      · have b1 : bg T n m = i := by
          by_cases z : i < bg T n m
          · exact absurd (bg_in c.1 z) c.2
          · omega
        have hps : ps T n (m + 1) = enT T n i := by rw [ps_s (by omega), b1]
        have he := (rn_ge (p := pw (T i)) (T := T) (n := n) (j := i + 1))
        have he2 : enT T n i ≤ n := rn_le (by omega)
        have pb := ps_bg (T := T) (n := n) (m := m + 1)
        have htk : tk T n m = tokC T i (enT T n i) := by
          unfold tk
          rw [b1, if_pos hi]
        rw [if_pos c] at hG
        simp only [] at hG
        have hG := hG ⟨by omega, by rw [hps] at pb; unfold enT at pb; omega, fun j hj => by
          by_cases z : j = m
          · subst z
            rw [fs_eq, fs_eq, htk, b1]
            exact ⟨rfl, rfl, hi⟩
          · rw [fs_ne z, fs_ne z]
            exact i3 j (by omega)⟩
        have eo := fun (S : RT) => c_R_endOf (k := k) (L := L) (d := splD d m x y) (R := S) (i := i) (n := n) hTs hi hn
        have to := fun (S : RT) => c_R_tokenOf (k := k) (L := L) (d := splD d m x y) (R := S) (i := i) (n := n) hTs h8s h9s hb hi hn
        rw [hps] at hG
        have cc := c.2
        clear h i2 i3 b1 hps he pb htk h8s h9s
        generalize enT T n i = e at *
        rw [s_Reader_split_10]
        have t49 : ∀ v, ups (splD d m x y) 49 m v = splD d m (fset x m v) y := fun v => splD_49
        simp (disch := omega) only [s_Reader_split_0, s_Reader_split_1, s_Reader_split_2, s_Reader_split_5, s_Reader_split_6, s_Reader_split_7, s_Reader_split_8, s_Reader_split_12, s_Reader_split_13, s_Reader_split_16, s_Reader_split_18, s_Reader_split_19, s_Reader_split_22, s_Reader_split_23, s_Reader_split_25, s_Reader_split_26, s_Reader_split_29, s_Reader_split_32, s_Reader_split_33, s_Reader_split_34, s_Reader_split_36, s_Reader_split_39, s_Reader_split_40, s_Reader_split_41, s_Reader_split_44, s_Reader_split_45, s_Reader_split_48, s_Reader_split_49, s_Reader_split_51, s_Reader_split_52, s_Reader_split_55, s_Reader_split_56, s_Reader_split_57, s_Reader_split_60, s_Reader_split_61, s_Reader_split_64, s_Reader_split_66, s_Reader_split_67, s_Reader_split_68, s_Reader_split_69, s_Reader_split_72, s_Reader_split_73, s_Reader_split_74, s_Reader_split_77, s_Reader_split_80, s_Reader_split_83, s_Reader_split_84, s_Reader_split_87, s_Reader_split_88, s_Reader_split_91, s_Reader_split_93, s_Reader_split_94, s_Reader_split_95, s_Reader_split_98, s_Reader_split_99, s_Reader_split_102, s_Reader_split_103, s_Reader_split_104, c_R_blank, cc, eo, to, k_37, n_37, k_48, r_48_0, r_48_1, k_49, n_49, k_50, n_50, ld20, hTs, splD_2, splD_49, splD_50, splD_48, wr_inc, le_T, lt_T, le_F, lt_F, Int.toNat_natCast, cat_n, cat_i, cat_r, Nat.ble_eq, Nat.reduceAdd, Nat.reduceLeDiff, true_and, and_true, true_implies, false_implies, not_true_eq_false, not_false_eq_true, implies_true]
        clear eo to hT h8 h9 hTs
        grind
      · rw [if_neg c] at hG
        simp only [] at hG
        have hG := hG ⟨by omega, by
          by_cases z : i = bg T n m
          · exfalso
            have pb := ps_bg (T := T) (n := n) (m := m)
            have nb := bg_nb (T := T) (n := n) (m := m) (by omega)
            rw [← z] at nb
            exact c ⟨by omega, nb⟩
          · omega, i3⟩
        clear h i2 i3 h8s h9s
        rw [s_Reader_split_10]
        by_cases z : ps T n m ≤ i
        · have cc : blk (T i) = true := by
            by_cases y : blk (T i) = true
            · exact y
            · exact absurd ⟨z, y⟩ c
          clear c
          generalize ps T n m = e at *
          simp (disch := omega) only [s_Reader_split_0, s_Reader_split_1, s_Reader_split_2, s_Reader_split_5, s_Reader_split_6, s_Reader_split_7, s_Reader_split_8, s_Reader_split_12, s_Reader_split_13, s_Reader_split_16, s_Reader_split_18, s_Reader_split_19, s_Reader_split_22, s_Reader_split_23, s_Reader_split_25, s_Reader_split_26, s_Reader_split_29, s_Reader_split_33, s_Reader_split_34, s_Reader_split_36, s_Reader_split_39, s_Reader_split_40, s_Reader_split_41, s_Reader_split_44, s_Reader_split_45, s_Reader_split_48, s_Reader_split_49, s_Reader_split_51, s_Reader_split_52, s_Reader_split_55, s_Reader_split_56, s_Reader_split_57, s_Reader_split_60, s_Reader_split_61, s_Reader_split_64, s_Reader_split_66, s_Reader_split_67, s_Reader_split_68, s_Reader_split_69, s_Reader_split_72, s_Reader_split_73, s_Reader_split_74, s_Reader_split_77, s_Reader_split_80, s_Reader_split_83, s_Reader_split_84, s_Reader_split_87, s_Reader_split_88, s_Reader_split_91, s_Reader_split_93, s_Reader_split_94, s_Reader_split_95, s_Reader_split_98, s_Reader_split_99, s_Reader_split_102, s_Reader_split_103, s_Reader_split_104, c_R_blank, cc, k_37, n_37, ld20, hTs, wr_inc, le_T, lt_T, le_F, lt_F, Int.toNat_natCast, cat_n, cat_i, cat_r, Nat.ble_eq, Nat.reduceAdd, Nat.reduceLeDiff, true_and, and_true, true_implies, false_implies, not_true_eq_false, not_false_eq_true, implies_true]
          clear hT h8 h9 hTs
          grind
        · clear c
          generalize ps T n m = e at *
          simp (disch := omega) only [s_Reader_split_0, s_Reader_split_1, s_Reader_split_2, s_Reader_split_5, s_Reader_split_6, s_Reader_split_7, s_Reader_split_8, s_Reader_split_12, s_Reader_split_13, s_Reader_split_16, s_Reader_split_18, s_Reader_split_19, s_Reader_split_23, s_Reader_split_25, s_Reader_split_26, s_Reader_split_29, s_Reader_split_32, s_Reader_split_33, s_Reader_split_34, s_Reader_split_36, s_Reader_split_39, s_Reader_split_40, s_Reader_split_41, s_Reader_split_44, s_Reader_split_45, s_Reader_split_48, s_Reader_split_49, s_Reader_split_51, s_Reader_split_52, s_Reader_split_55, s_Reader_split_56, s_Reader_split_57, s_Reader_split_60, s_Reader_split_61, s_Reader_split_64, s_Reader_split_66, s_Reader_split_67, s_Reader_split_68, s_Reader_split_69, s_Reader_split_72, s_Reader_split_73, s_Reader_split_74, s_Reader_split_77, s_Reader_split_80, s_Reader_split_83, s_Reader_split_84, s_Reader_split_87, s_Reader_split_88, s_Reader_split_91, s_Reader_split_93, s_Reader_split_94, s_Reader_split_95, s_Reader_split_98, s_Reader_split_99, s_Reader_split_102, s_Reader_split_103, s_Reader_split_104, wr_inc, le_T, lt_T, le_F, lt_F, true_and, and_true, true_implies, false_implies, not_true_eq_false, not_false_eq_true, implies_true]
          clear hT h8 h9 hTs
          grind
    · generalize iterN (splF T n) n ((0 : Nat), d 49, d 50) = s at *
      obtain ⟨m, x, y⟩ := s
      obtain ⟨i1, i2, i3⟩ := hI
      simp only [] at i1 i2 i3 ⊢
      have bl := bg_le (T := T) (n := n) (m := m)
      have h := h m (fset x m (-19)) (fset y m (n : Int)) ⟨i1, by omega, fun j hj => by
        by_cases z : j = m
        · subst z
          rw [fs_eq, fs_eq]
          refine ⟨?_, by rw [show bg T n j = n by omega], fun q => by omega⟩
          unfold tk
          rw [if_neg (by omega)]
        · rw [fs_ne z, fs_ne z]
          obtain ⟨a1, a2, a3⟩ := i3 j (by omega)
          exact ⟨a1, a2, fun _ => a3⟩⟩
      clear i2 i3 bl
      rw [s_Reader_split_10]
      simp (disch := omega) only [s_Reader_split_0, s_Reader_split_1, s_Reader_split_2, s_Reader_split_5, s_Reader_split_6, s_Reader_split_7, s_Reader_split_8, s_Reader_split_12, s_Reader_split_13, s_Reader_split_16, s_Reader_split_18, s_Reader_split_19, s_Reader_split_22, s_Reader_split_23, s_Reader_split_25, s_Reader_split_26, s_Reader_split_29, s_Reader_split_32, s_Reader_split_33, s_Reader_split_34, s_Reader_split_36, s_Reader_split_39, s_Reader_split_40, s_Reader_split_41, s_Reader_split_44, s_Reader_split_45, s_Reader_split_48, s_Reader_split_49, s_Reader_split_51, s_Reader_split_52, s_Reader_split_55, s_Reader_split_56, s_Reader_split_57, s_Reader_split_60, s_Reader_split_61, s_Reader_split_64, s_Reader_split_66, s_Reader_split_67, s_Reader_split_68, s_Reader_split_69, s_Reader_split_72, s_Reader_split_73, s_Reader_split_74, s_Reader_split_77, s_Reader_split_80, s_Reader_split_83, s_Reader_split_84, s_Reader_split_87, s_Reader_split_88, s_Reader_split_91, s_Reader_split_93, s_Reader_split_94, s_Reader_split_95, s_Reader_split_98, s_Reader_split_99, s_Reader_split_102, s_Reader_split_103, s_Reader_split_104, k_48, r_48_0, r_48_1, k_49, n_49, k_50, n_50, splD_2, splD_49, splD_50, le_T, lt_T, le_F, lt_F, Int.toNat_natCast, true_and, and_true, true_implies, false_implies, not_true_eq_false, not_false_eq_true, implies_true]
      clear hT h8 h9
      grind
  rw [← d0] at key
  clear h d0
  simp only [s_Reader_split_0, s_Reader_split_1, s_Reader_split_2, s_Reader_split_5, s_Reader_split_6, s_Reader_split_7, s_Reader_split_8, s_Reader_split_12, s_Reader_split_13, s_Reader_split_16, s_Reader_split_18, s_Reader_split_19, s_Reader_split_22, s_Reader_split_23, s_Reader_split_25, s_Reader_split_26, s_Reader_split_29, s_Reader_split_32, s_Reader_split_33, s_Reader_split_34, s_Reader_split_36, s_Reader_split_39, s_Reader_split_40, s_Reader_split_41, s_Reader_split_44, s_Reader_split_45, s_Reader_split_48, s_Reader_split_49, s_Reader_split_51, s_Reader_split_52, s_Reader_split_55, s_Reader_split_56, s_Reader_split_57, s_Reader_split_60, s_Reader_split_61, s_Reader_split_64, s_Reader_split_66, s_Reader_split_67, s_Reader_split_68, s_Reader_split_69, s_Reader_split_72, s_Reader_split_73, s_Reader_split_74, s_Reader_split_77, s_Reader_split_80, s_Reader_split_83, s_Reader_split_84, s_Reader_split_87, s_Reader_split_88, s_Reader_split_91, s_Reader_split_93, s_Reader_split_94, s_Reader_split_95, s_Reader_split_98, s_Reader_split_99, s_Reader_split_102, s_Reader_split_103, s_Reader_split_104, k_48]
  exact ⟨trivial, key⟩
end
