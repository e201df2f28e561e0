/-! a land's mark: islands by joining, what is lit; over the relation (expanded by gen18.py) -/
def MK (e : Dat) (P s t : Row) : Row := fun i => if 70 ≤ i ∧ i < 70 + (e 241 1).toNat then s (i - 70) else if 56 ≤ i ∧ i < 56 + (e 241 1).toNat then t (i - 56) else P i
theorem MK_s {e : Dat} {P s t : Row} {n : Nat} {v : Int} (hn : n < (e 241 1).toNat) : fset (MK e P s t) (70 + n) v = MK e P (fset s n v) t := by
  funext i
  unfold MK
  rw [fs_rd]
  by_cases c : i = 70 + n
  · rw [if_pos c, if_pos (by omega), fs_rd, if_pos (by omega)]
  · rw [if_neg c]
    by_cases c2 : 70 ≤ i ∧ i < 70 + (e 241 1).toNat
    · rw [if_pos c2, if_pos c2, fs_ne (by omega)]
    · rw [if_neg c2, if_neg c2]
theorem MK_t {e : Dat} {P s t : Row} {n : Nat} {v : Int} (hn : n < (e 241 1).toNat) (h14 : (e 241 1).toNat ≤ 14) : fset (MK e P s t) (56 + n) v = MK e P s (fset t n v) := by
  funext i
  unfold MK
  rw [fs_rd]
  by_cases c : i = 56 + n
  · rw [if_pos c, if_neg (by omega), if_pos (by omega), fs_rd, if_pos (by omega)]
  · rw [if_neg c]
    by_cases c2 : 70 ≤ i ∧ i < 70 + (e 241 1).toNat
    · rw [if_pos c2, if_pos c2]
    · rw [if_neg c2, if_neg c2]
      by_cases c3 : 56 ≤ i ∧ i < 56 + (e 241 1).toNat
      · rw [if_pos c3, if_pos c3, fs_ne (by omega)]
      · rw [if_neg c3, if_neg c3]
theorem MK_cg {e : Dat} {P s t s' t' : Row} (hs : ∀ n, n < (e 241 1).toNat → s n = s' n) (ht : ∀ n, n < (e 241 1).toNat → t n = t' n) : MK e P s t = MK e P s' t' := by
  funext i
  unfold MK
  by_cases c2 : 70 ≤ i ∧ i < 70 + (e 241 1).toNat
  · rw [if_pos c2, if_pos c2, hs _ (by omega)]
  · rw [if_neg c2, if_neg c2]
    by_cases c3 : 56 ≤ i ∧ i < 56 + (e 241 1).toNat
    · rw [if_pos c3, if_pos c3, ht _ (by omega)]
    · rw [if_neg c3, if_neg c3]
theorem MK_self {e : Dat} {P : Row} : MK e P (fun i => P (70 + i)) (fun i => P (56 + i)) = P := by
  funext i
  unfold MK
  by_cases c2 : 70 ≤ i ∧ i < 70 + (e 241 1).toNat
  · rw [if_pos c2]
    show P (70 + (i - 70)) = P i
    rw [show 70 + (i - 70) = i by omega]
  · rw [if_neg c2]
    by_cases c3 : 56 ≤ i ∧ i < 56 + (e 241 1).toNat
    · rw [if_pos c3]
      show P (56 + (i - 56)) = P i
      rw [show 56 + (i - 56) = i by omega]
    · rw [if_neg c3]
theorem MK_isl {e : Dat} {P s t : Row} {n : Nat} (hn : n < (e 241 1).toNat) : MK e P s t (70 + n) = s n := by
  unfold MK
  rw [if_pos (by omega), show 70 + n - 70 = n by omega]
theorem MK_lit {e : Dat} {P s t : Row} {n : Nat} (hn : n < (e 241 1).toNat) (h14 : (e 241 1).toNat ≤ 14) : MK e P s t (56 + n) = t n := by
  unfold MK
  rw [if_neg (by omega), if_pos (by omega), show 56 + n - 56 = n by omega]
theorem MK_el {e : Dat} {P s t : Row} {i : Nat} (h : i < 56 ∨ 84 ≤ i) (h14 : (e 241 1).toNat ≤ 14) : MK e P s t i = P i := by
  unfold MK
  rw [if_neg (by omega), if_neg (by omega)]
theorem MK_mk {e : Dat} {P : Row} : MK e P (islS e P ((e 241 3).toNat)) (litS e P (islS e P ((e 241 3).toNat))) = marksS e P := rfl
section
variable {k L b : Nat} {m : Bool} {d0 e : Dat} {P : Row} {R : RT}
theorem c_N_alone (hb : isLd b = true) (hE : WE e) {s t : Row} (h : ∀ d, RL m b e d0 d (MK e P (fun i => (i : Int)) (fun _ => 0)) → R vU (SH L) d) {d : Dat} (hR : RL m b e d0 d (MK e P s t)) : Cl (k + 1) 168 [vR (b + 1), vI (e 241 1)] (SH L) d R := by
  have hn := we_n hE
  refine Cl_succ rfl ?_
  show Go k 168 R 0 [vR (b + 1), vI (e 241 1), vU] [] (SH L) d
  rw [s_Nodes_alone_0, s_Nodes_alone_1]
  have key : ∀ d, RL m b e d0 d (MK e P s t) → Go k 168 R 2 [vR (b + 1), vI (e 241 1), vI (0 : Nat)] [] (SH L) d := by
    refine loop_up (G := fun n (st : Row × Row) => ∀ d, RL m b e d0 d (MK e P st.1 st.2) → Go k 168 R 2 [vR (b + 1), vI (e 241 1), vI (n : Int)] [] (SH L) d) (f := fun n st => (fset st.1 n (n : Int), fset st.2 n 0)) (s := (s, t)) (fun n st => ∀ i, i < n → st.1 i = (i : Int) ∧ st.2 i = 0) ((e 241 1).toNat) (fun n hn2 st hI hG d hR => ?_) (fun i hi => absurd hi (by omega)) (fun hI d hR => ?_)
    · obtain ⟨s, t⟩ := st
      have hG := hG (fun i hi => by
        by_cases q : i = n
        · subst q
          exact ⟨fs_eq, fs_eq⟩
        · exact ⟨(fs_ne q).trans (hI i (by omega)).1, (fs_ne q).trans (hI i (by omega)).2⟩)
      have u1 := up_2 (v := (n : Int)) hR (i := n) hn2
      have u2 := up_3 (v := 0) u1 (i := n) (by omega)
      rw [MK_s hn2, MK_t hn2 (by omega)] at u2
      have hG := hG _ u2
      rw [s_Nodes_alone_2]
      simp (disch := omega) only [s_Nodes_alone_0, s_Nodes_alone_1, s_Nodes_alone_3, s_Nodes_alone_4, s_Nodes_alone_7, s_Nodes_alone_8, s_Nodes_alone_11, s_Nodes_alone_12, s_Nodes_alone_13, s_Nodes_alone_14, s_Nodes_alone_15, s_Nodes_alone_18, s_Nodes_alone_19, s_Nodes_alone_20, s_Nodes_alone_21, s_Nodes_alone_24, s_Nodes_alone_27, hb, lk_0, lr_0_0, lr_0_1, lr_0_2, lr_0_3, lr_0_4, lr_0_5, lr_0_6, lr_0_7, lr_0_8, lr_0_9, lr_0_10, lr_0_11, lr_0_12, lr_0_13, lk_1, lr_1_0, lr_1_1, lr_1_2, lr_1_3, lr_1_4, lr_1_5, lr_1_6, lk_2, ln_2, lk_3, ln_3, lk_4, ln_4, lk_5, ln_5, lk_6, ln_6, lk_7, ln_7, lk_8, ln_8, lk_9, lr_9_0, lr_9_1, lr_9_2, lr_9_3, lk_10, ln_10, lk_11, ln_11, lk_12, ln_12, lk_13, ln_13, lk_14, lr_14_0, lr_14_1, lr_14_2, lr_14_3, lr_14_4, lr_14_5, lk_15, ln_15, lk_16, ln_16, lk_17, ln_17, lk_18, ln_18, lk_19, ln_19, lk_20, ln_20, lk_21, ln_21, lk_22, ln_22, lk_23, ln_23, lk_24, ln_24, lk_25, ln_25, lk_26, ln_26, lk_27, ln_27, lk_28, ln_28, ld20, ld30, wr_inc, le_T, lt_T, le_F, lt_F, Int.toNat_natCast, true_and, and_true, true_implies, false_implies, not_true_eq_false, not_false_eq_true, implies_true]
      grind
    · generalize iterN _ ((e 241 1).toNat) (s, t) = st at hI hR ⊢
      rw [MK_cg (fun n hn => (hI n hn).1) (fun n hn => (hI n hn).2)] at hR
      have h := h d hR
      rw [s_Nodes_alone_2]
      simp (disch := omega) only [s_Nodes_alone_0, s_Nodes_alone_1, s_Nodes_alone_3, s_Nodes_alone_4, s_Nodes_alone_7, s_Nodes_alone_8, s_Nodes_alone_11, s_Nodes_alone_12, s_Nodes_alone_13, s_Nodes_alone_14, s_Nodes_alone_15, s_Nodes_alone_18, s_Nodes_alone_19, s_Nodes_alone_20, s_Nodes_alone_21, s_Nodes_alone_24, s_Nodes_alone_27, hb, lk_0, lr_0_0, lr_0_1, lr_0_2, lr_0_3, lr_0_4, lr_0_5, lr_0_6, lr_0_7, lr_0_8, lr_0_9, lr_0_10, lr_0_11, lr_0_12, lr_0_13, lk_1, lr_1_0, lr_1_1, lr_1_2, lr_1_3, lr_1_4, lr_1_5, lr_1_6, lk_2, ln_2, lk_3, ln_3, lk_4, ln_4, lk_5, ln_5, lk_6, ln_6, lk_7, ln_7, lk_8, ln_8, lk_9, lr_9_0, lr_9_1, lr_9_2, lr_9_3, lk_10, ln_10, lk_11, ln_11, lk_12, ln_12, lk_13, ln_13, lk_14, lr_14_0, lr_14_1, lr_14_2, lr_14_3, lr_14_4, lr_14_5, lk_15, ln_15, lk_16, ln_16, lk_17, ln_17, lk_18, ln_18, lk_19, ln_19, lk_20, ln_20, lk_21, ln_21, lk_22, ln_22, lk_23, ln_23, lk_24, ln_24, lk_25, ln_25, lk_26, ln_26, lk_27, ln_27, lk_28, ln_28, ld20, ld30, wr_inc, le_T, lt_T, le_F, lt_F, Int.toNat_natCast, true_and, and_true, true_implies, false_implies, not_true_eq_false, not_false_eq_true, implies_true]
      exact h
  exact key d hR
end
