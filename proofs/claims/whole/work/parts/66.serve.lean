/-! a load served or not, over the relation (gen20.py, gen18.py) -/
theorem up_lit {m : Bool} {b : Nat} {e d0 d : Dat} {P : Row} {l : Nat} {c v : Int} (hc : c = 0 ∨ c = 1) (h : RL m b e d0 d P) (hl : l < (e 241 13).toNat) : RL m b e d0 (ups (ups (ups d (b + 20) l c) (b + 19) l 0) (b + 16) l v) (fset (fset (fset (fset P (184 + l) c) (172 + l) v) (2090 + l) 0) (2078 + l) 1) := by
  obtain ⟨h0, h1, h2, h3, h4, h5, h6, h7, h8, h9, h10, h11, h12, h13, h14, h15, h16, h17, h18, h19, h20, h21, h22, h23, h24, h25, h26, h27, h28, h29, h30⟩ := h
  refine ⟨h0, us_fr (by omega) (us_fr (by omega) (us_fr (by omega) (h1))), ?_, ?_, ?_, ?_, ?_, ?_, ?_, ?_, ?_, ?_, ?_, ?_, ?_, ?_, ?_, ?_, ?_, ?_, ?_, ?_, ?_, ?_, ?_, ?_, ?_, ?_, ?_, ?_, ?_⟩
  · intro i hi
    rw [u_ne (by omega), u_ne (by omega), u_ne (by omega), fs_ne (by omega), fs_ne (by omega), fs_ne (by omega), fs_ne (by omega)]
    exact h2 i hi
  · intro i hi
    rw [u_ne (by omega), u_ne (by omega), u_ne (by omega), fs_ne (by omega), fs_ne (by omega), fs_ne (by omega), fs_ne (by omega)]
    exact h3 i hi
  · intro i hi
    rw [u_ne (by omega), u_ne (by omega), u_ne (by omega), fs_ne (by omega), fs_ne (by omega), fs_ne (by omega), fs_ne (by omega)]
    exact h4 i hi
  · intro i hi
    rw [u_ne (by omega), u_ne (by omega), u_ne (by omega), fs_ne (by omega), fs_ne (by omega), fs_ne (by omega), fs_ne (by omega)]
    exact h5 i hi
  · intro i hi
    rw [u_ne (by omega), u_ne (by omega), u_ne (by omega), fs_ne (by omega), fs_ne (by omega), fs_ne (by omega), fs_ne (by omega)]
    exact h6 i hi
  · intro i hi
    rw [u_ne (by omega), u_ne (by omega), u_ne (by omega), fs_ne (by omega), fs_ne (by omega), fs_ne (by omega), fs_ne (by omega)]
    exact h7 i hi
  · intro i hi
    rw [u_ne (by omega), u_ne (by omega), u_ne (by omega), fs_ne (by omega), fs_ne (by omega), fs_ne (by omega), fs_ne (by omega)]
    exact h8 i hi
  · intro i hi
    rw [u_ne (by omega), u_ne (by omega), u_ne (by omega), fs_ne (by omega), fs_ne (by omega), fs_ne (by omega), fs_ne (by omega)]
    exact h9 i hi
  · intro i hi
    rw [u_ne (by omega), u_ne (by omega), u_ne (by omega), fs_ne (by omega), fs_ne (by omega), fs_ne (by omega), fs_ne (by omega)]
    exact h10 i hi
  · intro i hi
    rw [u_ne (by omega), u_ne (by omega), u_ne (by omega), fs_ne (by omega), fs_ne (by omega), fs_ne (by omega), fs_ne (by omega)]
    exact h11 i hi
  · intro i hi
    rw [u_ne (by omega), u_ne (by omega), u_ne (by omega), fs_ne (by omega), fs_ne (by omega), fs_ne (by omega), fs_ne (by omega)]
    exact h12 i hi
  · intro i hi
    rw [u_ne (by omega), u_ne (by omega), u_ne (by omega), fs_ne (by omega), fs_ne (by omega), fs_ne (by omega), fs_ne (by omega)]
    exact h13 i hi
  · intro i hi
    rw [u_ne (by omega), u_ne (by omega), u_ne (by omega), fs_ne (by omega), fs_ne (by omega), fs_ne (by omega), fs_ne (by omega)]
    exact h14 i hi
  · intro i hi
    rw [u_ne (by omega), u_ne (by omega), u_ne (by omega), fs_ne (by omega), fs_ne (by omega), fs_ne (by omega), fs_ne (by omega)]
    exact h15 i hi
  · intro i hi
    rw [u_ne (by omega), u_ne (by omega), u_ne (by omega), fs_ne (by omega), fs_ne (by omega), fs_ne (by omega), fs_ne (by omega)]
    exact h16 i hi
  · intro i hi
    rw [u_ne (by omega), u_ne (by omega), u_ne (by omega), fs_ne (by omega), fs_ne (by omega), fs_ne (by omega), fs_ne (by omega)]
    exact h17 i hi
  · intro i hi
    rw [u_ne (by omega), u_ne (by omega), u_ne (by omega), fs_ne (by omega), fs_ne (by omega), fs_ne (by omega), fs_ne (by omega)]
    exact h18 i hi
  · intro i hi
    rw [u_ne (by omega), u_ne (by omega), u_ne (by omega), fs_ne (by omega), fs_ne (by omega), fs_ne (by omega), fs_ne (by omega)]
    exact h19 i hi
  · intro i hi
    rw [u_ne (by omega), u_ne (by omega), u_ne (by omega), fs_ne (by omega), fs_ne (by omega), fs_ne (by omega), fs_ne (by omega)]
    exact h20 i hi
  · intro i hi hi2
    rw [u_ne (by omega), u_ne (by omega), u_ne (by omega)]
    exact h21 i hi hi2
  · intro i hi
    have hh := h22 i hi
    clear h2 h3 h4 h5 h6 h7 h8 h9 h10 h11 h12 h13 h14 h15 h16 h17 h18 h19 h20 h21 h22 h23 h24 h25 h26 h27 h28 h29 h30
    simp only [us_rd, fs_rd]
    grind
  · intro i hi
    have hh := h23 i hi
    clear h2 h3 h4 h5 h6 h7 h8 h9 h10 h11 h12 h13 h14 h15 h16 h17 h18 h19 h20 h21 h22 h23 h24 h25 h26 h27 h28 h29 h30
    simp only [us_rd, fs_rd]
    grind
  · intro i hi
    have hh := h24 i hi
    clear h2 h3 h4 h5 h6 h7 h8 h9 h10 h11 h12 h13 h14 h15 h16 h17 h18 h19 h20 h21 h22 h23 h24 h25 h26 h27 h28 h29 h30
    simp only [us_rd, fs_rd]
    grind
  · intro i hi hi2
    have hh := h25 i hi hi2
    clear h2 h3 h4 h5 h6 h7 h8 h9 h10 h11 h12 h13 h14 h15 h16 h17 h18 h19 h20 h21 h22 h23 h24 h25 h26 h27 h28 h29 h30
    simp only [us_rd]
    grind
  · rw [u_ne (by omega), u_ne (by omega), u_ne (by omega), fs_ne (by omega), fs_ne (by omega), fs_ne (by omega), fs_ne (by omega)]
    exact h26
  · rw [u_ne (by omega), u_ne (by omega), u_ne (by omega), fs_ne (by omega), fs_ne (by omega), fs_ne (by omega), fs_ne (by omega)]
    exact h27
  · intro q i hi
    rw [u_ne (by omega), u_ne (by omega), u_ne (by omega), fs_ne (by omega), fs_ne (by omega), fs_ne (by omega), fs_ne (by omega)]
    exact h28 q i hi
  · intro q i hi
    rw [u_ne (by omega), u_ne (by omega), u_ne (by omega), fs_ne (by omega), fs_ne (by omega), fs_ne (by omega), fs_ne (by omega)]
    exact h29 q i hi
  · intro q i hi
    rw [u_ne (by omega), u_ne (by omega), u_ne (by omega), fs_ne (by omega), fs_ne (by omega), fs_ne (by omega), fs_ne (by omega)]
    exact h30 q i hi
theorem up_dark {m : Bool} {b : Nat} {e d0 d : Dat} {P : Row} {l : Nat} {v : Int} (h : RL m b e d0 d P) (hl : l < (e 241 13).toNat) : RL m b e d0 (ups (ups d (b + 16) l 0) (b + 19) l v) (fset (fset P (2090 + l) v) (2078 + l) 0) := by
  obtain ⟨h0, h1, h2, h3, h4, h5, h6, h7, h8, h9, h10, h11, h12, h13, h14, h15, h16, h17, h18, h19, h20, h21, h22, h23, h24, h25, h26, h27, h28, h29, h30⟩ := h
  refine ⟨h0, us_fr (by omega) (us_fr (by omega) (h1)), ?_, ?_, ?_, ?_, ?_, ?_, ?_, ?_, ?_, ?_, ?_, ?_, ?_, ?_, ?_, ?_, ?_, ?_, ?_, ?_, ?_, ?_, ?_, ?_, ?_, ?_, ?_, ?_, ?_⟩
  · intro i hi
    rw [u_ne (by omega), u_ne (by omega), fs_ne (by omega), fs_ne (by omega)]
    exact h2 i hi
  · intro i hi
    rw [u_ne (by omega), u_ne (by omega), fs_ne (by omega), fs_ne (by omega)]
    exact h3 i hi
  · intro i hi
    rw [u_ne (by omega), u_ne (by omega), fs_ne (by omega), fs_ne (by omega)]
    exact h4 i hi
  · intro i hi
    rw [u_ne (by omega), u_ne (by omega), fs_ne (by omega), fs_ne (by omega)]
    exact h5 i hi
  · intro i hi
    rw [u_ne (by omega), u_ne (by omega), fs_ne (by omega), fs_ne (by omega)]
    exact h6 i hi
  · intro i hi
    rw [u_ne (by omega), u_ne (by omega), fs_ne (by omega), fs_ne (by omega)]
    exact h7 i hi
  · intro i hi
    rw [u_ne (by omega), u_ne (by omega), fs_ne (by omega), fs_ne (by omega)]
    exact h8 i hi
  · intro i hi
    rw [u_ne (by omega), u_ne (by omega), fs_ne (by omega), fs_ne (by omega)]
    exact h9 i hi
  · intro i hi
    rw [u_ne (by omega), u_ne (by omega), fs_ne (by omega), fs_ne (by omega)]
    exact h10 i hi
  · intro i hi
    rw [u_ne (by omega), u_ne (by omega), fs_ne (by omega), fs_ne (by omega)]
    exact h11 i hi
  · intro i hi
    rw [u_ne (by omega), u_ne (by omega), fs_ne (by omega), fs_ne (by omega)]
    exact h12 i hi
  · intro i hi
    rw [u_ne (by omega), u_ne (by omega), fs_ne (by omega), fs_ne (by omega)]
    exact h13 i hi
  · intro i hi
    rw [u_ne (by omega), u_ne (by omega), fs_ne (by omega), fs_ne (by omega)]
    exact h14 i hi
  · intro i hi
    rw [u_ne (by omega), u_ne (by omega), fs_ne (by omega), fs_ne (by omega)]
    exact h15 i hi
  · intro i hi
    rw [u_ne (by omega), u_ne (by omega), fs_ne (by omega), fs_ne (by omega)]
    exact h16 i hi
  · intro i hi
    rw [u_ne (by omega), u_ne (by omega), fs_ne (by omega), fs_ne (by omega)]
    exact h17 i hi
  · intro i hi
    rw [u_ne (by omega), u_ne (by omega), fs_ne (by omega), fs_ne (by omega)]
    exact h18 i hi
  · intro i hi
    rw [u_ne (by omega), u_ne (by omega), fs_ne (by omega), fs_ne (by omega)]
    exact h19 i hi
  · intro i hi
    rw [u_ne (by omega), u_ne (by omega), fs_ne (by omega), fs_ne (by omega)]
    exact h20 i hi
  · intro i hi hi2
    rw [u_ne (by omega), u_ne (by omega)]
    exact h21 i hi hi2
  · intro i hi
    have hh := h22 i hi
    clear h2 h3 h4 h5 h6 h7 h8 h9 h10 h11 h12 h13 h14 h15 h16 h17 h18 h19 h20 h21 h22 h23 h24 h25 h26 h27 h28 h29 h30
    simp only [us_rd, fs_rd]
    grind
  · intro i hi
    have hh := h23 i hi
    clear h2 h3 h4 h5 h6 h7 h8 h9 h10 h11 h12 h13 h14 h15 h16 h17 h18 h19 h20 h21 h22 h23 h24 h25 h26 h27 h28 h29 h30
    simp only [us_rd, fs_rd]
    grind
  · intro i hi
    have hh := h24 i hi
    clear h2 h3 h4 h5 h6 h7 h8 h9 h10 h11 h12 h13 h14 h15 h16 h17 h18 h19 h20 h21 h22 h23 h24 h25 h26 h27 h28 h29 h30
    simp only [us_rd, fs_rd]
    grind
  · intro i hi hi2
    have hh := h25 i hi hi2
    clear h2 h3 h4 h5 h6 h7 h8 h9 h10 h11 h12 h13 h14 h15 h16 h17 h18 h19 h20 h21 h22 h23 h24 h25 h26 h27 h28 h29 h30
    simp only [us_rd]
    grind
  · rw [u_ne (by omega), u_ne (by omega), fs_ne (by omega), fs_ne (by omega)]
    exact h26
  · rw [u_ne (by omega), u_ne (by omega), fs_ne (by omega), fs_ne (by omega)]
    exact h27
  · intro q i hi
    rw [u_ne (by omega), u_ne (by omega), fs_ne (by omega), fs_ne (by omega)]
    exact h28 q i hi
  · intro q i hi
    rw [u_ne (by omega), u_ne (by omega), fs_ne (by omega), fs_ne (by omega)]
    exact h29 q i hi
  · intro q i hi
    rw [u_ne (by omega), u_ne (by omega), fs_ne (by omega), fs_ne (by omega)]
    exact h30 q i hi
section
variable {k L b : Nat} {m : Bool} {d0 e : Dat} {P : Row} {R : RT}
/-- how long the loads have been lit: not longer than there were minutes -/
def LF (P : Row) : Prop := ∀ l, l < 12 → P (2078 + l) = 1 → P (172 + l) ≤ P 285
theorem c_O_miss {d : Dat} (hb : isLd b = true) {l : Nat} (hl : l < 12) : Cl (k + 1) 164 [vR (b + 14), vI (l : Int)] (SH L) d R ↔ R vU (SH L) (ups (ups (ups d (b + 16) l 0) (b + 19) l (wr (d (b + 19) l + 1))) (b + 18) l (wr (d (b + 18) l + 1))) := by
  refine (Cl_iff rfl).trans ?_
  show Go k 164 R 0 [vR (b + 14), vI (l : Int)] [] (SH L) d ↔ _
  simp (disch := omega) only [s_Loads_miss_0, s_Loads_miss_1, s_Loads_miss_4, s_Loads_miss_5, s_Loads_miss_6, s_Loads_miss_7, s_Loads_miss_8, s_Loads_miss_11, s_Loads_miss_12, s_Loads_miss_13, s_Loads_miss_14, s_Loads_miss_15, s_Loads_miss_16, s_Loads_miss_17, s_Loads_miss_18, s_Loads_miss_21, s_Loads_miss_22, s_Loads_miss_23, s_Loads_miss_24, s_Loads_miss_25, s_Loads_miss_26, s_Loads_miss_27, hb, lk_0, lr_0_0, lr_0_1, lr_0_2, lr_0_3, lr_0_4, lr_0_5, lr_0_6, lr_0_7, lr_0_8, lr_0_9, lr_0_10, lr_0_11, lr_0_12, lr_0_13, lk_1, lr_1_0, lr_1_1, lr_1_2, lr_1_3, lr_1_4, lr_1_5, lr_1_6, lk_2, ln_2, lk_3, ln_3, lk_4, ln_4, lk_5, ln_5, lk_6, ln_6, lk_7, ln_7, lk_8, ln_8, lk_9, lr_9_0, lr_9_1, lr_9_2, lr_9_3, lk_10, ln_10, lk_11, ln_11, lk_12, ln_12, lk_13, ln_13, lk_14, lr_14_0, lr_14_1, lr_14_2, lr_14_3, lr_14_4, lr_14_5, lk_15, ln_15, lk_16, ln_16, lk_17, ln_17, lk_18, ln_18, lk_19, ln_19, lk_20, ln_20, lk_21, ln_21, lk_22, ln_22, lk_23, ln_23, lk_24, ln_24, lk_25, ln_25, lk_26, ln_26, lk_27, ln_27, lk_28, ln_28, ld20, le_T, lt_T, true_and, and_true, u_ne, Int.toNat_natCast]
theorem c_O_serve (hb : isLd b = true) (hE : WE e) (hW : WQ e P) {d : Dat} (hR : RL m b e d0 d P) {l : Nat} (hl : l < (e 241 13).toNat) : Cl (k + 2) 163 [vR (b + 14), vI (l : Int)] (SH L) d R ↔ R vU (SH L) (ups (ups (ups (ups d (b + 20) l (if coldS P l = true then 1 else 0)) (b + 19) l 0) (b + 16) l (wr (d (b + 16) l + 1))) (b + 17) l (wr (d (b + 17) l + 1))) := by
  have n1 := we_o hE
  refine (Cl_iff rfl).trans ?_
  show Go (k + 1) 163 R 0 [vR (b + 14), vI (l : Int)] [] (SH L) d ↔ _
  have e1 : ((if coldS P l = true then (1 : Int) else 0) = 0 ∨ (if coldS P l = true then (1 : Int) else 0) = 1) = True := by
    refine eq_true ?_
    split
    · exact Or.inr rfl
    · exact Or.inl rfl
  simp (disch := omega) only [s_Loads_serve_0, s_Loads_serve_1, s_Loads_serve_4, s_Loads_serve_5, s_Loads_serve_6, s_Loads_serve_7, s_Loads_serve_10, s_Loads_serve_11, s_Loads_serve_12, s_Loads_serve_15, s_Loads_serve_16, s_Loads_serve_17, s_Loads_serve_18, s_Loads_serve_19, s_Loads_serve_22, s_Loads_serve_23, s_Loads_serve_24, s_Loads_serve_25, s_Loads_serve_26, s_Loads_serve_27, s_Loads_serve_28, s_Loads_serve_29, s_Loads_serve_32, s_Loads_serve_33, s_Loads_serve_34, s_Loads_serve_35, s_Loads_serve_36, s_Loads_serve_37, s_Loads_serve_38, hb, lk_0, lr_0_0, lr_0_1, lr_0_2, lr_0_3, lr_0_4, lr_0_5, lr_0_6, lr_0_7, lr_0_8, lr_0_9, lr_0_10, lr_0_11, lr_0_12, lr_0_13, lk_1, lr_1_0, lr_1_1, lr_1_2, lr_1_3, lr_1_4, lr_1_5, lr_1_6, lk_2, ln_2, lk_3, ln_3, lk_4, ln_4, lk_5, ln_5, lk_6, ln_6, lk_7, ln_7, lk_8, ln_8, lk_9, lr_9_0, lr_9_1, lr_9_2, lr_9_3, lk_10, ln_10, lk_11, ln_11, lk_12, ln_12, lk_13, ln_13, lk_14, lr_14_0, lr_14_1, lr_14_2, lr_14_3, lr_14_4, lr_14_5, lk_15, ln_15, lk_16, ln_16, lk_17, ln_17, lk_18, ln_18, lk_19, ln_19, lk_20, ln_20, lk_21, ln_21, lk_22, ln_22, lk_23, ln_23, lk_24, ln_24, lk_25, ln_25, lk_26, ln_26, lk_27, ln_27, lk_28, ln_28, ld20, le_T, lt_T, true_and, and_true, u_ne, Int.toNat_natCast, c_O_isCold hb hR hE hW, e1]
theorem srv_lit {e : Dat} {P : Row} {l : Nat} (hl : l < 12) (hW : WQ e P) (c : P (136 + l) = 1 ∧ P (56 + (e 252 l).toNat) = 1) : srv1 e l P = fset (fset (fset (fset (fset P (148 + l) (wr (P (148 + l) + 1))) (184 + l) (if coldS P l = true then 1 else 0)) (172 + l) (wr ((if P (2078 + l) = 1 then P (172 + l) else 0) + 1))) (2090 + l) 0) (2078 + l) 1 := by
  have h1 := wp_w hW l hl
  unfold srv1
  rw [if_pos c]
  generalize wr (P (148 + l) + 1) = w
  rcases h1.1 with q | q
  · have q1 : ¬ P (2078 + l) = 1 := by omega
    rw [if_pos q, if_pos q, if_neg q1]
    have e1 : (if 30 ≤ P (2090 + l) then (1 : Int) else 0) = (if coldS P l = true then 1 else 0) := by
      have e2 : coldS P l = decide (30 ≤ P (2090 + l)) := if_neg q1
      rw [e2]
      by_cases z : 30 ≤ P (2090 + l)
      · rw [if_pos z, decide_eq_true z, if_pos rfl]
      · rw [if_neg z, decide_eq_false z]
        rfl
    rw [e1]
    generalize (if coldS P l = true then (1 : Int) else 0) = cc
    generalize wr (0 + 1) = w1
    funext j
    simp only [fs_rd]
    grind
  · rw [if_neg (by omega), if_neg (by omega), if_pos q]
    have e1 : P (184 + l) = (if coldS P l = true then 1 else 0) := by
      unfold coldS
      rw [if_pos q]
      simp only [decide_eq_true_eq]
      rcases h1.2 with z | z <;> rw [z] <;> rfl
    rw [← e1]
    generalize wr (P (172 + l) + 1) = w1
    funext j
    simp only [fs_rd]
    grind
theorem srv_dark {e : Dat} {P : Row} {l : Nat} (c : ¬ (P (136 + l) = 1 ∧ P (56 + (e 252 l).toNat) = 1)) : srv1 e l P = fset (fset (fset P (160 + l) (wr (P (160 + l) + 1))) (2090 + l) (wr (P (2090 + l) + 1))) (2078 + l) 0 := if_neg c
theorem srv_rd {e : Dat} {P : Row} {l j : Nat} (hW : WQ e P) (hl : l < 12) (hj : j < 148 ∨ (196 ≤ j ∧ j < 2078) ∨ (184 ≤ j ∧ ¬ j = 184 + l ∧ ¬ j = 2078 + l ∧ ¬ j = 2090 + l) ∨ (172 ≤ j ∧ j < 184 ∧ ¬ j = 172 + l)) : srv1 e l P j = P j := by
  by_cases c : P (136 + l) = 1 ∧ P (56 + (e 252 l).toNat) = 1
  · rw [srv_lit hl hW c, fs_ne (by omega), fs_ne (by omega), fs_ne (by omega), fs_ne (by omega), fs_ne (by omega)]
  · rw [srv_dark c, fs_ne (by omega), fs_ne (by omega), fs_ne (by omega)]
theorem srv_WQ {e : Dat} {P : Row} {l : Nat} (hE : WE e) (hW : WQ e P) (hl : l < 12) (h : P (2078 + l) = 1 → P (172 + l) ≤ 699) : WQ e (srv1 e l P) ∧ (srv1 e l P (2078 + l) = 1 → srv1 e l P (172 + l) ≤ (if P (2078 + l) = 1 then P (172 + l) else 0) + 1) := by
  have n1 := we_n hE
  have g := fun j hj => srv_rd (j := j) hW hl hj
  have hw := wp_w hW
  have hf := wp_f hW
  have a : ((srv1 e l P (2078 + l) = 0 ∨ srv1 e l P (2078 + l) = 1) ∧ (srv1 e l P (184 + l) = 0 ∨ srv1 e l P (184 + l) = 1)) ∧ (srv1 e l P (2078 + l) = 1 → srv1 e l P (172 + l) = (if P (2078 + l) = 1 then P (172 + l) else 0) + 1) := by
    by_cases c : P (136 + l) = 1 ∧ P (56 + (e 252 l).toNat) = 1
    · rw [srv_lit hl hW c]
      have e1 : wr ((if P (2078 + l) = 1 then P (172 + l) else 0) + 1) = (if P (2078 + l) = 1 then P (172 + l) else 0) + 1 := by
        have := hf l hl
        refine wr_of ?_
        split <;> omega
      rw [e1]
      refine ⟨⟨?_, ?_⟩, fun _ => ?_⟩
      · rw [fs_eq]
        exact Or.inr rfl
      · rw [fs_ne (by omega), fs_ne (by omega), fs_ne (by omega), fs_eq]
        split
        · exact Or.inr rfl
        · exact Or.inl rfl
      · rw [fs_ne (by omega), fs_ne (by omega), fs_eq]
    · rw [srv_dark c]
      refine ⟨⟨?_, ?_⟩, fun q => ?_⟩
      · rw [fs_eq]
        exact Or.inl rfl
      · rw [fs_ne (by omega), fs_ne (by omega), fs_ne (by omega)]
        exact (hw l hl).2
      · rw [fs_eq] at q
        exact absurd q (by decide)
  obtain ⟨⟨a1, a2⟩, a3⟩ := a
  refine ⟨⟨fun i hi => ?_, fun i hi => ?_, fun i hi => ?_, fun i hi => ?_, fun i hi => ?_, fun i hi => ?_, fun i hi => ?_, fun i hi => ?_, ?_, ?_, fun i hi => ?_, fun i hi => ?_, fun i hi => ?_⟩, fun q => by rw [a3 q]; omega⟩
  · rw [g _ (by omega)]; exact wp_i hW i hi
  · rw [g _ (by omega)]; exact wp_l hW i hi
  · rw [g _ (by omega)]; exact wp_c hW i hi
  · rw [g _ (by omega)]; exact wp_o hW i hi
  · rw [g _ (by omega)]; exact wp_d hW i hi
  · by_cases z : i = l
    · rw [z]
      exact ⟨a1, a2⟩
    · rw [g _ (by omega), g _ (by omega)]
      exact hw i hi
  · rw [g _ (by omega), g _ (by omega), g _ (by omega)]; exact wp_g hW i hi
  · by_cases z : i = l
    · rw [z]
      intro q
      rw [a3 q]
      have := hf l hl
      split
      · rename_i q2
        have := h q2
        omega
      · omega
    · rw [g _ (by omega), g _ (by omega)]
      exact hf i hi
  · rw [g _ (by omega)]; exact wp_m hW
  · rw [g _ (by omega)]; exact wp_F hW
  · rw [g _ (by omega)]; exact wp_s hW i hi
  · rw [g _ (by omega)]; exact wp_u hW i hi
  · rw [g _ (by omega), g _ (by omega)]; exact wp_z hW i hi
/-- serving all -/
theorem srvs_all {e : Dat} {P : Row} (hE : WE e) (hW : WQ e P) (hL : LF P) : ∀ n, n ≤ (e 241 13).toNat → WQ e (iterN (srv1 e) n P) ∧ (∀ l, l < 12 → iterN (srv1 e) n P (2078 + l) = 1 → iterN (srv1 e) n P (172 + l) ≤ P 285 + 1) ∧ (∀ l, n ≤ l → l < 12 → iterN (srv1 e) n P (2078 + l) = P (2078 + l) ∧ iterN (srv1 e) n P (172 + l) = P (172 + l)) ∧ (∀ j, j < 148 ∨ (196 ≤ j ∧ j < 2078) → iterN (srv1 e) n P j = P j) := by
  have n1 := we_o hE
  have hm := wp_m hW
  intro n
  induction n with
  | zero => exact fun _ => ⟨hW, fun l hl q => by
      have := hL l hl q
      show P (172 + l) ≤ P 285 + 1
      omega, fun _ _ _ => ⟨rfl, rfl⟩, fun _ _ => rfl⟩
  | succ n ih =>
    intro hn
    obtain ⟨i1, i2, i3, i4⟩ := ih (by omega)
    show WQ e (srv1 e n (iterN (srv1 e) n P)) ∧ (∀ l, l < 12 → srv1 e n (iterN (srv1 e) n P) (2078 + l) = 1 → srv1 e n (iterN (srv1 e) n P) (172 + l) ≤ P 285 + 1) ∧ (∀ l, n + 1 ≤ l → l < 12 → srv1 e n (iterN (srv1 e) n P) (2078 + l) = P (2078 + l) ∧ srv1 e n (iterN (srv1 e) n P) (172 + l) = P (172 + l)) ∧ (∀ j, j < 148 ∨ (196 ≤ j ∧ j < 2078) → srv1 e n (iterN (srv1 e) n P) j = P j)
    have i3n := i3 n (by omega) (by omega)
    have hLn := hL n (by omega)
    generalize iterN (srv1 e) n P = Q at *
    obtain ⟨s1, s2⟩ := srv_WQ hE i1 (l := n) (by omega) (fun q => by
      rw [i3n.1] at q
      have := hLn q
      rw [i3n.2]
      omega)
    refine ⟨s1, fun l hl q => ?_, fun l hl hl2 => ?_, fun j hj => ?_⟩
    · by_cases z : l = n
      · subst z
        have := s2 q
        rw [i3n.1, i3n.2] at this
        by_cases z2 : P (2078 + l) = 1
        · rw [if_pos z2] at this
          have := hLn z2
          omega
        · rw [if_neg z2] at this
          omega
      · rw [srv_rd i1 (by omega) (by omega)] at q
        rw [srv_rd i1 (by omega) (by omega)]
        exact i2 l hl q
    · rw [srv_rd i1 (by omega) (by omega), srv_rd i1 (by omega) (by omega)]
      exact i3 l (by omega) hl2
    · rw [srv_rd i1 (by omega) (by omega)]
      exact i4 j hj
theorem c_L_serve (hb : isLd b = true) (hb2 : 52 ≤ b) (hF : FC d0 e) (hE : WE e) (hW : WQ e P) (hL : LF P) (h : ∀ d, RL m b e d0 d (iterN (srv1 e) ((e 241 13).toNat) P) → R vU (SH L) d) {d : Dat} (hR : RL m b e d0 d P) : Cl (k + 3) 153 [vR b] (SH L) d R := by
  have n1 := we_n hE
  have n2 := we_o hE
  have al := srvs_all hE hW hL
  refine Cl_succ rfl ?_
  show Go (k + 2) 153 R 0 [vR b, vU] [] (SH L) d
  have key : ∀ d, RL m b e d0 d P → Go (k + 2) 153 R 2 [vR b, vI (0 : Nat)] [] (SH L) d := by
    refine loop_up (G := fun n Q => ∀ d, RL m b e d0 d Q → Go (k + 2) 153 R 2 [vR b, vI (n : Int)] [] (SH L) d) (f := srv1 e) (fun n Q => Q = iterN (srv1 e) n P) ((e 241 13).toNat) (fun l hl Q hQ hG d hR => ?_) rfl (fun hQ d hR => ?_)
    · have hf := FC_of hb2 hR hF
      have hG := hG (by rw [hQ]; rfl)
      have hW1 : WQ e Q := by rw [hQ]; exact (al l (by omega)).1
      have x1 := we_O hE l
      have x2 := we_O2 hE l hl
      have r1 := rl_15 hR l (by omega)
      have r2 := rl_3 hR ((e 252 l).toNat) (by omega)
      have r3 := rl_16 hR l (by omega)
      have r4 := rl_17 hR l (by omega)
      have r5 := rl_18 hR l (by omega)
      have r6 := rl_19 hR l (by omega)
      have l1 := wp_o hW1 l (by omega)
      have l2 := wp_l hW1 ((e 252 l).toNat) (by omega)
      clear al h hQ hW hL
      rw [s_Land_serve_2]
      by_cases c : Q (136 + l) = 1 ∧ Q (56 + (e 252 l).toNat) = 1
      · have u1 := up_lit (c := if coldS Q l = true then 1 else 0) (v := wr ((if Q (2078 + l) = 1 then Q (172 + l) else 0) + 1)) (by split; exact Or.inr rfl; exact Or.inl rfl) (up_17 (v := wr (Q (148 + l) + 1)) hR (i := l) (by omega)) hl
        rw [← srv_lit (by omega) hW1 c] at u1
        have hG := hG _ u1
        have e1 : ∀ cc w1 w2 : Int, ups (ups (ups (ups d (b + 17) l w2) (b + 20) l cc) (b + 19) l 0) (b + 16) l w1 = ups (ups (ups (ups d (b + 20) l cc) (b + 19) l 0) (b + 16) l w1) (b + 17) l w2 := by
          intro cc w1 w2
          clear u1 hG hR hF hf hW1 hE
          funext a j
          simp only [us_rd]
          grind
        rw [e1] at hG
        obtain ⟨c1, c2⟩ := c
        clear u1 e1
        simp (disch := omega) only [s_Land_serve_0, s_Land_serve_1, s_Land_serve_3, s_Land_serve_4, s_Land_serve_7, s_Land_serve_10, s_Land_serve_13, s_Land_serve_14, s_Land_serve_17, s_Land_serve_20, s_Land_serve_21, s_Land_serve_22, s_Land_serve_25, s_Land_serve_26, s_Land_serve_29, s_Land_serve_32, s_Land_serve_33, s_Land_serve_36, s_Land_serve_39, s_Land_serve_40, s_Land_serve_41, s_Land_serve_42, s_Land_serve_45, s_Land_serve_46, s_Land_serve_49, s_Land_serve_50, s_Land_serve_53, s_Land_serve_56, s_Land_serve_57, s_Land_serve_60, s_Land_serve_61, s_Land_serve_64, s_Land_serve_67, s_Land_serve_70, hb, lk_0, lr_0_0, lr_0_1, lr_0_2, lr_0_3, lr_0_4, lr_0_5, lr_0_6, lr_0_7, lr_0_8, lr_0_9, lr_0_10, lr_0_11, lr_0_12, lr_0_13, lk_1, lr_1_0, lr_1_1, lr_1_2, lr_1_3, lr_1_4, lr_1_5, lr_1_6, lk_2, ln_2, lk_3, ln_3, lk_4, ln_4, lk_5, ln_5, lk_6, ln_6, lk_7, ln_7, lk_8, ln_8, lk_9, lr_9_0, lr_9_1, lr_9_2, lr_9_3, lk_10, ln_10, lk_11, ln_11, lk_12, ln_12, lk_13, ln_13, lk_14, lr_14_0, lr_14_1, lr_14_2, lr_14_3, lr_14_4, lr_14_5, lk_15, ln_15, lk_16, ln_16, lk_17, ln_17, lk_18, ln_18, lk_19, ln_19, lk_20, ln_20, lk_21, ln_21, lk_22, ln_22, lk_23, ln_23, lk_24, ln_24, lk_25, ln_25, lk_26, ln_26, lk_27, ln_27, lk_28, ln_28, k_1, n_1, k_2, n_2, k_3, n_3, k_4, n_4, k_5, n_5, k_6, n_6, k_7, n_7, k_8, n_8, k_9, n_9, k_10, r_10_0, r_10_1, r_10_2, r_10_3, r_10_4, r_10_5, k_11, r_11_5, r_11_6, r_11_7, r_11_8, r_11_9, r_11_10, r_11_11, r_11_12, r_11_13, r_11_14, r_11_15, r_11_16, k_12, n_12, k_13, n_13, k_14, n_14, k_15, n_15, k_16, n_16, k_17, n_17, k_18, n_18, k_19, n_19, k_20, n_20, k_21, n_21, k_22, n_22, k_23, n_23, k_24, r_24_3, r_24_4, r_24_5, r_24_6, r_24_7, r_24_8, r_24_9, r_24_10, r_24_11, r_24_12, r_24_13, k_25, n_25, k_26, n_26, k_27, n_27, k_28, n_28, k_29, n_29, k_30, n_30, k_31, n_31, k_32, n_32, k_33, n_33, k_34, n_34, k_35, n_35, k_36, r_36_0, r_36_3, r_36_4, r_36_5, r_36_6, r_36_7, k_37, n_37, k_38, n_38, k_39, n_39, r_39_0, r_39_1, r_39_2, r_39_3, r_39_4, r_39_5, k_40, n_40, k_41, n_41, k_42, n_42, k_43, n_43, k_44, n_44, k_45, n_45, k_46, n_46, k_47, n_47, k_48, r_48_0, r_48_1, r_48_5, k_49, n_49, k_50, n_50, k_51, n_51, k_52, r_52_0, r_52_1, r_52_2, r_52_3, r_52_4, r_52_5, r_52_6, r_52_7, r_52_8, r_52_9, r_52_10, r_52_11, r_52_12, r_52_13, k_53, r_53_0, r_53_1, r_53_2, r_53_3, r_53_4, r_53_5, r_53_6, k_54, n_54, k_55, n_55, k_56, n_56, k_57, n_57, k_58, n_58, k_59, n_59, k_60, n_60, k_61, r_61_0, r_61_1, r_61_2, r_61_3, k_62, n_62, k_63, n_63, k_64, n_64, k_65, n_65, k_66, r_66_0, r_66_1, r_66_2, r_66_3, r_66_4, r_66_5, k_67, n_67, k_68, n_68, k_69, n_69, k_70, n_70, k_71, n_71, k_72, n_72, k_73, n_73, k_74, n_74, k_75, n_75, k_76, n_76, k_77, n_77, k_78, n_78, k_79, n_79, k_80, n_80, k_81, r_81_0, r_81_1, r_81_2, r_81_3, r_81_4, r_81_9, r_81_10, k_82, n_82, r_82_0, r_82_1, r_82_2, r_82_3, k_83, n_83, k_84, n_84, k_85, n_85, k_86, n_86, k_87, r_87_0, r_87_1, r_87_2, r_87_3, r_87_4, r_87_5, r_87_6, r_87_7, r_87_8, r_87_9, r_87_10, r_87_11, r_87_12, r_87_13, k_116, r_116_0, r_116_1, r_116_2, r_116_3, r_116_4, r_116_5, r_116_6, r_116_7, r_116_8, r_116_9, r_116_10, r_116_11, r_116_12, r_116_13, k_145, r_145_0, r_145_1, r_145_2, r_145_3, r_145_4, r_145_5, r_145_6, r_145_7, r_145_8, r_145_9, r_145_10, r_145_11, r_145_12, r_145_13, k_174, r_174_0, r_174_1, r_174_2, r_174_3, r_174_4, r_174_5, r_174_6, r_174_7, r_174_8, r_174_9, r_174_10, r_174_11, r_174_12, r_174_13, k_203, r_203_0, r_203_1, r_203_2, r_203_3, r_203_4, r_203_5, r_203_6, r_203_7, r_203_8, r_203_9, r_203_10, r_203_11, r_203_12, r_203_13, k_232, n_232, r_232_0, r_232_1, r_232_2, r_232_3, k_233, r_233_2, k_234, n_234, k_235, r_235_2, k_236, n_236, k_237, r_237_2, k_238, n_238, k_239, r_239_2, k_240, n_240, ld20, ld30, (fc_11_0 hf), (fc_11_1 hf), (fc_11_2 hf), (fc_11_3 hf), (fc_11_4 hf), (fc_24_0 hf), (fc_24_1 hf), (fc_24_2 hf), (fc_36_2 hf), (fc_12 hf), (fc_13 hf), (fc_14 hf), (fc_15 hf), (fc_16 hf), (fc_17 hf), (fc_18 hf), (fc_19 hf), (fc_20 hf), (fc_21 hf), (fc_22 hf), (fc_23 hf), (fc_25 hf), (fc_26 hf), (fc_27 hf), (fc_28 hf), (fc_29 hf), (fc_30 hf), (fc_31 hf), (fc_32 hf), (fc_33 hf), (fc_34 hf), (fc_35 hf), (fc_2_0 hf), (fc_2_1 hf), (fc_2_2 hf), (fc_2_3 hf), (fc_2_4 hf), (fc_2_5 hf), (fc_3_0 hf), (fc_3_1 hf), (fc_3_2 hf), (fc_3_3 hf), (fc_3_4 hf), (fc_3_5 hf), (fc_4_0 hf), (fc_4_1 hf), (fc_4_2 hf), (fc_4_3 hf), (fc_4_4 hf), (fc_4_5 hf), (fc_5_0 hf), (fc_5_1 hf), (fc_5_2 hf), (fc_5_3 hf), (fc_5_4 hf), (fc_5_5 hf), (fc_6_0 hf), (fc_6_1 hf), (fc_6_2 hf), (fc_6_3 hf), (fc_6_4 hf), (fc_6_5 hf), u_eq, u_ne, wr_inc, le_T, lt_T, le_F, lt_F, Int.toNat_natCast, Int.reduceToNat, cat_n, cat_i, cat_r, cat_l, Nat.ble_eq, Nat.reduceAdd, Nat.reduceLeDiff, true_and, and_true, true_implies, false_implies, not_true_eq_false, not_false_eq_true, implies_true, r1, r2, c1, c2, c_O_serve hb hE hW1 hR, r3, r4]
        clear hR hW1
        grind
      · have u1 := up_dark (v := wr (Q (2090 + l) + 1)) (up_18 (v := wr (Q (160 + l) + 1)) hR (i := l) (by omega)) hl
        rw [← srv_dark c] at u1
        have hG := hG _ u1
        have e1 : ∀ w1 w2 : Int, ups (ups (ups d (b + 18) l w2) (b + 16) l 0) (b + 19) l w1 = ups (ups (ups d (b + 16) l 0) (b + 19) l w1) (b + 18) l w2 := by
          intro w1 w2
          clear u1 hG hR hF hf hW1 hE
          funext a j
          simp only [us_rd]
          grind
        rw [e1] at hG
        clear u1 e1
        simp (disch := omega) only [s_Land_serve_0, s_Land_serve_1, s_Land_serve_3, s_Land_serve_4, s_Land_serve_7, s_Land_serve_10, s_Land_serve_13, s_Land_serve_14, s_Land_serve_17, s_Land_serve_20, s_Land_serve_21, s_Land_serve_22, s_Land_serve_25, s_Land_serve_26, s_Land_serve_29, s_Land_serve_32, s_Land_serve_33, s_Land_serve_36, s_Land_serve_39, s_Land_serve_40, s_Land_serve_41, s_Land_serve_42, s_Land_serve_45, s_Land_serve_46, s_Land_serve_49, s_Land_serve_50, s_Land_serve_53, s_Land_serve_56, s_Land_serve_57, s_Land_serve_60, s_Land_serve_61, s_Land_serve_64, s_Land_serve_67, s_Land_serve_70, hb, lk_0, lr_0_0, lr_0_1, lr_0_2, lr_0_3, lr_0_4, lr_0_5, lr_0_6, lr_0_7, lr_0_8, lr_0_9, lr_0_10, lr_0_11, lr_0_12, lr_0_13, lk_1, lr_1_0, lr_1_1, lr_1_2, lr_1_3, lr_1_4, lr_1_5, lr_1_6, lk_2, ln_2, lk_3, ln_3, lk_4, ln_4, lk_5, ln_5, lk_6, ln_6, lk_7, ln_7, lk_8, ln_8, lk_9, lr_9_0, lr_9_1, lr_9_2, lr_9_3, lk_10, ln_10, lk_11, ln_11, lk_12, ln_12, lk_13, ln_13, lk_14, lr_14_0, lr_14_1, lr_14_2, lr_14_3, lr_14_4, lr_14_5, lk_15, ln_15, lk_16, ln_16, lk_17, ln_17, lk_18, ln_18, lk_19, ln_19, lk_20, ln_20, lk_21, ln_21, lk_22, ln_22, lk_23, ln_23, lk_24, ln_24, lk_25, ln_25, lk_26, ln_26, lk_27, ln_27, lk_28, ln_28, k_1, n_1, k_2, n_2, k_3, n_3, k_4, n_4, k_5, n_5, k_6, n_6, k_7, n_7, k_8, n_8, k_9, n_9, k_10, r_10_0, r_10_1, r_10_2, r_10_3, r_10_4, r_10_5, k_11, r_11_5, r_11_6, r_11_7, r_11_8, r_11_9, r_11_10, r_11_11, r_11_12, r_11_13, r_11_14, r_11_15, r_11_16, k_12, n_12, k_13, n_13, k_14, n_14, k_15, n_15, k_16, n_16, k_17, n_17, k_18, n_18, k_19, n_19, k_20, n_20, k_21, n_21, k_22, n_22, k_23, n_23, k_24, r_24_3, r_24_4, r_24_5, r_24_6, r_24_7, r_24_8, r_24_9, r_24_10, r_24_11, r_24_12, r_24_13, k_25, n_25, k_26, n_26, k_27, n_27, k_28, n_28, k_29, n_29, k_30, n_30, k_31, n_31, k_32, n_32, k_33, n_33, k_34, n_34, k_35, n_35, k_36, r_36_0, r_36_3, r_36_4, r_36_5, r_36_6, r_36_7, k_37, n_37, k_38, n_38, k_39, n_39, r_39_0, r_39_1, r_39_2, r_39_3, r_39_4, r_39_5, k_40, n_40, k_41, n_41, k_42, n_42, k_43, n_43, k_44, n_44, k_45, n_45, k_46, n_46, k_47, n_47, k_48, r_48_0, r_48_1, r_48_5, k_49, n_49, k_50, n_50, k_51, n_51, k_52, r_52_0, r_52_1, r_52_2, r_52_3, r_52_4, r_52_5, r_52_6, r_52_7, r_52_8, r_52_9, r_52_10, r_52_11, r_52_12, r_52_13, k_53, r_53_0, r_53_1, r_53_2, r_53_3, r_53_4, r_53_5, r_53_6, k_54, n_54, k_55, n_55, k_56, n_56, k_57, n_57, k_58, n_58, k_59, n_59, k_60, n_60, k_61, r_61_0, r_61_1, r_61_2, r_61_3, k_62, n_62, k_63, n_63, k_64, n_64, k_65, n_65, k_66, r_66_0, r_66_1, r_66_2, r_66_3, r_66_4, r_66_5, k_67, n_67, k_68, n_68, k_69, n_69, k_70, n_70, k_71, n_71, k_72, n_72, k_73, n_73, k_74, n_74, k_75, n_75, k_76, n_76, k_77, n_77, k_78, n_78, k_79, n_79, k_80, n_80, k_81, r_81_0, r_81_1, r_81_2, r_81_3, r_81_4, r_81_9, r_81_10, k_82, n_82, r_82_0, r_82_1, r_82_2, r_82_3, k_83, n_83, k_84, n_84, k_85, n_85, k_86, n_86, k_87, r_87_0, r_87_1, r_87_2, r_87_3, r_87_4, r_87_5, r_87_6, r_87_7, r_87_8, r_87_9, r_87_10, r_87_11, r_87_12, r_87_13, k_116, r_116_0, r_116_1, r_116_2, r_116_3, r_116_4, r_116_5, r_116_6, r_116_7, r_116_8, r_116_9, r_116_10, r_116_11, r_116_12, r_116_13, k_145, r_145_0, r_145_1, r_145_2, r_145_3, r_145_4, r_145_5, r_145_6, r_145_7, r_145_8, r_145_9, r_145_10, r_145_11, r_145_12, r_145_13, k_174, r_174_0, r_174_1, r_174_2, r_174_3, r_174_4, r_174_5, r_174_6, r_174_7, r_174_8, r_174_9, r_174_10, r_174_11, r_174_12, r_174_13, k_203, r_203_0, r_203_1, r_203_2, r_203_3, r_203_4, r_203_5, r_203_6, r_203_7, r_203_8, r_203_9, r_203_10, r_203_11, r_203_12, r_203_13, k_232, n_232, r_232_0, r_232_1, r_232_2, r_232_3, k_233, r_233_2, k_234, n_234, k_235, r_235_2, k_236, n_236, k_237, r_237_2, k_238, n_238, k_239, r_239_2, k_240, n_240, ld20, ld30, (fc_11_0 hf), (fc_11_1 hf), (fc_11_2 hf), (fc_11_3 hf), (fc_11_4 hf), (fc_24_0 hf), (fc_24_1 hf), (fc_24_2 hf), (fc_36_2 hf), (fc_12 hf), (fc_13 hf), (fc_14 hf), (fc_15 hf), (fc_16 hf), (fc_17 hf), (fc_18 hf), (fc_19 hf), (fc_20 hf), (fc_21 hf), (fc_22 hf), (fc_23 hf), (fc_25 hf), (fc_26 hf), (fc_27 hf), (fc_28 hf), (fc_29 hf), (fc_30 hf), (fc_31 hf), (fc_32 hf), (fc_33 hf), (fc_34 hf), (fc_35 hf), (fc_2_0 hf), (fc_2_1 hf), (fc_2_2 hf), (fc_2_3 hf), (fc_2_4 hf), (fc_2_5 hf), (fc_3_0 hf), (fc_3_1 hf), (fc_3_2 hf), (fc_3_3 hf), (fc_3_4 hf), (fc_3_5 hf), (fc_4_0 hf), (fc_4_1 hf), (fc_4_2 hf), (fc_4_3 hf), (fc_4_4 hf), (fc_4_5 hf), (fc_5_0 hf), (fc_5_1 hf), (fc_5_2 hf), (fc_5_3 hf), (fc_5_4 hf), (fc_5_5 hf), (fc_6_0 hf), (fc_6_1 hf), (fc_6_2 hf), (fc_6_3 hf), (fc_6_4 hf), (fc_6_5 hf), u_eq, u_ne, wr_inc, le_T, lt_T, le_F, lt_F, Int.toNat_natCast, Int.reduceToNat, cat_n, cat_i, cat_r, cat_l, Nat.ble_eq, Nat.reduceAdd, Nat.reduceLeDiff, true_and, and_true, true_implies, false_implies, not_true_eq_false, not_false_eq_true, implies_true, r1, r2, c_O_miss hb, r5, r6]
        clear hR hW1
        grind
    · have hf := FC_of hb2 hR hF
      rw [← hQ] at hR
      have h := h d (by rw [← hQ]; exact hR)
      clear hR hW al hL
      rw [s_Land_serve_2]
      simp (disch := omega) only [s_Land_serve_0, s_Land_serve_1, s_Land_serve_3, s_Land_serve_4, s_Land_serve_7, s_Land_serve_10, s_Land_serve_13, s_Land_serve_14, s_Land_serve_17, s_Land_serve_20, s_Land_serve_21, s_Land_serve_22, s_Land_serve_25, s_Land_serve_26, s_Land_serve_29, s_Land_serve_32, s_Land_serve_33, s_Land_serve_36, s_Land_serve_39, s_Land_serve_40, s_Land_serve_41, s_Land_serve_42, s_Land_serve_45, s_Land_serve_46, s_Land_serve_49, s_Land_serve_50, s_Land_serve_53, s_Land_serve_56, s_Land_serve_57, s_Land_serve_60, s_Land_serve_61, s_Land_serve_64, s_Land_serve_67, s_Land_serve_70, hb, lk_0, lr_0_0, lr_0_1, lr_0_2, lr_0_3, lr_0_4, lr_0_5, lr_0_6, lr_0_7, lr_0_8, lr_0_9, lr_0_10, lr_0_11, lr_0_12, lr_0_13, lk_1, lr_1_0, lr_1_1, lr_1_2, lr_1_3, lr_1_4, lr_1_5, lr_1_6, lk_2, ln_2, lk_3, ln_3, lk_4, ln_4, lk_5, ln_5, lk_6, ln_6, lk_7, ln_7, lk_8, ln_8, lk_9, lr_9_0, lr_9_1, lr_9_2, lr_9_3, lk_10, ln_10, lk_11, ln_11, lk_12, ln_12, lk_13, ln_13, lk_14, lr_14_0, lr_14_1, lr_14_2, lr_14_3, lr_14_4, lr_14_5, lk_15, ln_15, lk_16, ln_16, lk_17, ln_17, lk_18, ln_18, lk_19, ln_19, lk_20, ln_20, lk_21, ln_21, lk_22, ln_22, lk_23, ln_23, lk_24, ln_24, lk_25, ln_25, lk_26, ln_26, lk_27, ln_27, lk_28, ln_28, k_1, n_1, k_2, n_2, k_3, n_3, k_4, n_4, k_5, n_5, k_6, n_6, k_7, n_7, k_8, n_8, k_9, n_9, k_10, r_10_0, r_10_1, r_10_2, r_10_3, r_10_4, r_10_5, k_11, r_11_5, r_11_6, r_11_7, r_11_8, r_11_9, r_11_10, r_11_11, r_11_12, r_11_13, r_11_14, r_11_15, r_11_16, k_12, n_12, k_13, n_13, k_14, n_14, k_15, n_15, k_16, n_16, k_17, n_17, k_18, n_18, k_19, n_19, k_20, n_20, k_21, n_21, k_22, n_22, k_23, n_23, k_24, r_24_3, r_24_4, r_24_5, r_24_6, r_24_7, r_24_8, r_24_9, r_24_10, r_24_11, r_24_12, r_24_13, k_25, n_25, k_26, n_26, k_27, n_27, k_28, n_28, k_29, n_29, k_30, n_30, k_31, n_31, k_32, n_32, k_33, n_33, k_34, n_34, k_35, n_35, k_36, r_36_0, r_36_3, r_36_4, r_36_5, r_36_6, r_36_7, k_37, n_37, k_38, n_38, k_39, n_39, r_39_0, r_39_1, r_39_2, r_39_3, r_39_4, r_39_5, k_40, n_40, k_41, n_41, k_42, n_42, k_43, n_43, k_44, n_44, k_45, n_45, k_46, n_46, k_47, n_47, k_48, r_48_0, r_48_1, r_48_5, k_49, n_49, k_50, n_50, k_51, n_51, k_52, r_52_0, r_52_1, r_52_2, r_52_3, r_52_4, r_52_5, r_52_6, r_52_7, r_52_8, r_52_9, r_52_10, r_52_11, r_52_12, r_52_13, k_53, r_53_0, r_53_1, r_53_2, r_53_3, r_53_4, r_53_5, r_53_6, k_54, n_54, k_55, n_55, k_56, n_56, k_57, n_57, k_58, n_58, k_59, n_59, k_60, n_60, k_61, r_61_0, r_61_1, r_61_2, r_61_3, k_62, n_62, k_63, n_63, k_64, n_64, k_65, n_65, k_66, r_66_0, r_66_1, r_66_2, r_66_3, r_66_4, r_66_5, k_67, n_67, k_68, n_68, k_69, n_69, k_70, n_70, k_71, n_71, k_72, n_72, k_73, n_73, k_74, n_74, k_75, n_75, k_76, n_76, k_77, n_77, k_78, n_78, k_79, n_79, k_80, n_80, k_81, r_81_0, r_81_1, r_81_2, r_81_3, r_81_4, r_81_9, r_81_10, k_82, n_82, r_82_0, r_82_1, r_82_2, r_82_3, k_83, n_83, k_84, n_84, k_85, n_85, k_86, n_86, k_87, r_87_0, r_87_1, r_87_2, r_87_3, r_87_4, r_87_5, r_87_6, r_87_7, r_87_8, r_87_9, r_87_10, r_87_11, r_87_12, r_87_13, k_116, r_116_0, r_116_1, r_116_2, r_116_3, r_116_4, r_116_5, r_116_6, r_116_7, r_116_8, r_116_9, r_116_10, r_116_11, r_116_12, r_116_13, k_145, r_145_0, r_145_1, r_145_2, r_145_3, r_145_4, r_145_5, r_145_6, r_145_7, r_145_8, r_145_9, r_145_10, r_145_11, r_145_12, r_145_13, k_174, r_174_0, r_174_1, r_174_2, r_174_3, r_174_4, r_174_5, r_174_6, r_174_7, r_174_8, r_174_9, r_174_10, r_174_11, r_174_12, r_174_13, k_203, r_203_0, r_203_1, r_203_2, r_203_3, r_203_4, r_203_5, r_203_6, r_203_7, r_203_8, r_203_9, r_203_10, r_203_11, r_203_12, r_203_13, k_232, n_232, r_232_0, r_232_1, r_232_2, r_232_3, k_233, r_233_2, k_234, n_234, k_235, r_235_2, k_236, n_236, k_237, r_237_2, k_238, n_238, k_239, r_239_2, k_240, n_240, ld20, ld30, (fc_11_0 hf), (fc_11_1 hf), (fc_11_2 hf), (fc_11_3 hf), (fc_11_4 hf), (fc_24_0 hf), (fc_24_1 hf), (fc_24_2 hf), (fc_36_2 hf), (fc_12 hf), (fc_13 hf), (fc_14 hf), (fc_15 hf), (fc_16 hf), (fc_17 hf), (fc_18 hf), (fc_19 hf), (fc_20 hf), (fc_21 hf), (fc_22 hf), (fc_23 hf), (fc_25 hf), (fc_26 hf), (fc_27 hf), (fc_28 hf), (fc_29 hf), (fc_30 hf), (fc_31 hf), (fc_32 hf), (fc_33 hf), (fc_34 hf), (fc_35 hf), (fc_2_0 hf), (fc_2_1 hf), (fc_2_2 hf), (fc_2_3 hf), (fc_2_4 hf), (fc_2_5 hf), (fc_3_0 hf), (fc_3_1 hf), (fc_3_2 hf), (fc_3_3 hf), (fc_3_4 hf), (fc_3_5 hf), (fc_4_0 hf), (fc_4_1 hf), (fc_4_2 hf), (fc_4_3 hf), (fc_4_4 hf), (fc_4_5 hf), (fc_5_0 hf), (fc_5_1 hf), (fc_5_2 hf), (fc_5_3 hf), (fc_5_4 hf), (fc_5_5 hf), (fc_6_0 hf), (fc_6_1 hf), (fc_6_2 hf), (fc_6_3 hf), (fc_6_4 hf), (fc_6_5 hf), u_eq, u_ne, wr_inc, le_T, lt_T, le_F, lt_F, Int.toNat_natCast, Int.reduceToNat, cat_n, cat_i, cat_r, cat_l, Nat.ble_eq, Nat.reduceAdd, Nat.reduceLeDiff, true_and, and_true, true_implies, false_implies, not_true_eq_false, not_false_eq_true, implies_true]
      exact h
  have key := key d hR
  simp only [s_Land_serve_0, s_Land_serve_1]
  exact key
end
