/-! from the law's start to its loop's head: both objects made -/
def xI (xs : Nat → Int32) (j : Nat) : Int := (xs j).toInt
def dl0 : DL := dlA.take 10
theorem bS_bytes : ∀ i, i < 3 → bytS.getD i [] = (dl0.getD (7 + i) []).map Int32.ofInt := by decide +kernel
theorem bS_row : ∀ i, i < 3 → (dl0.getD (7 + i) []).all (fun x => decide ((Int32.ofInt x).toInt = x)) = true := by decide +kernel
theorem dS_dl0 {xs : Nat → Int32} : dS xs = dOf (xI xs) dl0 := by
  funext a j
  unfold dS dOf xI
  by_cases h1 : a = 1
  · rw [if_pos h1, if_pos h1]
  · rw [if_neg h1, if_neg h1]
    by_cases h7 : a < 7
    · rw [if_pos h7]
      have : a = 0 ∨ a = 2 ∨ a = 3 ∨ a = 4 ∨ a = 5 ∨ a = 6 := by omega
      rcases this with q | q | q | q | q | q <;> subst q <;> rfl
    · rw [if_neg h7]
      by_cases h10 : a < 10
      · rw [if_pos h10]
        unfold bS gD
        have e1 := bS_bytes (a - 7) (by omega)
        have e2 := bS_row (a - 7) (by omega)
        rw [show 7 + (a - 7) = a by omega] at e1 e2
        rw [e1]
        generalize dl0.getD a [] = r at e2 ⊢
        rw [List.getD_eq_getElem?_getD, List.getElem?_map, List.getD_eq_getElem?_getD]
        cases hq : r[j]? with
        | none => rfl
        | some x => exact of_decide_eq_true (List.all_eq_true.mp e2 x (List.mem_of_getElem? hq))
      · rw [if_neg h10]
        unfold gD
        rw [List.getD_eq_getElem?_getD (l := dl0), List.getElem?_eq_none (by show 10 ≤ a; omega)]
        rfl
theorem shA_L {L : Nat} : shL L shA = sh0 L ++ [(10, nfN 10, List.replicate (nfN 10) 0)] := rfl
theorem shC_L {L : Nat} : shL L shC = shL L shB ++ [(11, nfN 11, List.replicate (nfN 11) 0)] := shL_app rfl
theorem dlA_d {r1 : Nat → Int} : dOf r1 dlA = rset (dOf r1 dl0) 10 (fun _ => 0) := (dOf_new (dl := dl0) (n := 10) (m := nfN 10) rfl (by decide))
theorem shB_n {L : Nat} : (shL L shB).length = 241 := by
  rw [shL_length]
  decide +kernel
theorem dlC_d {r1 : Nat → Int} : dOf r1 dlC = rset (dOf r1 dlB) 241 (fun _ => 0) := (dOf_new (dl := dlB) (n := 241) (m := nfN 11) (by decide +kernel) (by decide))
theorem cl_D {k L : Nat} {r1 : Nat → Int} {R : RT} (hk : 14 ≤ k) (h : R vU (shL L shB) (dOf r1 dlB)) : Cl k 0 [vR 10] (shL L shA) (dOf r1 dlA) R :=
  Cl_le hk (Cl_succ (by decide +kernel) ((ev_ok _ _ _ _ _ _ _ _ _ _ _ evD rfl).2 L r1 R h))
theorem cl_M {k L : Nat} {r1 : Nat → Int} {R : RT} (hk : 3 ≤ k) (h : R vU (shL L shE) (dOf r1 dlE)) : Cl k 37 [vR 241] (shL L shC) (dOf r1 dlC) R :=
  Cl_le hk (Cl_succ (by decide +kernel) ((ev_ok _ _ _ _ _ _ _ _ _ _ _ evM rfl).2 L r1 R h))
theorem slA {L : Nat} : slS (shL L shA) = slS shA + L := shL_slS rfl
theorem slB {L : Nat} : slS (shL L shB) = slS shB + L := shL_slS rfl
theorem slC {L : Nat} : slS (shL L shC) = slS shC + L := shL_slS rfl
theorem slE {L : Nat} : slS (shL L shE) = slS shE + L := shL_slS rfl
theorem law_start {k L : Nat} {xs : Nat → Int32} {R : RT} (hk : 14 ≤ k) (h : Go k 212 R 18 [vR 1, vR 10, vR 241, vI 0] [] (shL L shE) (dOf (xI xs) dlE)) : Go k 212 R 0 [vR 1, vU, vU, vU] [] (sh0 L) (dS xs) := by
  rw [s_Law_law_0, s_Law_law_3, s_Law_law_4, show (sh0 L).length = 10 from rfl, ← shA_L, dS_dl0, ← dlA_d]
  refine ⟨by decide, cl_D hk ⟨⟨by rw [shL_length, shL_length]; decide +kernel, ?_⟩, ?_⟩⟩
  · rw [slA, slB]
    have : slS shB = slS shA + 15001 := by decide +kernel
    omega
  rw [s_Law_law_7, s_Law_law_8, s_Law_law_11, s_Law_law_12, shB_n, ← shC_L, ← dlC_d]
  refine ⟨by decide, cl_M (by omega) ⟨⟨by rw [shL_length, shL_length]; decide +kernel, ?_⟩, ?_⟩⟩
  · rw [slC, slE]
    have : slS shE = slS shC + 6513 := by decide +kernel
    omega
  rw [s_Law_law_15, s_Law_law_16, s_Law_law_17]
  exact h
