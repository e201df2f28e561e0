/-! contracts of the class's calls (expanded by gen18.py) -/
theorem Cl_iff {k y : Nat} {as : List V} {sh : Shp} {d : Dat} {R : RT} (ha : argOK (mxN y) (lgOf y) as = true) : Cl (k + 1) y as sh d R ↔ Go k y R 0 (entL (mxN y) as) [] sh d := ⟨fun h => h.2, fun h => Cl_succ ha h⟩
theorem c_D_within {k : Nat} {sh : Shp} {d : Dat} {x lo hi : Int} {R : RT} : Cl (k + 1) 35 [vI x, vI lo, vI hi] sh d R ↔ R (vI (if lo ≤ x ∧ x ≤ hi then 1 else 0)) sh d := by
  refine (Cl_iff rfl).trans ?_
  show Go k 35 R 0 [vI x, vI lo, vI hi] [] sh d ↔ _
  simp only [s_D_within_0, s_D_within_1, s_D_within_2, s_D_within_5, s_D_within_6, s_D_within_7, s_D_within_10, s_D_within_11, s_D_within_14, s_D_within_15]
  grind
theorem c_D_isOf {k : Nat} {sh : Shp} {d : Dat} {x n : Int} {R : RT} : Cl (k + 1) 36 [vI x, vI n] sh d R ↔ R (vI (if 0 ≤ x ∧ x < n then 1 else 0)) sh d := by
  refine (Cl_iff rfl).trans ?_
  show Go k 36 R 0 [vI x, vI n] [] sh d ↔ _
  simp only [s_D_isOf_0, s_D_isOf_1, s_D_isOf_2, s_D_isOf_5, s_D_isOf_6, s_D_isOf_7, s_D_isOf_10, s_D_isOf_11, s_D_isOf_14, s_D_isOf_15]
  grind
