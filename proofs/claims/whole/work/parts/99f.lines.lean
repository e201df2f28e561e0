/-! lines (expanded by gen18.py) -/
abbrev lnC (e : Dat) (a b c m : Int) : Prop := (((0 ≤ a ∧ a < e 241 1) ∧ 0 ≤ b ∧ b < e 241 1) ∧ ¬ a = b ∧ (0 ≤ c ∧ c ≤ 99) ∧ 0 ≤ m ∧ m ≤ 1) ∧ e 241 3 < 20
def lnE (e : Dat) (a b c m : Int) : Dat := if lnC e a b c m then ups (ups (ups (ups (ups e 244 (e 241 3).toNat a) 245 (e 241 3).toNat b) 246 (e 241 3).toNat c) 247 (e 241 3).toNat m) 241 3 (e 241 3 + 1) else e
def lnX (e : Dat) (a b c m : Int) (d : Dat) : Dat := if lnC e a b c m then ups (ups (ups (ups (ups d 11 1 (e 241 3 + 1)) 13 (e 241 3).toNat a) 14 (e 241 3).toNat b) 15 (e 241 3).toNat c) 16 (e 241 3).toNat m else d
def lnM (e : Dat) (a b c m : Int) (d : Dat) : Dat := if lnC e a b c m then ups (ups (ups (ups (ups d 244 (e 241 3).toNat a) 245 (e 241 3).toNat b) 246 (e 241 3).toNat c) 247 (e 241 3).toNat m) 241 3 (e 241 3 + 1) else d
theorem ups_pt {d d2 : Dat} {a i q : Nat} {v : Int} (h : d q = d2 q) : ups d a i v q = ups d2 a i v q := by
  by_cases c : q = a
  · subst c
    rw [ups_same, ups_same, h]
  · rw [ups_ne c, ups_ne c, h]
theorem lnX_pt {e d d2 : Dat} {a b c m : Int} {q : Nat} (h : d q = d2 q) : lnX e a b c m d q = lnX e a b c m d2 q := by
  unfold lnX
  split
  · exact ups_pt (ups_pt (ups_pt (ups_pt (ups_pt h))))
  · exact h
theorem lnM_pt {e d d2 : Dat} {a b c m : Int} {q : Nat} (h : d q = d2 q) : lnM e a b c m d q = lnM e a b c m d2 q := by
  unfold lnM
  split
  · exact ups_pt (ups_pt (ups_pt (ups_pt (ups_pt h))))
  · exact h
theorem lnX_o {e d : Dat} {a b c m : Int} {q : Nat} (hq : ¬ (q = 11 ∨ (13 ≤ q ∧ q ≤ 16))) : lnX e a b c m d q = d q := by
  unfold lnX
  split
  · rw [ups_ne (by omega), ups_ne (by omega), ups_ne (by omega), ups_ne (by omega), ups_ne (by omega)]
  · rfl
theorem lnM_o {e d : Dat} {a b c m : Int} {q : Nat} (hq : ¬ (q = 241 ∨ (244 ≤ q ∧ q ≤ 247))) : lnM e a b c m d q = d q := by
  unfold lnM
  split
  · rw [ups_ne (by omega), ups_ne (by omega), ups_ne (by omega), ups_ne (by omega), ups_ne (by omega)]
  · rfl
theorem HE_ln {s : Row} {e d : Dat} {P : Row} {a b c m : Int} (h : HE s e P d) : HE s (lnE e a b c m) P (lnM e a b c m (lnX e a b c m d)) := by
  unfold lnE lnX lnM
  by_cases q : lnC e a b c m
  · rw [if_pos q, if_pos q, if_pos q]
    exact HE_line h q.1.1 q.1.2 q.2
  · rw [if_neg q, if_neg q, if_neg q]
    exact h
section
variable {L k : Nat} {s : Row} {d e : Dat} {P : Row} {R : RT}
theorem ln_D {a b c m : Int} (hf : FC d e) (hE : WE e) (h : ∀ r, (lnC e a b c m → 0 ≤ r) → (¬ lnC e a b c m → r < 0) → R (vI r) (SH L) (lnX e a b c m d)) : Cl (k + 9) 2 [vR 10, vI a, vI b, vI c, vI m] (SH L) d R := by
  have n0 := we_l hE
  refine (c2_D_line hf hE).mpr ?_
  unfold lnX at h
  by_cases q : lnC e a b c m
  · rw [if_pos q.1.1, if_pos q.1.2, if_pos q.2]
    have h := h (e 241 3) (fun _ => n0.1) (fun z => absurd q z)
    rw [if_pos q] at h
    exact h
  · rw [if_neg q] at h
    have h := fun r (hr : r < 0) => h r (fun z => absurd z q) (fun _ => hr)
    split
    · split
      · split
        · rename_i h1 h2 h3
          exact absurd ⟨⟨h1, h2⟩, h3⟩ q
        · exact h _ (by decide)
      · exact h _ (by decide)
    · exact h _ (by decide)
theorem ln_M {a b c m : Int} (hM : FM d e) (hE : WE e) (h : ∀ r, (lnC e a b c m → 0 ≤ r) → (¬ lnC e a b c m → r < 0) → R (vI r) (SH L) (lnM e a b c m d)) : Cl (k + 9) 42 [vR 241, vI a, vI b, vI c, vI m] (SH L) d R := by
  have n0 := we_l hE
  refine (c2_M_line hM hE).mpr ?_
  unfold lnM at h
  by_cases q : lnC e a b c m
  · rw [if_pos q.1.1, if_pos q.1.2, if_pos q.2]
    have h := h (e 241 3) (fun _ => n0.1) (fun z => absurd q z)
    rw [if_pos q] at h
    exact h
  · rw [if_neg q] at h
    have h := fun r (hr : r < 0) => h r (fun z => absurd z q) (fun _ => hr)
    split
    · split
      · split
        · rename_i h1 h2 h3
          exact absurd ⟨⟨h1, h2⟩, h3⟩ q
        · exact h _ (by decide)
      · exact h _ (by decide)
    · exact h _ (by decide)
end
/-! the row of lines -/
abbrev lnG {α : Type} (g : Int → Int → Int → Int → α) (X : Row) (f j : Nat) : α := g (X (f + 4 * j)) (X (f + 4 * j + 1)) (X (f + 4 * j + 2)) (X (f + 4 * j + 3))
def lsE (X : Row) (f : Nat) (e : Dat) (j : Nat) : Dat := iterN (fun q e => lnG (lnE e) X f q) j e
def lsD (X : Row) (f : Nat) (e d : Dat) (j : Nat) : Dat := iterN (fun q d => lnG (lnM (lsE X f e q)) X f q (lnG (lnX (lsE X f e q)) X f q d)) j d
def lsX (X : Row) (f : Nat) (e d : Dat) (j : Nat) : Dat := iterN (fun q d => lnG (lnX (lsE X f e q)) X f q d) j d
def lsM (X : Row) (f : Nat) (e d : Dat) (j : Nat) : Dat := iterN (fun q d => lnG (lnM (lsE X f e q)) X f q d) j d
def lsN (X : Row) (f : Nat) (e : Dat) (j : Nat) : Nat := iterN (fun q n => if lnG (lnC (lsE X f e q)) X f q then n + 1 else n) j 0
theorem lsE_s {X : Row} {f j : Nat} {e : Dat} : lsE X f e (j + 1) = lnG (lnE (lsE X f e j)) X f j := rfl
theorem lsD_s {X : Row} {f j : Nat} {e d : Dat} : lsD X f e d (j + 1) = lnG (lnM (lsE X f e j)) X f j (lnG (lnX (lsE X f e j)) X f j (lsD X f e d j)) := rfl
theorem lsX_s {X : Row} {f j : Nat} {e d : Dat} : lsX X f e d (j + 1) = lnG (lnX (lsE X f e j)) X f j (lsX X f e d j) := rfl
theorem lsM_s {X : Row} {f j : Nat} {e d : Dat} : lsM X f e d (j + 1) = lnG (lnM (lsE X f e j)) X f j (lsM X f e d j) := rfl
theorem lsN_s {X : Row} {f j : Nat} {e : Dat} : lsN X f e (j + 1) = if lnG (lnC (lsE X f e j)) X f j then lsN X f e j + 1 else lsN X f e j := rfl
theorem lsN_le {X : Row} {f : Nat} {e : Dat} : ∀ j, lsN X f e j ≤ j
  | 0 => Nat.le_refl _
  | j + 1 => by
    rw [lsN_s]
    have := lsN_le (X := X) (f := f) (e := e) j
    split <;> omega
theorem HE_ls {s : Row} {X : Row} {f : Nat} {e d : Dat} {P : Row} (h : HE s e P d) : ∀ j, HE s (lsE X f e j) P (lsD X f e d j)
  | 0 => h
  | j + 1 => by
    rw [lsE_s, lsD_s]
    exact HE_ln (HE_ls h j)
theorem lsX_o {X : Row} {f : Nat} {e d : Dat} {q : Nat} (hq : ¬ (q = 11 ∨ (13 ≤ q ∧ q ≤ 16))) : ∀ j, lsX X f e d j q = d q
  | 0 => rfl
  | j + 1 => by
    rw [lsX_s]
    exact (lnX_o hq).trans (lsX_o hq j)
theorem lsM_o {X : Row} {f : Nat} {e d : Dat} {q : Nat} (hq : ¬ (q = 241 ∨ (244 ≤ q ∧ q ≤ 247))) : ∀ j, lsM X f e d j q = d q
  | 0 => rfl
  | j + 1 => by
    rw [lsM_s]
    exact (lnM_o hq).trans (lsM_o hq j)
theorem lsD_o {X : Row} {f : Nat} {e d : Dat} {q : Nat} (hq : ¬ (q = 11 ∨ (13 ≤ q ∧ q ≤ 16))) (hq2 : ¬ (q = 241 ∨ (244 ≤ q ∧ q ≤ 247))) : ∀ j, lsD X f e d j q = d q
  | 0 => rfl
  | j + 1 => by
    rw [lsD_s]
    exact (lnM_o hq2).trans ((lnX_o hq).trans (lsD_o hq hq2 j))
theorem lsD_x {X : Row} {f : Nat} {e d : Dat} {q : Nat} (hq2 : ¬ (q = 241 ∨ (244 ≤ q ∧ q ≤ 247))) : ∀ j, lsD X f e d j q = lsX X f e d j q
  | 0 => rfl
  | j + 1 => by
    rw [lsD_s, lsX_s]
    exact (lnM_o hq2).trans (lnX_pt (lsD_x hq2 j))
theorem lsD_m {X : Row} {f : Nat} {e d d1 : Dat} {q : Nat} (hq : ¬ (q = 11 ∨ (13 ≤ q ∧ q ≤ 16))) (h : d q = d1 q) : ∀ j, lsD X f e d j q = lsM X f e d1 j q
  | 0 => h
  | j + 1 => by
    rw [lsD_s, lsM_s]
    exact lnM_pt ((lnX_o hq).trans (lsD_m hq h j))
theorem ls_all {X : Row} {f n : Nat} {e d : Dat} : lsM X f e (lsX X f e d n) n = lsD X f e d n := by
  funext q
  by_cases c : q = 241 ∨ (244 ≤ q ∧ q ≤ 247)
  · exact (lsD_m (by omega) (lsX_o (by omega) n).symm n).symm
  · rw [lsM_o c, lsD_x c]
theorem fit_ex {fits : Nat → Prop} [∀ k, Decidable (fits k)] : ∀ n, ∃ q, q ≤ n ∧ (∀ k, k < q → fits k) ∧ (q = n ∨ ¬ fits q)
  | 0 => ⟨0, Nat.le_refl _, fun k hk => absurd hk (Nat.not_lt_zero _), Or.inl rfl⟩
  | n + 1 => by
    obtain ⟨q, h1, h2, h3⟩ := fit_ex (fits := fits) n
    by_cases c : q = n ∧ fits n
    · refine ⟨n + 1, Nat.le_refl _, fun k hk => ?_, Or.inl rfl⟩
      by_cases z : k = n
      · rw [z]
        exact c.2
      · exact h2 k (by omega)
    · refine ⟨q, by omega, h2, Or.inr ?_⟩
      rcases h3 with z | z
      · rw [z]
        exact fun y => c ⟨z, y⟩
      · exact z
section
variable {L k : Nat} {s : Row} {d e : Dat} {P : Row} {R : RT}
theorem lw_4 {j : Nat} (h : j ≤ 10) : wr (wr (4 * (j : Int)) + 4) = 4 * (j : Int) + 4 := by
  rw [wr_of (x := 4 * (j : Int)) (by omega), wr_of (by omega)]
theorem lw_a {f j : Nat} (h : f + 4 * j ≤ 100) : wr ((f : Int) + wr (4 * (j : Int))) = ((f + 4 * j : Nat) : Int) := by
  rw [wr_of (x := 4 * (j : Int)) (by omega), wr_of (by omega)]
  omega
theorem lw_n {x c : Nat} (h : x ≤ 1000) (hc : c ≤ 10) : wr ((x : Int) + (c : Int)) = ((x + c : Nat) : Int) := wa_n (by omega)
theorem lw_1 {x : Nat} (h : x ≤ 1000) : wr ((x : Int) + 1) = ((x + 1 : Nat) : Int) := lw_n (c := 1) h (by omega)
theorem lw_2 {x : Nat} (h : x ≤ 1000) : wr ((x : Int) + 2) = ((x + 2 : Nat) : Int) := lw_n (c := 2) h (by omega)
theorem lw_3 {x : Nat} (h : x ≤ 1000) : wr ((x : Int) + 3) = ((x + 3 : Nat) : Int) := lw_n (c := 3) h (by omega)
set_option maxHeartbeats 400000 in
theorem c_D_lines {t n q : Nat} {b from_ : Int} {z : Int} (ht : t < 4) (hF : ∀ j, FC (lsX (d (234 + 2 * t)) from_.toNat e d j) (lsE (d (234 + 2 * t)) from_.toNat e j) ∧ WE (lsE (d (234 + 2 * t)) from_.toNat e j)) (hn : n ≤ 10) (hb : 0 ≤ b ∧ b ≤ 2) (hr : -2147483648 ≤ from_ ∧ from_ ≤ 2147483647) (g1 : d (233 + 2 * t) 0 = b) (s1 : 0 ≤ d (233 + 2 * t) 1 ∧ d (233 + 2 * t) 1 ≤ 40) (hq : q ≤ n) (hq1 : ∀ j, j < q → 0 ≤ from_ ∧ from_ + 4 * (j : Int) + 4 ≤ d (233 + 2 * t) 1) (hq2 : (q = n ∧ z = ((lsN (d (234 + 2 * t)) from_.toNat e n : Nat) : Int)) ∨ (q < n ∧ ¬ (0 ≤ from_ ∧ from_ + 4 * (q : Int) + 4 ≤ d (233 + 2 * t) 1) ∧ z = -12)) (h : R (vI z) (SH L) (lsX (d (234 + 2 * t)) from_.toNat e d q)) : Cl (k + 10) 33 [vR 10, vI (t : Int), vI b, vI from_, vI (n : Int)] (SH L) d R := by
  refine Cl_succ rfl ?_
  show Go (k + 9) 33 R 0 [vR 10, vI (t : Int), vI b, vI from_, vI (n : Int), vU, vU, vU, vU] [] (SH L) d
  have key : ∀ a8, Go (k + 9) 33 R 68 [vR 10, vI (t : Int), vI b, vI from_, vI (n : Int), vR (233 + 2 * t), vI ((lsN (d (234 + 2 * t)) from_.toNat e 0 : Nat) : Int), vI ((0 : Nat) : Int), a8] [] (SH L) d := by
    refine loop_up (G := fun j (d1 : Dat) => ∀ a8, Go (k + 9) 33 R 68 [vR 10, vI (t : Int), vI b, vI from_, vI (n : Int), vR (233 + 2 * t), vI ((lsN (d (234 + 2 * t)) from_.toNat e j : Nat) : Int), vI (j : Int), a8] [] (SH L) d1) (f := fun j d1 => lnG (lnX (lsE (d (234 + 2 * t)) from_.toNat e j)) (d (234 + 2 * t)) from_.toNat j d1) (fun j d1 => d1 = lsX (d (234 + 2 * t)) from_.toNat e d j) q (fun j hj d1 hd hG a8 => ?_) rfl (fun hd a8 => ?_)
    · have hG := hG (by rw [hd, lsX_s])
      obtain ⟨f1, f2⟩ := hq1 j hj
      obtain ⟨f, rfl⟩ : ∃ t : Nat, from_ = (t : Int) := ⟨from_.toNat, by omega⟩
      rw [Int.toNat_natCast] at *
      have nl := lsN_le (X := d (234 + 2 * t)) (f := f) (e := e) j
      have e1 : d1 (233 + 2 * t) = d (233 + 2 * t) := by rw [hd]; exact lsX_o (by omega) j
      have e2 : d1 (234 + 2 * t) = d (234 + 2 * t) := by rw [hd]; exact lsX_o (by omega) j
      have g1 : d1 (233 + 2 * t) 1 = d (233 + 2 * t) 1 := by rw [e1]
      rw [lsN_s] at hG
      obtain ⟨hf, hE⟩ := hF j
      rw [← hd] at hf
      have ln := ln_D (L := L) (k := k) (d := d1) (e := lsE (d (234 + 2 * t)) f e j) (a := d (234 + 2 * t) (f + 4 * j)) (b := d (234 + 2 * t) (f + 4 * j + 1)) (c := d (234 + 2 * t) (f + 4 * j + 2)) (m := d (234 + 2 * t) (f + 4 * j + 3)) (R := fun v sh' d' => sh' = SH L ∧ Go (k + 9) 33 R 145 [vR 10, vI (t : Int), vI b, vI (f : Int), vI (n : Int), vR (233 + 2 * t), vI ((lsN (d (234 + 2 * t)) f e j : Nat) : Int), vI (j : Int), vI ((f + 4 * j : Nat) : Int)] [v] (SH L) d') hf hE (fun r r1 r2 => ⟨rfl, by
        by_cases cc : lnG (lnC (lsE (d (234 + 2 * t)) f e j)) (d (234 + 2 * t)) f j
        · rw [if_pos cc] at hG
          have r0 := r1 cc
          clear r1 r2 cc hf hE hF h hq2 hq1 e1 e2 g1
          generalize lsN (d (234 + 2 * t)) f e j = w at *
          simp (disch := omega) only [s_D_lines_0, s_D_lines_1, s_D_lines_2, s_D_lines_5, s_D_lines_8, s_D_lines_9, s_D_lines_10, s_D_lines_11, s_D_lines_14, s_D_lines_17, s_D_lines_19, s_D_lines_20, s_D_lines_22, s_D_lines_25, s_D_lines_28, s_D_lines_30, s_D_lines_31, s_D_lines_32, s_D_lines_35, s_D_lines_36, s_D_lines_37, s_D_lines_39, s_D_lines_41, s_D_lines_44, s_D_lines_47, s_D_lines_49, s_D_lines_50, s_D_lines_52, s_D_lines_55, s_D_lines_56, s_D_lines_59, s_D_lines_61, s_D_lines_62, s_D_lines_63, s_D_lines_65, s_D_lines_66, s_D_lines_70, s_D_lines_72, s_D_lines_75, s_D_lines_77, s_D_lines_78, s_D_lines_79, s_D_lines_80, s_D_lines_82, s_D_lines_83, s_D_lines_84, s_D_lines_85, s_D_lines_86, s_D_lines_89, s_D_lines_92, s_D_lines_94, s_D_lines_95, s_D_lines_96, s_D_lines_97, s_D_lines_99, s_D_lines_100, s_D_lines_101, s_D_lines_103, s_D_lines_104, s_D_lines_106, s_D_lines_109, s_D_lines_111, s_D_lines_112, s_D_lines_114, s_D_lines_117, s_D_lines_119, s_D_lines_120, s_D_lines_121, s_D_lines_122, s_D_lines_124, s_D_lines_127, s_D_lines_129, s_D_lines_130, s_D_lines_131, s_D_lines_132, s_D_lines_134, s_D_lines_137, s_D_lines_139, s_D_lines_140, s_D_lines_141, s_D_lines_142, s_D_lines_145, s_D_lines_148, s_D_lines_151, s_D_lines_154, s_D_lines_157, s_D_lines_159, wr_inc, le_T, lt_T, le_F, lt_F, Int.toNat_natCast, cat_n, cat_i, cat_r, cat_l, Nat.ble_eq, Nat.reduceAdd, Nat.reduceLeDiff, true_and, and_true, true_implies, false_implies, not_true_eq_false, not_false_eq_true, implies_true]
          grind
        · rw [if_neg cc] at hG
          have r0 := r2 cc
          clear r1 r2 cc hf hE hF h hq2 hq1 e1 e2 g1
          generalize lsN (d (234 + 2 * t)) f e j = w at *
          simp (disch := omega) only [s_D_lines_0, s_D_lines_1, s_D_lines_2, s_D_lines_5, s_D_lines_8, s_D_lines_9, s_D_lines_10, s_D_lines_11, s_D_lines_14, s_D_lines_17, s_D_lines_19, s_D_lines_20, s_D_lines_22, s_D_lines_25, s_D_lines_28, s_D_lines_30, s_D_lines_31, s_D_lines_32, s_D_lines_35, s_D_lines_36, s_D_lines_37, s_D_lines_39, s_D_lines_41, s_D_lines_44, s_D_lines_47, s_D_lines_49, s_D_lines_50, s_D_lines_52, s_D_lines_55, s_D_lines_56, s_D_lines_59, s_D_lines_61, s_D_lines_62, s_D_lines_63, s_D_lines_65, s_D_lines_66, s_D_lines_70, s_D_lines_72, s_D_lines_75, s_D_lines_77, s_D_lines_78, s_D_lines_79, s_D_lines_80, s_D_lines_82, s_D_lines_83, s_D_lines_84, s_D_lines_85, s_D_lines_86, s_D_lines_89, s_D_lines_92, s_D_lines_94, s_D_lines_95, s_D_lines_96, s_D_lines_97, s_D_lines_99, s_D_lines_100, s_D_lines_101, s_D_lines_103, s_D_lines_104, s_D_lines_106, s_D_lines_109, s_D_lines_111, s_D_lines_112, s_D_lines_114, s_D_lines_117, s_D_lines_119, s_D_lines_120, s_D_lines_121, s_D_lines_122, s_D_lines_124, s_D_lines_127, s_D_lines_129, s_D_lines_130, s_D_lines_131, s_D_lines_132, s_D_lines_134, s_D_lines_137, s_D_lines_139, s_D_lines_140, s_D_lines_141, s_D_lines_142, s_D_lines_145, s_D_lines_151, s_D_lines_154, s_D_lines_157, s_D_lines_159, wr_inc, le_T, lt_T, le_F, lt_F, Int.toNat_natCast, cat_n, cat_i, cat_r, cat_l, Nat.ble_eq, Nat.reduceAdd, Nat.reduceLeDiff, true_and, and_true, true_implies, false_implies, not_true_eq_false, not_false_eq_true, implies_true]
          grind⟩)
      have w1 : Unit → wrl ((f : Int) + (4 * (j : Int) + 4)) = (f : Int) + (4 * (j : Int) + 4) := fun _ => wl_of (by omega)
      clear hG hf hE hF h hq2 hq1 hd
      generalize lsN (d (234 + 2 * t)) f e j = w at *
      generalize d (234 + 2 * t) = X at *
      rw [s_D_lines_68]
      simp (disch := omega) only [s_D_lines_0, s_D_lines_1, s_D_lines_2, s_D_lines_5, s_D_lines_8, s_D_lines_9, s_D_lines_10, s_D_lines_11, s_D_lines_14, s_D_lines_17, s_D_lines_19, s_D_lines_20, s_D_lines_22, s_D_lines_25, s_D_lines_28, s_D_lines_30, s_D_lines_31, s_D_lines_32, s_D_lines_35, s_D_lines_36, s_D_lines_37, s_D_lines_39, s_D_lines_41, s_D_lines_44, s_D_lines_47, s_D_lines_49, s_D_lines_50, s_D_lines_52, s_D_lines_55, s_D_lines_56, s_D_lines_59, s_D_lines_61, s_D_lines_62, s_D_lines_63, s_D_lines_65, s_D_lines_66, s_D_lines_70, s_D_lines_72, s_D_lines_75, s_D_lines_77, s_D_lines_78, s_D_lines_79, s_D_lines_80, s_D_lines_82, s_D_lines_83, s_D_lines_84, s_D_lines_85, s_D_lines_86, s_D_lines_89, s_D_lines_94, s_D_lines_95, s_D_lines_96, s_D_lines_97, s_D_lines_99, s_D_lines_100, s_D_lines_101, s_D_lines_103, s_D_lines_104, s_D_lines_106, s_D_lines_109, s_D_lines_111, s_D_lines_112, s_D_lines_114, s_D_lines_117, s_D_lines_119, s_D_lines_120, s_D_lines_121, s_D_lines_122, s_D_lines_124, s_D_lines_127, s_D_lines_129, s_D_lines_130, s_D_lines_131, s_D_lines_132, s_D_lines_134, s_D_lines_137, s_D_lines_139, s_D_lines_140, s_D_lines_141, s_D_lines_142, s_D_lines_148, s_D_lines_151, s_D_lines_154, s_D_lines_159, c_S_holds ht, w1 (), g1, lw_4, lw_a, lw_1, lw_2, lw_3, k_1, n_1, k_2, n_2, k_3, n_3, k_4, n_4, k_5, n_5, k_6, n_6, k_7, n_7, k_8, n_8, k_9, n_9, k_10, r_10_0, r_10_1, r_10_2, r_10_3, r_10_4, r_10_5, k_11, r_11_5, r_11_6, r_11_7, r_11_8, r_11_9, r_11_10, r_11_11, r_11_12, r_11_13, r_11_14, r_11_15, r_11_16, k_12, n_12, k_13, n_13, k_14, n_14, k_15, n_15, k_16, n_16, k_17, n_17, k_18, n_18, k_19, n_19, k_20, n_20, k_21, n_21, k_22, n_22, k_23, n_23, k_24, r_24_3, r_24_4, r_24_5, r_24_6, r_24_7, r_24_8, r_24_9, r_24_10, r_24_11, r_24_12, r_24_13, k_25, n_25, k_26, n_26, k_27, n_27, k_28, n_28, k_29, n_29, k_30, n_30, k_31, n_31, k_32, n_32, k_33, n_33, k_34, n_34, k_35, n_35, k_36, r_36_0, r_36_3, r_36_4, r_36_5, r_36_6, r_36_7, k_37, n_37, k_38, n_38, k_39, n_39, r_39_0, r_39_1, r_39_2, r_39_3, r_39_4, r_39_5, k_40, n_40, k_41, n_41, k_42, n_42, k_43, n_43, k_44, n_44, k_45, n_45, k_46, n_46, k_47, n_47, k_48, r_48_0, r_48_1, r_48_5, k_49, n_49, k_50, n_50, k_51, n_51, k_52, r_52_0, r_52_1, r_52_2, r_52_3, r_52_4, r_52_5, r_52_6, r_52_7, r_52_8, r_52_9, r_52_10, r_52_11, r_52_12, r_52_13, k_53, r_53_0, r_53_1, r_53_2, r_53_3, r_53_4, r_53_5, r_53_6, k_54, n_54, k_55, n_55, k_56, n_56, k_57, n_57, k_58, n_58, k_59, n_59, k_60, n_60, k_61, r_61_0, r_61_1, r_61_2, r_61_3, k_62, n_62, k_63, n_63, k_64, n_64, k_65, n_65, k_66, r_66_0, r_66_1, r_66_2, r_66_3, r_66_4, r_66_5, k_67, n_67, k_68, n_68, k_69, n_69, k_70, n_70, k_71, n_71, k_72, n_72, k_73, n_73, k_74, n_74, k_75, n_75, k_76, n_76, k_77, n_77, k_78, n_78, k_79, n_79, k_80, n_80, k_81, r_81_0, r_81_1, r_81_2, r_81_3, r_81_4, r_81_9, r_81_10, k_82, n_82, r_82_0, r_82_1, r_82_2, r_82_3, k_83, n_83, k_84, n_84, k_85, n_85, k_86, n_86, k_87, r_87_0, r_87_1, r_87_2, r_87_3, r_87_4, r_87_5, r_87_6, r_87_7, r_87_8, r_87_9, r_87_10, r_87_11, r_87_12, r_87_13, k_116, r_116_0, r_116_1, r_116_2, r_116_3, r_116_4, r_116_5, r_116_6, r_116_7, r_116_8, r_116_9, r_116_10, r_116_11, r_116_12, r_116_13, k_145, r_145_0, r_145_1, r_145_2, r_145_3, r_145_4, r_145_5, r_145_6, r_145_7, r_145_8, r_145_9, r_145_10, r_145_11, r_145_12, r_145_13, k_174, r_174_0, r_174_1, r_174_2, r_174_3, r_174_4, r_174_5, r_174_6, r_174_7, r_174_8, r_174_9, r_174_10, r_174_11, r_174_12, r_174_13, k_203, r_203_0, r_203_1, r_203_2, r_203_3, r_203_4, r_203_5, r_203_6, r_203_7, r_203_8, r_203_9, r_203_10, r_203_11, r_203_12, r_203_13, k_232, n_232, r_232_0, r_232_1, r_232_2, r_232_3, k_233, r_233_2, k_234, n_234, k_235, r_235_2, k_236, n_236, k_237, r_237_2, k_238, n_238, k_239, r_239_2, k_240, n_240, k233 ht, r233 ht, k234 ht, n234 ht, ld20, e2, if10, Classical.not_not, le_T, lt_T, le_F, lt_F, Int.toNat_natCast, cat_n, cat_i, cat_r, cat_l, Nat.ble_eq, Nat.reduceAdd, Nat.reduceLeDiff, true_and, and_true, true_implies, false_implies, not_true_eq_false, not_false_eq_true, implies_true]
      clear w1 g1 e1 e2
      grind
    · rw [← hd] at h
      rcases hq2 with ⟨z1, z2⟩ | ⟨z1, z2, z3⟩
      · subst z1
        rw [z2] at h
        clear hF hd hq1
        generalize lsN (d (234 + 2 * t)) from_.toNat e q = w at *
        generalize iterN _ q d = d1 at *
        rw [s_D_lines_68]
        simp (disch := omega) only [s_D_lines_0, s_D_lines_1, s_D_lines_2, s_D_lines_5, s_D_lines_8, s_D_lines_9, s_D_lines_10, s_D_lines_11, s_D_lines_14, s_D_lines_17, s_D_lines_19, s_D_lines_20, s_D_lines_22, s_D_lines_25, s_D_lines_28, s_D_lines_30, s_D_lines_31, s_D_lines_32, s_D_lines_35, s_D_lines_36, s_D_lines_37, s_D_lines_39, s_D_lines_41, s_D_lines_44, s_D_lines_47, s_D_lines_49, s_D_lines_50, s_D_lines_52, s_D_lines_55, s_D_lines_56, s_D_lines_59, s_D_lines_61, s_D_lines_62, s_D_lines_63, s_D_lines_65, s_D_lines_66, s_D_lines_70, s_D_lines_72, s_D_lines_77, s_D_lines_78, s_D_lines_79, s_D_lines_80, s_D_lines_82, s_D_lines_83, s_D_lines_84, s_D_lines_85, s_D_lines_86, s_D_lines_89, s_D_lines_92, s_D_lines_94, s_D_lines_95, s_D_lines_96, s_D_lines_97, s_D_lines_99, s_D_lines_100, s_D_lines_101, s_D_lines_103, s_D_lines_104, s_D_lines_106, s_D_lines_109, s_D_lines_111, s_D_lines_112, s_D_lines_114, s_D_lines_117, s_D_lines_119, s_D_lines_120, s_D_lines_121, s_D_lines_122, s_D_lines_124, s_D_lines_127, s_D_lines_129, s_D_lines_130, s_D_lines_131, s_D_lines_132, s_D_lines_134, s_D_lines_137, s_D_lines_139, s_D_lines_140, s_D_lines_141, s_D_lines_142, s_D_lines_145, s_D_lines_148, s_D_lines_151, s_D_lines_154, s_D_lines_157, s_D_lines_159, le_T, lt_T, le_F, lt_F, Int.toNat_natCast, cat_n, cat_i, cat_r, cat_l, Nat.ble_eq, Nat.reduceAdd, Nat.reduceLeDiff, true_and, and_true, true_implies, false_implies, not_true_eq_false, not_false_eq_true, implies_true]
        grind
      · subst z3
        have e1 : iterN (fun j d1 => lnG (lnX (lsE (d (234 + 2 * t)) from_.toNat e j)) (d (234 + 2 * t)) from_.toNat j d1) q d (233 + 2 * t) 1 = d (233 + 2 * t) 1 := by
          rw [hd, lsX_o (by omega) q]
        have w1 : Unit → wrl (from_ + (4 * (q : Int) + 4)) = from_ + (4 * (q : Int) + 4) := fun _ => wl_of (by omega)
        have z4 : ¬ (0 ≤ from_ ∧ 0 ≤ 4 * (q : Int) + 4 ∧ from_ + (4 * (q : Int) + 4) ≤ d (233 + 2 * t) 1) := by omega
        clear hF hd hq1
        generalize lsN (d (234 + 2 * t)) from_.toNat e q = w at *
        generalize iterN _ q d = d1 at *
        rw [s_D_lines_68]
        simp (disch := omega) only [s_D_lines_0, s_D_lines_1, s_D_lines_2, s_D_lines_5, s_D_lines_8, s_D_lines_9, s_D_lines_10, s_D_lines_11, s_D_lines_14, s_D_lines_17, s_D_lines_19, s_D_lines_20, s_D_lines_22, s_D_lines_25, s_D_lines_28, s_D_lines_30, s_D_lines_31, s_D_lines_32, s_D_lines_35, s_D_lines_36, s_D_lines_37, s_D_lines_39, s_D_lines_41, s_D_lines_44, s_D_lines_47, s_D_lines_49, s_D_lines_50, s_D_lines_52, s_D_lines_55, s_D_lines_56, s_D_lines_59, s_D_lines_61, s_D_lines_62, s_D_lines_63, s_D_lines_65, s_D_lines_66, s_D_lines_70, s_D_lines_72, s_D_lines_75, s_D_lines_77, s_D_lines_78, s_D_lines_79, s_D_lines_80, s_D_lines_82, s_D_lines_83, s_D_lines_84, s_D_lines_85, s_D_lines_86, s_D_lines_89, s_D_lines_92, s_D_lines_94, s_D_lines_96, s_D_lines_97, s_D_lines_99, s_D_lines_100, s_D_lines_101, s_D_lines_103, s_D_lines_104, s_D_lines_106, s_D_lines_109, s_D_lines_111, s_D_lines_112, s_D_lines_114, s_D_lines_117, s_D_lines_119, s_D_lines_120, s_D_lines_121, s_D_lines_122, s_D_lines_124, s_D_lines_127, s_D_lines_129, s_D_lines_130, s_D_lines_131, s_D_lines_132, s_D_lines_134, s_D_lines_137, s_D_lines_139, s_D_lines_140, s_D_lines_141, s_D_lines_142, s_D_lines_145, s_D_lines_148, s_D_lines_151, s_D_lines_154, s_D_lines_159, c_S_holds ht, w1 (), e1, lw_4, k_1, n_1, k_2, n_2, k_3, n_3, k_4, n_4, k_5, n_5, k_6, n_6, k_7, n_7, k_8, n_8, k_9, n_9, k_10, r_10_0, r_10_1, r_10_2, r_10_3, r_10_4, r_10_5, k_11, r_11_5, r_11_6, r_11_7, r_11_8, r_11_9, r_11_10, r_11_11, r_11_12, r_11_13, r_11_14, r_11_15, r_11_16, k_12, n_12, k_13, n_13, k_14, n_14, k_15, n_15, k_16, n_16, k_17, n_17, k_18, n_18, k_19, n_19, k_20, n_20, k_21, n_21, k_22, n_22, k_23, n_23, k_24, r_24_3, r_24_4, r_24_5, r_24_6, r_24_7, r_24_8, r_24_9, r_24_10, r_24_11, r_24_12, r_24_13, k_25, n_25, k_26, n_26, k_27, n_27, k_28, n_28, k_29, n_29, k_30, n_30, k_31, n_31, k_32, n_32, k_33, n_33, k_34, n_34, k_35, n_35, k_36, r_36_0, r_36_3, r_36_4, r_36_5, r_36_6, r_36_7, k_37, n_37, k_38, n_38, k_39, n_39, r_39_0, r_39_1, r_39_2, r_39_3, r_39_4, r_39_5, k_40, n_40, k_41, n_41, k_42, n_42, k_43, n_43, k_44, n_44, k_45, n_45, k_46, n_46, k_47, n_47, k_48, r_48_0, r_48_1, r_48_5, k_49, n_49, k_50, n_50, k_51, n_51, k_52, r_52_0, r_52_1, r_52_2, r_52_3, r_52_4, r_52_5, r_52_6, r_52_7, r_52_8, r_52_9, r_52_10, r_52_11, r_52_12, r_52_13, k_53, r_53_0, r_53_1, r_53_2, r_53_3, r_53_4, r_53_5, r_53_6, k_54, n_54, k_55, n_55, k_56, n_56, k_57, n_57, k_58, n_58, k_59, n_59, k_60, n_60, k_61, r_61_0, r_61_1, r_61_2, r_61_3, k_62, n_62, k_63, n_63, k_64, n_64, k_65, n_65, k_66, r_66_0, r_66_1, r_66_2, r_66_3, r_66_4, r_66_5, k_67, n_67, k_68, n_68, k_69, n_69, k_70, n_70, k_71, n_71, k_72, n_72, k_73, n_73, k_74, n_74, k_75, n_75, k_76, n_76, k_77, n_77, k_78, n_78, k_79, n_79, k_80, n_80, k_81, r_81_0, r_81_1, r_81_2, r_81_3, r_81_4, r_81_9, r_81_10, k_82, n_82, r_82_0, r_82_1, r_82_2, r_82_3, k_83, n_83, k_84, n_84, k_85, n_85, k_86, n_86, k_87, r_87_0, r_87_1, r_87_2, r_87_3, r_87_4, r_87_5, r_87_6, r_87_7, r_87_8, r_87_9, r_87_10, r_87_11, r_87_12, r_87_13, k_116, r_116_0, r_116_1, r_116_2, r_116_3, r_116_4, r_116_5, r_116_6, r_116_7, r_116_8, r_116_9, r_116_10, r_116_11, r_116_12, r_116_13, k_145, r_145_0, r_145_1, r_145_2, r_145_3, r_145_4, r_145_5, r_145_6, r_145_7, r_145_8, r_145_9, r_145_10, r_145_11, r_145_12, r_145_13, k_174, r_174_0, r_174_1, r_174_2, r_174_3, r_174_4, r_174_5, r_174_6, r_174_7, r_174_8, r_174_9, r_174_10, r_174_11, r_174_12, r_174_13, k_203, r_203_0, r_203_1, r_203_2, r_203_3, r_203_4, r_203_5, r_203_6, r_203_7, r_203_8, r_203_9, r_203_10, r_203_11, r_203_12, r_203_13, k_232, n_232, r_232_0, r_232_1, r_232_2, r_232_3, k_233, r_233_2, k_234, n_234, k_235, r_235_2, k_236, n_236, k_237, r_237_2, k_238, n_238, k_239, r_239_2, k_240, n_240, k233 ht, z4, if10, Classical.not_not, le_T, lt_T, le_F, lt_F, Int.toNat_natCast, cat_n, cat_i, cat_r, cat_l, Nat.ble_eq, Nat.reduceAdd, Nat.reduceLeDiff, true_and, and_true, true_implies, false_implies, not_true_eq_false, not_false_eq_true, implies_true]
        clear w1 e1
        grind
  have key := key vU
  have key : Go (k + 9) 33 R 68 [vR 10, vI (t : Int), vI b, vI from_, vI (n : Int), vR (233 + 2 * t), vI 0, vI 0, vU] [] (SH L) d := key
  have b1 : ¬ b = -1 := by omega
  clear h hF hq1 hq2
  simp (disch := omega) only [s_D_lines_0, s_D_lines_1, s_D_lines_2, s_D_lines_5, s_D_lines_8, s_D_lines_9, s_D_lines_10, s_D_lines_11, s_D_lines_14, s_D_lines_17, s_D_lines_19, s_D_lines_20, s_D_lines_22, s_D_lines_25, s_D_lines_30, s_D_lines_31, s_D_lines_32, s_D_lines_35, s_D_lines_36, s_D_lines_37, s_D_lines_39, s_D_lines_41, s_D_lines_44, s_D_lines_49, s_D_lines_50, s_D_lines_52, s_D_lines_55, s_D_lines_56, s_D_lines_61, s_D_lines_62, s_D_lines_63, s_D_lines_65, s_D_lines_66, s_D_lines_70, s_D_lines_72, s_D_lines_75, s_D_lines_77, s_D_lines_78, s_D_lines_79, s_D_lines_80, s_D_lines_82, s_D_lines_83, s_D_lines_84, s_D_lines_85, s_D_lines_86, s_D_lines_89, s_D_lines_92, s_D_lines_94, s_D_lines_95, s_D_lines_96, s_D_lines_97, s_D_lines_99, s_D_lines_100, s_D_lines_101, s_D_lines_103, s_D_lines_104, s_D_lines_106, s_D_lines_109, s_D_lines_111, s_D_lines_112, s_D_lines_114, s_D_lines_117, s_D_lines_119, s_D_lines_120, s_D_lines_121, s_D_lines_122, s_D_lines_124, s_D_lines_127, s_D_lines_129, s_D_lines_130, s_D_lines_131, s_D_lines_132, s_D_lines_134, s_D_lines_137, s_D_lines_139, s_D_lines_140, s_D_lines_141, s_D_lines_142, s_D_lines_145, s_D_lines_148, s_D_lines_151, s_D_lines_154, s_D_lines_157, s_D_lines_159, c_D_isOf, c_D_within, c_S_isMissing ht, k_1, n_1, k_2, n_2, k_3, n_3, k_4, n_4, k_5, n_5, k_6, n_6, k_7, n_7, k_8, n_8, k_9, n_9, k_10, r_10_0, r_10_1, r_10_2, r_10_3, r_10_4, r_10_5, k_11, r_11_5, r_11_6, r_11_7, r_11_8, r_11_9, r_11_10, r_11_11, r_11_12, r_11_13, r_11_14, r_11_15, r_11_16, k_12, n_12, k_13, n_13, k_14, n_14, k_15, n_15, k_16, n_16, k_17, n_17, k_18, n_18, k_19, n_19, k_20, n_20, k_21, n_21, k_22, n_22, k_23, n_23, k_24, r_24_3, r_24_4, r_24_5, r_24_6, r_24_7, r_24_8, r_24_9, r_24_10, r_24_11, r_24_12, r_24_13, k_25, n_25, k_26, n_26, k_27, n_27, k_28, n_28, k_29, n_29, k_30, n_30, k_31, n_31, k_32, n_32, k_33, n_33, k_34, n_34, k_35, n_35, k_36, r_36_0, r_36_3, r_36_4, r_36_5, r_36_6, r_36_7, k_37, n_37, k_38, n_38, k_39, n_39, r_39_0, r_39_1, r_39_2, r_39_3, r_39_4, r_39_5, k_40, n_40, k_41, n_41, k_42, n_42, k_43, n_43, k_44, n_44, k_45, n_45, k_46, n_46, k_47, n_47, k_48, r_48_0, r_48_1, r_48_5, k_49, n_49, k_50, n_50, k_51, n_51, k_52, r_52_0, r_52_1, r_52_2, r_52_3, r_52_4, r_52_5, r_52_6, r_52_7, r_52_8, r_52_9, r_52_10, r_52_11, r_52_12, r_52_13, k_53, r_53_0, r_53_1, r_53_2, r_53_3, r_53_4, r_53_5, r_53_6, k_54, n_54, k_55, n_55, k_56, n_56, k_57, n_57, k_58, n_58, k_59, n_59, k_60, n_60, k_61, r_61_0, r_61_1, r_61_2, r_61_3, k_62, n_62, k_63, n_63, k_64, n_64, k_65, n_65, k_66, r_66_0, r_66_1, r_66_2, r_66_3, r_66_4, r_66_5, k_67, n_67, k_68, n_68, k_69, n_69, k_70, n_70, k_71, n_71, k_72, n_72, k_73, n_73, k_74, n_74, k_75, n_75, k_76, n_76, k_77, n_77, k_78, n_78, k_79, n_79, k_80, n_80, k_81, r_81_0, r_81_1, r_81_2, r_81_3, r_81_4, r_81_9, r_81_10, k_82, n_82, r_82_0, r_82_1, r_82_2, r_82_3, k_83, n_83, k_84, n_84, k_85, n_85, k_86, n_86, k_87, r_87_0, r_87_1, r_87_2, r_87_3, r_87_4, r_87_5, r_87_6, r_87_7, r_87_8, r_87_9, r_87_10, r_87_11, r_87_12, r_87_13, k_116, r_116_0, r_116_1, r_116_2, r_116_3, r_116_4, r_116_5, r_116_6, r_116_7, r_116_8, r_116_9, r_116_10, r_116_11, r_116_12, r_116_13, k_145, r_145_0, r_145_1, r_145_2, r_145_3, r_145_4, r_145_5, r_145_6, r_145_7, r_145_8, r_145_9, r_145_10, r_145_11, r_145_12, r_145_13, k_174, r_174_0, r_174_1, r_174_2, r_174_3, r_174_4, r_174_5, r_174_6, r_174_7, r_174_8, r_174_9, r_174_10, r_174_11, r_174_12, r_174_13, k_203, r_203_0, r_203_1, r_203_2, r_203_3, r_203_4, r_203_5, r_203_6, r_203_7, r_203_8, r_203_9, r_203_10, r_203_11, r_203_12, r_203_13, k_232, n_232, r_232_0, r_232_1, r_232_2, r_232_3, k_233, r_233_2, k_234, n_234, k_235, r_235_2, k_236, n_236, k_237, r_237_2, k_238, n_238, k_239, r_239_2, k_240, n_240, lq23, r232 ht, k233 ht, g1, b1, if10, Classical.not_not, le_T, lt_T, le_F, lt_F, Int.toNat_natCast, cat_n, cat_i, cat_r, cat_l, Nat.ble_eq, Nat.reduceAdd, Nat.reduceLeDiff, true_and, and_true, true_implies, false_implies, not_true_eq_false, not_false_eq_true, implies_true]
  clear g1
  grind
set_option maxHeartbeats 400000 in
theorem c_M_lines {t n q : Nat} {b from_ : Int} {z : Int} {X : Row} (ht : t < 4) (hx : ∀ i, i < 40 → d 273 (40 * t + i) = X i) (hF : ∀ j, FM (lsM X from_.toNat e d j) (lsE X from_.toNat e j) ∧ WE (lsE X from_.toNat e j)) (hn : n ≤ 10) (hb : 0 ≤ b ∧ b ≤ 2) (hr : -2147483648 ≤ from_ ∧ from_ ≤ 2147483647) (g1 : d 271 t = b) (s1 : 0 ≤ d 272 t ∧ d 272 t ≤ 40) (hq : q ≤ n) (hq1 : ∀ j, j < q → 0 ≤ from_ ∧ from_ + 4 * (j : Int) + 4 ≤ d 272 t) (hq2 : (q = n ∧ z = ((lsN X from_.toNat e n : Nat) : Int)) ∨ (q < n ∧ ¬ (0 ≤ from_ ∧ from_ + 4 * (q : Int) + 4 ≤ d 272 t) ∧ z = -12)) (h : R (vI z) (SH L) (lsM X from_.toNat e d q)) : Cl (k + 10) 121 [vR 241, vI (t : Int), vI b, vI from_, vI (n : Int)] (SH L) d R := by
  refine Cl_succ rfl ?_
  show Go (k + 9) 121 R 0 [vR 241, vI (t : Int), vI b, vI from_, vI (n : Int), vU, vU, vU, vU] [] (SH L) d
  have key : ∀ a7 a8, Go (k + 9) 121 R 64 [vR 241, vI (t : Int), vI b, vI from_, vI (n : Int), vI ((lsN X from_.toNat e 0 : Nat) : Int), vI ((0 : Nat) : Int), a7, a8] [] (SH L) d := by
    refine loop_up (G := fun j (d1 : Dat) => ∀ a7 a8, Go (k + 9) 121 R 64 [vR 241, vI (t : Int), vI b, vI from_, vI (n : Int), vI ((lsN X from_.toNat e j : Nat) : Int), vI (j : Int), a7, a8] [] (SH L) d1) (f := fun j d1 => lnG (lnM (lsE X from_.toNat e j)) X from_.toNat j d1) (fun j d1 => d1 = lsM X from_.toNat e d j) q (fun j hj d1 hd hG a7 a8 => ?_) rfl (fun hd a7 a8 => ?_)
    · have hG := hG (by rw [hd, lsM_s])
      obtain ⟨f1, f2⟩ := hq1 j hj
      obtain ⟨f, rfl⟩ : ∃ t : Nat, from_ = (t : Int) := ⟨from_.toNat, by omega⟩
      rw [Int.toNat_natCast] at *
      have nl := lsN_le (X := X) (f := f) (e := e) j
      have g2 : d1 272 t = d 272 t := by rw [hd, lsM_o (by decide) j]
      have e0 : d1 273 = d 273 := by rw [hd, lsM_o (by decide) j]
      have x0 : d1 273 (40 * t + (f + 4 * j)) = X (f + 4 * j) := by rw [e0]; exact hx _ (by omega)
      have x1 : d1 273 (40 * t + (f + 4 * j) + 1) = X (f + 4 * j + 1) := by rw [e0, Nat.add_assoc]; exact hx _ (by omega)
      have x2 : d1 273 (40 * t + (f + 4 * j) + 2) = X (f + 4 * j + 2) := by rw [e0, Nat.add_assoc]; exact hx _ (by omega)
      have x3 : d1 273 (40 * t + (f + 4 * j) + 3) = X (f + 4 * j + 3) := by rw [e0, Nat.add_assoc]; exact hx _ (by omega)
      rw [lsN_s] at hG
      obtain ⟨hf, hE⟩ := hF j
      rw [← hd] at hf
      have ln := ln_M (L := L) (k := k) (d := d1) (e := lsE X f e j) (a := X (f + 4 * j)) (b := X (f + 4 * j + 1)) (c := X (f + 4 * j + 2)) (m := X (f + 4 * j + 3)) (R := fun v sh' d' => sh' = SH L ∧ Go (k + 9) 121 R 154 [vR 241, vI (t : Int), vI b, vI (f : Int), vI (n : Int), vI ((lsN X f e j : Nat) : Int), vI (j : Int), vI ((f + 4 * j : Nat) : Int), vI ((40 * t + (f + 4 * j) : Nat) : Int)] [v, vI ((lsN X f e j : Nat) : Int)] (SH L) d') hf hE (fun r r1 r2 => ⟨rfl, by
        have w0 : wr (((lsN X f e j : Nat) : Int) + 0) = ((lsN X f e j : Nat) : Int) := by rw [wr_of (by omega)]; omega
        by_cases cc : lnG (lnC (lsE X f e j)) X f j
        · rw [if_pos cc] at hG
          have r0 := r1 cc
          clear r1 r2 cc hf hE hF h hq2 hq1 g2 x0 x1 x2 x3 e0 hx
          generalize lsN X f e j = w at *
          clear w0
          simp (disch := omega) only [s_M_lines_0, s_M_lines_1, s_M_lines_2, s_M_lines_3, s_M_lines_6, s_M_lines_9, s_M_lines_10, s_M_lines_11, s_M_lines_12, s_M_lines_15, s_M_lines_18, s_M_lines_20, s_M_lines_21, s_M_lines_23, s_M_lines_26, s_M_lines_29, s_M_lines_31, s_M_lines_32, s_M_lines_33, s_M_lines_36, s_M_lines_37, s_M_lines_38, s_M_lines_39, s_M_lines_42, s_M_lines_44, s_M_lines_45, s_M_lines_46, s_M_lines_49, s_M_lines_50, s_M_lines_51, s_M_lines_52, s_M_lines_55, s_M_lines_57, s_M_lines_58, s_M_lines_59, s_M_lines_61, s_M_lines_62, s_M_lines_66, s_M_lines_68, s_M_lines_71, s_M_lines_72, s_M_lines_73, s_M_lines_75, s_M_lines_76, s_M_lines_77, s_M_lines_79, s_M_lines_80, s_M_lines_83, s_M_lines_85, s_M_lines_86, s_M_lines_89, s_M_lines_91, s_M_lines_92, s_M_lines_95, s_M_lines_96, s_M_lines_97, s_M_lines_98, s_M_lines_99, s_M_lines_102, s_M_lines_104, s_M_lines_105, s_M_lines_107, s_M_lines_108, s_M_lines_109, s_M_lines_111, s_M_lines_112, s_M_lines_114, s_M_lines_116, s_M_lines_117, s_M_lines_118, s_M_lines_121, s_M_lines_123, s_M_lines_124, s_M_lines_125, s_M_lines_128, s_M_lines_130, s_M_lines_131, s_M_lines_132, s_M_lines_133, s_M_lines_134, s_M_lines_137, s_M_lines_139, s_M_lines_140, s_M_lines_141, s_M_lines_142, s_M_lines_143, s_M_lines_146, s_M_lines_148, s_M_lines_149, s_M_lines_150, s_M_lines_151, s_M_lines_154, s_M_lines_157, s_M_lines_158, s_M_lines_162, s_M_lines_163, s_M_lines_165, s_M_lines_168, s_M_lines_171, s_M_lines_173, wr_inc, le_T, lt_T, le_F, lt_F, Int.toNat_natCast, cat_n, cat_i, cat_r, cat_l, Nat.ble_eq, Nat.reduceAdd, Nat.reduceLeDiff, true_and, and_true, true_implies, false_implies, not_true_eq_false, not_false_eq_true, implies_true]
          grind
        · rw [if_neg cc] at hG
          have r0 := r2 cc
          clear r1 r2 cc hf hE hF h hq2 hq1 g2 x0 x1 x2 x3 e0 hx
          have w0 := fun (_ : Unit) => w0
          generalize lsN X f e j = w at *
          simp (disch := omega) only [s_M_lines_0, s_M_lines_1, s_M_lines_2, s_M_lines_3, s_M_lines_6, s_M_lines_9, s_M_lines_10, s_M_lines_11, s_M_lines_12, s_M_lines_15, s_M_lines_18, s_M_lines_20, s_M_lines_21, s_M_lines_23, s_M_lines_26, s_M_lines_29, s_M_lines_31, s_M_lines_32, s_M_lines_33, s_M_lines_36, s_M_lines_37, s_M_lines_38, s_M_lines_39, s_M_lines_42, s_M_lines_44, s_M_lines_45, s_M_lines_46, s_M_lines_49, s_M_lines_50, s_M_lines_51, s_M_lines_52, s_M_lines_55, s_M_lines_57, s_M_lines_58, s_M_lines_59, s_M_lines_61, s_M_lines_62, s_M_lines_66, s_M_lines_68, s_M_lines_71, s_M_lines_72, s_M_lines_73, s_M_lines_75, s_M_lines_76, s_M_lines_77, s_M_lines_79, s_M_lines_80, s_M_lines_83, s_M_lines_85, s_M_lines_86, s_M_lines_89, s_M_lines_91, s_M_lines_92, s_M_lines_95, s_M_lines_96, s_M_lines_97, s_M_lines_98, s_M_lines_99, s_M_lines_102, s_M_lines_104, s_M_lines_105, s_M_lines_107, s_M_lines_108, s_M_lines_109, s_M_lines_111, s_M_lines_112, s_M_lines_114, s_M_lines_116, s_M_lines_117, s_M_lines_118, s_M_lines_121, s_M_lines_123, s_M_lines_124, s_M_lines_125, s_M_lines_128, s_M_lines_130, s_M_lines_131, s_M_lines_132, s_M_lines_133, s_M_lines_134, s_M_lines_137, s_M_lines_139, s_M_lines_140, s_M_lines_141, s_M_lines_142, s_M_lines_143, s_M_lines_146, s_M_lines_148, s_M_lines_149, s_M_lines_150, s_M_lines_151, s_M_lines_154, s_M_lines_158, s_M_lines_161, s_M_lines_162, s_M_lines_163, s_M_lines_165, s_M_lines_168, s_M_lines_171, s_M_lines_173, wr_inc, w0 (), le_T, lt_T, le_F, lt_F, Int.toNat_natCast, cat_n, cat_i, cat_r, cat_l, Nat.ble_eq, Nat.reduceAdd, Nat.reduceLeDiff, true_and, and_true, true_implies, false_implies, not_true_eq_false, not_false_eq_true, implies_true]
          clear w0
          grind⟩)
      have w1 : Unit → wr (d 272 t - 4) = d 272 t - 4 := fun _ => wr_of (by omega)
      have w2 : Unit → wr (wr (40 * (t : Int)) + ((f + 4 * j : Nat) : Int)) = ((40 * t + (f + 4 * j) : Nat) : Int) := fun _ => wx_40 ht (by omega)
      clear hG hf hE hF h hq2 hq1 hd e0 hx
      generalize lsN X f e j = w at *
      rw [s_M_lines_64]
      simp (disch := omega) only [s_M_lines_0, s_M_lines_1, s_M_lines_2, s_M_lines_3, s_M_lines_6, s_M_lines_9, s_M_lines_10, s_M_lines_11, s_M_lines_12, s_M_lines_15, s_M_lines_18, s_M_lines_20, s_M_lines_21, s_M_lines_23, s_M_lines_26, s_M_lines_29, s_M_lines_31, s_M_lines_32, s_M_lines_33, s_M_lines_36, s_M_lines_37, s_M_lines_38, s_M_lines_39, s_M_lines_42, s_M_lines_44, s_M_lines_45, s_M_lines_46, s_M_lines_49, s_M_lines_50, s_M_lines_51, s_M_lines_52, s_M_lines_55, s_M_lines_57, s_M_lines_58, s_M_lines_59, s_M_lines_61, s_M_lines_62, s_M_lines_66, s_M_lines_68, s_M_lines_71, s_M_lines_72, s_M_lines_73, s_M_lines_75, s_M_lines_76, s_M_lines_77, s_M_lines_79, s_M_lines_80, s_M_lines_83, s_M_lines_85, s_M_lines_86, s_M_lines_89, s_M_lines_91, s_M_lines_92, s_M_lines_95, s_M_lines_96, s_M_lines_97, s_M_lines_98, s_M_lines_99, s_M_lines_104, s_M_lines_105, s_M_lines_107, s_M_lines_108, s_M_lines_109, s_M_lines_111, s_M_lines_112, s_M_lines_114, s_M_lines_116, s_M_lines_117, s_M_lines_118, s_M_lines_121, s_M_lines_123, s_M_lines_124, s_M_lines_125, s_M_lines_128, s_M_lines_130, s_M_lines_131, s_M_lines_132, s_M_lines_133, s_M_lines_134, s_M_lines_137, s_M_lines_139, s_M_lines_140, s_M_lines_141, s_M_lines_142, s_M_lines_143, s_M_lines_146, s_M_lines_148, s_M_lines_149, s_M_lines_150, s_M_lines_151, s_M_lines_157, s_M_lines_158, s_M_lines_161, s_M_lines_162, s_M_lines_163, s_M_lines_165, s_M_lines_168, s_M_lines_173, w1 (), w2 (), g2, lw_a, lw_1, lw_2, lw_3, k_1, n_1, k_241, r_241_0, r_241_2, r_241_4, r_241_5, r_241_6, r_241_7, r_241_9, r_241_10, r_241_11, r_241_12, r_241_14, r_241_15, r_241_16, r_241_19, r_241_20, r_241_22, r_241_23, r_241_24, r_241_25, r_241_27, r_241_28, r_241_29, r_241_30, r_241_31, r_241_33, r_241_34, r_241_37, r_241_38, r_241_39, r_241_40, r_241_41, r_241_42, r_241_43, r_241_44, r_241_49, r_241_50, r_241_54, k_242, n_242, k_243, n_243, k_244, n_244, k_245, n_245, k_246, n_246, k_247, n_247, k_248, n_248, k_249, n_249, k_250, n_250, k_251, n_251, k_252, n_252, k_253, n_253, k_254, n_254, k_255, n_255, k_256, n_256, k_257, n_257, k_258, n_258, k_259, n_259, k_260, n_260, k_261, n_261, k_262, n_262, k_263, n_263, k_264, n_264, k_265, n_265, k_266, n_266, k_267, n_267, k_268, n_268, k_269, n_269, k_270, n_270, k_271, n_271, k_272, n_272, k_273, n_273, k_274, n_274, k_275, n_275, k_276, n_276, k_277, n_277, k_278, n_278, ld20, x0, x1, x2, x3, if10, Classical.not_not, le_T, lt_T, le_F, lt_F, Int.toNat_natCast, cat_n, cat_i, cat_r, cat_l, Nat.ble_eq, Nat.reduceAdd, Nat.reduceLeDiff, true_and, and_true, true_implies, false_implies, not_true_eq_false, not_false_eq_true, implies_true]
      clear w1 w2 g2 x0 x1 x2 x3
      grind
    · rw [← hd] at h
      rcases hq2 with ⟨z1, z2⟩ | ⟨z1, z2, z3⟩
      · subst z1
        rw [z2] at h
        clear hF hd hq1 hx
        generalize lsN X from_.toNat e q = w at *
        generalize iterN _ q d = d1 at *
        rw [s_M_lines_64]
        simp (disch := omega) only [s_M_lines_0, s_M_lines_1, s_M_lines_2, s_M_lines_3, s_M_lines_6, s_M_lines_9, s_M_lines_10, s_M_lines_11, s_M_lines_12, s_M_lines_15, s_M_lines_18, s_M_lines_20, s_M_lines_21, s_M_lines_23, s_M_lines_26, s_M_lines_29, s_M_lines_31, s_M_lines_32, s_M_lines_33, s_M_lines_36, s_M_lines_37, s_M_lines_38, s_M_lines_39, s_M_lines_42, s_M_lines_44, s_M_lines_45, s_M_lines_46, s_M_lines_49, s_M_lines_50, s_M_lines_51, s_M_lines_52, s_M_lines_55, s_M_lines_57, s_M_lines_58, s_M_lines_59, s_M_lines_61, s_M_lines_62, s_M_lines_66, s_M_lines_68, s_M_lines_72, s_M_lines_73, s_M_lines_75, s_M_lines_76, s_M_lines_77, s_M_lines_79, s_M_lines_80, s_M_lines_83, s_M_lines_85, s_M_lines_86, s_M_lines_89, s_M_lines_91, s_M_lines_92, s_M_lines_95, s_M_lines_96, s_M_lines_97, s_M_lines_98, s_M_lines_99, s_M_lines_102, s_M_lines_104, s_M_lines_105, s_M_lines_107, s_M_lines_108, s_M_lines_109, s_M_lines_111, s_M_lines_112, s_M_lines_114, s_M_lines_116, s_M_lines_117, s_M_lines_118, s_M_lines_121, s_M_lines_123, s_M_lines_124, s_M_lines_125, s_M_lines_128, s_M_lines_130, s_M_lines_131, s_M_lines_132, s_M_lines_133, s_M_lines_134, s_M_lines_137, s_M_lines_139, s_M_lines_140, s_M_lines_141, s_M_lines_142, s_M_lines_143, s_M_lines_146, s_M_lines_148, s_M_lines_149, s_M_lines_150, s_M_lines_151, s_M_lines_154, s_M_lines_157, s_M_lines_158, s_M_lines_161, s_M_lines_162, s_M_lines_163, s_M_lines_165, s_M_lines_168, s_M_lines_171, s_M_lines_173, le_T, lt_T, le_F, lt_F, Int.toNat_natCast, cat_n, cat_i, cat_r, cat_l, Nat.ble_eq, Nat.reduceAdd, Nat.reduceLeDiff, true_and, and_true, true_implies, false_implies, not_true_eq_false, not_false_eq_true, implies_true]
        grind
      · subst z3
        have e1 : iterN (fun j d1 => lnG (lnM (lsE X from_.toNat e j)) X from_.toNat j d1) q d 272 t = d 272 t := by
          rw [hd, lsM_o (by decide) q]
        clear hF hd hq1 hx
        generalize lsN X from_.toNat e q = w at *
        generalize iterN _ q d = d1 at *
        have w1 : Unit → wr (d 272 t - 4) = d 272 t - 4 := fun _ => wr_of (by omega)
        rw [s_M_lines_64]
        by_cases c0 : 0 ≤ from_
        · have c1 : d 272 t < from_ + 4 * (q : Int) + 4 := by omega
          by_cases c2 : from_ ≤ 1000
          · have w2 : Unit → wr (from_ + wr (4 * (q : Int))) = from_ + 4 * (q : Int) := fun _ => by
              rw [wr_of (x := 4 * (q : Int)) (by omega), wr_of (by omega)]
            simp (disch := omega) only [s_M_lines_0, s_M_lines_1, s_M_lines_2, s_M_lines_3, s_M_lines_6, s_M_lines_9, s_M_lines_10, s_M_lines_11, s_M_lines_12, s_M_lines_15, s_M_lines_18, s_M_lines_20, s_M_lines_21, s_M_lines_23, s_M_lines_26, s_M_lines_29, s_M_lines_31, s_M_lines_32, s_M_lines_33, s_M_lines_36, s_M_lines_37, s_M_lines_38, s_M_lines_39, s_M_lines_42, s_M_lines_44, s_M_lines_45, s_M_lines_46, s_M_lines_49, s_M_lines_50, s_M_lines_51, s_M_lines_52, s_M_lines_55, s_M_lines_57, s_M_lines_58, s_M_lines_59, s_M_lines_61, s_M_lines_62, s_M_lines_66, s_M_lines_68, s_M_lines_71, s_M_lines_72, s_M_lines_73, s_M_lines_75, s_M_lines_76, s_M_lines_77, s_M_lines_79, s_M_lines_80, s_M_lines_83, s_M_lines_85, s_M_lines_86, s_M_lines_89, s_M_lines_91, s_M_lines_92, s_M_lines_95, s_M_lines_96, s_M_lines_97, s_M_lines_98, s_M_lines_99, s_M_lines_102, s_M_lines_104, s_M_lines_107, s_M_lines_108, s_M_lines_109, s_M_lines_111, s_M_lines_112, s_M_lines_114, s_M_lines_116, s_M_lines_117, s_M_lines_118, s_M_lines_121, s_M_lines_123, s_M_lines_124, s_M_lines_125, s_M_lines_128, s_M_lines_130, s_M_lines_131, s_M_lines_132, s_M_lines_133, s_M_lines_134, s_M_lines_137, s_M_lines_139, s_M_lines_140, s_M_lines_141, s_M_lines_142, s_M_lines_143, s_M_lines_146, s_M_lines_148, s_M_lines_149, s_M_lines_150, s_M_lines_151, s_M_lines_154, s_M_lines_157, s_M_lines_158, s_M_lines_161, s_M_lines_162, s_M_lines_163, s_M_lines_165, s_M_lines_168, s_M_lines_173, w1 (), w2 (), e1, k_1, n_1, k_241, r_241_0, r_241_2, r_241_4, r_241_5, r_241_6, r_241_7, r_241_9, r_241_10, r_241_11, r_241_12, r_241_14, r_241_15, r_241_16, r_241_19, r_241_20, r_241_22, r_241_23, r_241_24, r_241_25, r_241_27, r_241_28, r_241_29, r_241_30, r_241_31, r_241_33, r_241_34, r_241_37, r_241_38, r_241_39, r_241_40, r_241_41, r_241_42, r_241_43, r_241_44, r_241_49, r_241_50, r_241_54, k_242, n_242, k_243, n_243, k_244, n_244, k_245, n_245, k_246, n_246, k_247, n_247, k_248, n_248, k_249, n_249, k_250, n_250, k_251, n_251, k_252, n_252, k_253, n_253, k_254, n_254, k_255, n_255, k_256, n_256, k_257, n_257, k_258, n_258, k_259, n_259, k_260, n_260, k_261, n_261, k_262, n_262, k_263, n_263, k_264, n_264, k_265, n_265, k_266, n_266, k_267, n_267, k_268, n_268, k_269, n_269, k_270, n_270, k_271, n_271, k_272, n_272, k_273, n_273, k_274, n_274, k_275, n_275, k_276, n_276, k_277, n_277, k_278, n_278, ld20, le_T, lt_T, le_F, lt_F, Int.toNat_natCast, cat_n, cat_i, cat_r, cat_l, Nat.ble_eq, Nat.reduceAdd, Nat.reduceLeDiff, true_and, and_true, true_implies, false_implies, not_true_eq_false, not_false_eq_true, implies_true]
            clear w1 w2 e1
            grind
          · have w2 : wr (from_ + wr (4 * (q : Int))) < from_ ∨ d 272 t - 4 < wr (from_ + wr (4 * (q : Int))) := by
              rw [wr_of (x := 4 * (q : Int)) (by omega)]
              by_cases c3 : from_ + 4 * (q : Int) ≤ 2147483647
              · rw [wr_of (by omega)]
                omega
              · left
                unfold wr
                omega
            have w3 := fun (_ : Unit) => w2
            clear w2
            simp (disch := omega) only [s_M_lines_0, s_M_lines_1, s_M_lines_2, s_M_lines_3, s_M_lines_6, s_M_lines_9, s_M_lines_10, s_M_lines_11, s_M_lines_12, s_M_lines_15, s_M_lines_18, s_M_lines_20, s_M_lines_21, s_M_lines_23, s_M_lines_26, s_M_lines_29, s_M_lines_31, s_M_lines_32, s_M_lines_33, s_M_lines_36, s_M_lines_37, s_M_lines_38, s_M_lines_39, s_M_lines_42, s_M_lines_44, s_M_lines_45, s_M_lines_46, s_M_lines_49, s_M_lines_50, s_M_lines_51, s_M_lines_52, s_M_lines_55, s_M_lines_57, s_M_lines_58, s_M_lines_59, s_M_lines_61, s_M_lines_62, s_M_lines_66, s_M_lines_68, s_M_lines_71, s_M_lines_72, s_M_lines_73, s_M_lines_75, s_M_lines_76, s_M_lines_77, s_M_lines_79, s_M_lines_80, s_M_lines_83, s_M_lines_85, s_M_lines_86, s_M_lines_89, s_M_lines_91, s_M_lines_92, s_M_lines_95, s_M_lines_96, s_M_lines_97, s_M_lines_98, s_M_lines_99, s_M_lines_102, s_M_lines_104, s_M_lines_107, s_M_lines_108, s_M_lines_109, s_M_lines_111, s_M_lines_112, s_M_lines_114, s_M_lines_116, s_M_lines_117, s_M_lines_118, s_M_lines_121, s_M_lines_123, s_M_lines_124, s_M_lines_125, s_M_lines_128, s_M_lines_130, s_M_lines_131, s_M_lines_132, s_M_lines_133, s_M_lines_134, s_M_lines_137, s_M_lines_139, s_M_lines_140, s_M_lines_141, s_M_lines_142, s_M_lines_143, s_M_lines_146, s_M_lines_148, s_M_lines_149, s_M_lines_150, s_M_lines_151, s_M_lines_154, s_M_lines_157, s_M_lines_158, s_M_lines_161, s_M_lines_162, s_M_lines_163, s_M_lines_165, s_M_lines_168, s_M_lines_173, w1 (), e1, k_1, n_1, k_241, r_241_0, r_241_2, r_241_4, r_241_5, r_241_6, r_241_7, r_241_9, r_241_10, r_241_11, r_241_12, r_241_14, r_241_15, r_241_16, r_241_19, r_241_20, r_241_22, r_241_23, r_241_24, r_241_25, r_241_27, r_241_28, r_241_29, r_241_30, r_241_31, r_241_33, r_241_34, r_241_37, r_241_38, r_241_39, r_241_40, r_241_41, r_241_42, r_241_43, r_241_44, r_241_49, r_241_50, r_241_54, k_242, n_242, k_243, n_243, k_244, n_244, k_245, n_245, k_246, n_246, k_247, n_247, k_248, n_248, k_249, n_249, k_250, n_250, k_251, n_251, k_252, n_252, k_253, n_253, k_254, n_254, k_255, n_255, k_256, n_256, k_257, n_257, k_258, n_258, k_259, n_259, k_260, n_260, k_261, n_261, k_262, n_262, k_263, n_263, k_264, n_264, k_265, n_265, k_266, n_266, k_267, n_267, k_268, n_268, k_269, n_269, k_270, n_270, k_271, n_271, k_272, n_272, k_273, n_273, k_274, n_274, k_275, n_275, k_276, n_276, k_277, n_277, k_278, n_278, ld20, le_T, lt_T, le_F, lt_F, Int.toNat_natCast, cat_n, cat_i, cat_r, cat_l, Nat.ble_eq, Nat.reduceAdd, Nat.reduceLeDiff, true_and, and_true, true_implies, false_implies, not_true_eq_false, not_false_eq_true, implies_true]
            have w2 := w3 ()
            clear w1 w3 e1
            grind
        · simp (disch := omega) only [s_M_lines_0, s_M_lines_1, s_M_lines_2, s_M_lines_3, s_M_lines_6, s_M_lines_9, s_M_lines_10, s_M_lines_11, s_M_lines_12, s_M_lines_15, s_M_lines_18, s_M_lines_20, s_M_lines_21, s_M_lines_23, s_M_lines_26, s_M_lines_29, s_M_lines_31, s_M_lines_32, s_M_lines_33, s_M_lines_36, s_M_lines_37, s_M_lines_38, s_M_lines_39, s_M_lines_42, s_M_lines_44, s_M_lines_45, s_M_lines_46, s_M_lines_49, s_M_lines_50, s_M_lines_51, s_M_lines_52, s_M_lines_55, s_M_lines_57, s_M_lines_58, s_M_lines_59, s_M_lines_61, s_M_lines_62, s_M_lines_66, s_M_lines_68, s_M_lines_71, s_M_lines_72, s_M_lines_73, s_M_lines_75, s_M_lines_76, s_M_lines_77, s_M_lines_79, s_M_lines_80, s_M_lines_85, s_M_lines_86, s_M_lines_89, s_M_lines_91, s_M_lines_92, s_M_lines_95, s_M_lines_96, s_M_lines_97, s_M_lines_98, s_M_lines_99, s_M_lines_102, s_M_lines_104, s_M_lines_107, s_M_lines_108, s_M_lines_109, s_M_lines_111, s_M_lines_112, s_M_lines_114, s_M_lines_116, s_M_lines_117, s_M_lines_118, s_M_lines_121, s_M_lines_123, s_M_lines_124, s_M_lines_125, s_M_lines_128, s_M_lines_130, s_M_lines_131, s_M_lines_132, s_M_lines_133, s_M_lines_134, s_M_lines_137, s_M_lines_139, s_M_lines_140, s_M_lines_141, s_M_lines_142, s_M_lines_143, s_M_lines_146, s_M_lines_148, s_M_lines_149, s_M_lines_150, s_M_lines_151, s_M_lines_154, s_M_lines_157, s_M_lines_158, s_M_lines_161, s_M_lines_162, s_M_lines_163, s_M_lines_165, s_M_lines_168, s_M_lines_173, k_1, n_1, k_241, r_241_0, r_241_2, r_241_4, r_241_5, r_241_6, r_241_7, r_241_9, r_241_10, r_241_11, r_241_12, r_241_14, r_241_15, r_241_16, r_241_19, r_241_20, r_241_22, r_241_23, r_241_24, r_241_25, r_241_27, r_241_28, r_241_29, r_241_30, r_241_31, r_241_33, r_241_34, r_241_37, r_241_38, r_241_39, r_241_40, r_241_41, r_241_42, r_241_43, r_241_44, r_241_49, r_241_50, r_241_54, k_242, n_242, k_243, n_243, k_244, n_244, k_245, n_245, k_246, n_246, k_247, n_247, k_248, n_248, k_249, n_249, k_250, n_250, k_251, n_251, k_252, n_252, k_253, n_253, k_254, n_254, k_255, n_255, k_256, n_256, k_257, n_257, k_258, n_258, k_259, n_259, k_260, n_260, k_261, n_261, k_262, n_262, k_263, n_263, k_264, n_264, k_265, n_265, k_266, n_266, k_267, n_267, k_268, n_268, k_269, n_269, k_270, n_270, k_271, n_271, k_272, n_272, k_273, n_273, k_274, n_274, k_275, n_275, k_276, n_276, k_277, n_277, k_278, n_278, le_T, lt_T, le_F, lt_F, Int.toNat_natCast, cat_n, cat_i, cat_r, cat_l, Nat.ble_eq, Nat.reduceAdd, Nat.reduceLeDiff, true_and, and_true, true_implies, false_implies, not_true_eq_false, not_false_eq_true, implies_true]
          clear w1 e1
          grind
  have key := key vU vU
  have key : Go (k + 9) 121 R 64 [vR 241, vI (t : Int), vI b, vI from_, vI (n : Int), vI 0, vI 0, vU, vU] [] (SH L) d := key
  have b1 : ¬ b = -1 := by omega
  clear h hF hq1 hq2 hx
  simp (disch := omega) only [s_M_lines_0, s_M_lines_1, s_M_lines_2, s_M_lines_3, s_M_lines_6, s_M_lines_9, s_M_lines_10, s_M_lines_11, s_M_lines_12, s_M_lines_15, s_M_lines_18, s_M_lines_20, s_M_lines_21, s_M_lines_23, s_M_lines_26, s_M_lines_31, s_M_lines_32, s_M_lines_33, s_M_lines_36, s_M_lines_37, s_M_lines_38, s_M_lines_39, s_M_lines_44, s_M_lines_45, s_M_lines_46, s_M_lines_49, s_M_lines_50, s_M_lines_51, s_M_lines_52, s_M_lines_57, s_M_lines_58, s_M_lines_59, s_M_lines_61, s_M_lines_62, s_M_lines_66, s_M_lines_68, s_M_lines_71, s_M_lines_72, s_M_lines_73, s_M_lines_75, s_M_lines_76, s_M_lines_77, s_M_lines_79, s_M_lines_80, s_M_lines_83, s_M_lines_85, s_M_lines_86, s_M_lines_89, s_M_lines_91, s_M_lines_92, s_M_lines_95, s_M_lines_96, s_M_lines_97, s_M_lines_98, s_M_lines_99, s_M_lines_102, s_M_lines_104, s_M_lines_105, s_M_lines_107, s_M_lines_108, s_M_lines_109, s_M_lines_111, s_M_lines_112, s_M_lines_114, s_M_lines_116, s_M_lines_117, s_M_lines_118, s_M_lines_121, s_M_lines_123, s_M_lines_124, s_M_lines_125, s_M_lines_128, s_M_lines_130, s_M_lines_131, s_M_lines_132, s_M_lines_133, s_M_lines_134, s_M_lines_137, s_M_lines_139, s_M_lines_140, s_M_lines_141, s_M_lines_142, s_M_lines_143, s_M_lines_146, s_M_lines_148, s_M_lines_149, s_M_lines_150, s_M_lines_151, s_M_lines_154, s_M_lines_157, s_M_lines_158, s_M_lines_161, s_M_lines_162, s_M_lines_163, s_M_lines_165, s_M_lines_168, s_M_lines_171, s_M_lines_173, c_M_within, k_1, n_1, k_241, r_241_0, r_241_2, r_241_4, r_241_5, r_241_6, r_241_7, r_241_9, r_241_10, r_241_11, r_241_12, r_241_14, r_241_15, r_241_16, r_241_19, r_241_20, r_241_22, r_241_23, r_241_24, r_241_25, r_241_27, r_241_28, r_241_29, r_241_30, r_241_31, r_241_33, r_241_34, r_241_37, r_241_38, r_241_39, r_241_40, r_241_41, r_241_42, r_241_43, r_241_44, r_241_49, r_241_50, r_241_54, k_242, n_242, k_243, n_243, k_244, n_244, k_245, n_245, k_246, n_246, k_247, n_247, k_248, n_248, k_249, n_249, k_250, n_250, k_251, n_251, k_252, n_252, k_253, n_253, k_254, n_254, k_255, n_255, k_256, n_256, k_257, n_257, k_258, n_258, k_259, n_259, k_260, n_260, k_261, n_261, k_262, n_262, k_263, n_263, k_264, n_264, k_265, n_265, k_266, n_266, k_267, n_267, k_268, n_268, k_269, n_269, k_270, n_270, k_271, n_271, k_272, n_272, k_273, n_273, k_274, n_274, k_275, n_275, k_276, n_276, k_277, n_277, k_278, n_278, ld20, g1, b1, le_T, lt_T, le_F, lt_F, Int.toNat_natCast, cat_n, cat_i, cat_r, cat_l, Nat.ble_eq, Nat.reduceAdd, Nat.reduceLeDiff, true_and, and_true, true_implies, false_implies, not_true_eq_false, not_false_eq_true, implies_true]
  clear g1
  grind
set_option maxHeartbeats 400000 in
theorem ok_lines {a b f n : Int} (h : HV s d) (rf : -2147483648 ≤ f ∧ f ≤ 2147483647) : Ok2 L (k + 10) 33 121 [vI a, vI b, vI f, vI n] s d := by
  obtain ⟨e, P, h⟩ := h
  have hX := h.2.2.2.2.2.2.2.2.2.2
  by_cases g0 : (0 ≤ a ∧ a < 4) ∧ (0 ≤ b ∧ b ≤ 2) ∧ 0 ≤ n ∧ n ≤ 10
  · obtain ⟨t, rfl⟩ : ∃ t : Nat, a = (t : Int) := ⟨a.toNat, by omega⟩
    obtain ⟨n, rfl⟩ : ∃ t : Nat, n = (t : Int) := ⟨n.toNat, by omega⟩
    have ht : t < 4 := by omega
    obtain ⟨x1, x2, x3, x4, x5, x6⟩ := hX.2.2.1 t ht
    by_cases g1 : d 271 t = -1
    · refine ok_tell (n := -11) h (fun R => ?_) (fun R => ?_)
      · refine (Cl_iff rfl).trans ?_
        show Go (k + 9) 33 R 0 [vR 10, vI (t : Int), vI b, vI f, vI (n : Int), vU, vU, vU, vU] [] (SH L) d ↔ _
        rw [g1] at x1
        clear h hX x2 x5 x6
        simp (disch := omega) only [s_D_lines_0, s_D_lines_1, s_D_lines_2, s_D_lines_5, s_D_lines_8, s_D_lines_9, s_D_lines_10, s_D_lines_11, s_D_lines_14, s_D_lines_17, s_D_lines_19, s_D_lines_20, s_D_lines_22, s_D_lines_25, s_D_lines_30, s_D_lines_31, s_D_lines_32, s_D_lines_35, s_D_lines_36, s_D_lines_37, s_D_lines_39, s_D_lines_41, s_D_lines_44, s_D_lines_47, s_D_lines_49, s_D_lines_52, s_D_lines_55, s_D_lines_56, s_D_lines_59, s_D_lines_61, s_D_lines_62, s_D_lines_63, s_D_lines_65, s_D_lines_66, s_D_lines_68, s_D_lines_70, s_D_lines_72, s_D_lines_75, s_D_lines_77, s_D_lines_78, s_D_lines_79, s_D_lines_80, s_D_lines_82, s_D_lines_83, s_D_lines_84, s_D_lines_85, s_D_lines_86, s_D_lines_89, s_D_lines_92, s_D_lines_94, s_D_lines_95, s_D_lines_96, s_D_lines_97, s_D_lines_99, s_D_lines_100, s_D_lines_101, s_D_lines_103, s_D_lines_104, s_D_lines_106, s_D_lines_109, s_D_lines_111, s_D_lines_112, s_D_lines_114, s_D_lines_117, s_D_lines_119, s_D_lines_120, s_D_lines_121, s_D_lines_122, s_D_lines_124, s_D_lines_127, s_D_lines_129, s_D_lines_130, s_D_lines_131, s_D_lines_132, s_D_lines_134, s_D_lines_137, s_D_lines_139, s_D_lines_140, s_D_lines_141, s_D_lines_142, s_D_lines_145, s_D_lines_148, s_D_lines_151, s_D_lines_154, s_D_lines_157, s_D_lines_159, c_D_isOf, c_D_within, c_S_isMissing ht, x1, k_1, n_1, k_2, n_2, k_3, n_3, k_4, n_4, k_5, n_5, k_6, n_6, k_7, n_7, k_8, n_8, k_9, n_9, k_10, r_10_0, r_10_1, r_10_2, r_10_3, r_10_4, r_10_5, k_11, r_11_5, r_11_6, r_11_7, r_11_8, r_11_9, r_11_10, r_11_11, r_11_12, r_11_13, r_11_14, r_11_15, r_11_16, k_12, n_12, k_13, n_13, k_14, n_14, k_15, n_15, k_16, n_16, k_17, n_17, k_18, n_18, k_19, n_19, k_20, n_20, k_21, n_21, k_22, n_22, k_23, n_23, k_24, r_24_3, r_24_4, r_24_5, r_24_6, r_24_7, r_24_8, r_24_9, r_24_10, r_24_11, r_24_12, r_24_13, k_25, n_25, k_26, n_26, k_27, n_27, k_28, n_28, k_29, n_29, k_30, n_30, k_31, n_31, k_32, n_32, k_33, n_33, k_34, n_34, k_35, n_35, k_36, r_36_0, r_36_3, r_36_4, r_36_5, r_36_6, r_36_7, k_37, n_37, k_38, n_38, k_39, n_39, r_39_0, r_39_1, r_39_2, r_39_3, r_39_4, r_39_5, k_40, n_40, k_41, n_41, k_42, n_42, k_43, n_43, k_44, n_44, k_45, n_45, k_46, n_46, k_47, n_47, k_48, r_48_0, r_48_1, r_48_5, k_49, n_49, k_50, n_50, k_51, n_51, k_52, r_52_0, r_52_1, r_52_2, r_52_3, r_52_4, r_52_5, r_52_6, r_52_7, r_52_8, r_52_9, r_52_10, r_52_11, r_52_12, r_52_13, k_53, r_53_0, r_53_1, r_53_2, r_53_3, r_53_4, r_53_5, r_53_6, k_54, n_54, k_55, n_55, k_56, n_56, k_57, n_57, k_58, n_58, k_59, n_59, k_60, n_60, k_61, r_61_0, r_61_1, r_61_2, r_61_3, k_62, n_62, k_63, n_63, k_64, n_64, k_65, n_65, k_66, r_66_0, r_66_1, r_66_2, r_66_3, r_66_4, r_66_5, k_67, n_67, k_68, n_68, k_69, n_69, k_70, n_70, k_71, n_71, k_72, n_72, k_73, n_73, k_74, n_74, k_75, n_75, k_76, n_76, k_77, n_77, k_78, n_78, k_79, n_79, k_80, n_80, k_81, r_81_0, r_81_1, r_81_2, r_81_3, r_81_4, r_81_9, r_81_10, k_82, n_82, r_82_0, r_82_1, r_82_2, r_82_3, k_83, n_83, k_84, n_84, k_85, n_85, k_86, n_86, k_87, r_87_0, r_87_1, r_87_2, r_87_3, r_87_4, r_87_5, r_87_6, r_87_7, r_87_8, r_87_9, r_87_10, r_87_11, r_87_12, r_87_13, k_116, r_116_0, r_116_1, r_116_2, r_116_3, r_116_4, r_116_5, r_116_6, r_116_7, r_116_8, r_116_9, r_116_10, r_116_11, r_116_12, r_116_13, k_145, r_145_0, r_145_1, r_145_2, r_145_3, r_145_4, r_145_5, r_145_6, r_145_7, r_145_8, r_145_9, r_145_10, r_145_11, r_145_12, r_145_13, k_174, r_174_0, r_174_1, r_174_2, r_174_3, r_174_4, r_174_5, r_174_6, r_174_7, r_174_8, r_174_9, r_174_10, r_174_11, r_174_12, r_174_13, k_203, r_203_0, r_203_1, r_203_2, r_203_3, r_203_4, r_203_5, r_203_6, r_203_7, r_203_8, r_203_9, r_203_10, r_203_11, r_203_12, r_203_13, k_232, n_232, r_232_0, r_232_1, r_232_2, r_232_3, k_233, r_233_2, k_234, n_234, k_235, r_235_2, k_236, n_236, k_237, r_237_2, k_238, n_238, k_239, r_239_2, k_240, n_240, lq23, r232 ht, k233 ht, if10, Classical.not_not, le_T, lt_T, le_F, lt_F, Int.toNat_natCast, cat_n, cat_i, cat_r, cat_l, Nat.ble_eq, Nat.reduceAdd, Nat.reduceLeDiff, true_and, and_true, true_implies, false_implies, not_true_eq_false, not_false_eq_true, implies_true]
      · refine (Cl_iff rfl).trans ?_
        show Go (k + 9) 121 R 0 [vR 241, vI (t : Int), vI b, vI f, vI (n : Int), vU, vU, vU, vU] [] (SH L) (rset d 242 P) ↔ _
        clear h hX x1 x2 x5 x6
        simp (disch := omega) only [s_M_lines_0, s_M_lines_1, s_M_lines_2, s_M_lines_3, s_M_lines_6, s_M_lines_9, s_M_lines_10, s_M_lines_11, s_M_lines_12, s_M_lines_15, s_M_lines_18, s_M_lines_20, s_M_lines_21, s_M_lines_23, s_M_lines_26, s_M_lines_31, s_M_lines_32, s_M_lines_33, s_M_lines_36, s_M_lines_37, s_M_lines_38, s_M_lines_39, s_M_lines_42, s_M_lines_44, s_M_lines_46, s_M_lines_49, s_M_lines_50, s_M_lines_51, s_M_lines_52, s_M_lines_55, s_M_lines_57, s_M_lines_58, s_M_lines_59, s_M_lines_61, s_M_lines_62, s_M_lines_64, s_M_lines_66, s_M_lines_68, s_M_lines_71, s_M_lines_72, s_M_lines_73, s_M_lines_75, s_M_lines_76, s_M_lines_77, s_M_lines_79, s_M_lines_80, s_M_lines_83, s_M_lines_85, s_M_lines_86, s_M_lines_89, s_M_lines_91, s_M_lines_92, s_M_lines_95, s_M_lines_96, s_M_lines_97, s_M_lines_98, s_M_lines_99, s_M_lines_102, s_M_lines_104, s_M_lines_105, s_M_lines_107, s_M_lines_108, s_M_lines_109, s_M_lines_111, s_M_lines_112, s_M_lines_114, s_M_lines_116, s_M_lines_117, s_M_lines_118, s_M_lines_121, s_M_lines_123, s_M_lines_124, s_M_lines_125, s_M_lines_128, s_M_lines_130, s_M_lines_131, s_M_lines_132, s_M_lines_133, s_M_lines_134, s_M_lines_137, s_M_lines_139, s_M_lines_140, s_M_lines_141, s_M_lines_142, s_M_lines_143, s_M_lines_146, s_M_lines_148, s_M_lines_149, s_M_lines_150, s_M_lines_151, s_M_lines_154, s_M_lines_157, s_M_lines_158, s_M_lines_161, s_M_lines_162, s_M_lines_163, s_M_lines_165, s_M_lines_168, s_M_lines_171, s_M_lines_173, c_M_within, k_1, n_1, k_241, r_241_0, r_241_2, r_241_4, r_241_5, r_241_6, r_241_7, r_241_9, r_241_10, r_241_11, r_241_12, r_241_14, r_241_15, r_241_16, r_241_19, r_241_20, r_241_22, r_241_23, r_241_24, r_241_25, r_241_27, r_241_28, r_241_29, r_241_30, r_241_31, r_241_33, r_241_34, r_241_37, r_241_38, r_241_39, r_241_40, r_241_41, r_241_42, r_241_43, r_241_44, r_241_49, r_241_50, r_241_54, k_242, n_242, k_243, n_243, k_244, n_244, k_245, n_245, k_246, n_246, k_247, n_247, k_248, n_248, k_249, n_249, k_250, n_250, k_251, n_251, k_252, n_252, k_253, n_253, k_254, n_254, k_255, n_255, k_256, n_256, k_257, n_257, k_258, n_258, k_259, n_259, k_260, n_260, k_261, n_261, k_262, n_262, k_263, n_263, k_264, n_264, k_265, n_265, k_266, n_266, k_267, n_267, k_268, n_268, k_269, n_269, k_270, n_270, k_271, n_271, k_272, n_272, k_273, n_273, k_274, n_274, k_275, n_275, k_276, n_276, k_277, n_277, k_278, n_278, rs_ne, ld20, g1, le_T, lt_T, le_F, lt_F, Int.toNat_natCast, cat_n, cat_i, cat_r, cat_l, Nat.ble_eq, Nat.reduceAdd, Nat.reduceLeDiff, true_and, and_true, true_implies, false_implies, not_true_eq_false, not_false_eq_true, implies_true]
        clear g1
        grind
    · by_cases g2 : d 271 t = b
      · obtain ⟨q, q1, q2, q3⟩ := fit_ex (fits := fun k => 0 ≤ f ∧ f + 4 * (k : Int) + 4 ≤ d 272 t) n
        have hs := fun j => HE_ls (X := d (234 + 2 * t)) (f := f.toNat) h j
        obtain ⟨z, hz⟩ : ∃ z, (q = n ∧ z = ((lsN (d (234 + 2 * t)) f.toNat e n : Nat) : Int)) ∨ (q < n ∧ ¬ (0 ≤ f ∧ f + 4 * (q : Int) + 4 ≤ d 272 t) ∧ z = -12) := by
          by_cases c : q = n
          · exact ⟨_, Or.inl ⟨c, rfl⟩⟩
          · rcases q3 with y | y
            · exact absurd y c
            · exact ⟨_, Or.inr ⟨by omega, y, rfl⟩⟩
        have hF : ∀ j, FC (lsX (d (234 + 2 * t)) f.toNat e d j) (lsE (d (234 + 2 * t)) f.toNat e j) ∧ WE (lsE (d (234 + 2 * t)) f.toNat e j) := fun j => by
          have y := hs j
          exact ⟨FC_cg y.2.2.1 (fun a ha _ _ _ => (lsD_x (by omega) j).symm), y.2.2.2.2.1⟩
        have hM : ∀ j, FM (lsM (d (234 + 2 * t)) f.toNat e (lsX (d (234 + 2 * t)) f.toNat e d q) j) (lsE (d (234 + 2 * t)) f.toNat e j) ∧ WE (lsE (d (234 + 2 * t)) f.toNat e j) := fun j => by
          have y := hs j
          exact ⟨FM_cg y.2.2.2.1 (fun a ha _ _ => (lsD_m (by omega) (lsX_o (by omega) q).symm j).symm), y.2.2.2.2.1⟩
        refine c_D_lines (q := q) (z := z) ht hF (by omega) g0.2.1 rf (by rw [x1]; exact g2) (by rw [x2]; exact x4) q1 (by rw [x2]; exact q2) (by rw [x2]; exact hz) ⟨rfl, ?_, ⟨_, rfl⟩, ?_⟩
        · rw [lsX_o (by omega) q]
          exact h.1
        have l271 : lsX (d (234 + 2 * t)) f.toNat e d q 271 = d 271 := lsX_o (by decide) q
        have l272 : lsX (d (234 + 2 * t)) f.toNat e d q 272 = d 272 := lsX_o (by decide) q
        have l273 : lsX (d (234 + 2 * t)) f.toNat e d q 273 = d 273 := lsX_o (by decide) q
        refine c_M_lines (q := q) (z := z) (X := d (234 + 2 * t)) ht (fun i hi => by rw [l273]; exact (x6 i hi).symm) hM (by omega) g0.2.1 rf (by rw [l271]; exact g2) (by rw [l272]; exact x4) q1 (by rw [l272]; exact q2) (by rw [l272]; exact hz) ⟨rfl, rfl, lsE (d (234 + 2 * t)) f.toNat e q, P, ?_⟩
        rw [ls_all]
        exact hs q
      · refine ok_tell (n := -13) h (fun R => ?_) (fun R => ?_)
        · refine (Cl_iff rfl).trans ?_
          show Go (k + 9) 33 R 0 [vR 10, vI (t : Int), vI b, vI f, vI (n : Int), vU, vU, vU, vU] [] (SH L) d ↔ _
          clear h hX x2 x5 x6
          simp (disch := omega) only [s_D_lines_0, s_D_lines_1, s_D_lines_2, s_D_lines_5, s_D_lines_8, s_D_lines_9, s_D_lines_10, s_D_lines_11, s_D_lines_14, s_D_lines_17, s_D_lines_19, s_D_lines_20, s_D_lines_22, s_D_lines_25, s_D_lines_30, s_D_lines_31, s_D_lines_32, s_D_lines_35, s_D_lines_36, s_D_lines_37, s_D_lines_39, s_D_lines_41, s_D_lines_44, s_D_lines_49, s_D_lines_50, s_D_lines_52, s_D_lines_55, s_D_lines_56, s_D_lines_59, s_D_lines_61, s_D_lines_63, s_D_lines_65, s_D_lines_66, s_D_lines_68, s_D_lines_70, s_D_lines_72, s_D_lines_75, s_D_lines_77, s_D_lines_78, s_D_lines_79, s_D_lines_80, s_D_lines_82, s_D_lines_83, s_D_lines_84, s_D_lines_85, s_D_lines_86, s_D_lines_89, s_D_lines_92, s_D_lines_94, s_D_lines_95, s_D_lines_96, s_D_lines_97, s_D_lines_99, s_D_lines_100, s_D_lines_101, s_D_lines_103, s_D_lines_104, s_D_lines_106, s_D_lines_109, s_D_lines_111, s_D_lines_112, s_D_lines_114, s_D_lines_117, s_D_lines_119, s_D_lines_120, s_D_lines_121, s_D_lines_122, s_D_lines_124, s_D_lines_127, s_D_lines_129, s_D_lines_130, s_D_lines_131, s_D_lines_132, s_D_lines_134, s_D_lines_137, s_D_lines_139, s_D_lines_140, s_D_lines_141, s_D_lines_142, s_D_lines_145, s_D_lines_148, s_D_lines_151, s_D_lines_154, s_D_lines_157, s_D_lines_159, c_D_isOf, c_D_within, c_S_isMissing ht, x1, g1, g2, k_1, n_1, k_2, n_2, k_3, n_3, k_4, n_4, k_5, n_5, k_6, n_6, k_7, n_7, k_8, n_8, k_9, n_9, k_10, r_10_0, r_10_1, r_10_2, r_10_3, r_10_4, r_10_5, k_11, r_11_5, r_11_6, r_11_7, r_11_8, r_11_9, r_11_10, r_11_11, r_11_12, r_11_13, r_11_14, r_11_15, r_11_16, k_12, n_12, k_13, n_13, k_14, n_14, k_15, n_15, k_16, n_16, k_17, n_17, k_18, n_18, k_19, n_19, k_20, n_20, k_21, n_21, k_22, n_22, k_23, n_23, k_24, r_24_3, r_24_4, r_24_5, r_24_6, r_24_7, r_24_8, r_24_9, r_24_10, r_24_11, r_24_12, r_24_13, k_25, n_25, k_26, n_26, k_27, n_27, k_28, n_28, k_29, n_29, k_30, n_30, k_31, n_31, k_32, n_32, k_33, n_33, k_34, n_34, k_35, n_35, k_36, r_36_0, r_36_3, r_36_4, r_36_5, r_36_6, r_36_7, k_37, n_37, k_38, n_38, k_39, n_39, r_39_0, r_39_1, r_39_2, r_39_3, r_39_4, r_39_5, k_40, n_40, k_41, n_41, k_42, n_42, k_43, n_43, k_44, n_44, k_45, n_45, k_46, n_46, k_47, n_47, k_48, r_48_0, r_48_1, r_48_5, k_49, n_49, k_50, n_50, k_51, n_51, k_52, r_52_0, r_52_1, r_52_2, r_52_3, r_52_4, r_52_5, r_52_6, r_52_7, r_52_8, r_52_9, r_52_10, r_52_11, r_52_12, r_52_13, k_53, r_53_0, r_53_1, r_53_2, r_53_3, r_53_4, r_53_5, r_53_6, k_54, n_54, k_55, n_55, k_56, n_56, k_57, n_57, k_58, n_58, k_59, n_59, k_60, n_60, k_61, r_61_0, r_61_1, r_61_2, r_61_3, k_62, n_62, k_63, n_63, k_64, n_64, k_65, n_65, k_66, r_66_0, r_66_1, r_66_2, r_66_3, r_66_4, r_66_5, k_67, n_67, k_68, n_68, k_69, n_69, k_70, n_70, k_71, n_71, k_72, n_72, k_73, n_73, k_74, n_74, k_75, n_75, k_76, n_76, k_77, n_77, k_78, n_78, k_79, n_79, k_80, n_80, k_81, r_81_0, r_81_1, r_81_2, r_81_3, r_81_4, r_81_9, r_81_10, k_82, n_82, r_82_0, r_82_1, r_82_2, r_82_3, k_83, n_83, k_84, n_84, k_85, n_85, k_86, n_86, k_87, r_87_0, r_87_1, r_87_2, r_87_3, r_87_4, r_87_5, r_87_6, r_87_7, r_87_8, r_87_9, r_87_10, r_87_11, r_87_12, r_87_13, k_116, r_116_0, r_116_1, r_116_2, r_116_3, r_116_4, r_116_5, r_116_6, r_116_7, r_116_8, r_116_9, r_116_10, r_116_11, r_116_12, r_116_13, k_145, r_145_0, r_145_1, r_145_2, r_145_3, r_145_4, r_145_5, r_145_6, r_145_7, r_145_8, r_145_9, r_145_10, r_145_11, r_145_12, r_145_13, k_174, r_174_0, r_174_1, r_174_2, r_174_3, r_174_4, r_174_5, r_174_6, r_174_7, r_174_8, r_174_9, r_174_10, r_174_11, r_174_12, r_174_13, k_203, r_203_0, r_203_1, r_203_2, r_203_3, r_203_4, r_203_5, r_203_6, r_203_7, r_203_8, r_203_9, r_203_10, r_203_11, r_203_12, r_203_13, k_232, n_232, r_232_0, r_232_1, r_232_2, r_232_3, k_233, r_233_2, k_234, n_234, k_235, r_235_2, k_236, n_236, k_237, r_237_2, k_238, n_238, k_239, r_239_2, k_240, n_240, lq23, r232 ht, k233 ht, if10, Classical.not_not, le_T, lt_T, le_F, lt_F, Int.toNat_natCast, cat_n, cat_i, cat_r, cat_l, Nat.ble_eq, Nat.reduceAdd, Nat.reduceLeDiff, true_and, and_true, true_implies, false_implies, not_true_eq_false, not_false_eq_true, implies_true]
        · refine (Cl_iff rfl).trans ?_
          show Go (k + 9) 121 R 0 [vR 241, vI (t : Int), vI b, vI f, vI (n : Int), vU, vU, vU, vU] [] (SH L) (rset d 242 P) ↔ _
          clear h hX x1 x2 x5 x6
          simp (disch := omega) only [s_M_lines_0, s_M_lines_1, s_M_lines_2, s_M_lines_3, s_M_lines_6, s_M_lines_9, s_M_lines_10, s_M_lines_11, s_M_lines_12, s_M_lines_15, s_M_lines_18, s_M_lines_20, s_M_lines_21, s_M_lines_23, s_M_lines_26, s_M_lines_31, s_M_lines_32, s_M_lines_33, s_M_lines_36, s_M_lines_37, s_M_lines_38, s_M_lines_39, s_M_lines_44, s_M_lines_45, s_M_lines_46, s_M_lines_49, s_M_lines_50, s_M_lines_51, s_M_lines_52, s_M_lines_55, s_M_lines_57, s_M_lines_59, s_M_lines_61, s_M_lines_62, s_M_lines_64, s_M_lines_66, s_M_lines_68, s_M_lines_71, s_M_lines_72, s_M_lines_73, s_M_lines_75, s_M_lines_76, s_M_lines_77, s_M_lines_79, s_M_lines_80, s_M_lines_83, s_M_lines_85, s_M_lines_86, s_M_lines_89, s_M_lines_91, s_M_lines_92, s_M_lines_95, s_M_lines_96, s_M_lines_97, s_M_lines_98, s_M_lines_99, s_M_lines_102, s_M_lines_104, s_M_lines_105, s_M_lines_107, s_M_lines_108, s_M_lines_109, s_M_lines_111, s_M_lines_112, s_M_lines_114, s_M_lines_116, s_M_lines_117, s_M_lines_118, s_M_lines_121, s_M_lines_123, s_M_lines_124, s_M_lines_125, s_M_lines_128, s_M_lines_130, s_M_lines_131, s_M_lines_132, s_M_lines_133, s_M_lines_134, s_M_lines_137, s_M_lines_139, s_M_lines_140, s_M_lines_141, s_M_lines_142, s_M_lines_143, s_M_lines_146, s_M_lines_148, s_M_lines_149, s_M_lines_150, s_M_lines_151, s_M_lines_154, s_M_lines_157, s_M_lines_158, s_M_lines_161, s_M_lines_162, s_M_lines_163, s_M_lines_165, s_M_lines_168, s_M_lines_171, s_M_lines_173, c_M_within, k_1, n_1, k_241, r_241_0, r_241_2, r_241_4, r_241_5, r_241_6, r_241_7, r_241_9, r_241_10, r_241_11, r_241_12, r_241_14, r_241_15, r_241_16, r_241_19, r_241_20, r_241_22, r_241_23, r_241_24, r_241_25, r_241_27, r_241_28, r_241_29, r_241_30, r_241_31, r_241_33, r_241_34, r_241_37, r_241_38, r_241_39, r_241_40, r_241_41, r_241_42, r_241_43, r_241_44, r_241_49, r_241_50, r_241_54, k_242, n_242, k_243, n_243, k_244, n_244, k_245, n_245, k_246, n_246, k_247, n_247, k_248, n_248, k_249, n_249, k_250, n_250, k_251, n_251, k_252, n_252, k_253, n_253, k_254, n_254, k_255, n_255, k_256, n_256, k_257, n_257, k_258, n_258, k_259, n_259, k_260, n_260, k_261, n_261, k_262, n_262, k_263, n_263, k_264, n_264, k_265, n_265, k_266, n_266, k_267, n_267, k_268, n_268, k_269, n_269, k_270, n_270, k_271, n_271, k_272, n_272, k_273, n_273, k_274, n_274, k_275, n_275, k_276, n_276, k_277, n_277, k_278, n_278, rs_ne, ld20, g1, g2, le_T, lt_T, le_F, lt_F, Int.toNat_natCast, cat_n, cat_i, cat_r, cat_l, Nat.ble_eq, Nat.reduceAdd, Nat.reduceLeDiff, true_and, and_true, true_implies, false_implies, not_true_eq_false, not_false_eq_true, implies_true]
          grind
  · refine ok_tell (n := -2) h (fun R => ?_) (fun R => ?_)
    · refine (Cl_iff rfl).trans ?_
      show Go (k + 9) 33 R 0 [vR 10, vI a, vI b, vI f, vI n, vU, vU, vU, vU] [] (SH L) d ↔ _
      clear h hX
      simp only [s_D_lines_0, s_D_lines_1, s_D_lines_2, s_D_lines_5, s_D_lines_8, s_D_lines_9, s_D_lines_10, s_D_lines_11, s_D_lines_14, s_D_lines_17, s_D_lines_19, s_D_lines_20, s_D_lines_22, s_D_lines_25, s_D_lines_28, s_D_lines_30, s_D_lines_32, s_D_lines_35, s_D_lines_36, s_D_lines_37, s_D_lines_39, s_D_lines_41, s_D_lines_44, s_D_lines_47, s_D_lines_49, s_D_lines_50, s_D_lines_52, s_D_lines_55, s_D_lines_56, s_D_lines_59, s_D_lines_61, s_D_lines_62, s_D_lines_63, s_D_lines_65, s_D_lines_66, s_D_lines_68, s_D_lines_70, s_D_lines_72, s_D_lines_75, s_D_lines_77, s_D_lines_78, s_D_lines_79, s_D_lines_80, s_D_lines_82, s_D_lines_83, s_D_lines_84, s_D_lines_85, s_D_lines_86, s_D_lines_89, s_D_lines_92, s_D_lines_94, s_D_lines_95, s_D_lines_96, s_D_lines_97, s_D_lines_99, s_D_lines_100, s_D_lines_101, s_D_lines_103, s_D_lines_104, s_D_lines_106, s_D_lines_109, s_D_lines_111, s_D_lines_112, s_D_lines_114, s_D_lines_117, s_D_lines_119, s_D_lines_120, s_D_lines_121, s_D_lines_122, s_D_lines_124, s_D_lines_127, s_D_lines_129, s_D_lines_130, s_D_lines_131, s_D_lines_132, s_D_lines_134, s_D_lines_137, s_D_lines_139, s_D_lines_140, s_D_lines_141, s_D_lines_142, s_D_lines_145, s_D_lines_148, s_D_lines_151, s_D_lines_154, s_D_lines_157, s_D_lines_159, c_D_isOf, c_D_within, if10, Classical.not_not]
      grind
    · refine (Cl_iff rfl).trans ?_
      show Go (k + 9) 121 R 0 [vR 241, vI a, vI b, vI f, vI n, vU, vU, vU, vU] [] (SH L) (rset d 242 P) ↔ _
      clear h hX
      simp only [s_M_lines_0, s_M_lines_1, s_M_lines_2, s_M_lines_3, s_M_lines_6, s_M_lines_9, s_M_lines_10, s_M_lines_11, s_M_lines_12, s_M_lines_15, s_M_lines_18, s_M_lines_20, s_M_lines_21, s_M_lines_23, s_M_lines_26, s_M_lines_29, s_M_lines_31, s_M_lines_33, s_M_lines_36, s_M_lines_37, s_M_lines_38, s_M_lines_39, s_M_lines_42, s_M_lines_44, s_M_lines_45, s_M_lines_46, s_M_lines_49, s_M_lines_50, s_M_lines_51, s_M_lines_52, s_M_lines_55, s_M_lines_57, s_M_lines_58, s_M_lines_59, s_M_lines_61, s_M_lines_62, s_M_lines_64, s_M_lines_66, s_M_lines_68, s_M_lines_71, s_M_lines_72, s_M_lines_73, s_M_lines_75, s_M_lines_76, s_M_lines_77, s_M_lines_79, s_M_lines_80, s_M_lines_83, s_M_lines_85, s_M_lines_86, s_M_lines_89, s_M_lines_91, s_M_lines_92, s_M_lines_95, s_M_lines_96, s_M_lines_97, s_M_lines_98, s_M_lines_99, s_M_lines_102, s_M_lines_104, s_M_lines_105, s_M_lines_107, s_M_lines_108, s_M_lines_109, s_M_lines_111, s_M_lines_112, s_M_lines_114, s_M_lines_116, s_M_lines_117, s_M_lines_118, s_M_lines_121, s_M_lines_123, s_M_lines_124, s_M_lines_125, s_M_lines_128, s_M_lines_130, s_M_lines_131, s_M_lines_132, s_M_lines_133, s_M_lines_134, s_M_lines_137, s_M_lines_139, s_M_lines_140, s_M_lines_141, s_M_lines_142, s_M_lines_143, s_M_lines_146, s_M_lines_148, s_M_lines_149, s_M_lines_150, s_M_lines_151, s_M_lines_154, s_M_lines_157, s_M_lines_158, s_M_lines_161, s_M_lines_162, s_M_lines_163, s_M_lines_165, s_M_lines_168, s_M_lines_171, s_M_lines_173, c_M_within, if10, Classical.not_not]
      grind
end
