/-! the class's reading of tokens (expanded by gen18.py; tables printed by python) -/
def blk (c : Int) : Bool := decide (c = 32 ∨ c = 10)
def ltr (c : Int) : Bool := decide (97 ≤ c ∧ c ≤ 122)
def dgt (c : Int) : Bool := decide (48 ≤ c ∧ c ≤ 57)
def pw (a c : Int) : Bool := (ltr a && ltr c) || (dgt a && dgt c)
def runE (p : Int → Bool) (T : Row) (n : Nat) : Nat → Nat → Nat
  | 0, j => j
  | f + 1, j => if j < n ∧ p (T j) = true then runE p T n f (j + 1) else j
def rn (p : Int → Bool) (T : Row) (n j : Nat) : Nat := runE p T n (n - j) j
theorem rn_t {p : Int → Bool} {T : Row} {n j : Nat} (h : j < n) (hp : p (T j) = true) : rn p T n j = rn p T n (j + 1) := by
  unfold rn
  rw [show n - j = (n - (j + 1)) + 1 by omega]
  exact if_pos ⟨h, hp⟩
theorem rn_f {p : Int → Bool} {T : Row} {n j : Nat} (h : ¬ (j < n ∧ p (T j) = true)) : rn p T n j = j := by
  unfold rn
  cases hz : n - j with
  | zero => rfl
  | succ m => exact if_neg h
/-- a loop that goes on while p holds -/
theorem rn_loop {p : Int → Bool} {T : Row} {n : Nat} {G : Nat → Prop} {e : Nat} (hs : ∀ j, j < n → p (T j) = true → (j < e) → G (j + 1) → G j) (he : (e < n → ¬ p (T e) = true) → G e) : ∀ m j, n - j = m → j ≤ n → rn p T n j = e → G j := by
  intro m
  induction m with
  | zero =>
    intro j hj hn hr
    have : ¬ (j < n ∧ p (T j) = true) := fun z => by omega
    rw [rn_f this] at hr
    subst hr
    exact he (fun z => by omega)
  | succ m ih =>
    intro j hj hn hr
    by_cases c : j < n ∧ p (T j) = true
    · have h1 : rn p T n (j + 1) = e := by rw [← rn_t c.1 c.2]; exact hr
      have h2 : j + 1 ≤ rn p T n (j + 1) := by
        have key : ∀ m j, n - j = m → j ≤ rn p T n j := by
          intro m
          induction m with
          | zero =>
            intro j hj
            rw [rn_f (fun z => by omega)]
            exact Nat.le_refl _
          | succ m ih =>
            intro j hj
            by_cases c : j < n ∧ p (T j) = true
            · rw [rn_t c.1 c.2]
              have := ih (j + 1) (by omega)
              omega
            · rw [rn_f c]
              exact Nat.le_refl _
        exact key _ _ rfl
      exact hs j c.1 c.2 (by omega) (ih (j + 1) (by omega) (by omega) h1)
    · rw [rn_f c] at hr
      subst hr
      exact he (fun z y => c ⟨z, y⟩)
theorem rn_b {p : Int → Bool} {T : Row} {n : Nat} : ∀ m j, n - j = m → j ≤ rn p T n j ∧ (j ≤ n → rn p T n j ≤ n) ∧ (rn p T n j < n → ¬ p (T (rn p T n j)) = true) ∧ ∀ i, j ≤ i → i < rn p T n j → p (T i) = true := by
  intro m
  induction m with
  | zero =>
    intro j hj
    rw [rn_f (fun z => by omega)]
    exact ⟨Nat.le_refl _, fun h => h, fun z => by omega, fun i h1 h2 => by omega⟩
  | succ m ih =>
    intro j hj
    by_cases c : j < n ∧ p (T j) = true
    · rw [rn_t c.1 c.2]
      obtain ⟨a1, a2, a3, a4⟩ := ih (j + 1) (by omega)
      refine ⟨by omega, fun h => a2 (by omega), a3, fun i h1 h2 => ?_⟩
      by_cases q : i = j
      · rw [q]
        exact c.2
      · exact a4 i (by omega) h2
    · rw [rn_f c]
      exact ⟨Nat.le_refl _, fun h => h, fun z y => c ⟨z, y⟩, fun i h1 h2 => by omega⟩
theorem rn_ge {p : Int → Bool} {T : Row} {n j : Nat} : j ≤ rn p T n j := (rn_b _ j rfl).1
theorem rn_le {p : Int → Bool} {T : Row} {n j : Nat} (h : j ≤ n) : rn p T n j ≤ n := (rn_b _ j rfl).2.1 h
theorem rn_out {p : Int → Bool} {T : Row} {n j : Nat} (h : rn p T n j < n) : ¬ p (T (rn p T n j)) = true := (rn_b _ j rfl).2.2.1 h
theorem rn_in {p : Int → Bool} {T : Row} {n j i : Nat} (h1 : j ≤ i) (h2 : i < rn p T n j) : p (T i) = true := (rn_b _ j rfl).2.2.2 i h1 h2
def sl (T : Row) (i n : Nat) : List Int := (List.range n).map (fun r => T (i + r))
def wsL : List Int := [109, 105, 110, 117, 116, 101, 32, 108, 105, 116, 32, 115, 119, 105, 110, 103, 32, 118, 111, 108, 116, 115, 32, 104, 101, 108, 100, 32, 102, 97, 108, 108, 115, 32, 119, 104, 101, 110, 32, 111, 114, 32, 97, 110, 100, 32, 110, 111, 116, 32]
def wsR : Row := fun q => wsL.getD q 0
def sgL : List Int := [40, 41, 59, 43, 45, 42, 60, 61]
def sgR : Row := fun q => sgL.getD q 0
def WL : List (List Int) := [[109, 105, 110, 117, 116, 101], [108, 105, 116], [115, 119, 105, 110, 103], [118, 111, 108, 116, 115], [104, 101, 108, 100], [102, 97, 108, 108, 115], [119, 104, 101, 110], [111, 114], [97, 110, 100], [110, 111, 116]]
def WtL : List Nat := [0, 0, 0, 0, 0, 0, 0, 1, 1, 1, 1, 2, 2, 2, 2, 2, 2, 3, 3, 3, 3, 3, 3, 4, 4, 4, 4, 4, 5, 5, 5, 5, 5, 5, 6, 6, 6, 6, 6, 7, 7, 7, 8, 8, 8, 8, 9, 9, 9, 9, 10]
def StL : List Nat := [0, 0, 0, 0, 0, 0, 0, 7, 7, 7, 7, 11, 11, 11, 11, 11, 11, 17, 17, 17, 17, 17, 17, 23, 23, 23, 23, 23, 28, 28, 28, 28, 28, 28, 34, 34, 34, 34, 34, 39, 39, 39, 42, 42, 42, 42, 46, 46, 46, 46, 50]
def Wt (q : Nat) : Nat := WtL.getD q 0
def St (q : Nat) : Nat := StL.getD q 0
theorem E8 : E0 8 = wsR := by
  have : dlE.getD 8 [] = wsL := by decide +kernel
  show (fun i => (dlE.getD 8 []).getD i 0) = _
  rw [this]
  rfl
theorem E9 : E0 9 = sgR := by
  have : dlE.getD 9 [] = sgL := by decide +kernel
  show (fun i => (dlE.getD 9 []).getD i 0) = _
  rw [this]
  rfl
theorem Ws : ∀ q, q < 50 → (wsL.getD q 0 = 32 → Wt (q + 1) = Wt q + 1 ∧ St (q + 1) = q + 1 ∧ Wt q < 10 ∧ (List.range (q - St q)).map (fun r => wsL.getD (St q + r) 0) = WL.getD (Wt q) []) ∧ (¬ wsL.getD q 0 = 32 → Wt (q + 1) = Wt q ∧ St (q + 1) = St q) ∧ St q ≤ q := by decide +kernel
def tokK (l : List Int) : Nat → Nat → Int
  | 0, _ => -20
  | f + 1, k => if WL.getD k [] = l then -1 - (k : Int) else tokK l f (k + 1)
def tokL (l : List Int) : Int := tokK l 10 0
def nv (T : Row) (i : Nat) : Nat → Int
  | 0 => 0
  | r + 1 => 10 * nv T i r + T (i + r) - 48
def sgC (c : Int) : Int := if c = 40 then -11 else if c = 41 then -12 else if c = 59 then -13 else if c = 43 then -14 else if c = 45 then -15 else if c = 42 then -16 else if c = 60 then -17 else if c = 61 then -18 else -20
def tokC (T : Row) (i e : Nat) : Int := if ltr (T i) = true then tokL (sl T i (e - i)) else if dgt (T i) = true then (if 4 < e - i then -20 else nv T i (e - i)) else sgC (T i)
def enT (T : Row) (n i : Nat) : Nat := rn (pw (T i)) T n (i + 1)
def ps (T : Row) (n : Nat) : Nat → Nat
  | 0 => 0
  | k + 1 => if rn blk T n (ps T n k) < n then enT T n (rn blk T n (ps T n k)) else n
def bg (T : Row) (n k : Nat) : Nat := rn blk T n (ps T n k)
def tk (T : Row) (n k : Nat) : Int := if bg T n k < n then tokC T (bg T n k) (enT T n (bg T n k)) else -19
def stB (T : Row) (i s e : Nat) : Bool := (List.range (e - s)).all (fun r => decide (T (i + r) = wsL.getD (s + r) 0))
theorem stB_iff {T : Row} {i s e : Nat} : stB T i s e = true ↔ ∀ r, r < e - s → T (i + r) = wsL.getD (s + r) 0 := by
  unfold stB
  rw [List.all_eq_true]
  constructor
  · intro h r hr
    exact of_decide_eq_true (h r (List.mem_range.mpr hr))
  · intro h r hr
    exact decide_eq_true (h r (List.mem_range.mp hr))
theorem sl_eq {T : Row} {i n m : Nat} {f : Nat → Int} : (List.range m).map f = sl T i n ↔ m = n ∧ ∀ r, r < m → f r = T (i + r) := by
  unfold sl
  constructor
  · intro h
    have h1 : m = n := by
      have := congrArg List.length h
      simpa using this
    subst h1
    refine ⟨rfl, fun r hr => ?_⟩
    have h2 := congrArg (fun l => l[r]?) h
    simpa [hr] using h2
  · rintro ⟨h1, h2⟩
    subst h1
    exact List.map_congr_left (fun r hr => h2 r (List.mem_range.mp hr))
theorem idx9 {c : Int} : idxO sgR 8 c = if c = 40 then 0 else if c = 41 then 1 else if c = 59 then 2 else if c = 43 then 3 else if c = 45 then 4 else if c = 42 then 5 else if c = 60 then 6 else if c = 61 then 7 else -1 := by
  have h8 : List.range 8 = [0, 1, 2, 3, 4, 5, 6, 7] := by decide
  unfold idxO
  rw [h8]
  by_cases c0 : c = 40
  · subst c0
    rfl
  by_cases c1 : c = 41
  · subst c1
    rfl
  by_cases c2 : c = 59
  · subst c2
    rfl
  by_cases c3 : c = 43
  · subst c3
    rfl
  by_cases c4 : c = 45
  · subst c4
    rfl
  by_cases c5 : c = 42
  · subst c5
    rfl
  by_cases c6 : c = 60
  · subst c6
    rfl
  by_cases c7 : c = 61
  · subst c7
    rfl
  rw [if_neg c0, if_neg c1, if_neg c2, if_neg c3, if_neg c4, if_neg c5, if_neg c6, if_neg c7]
  have e : ∀ (x : Int) (i : Nat), sgR i = x → ¬ c = x → (sgR i == c) = false := fun x i h1 h2 => by
    rw [h1]
    exact beq_eq_false_iff_ne.mpr (fun z => h2 z.symm)
  simp only [List.find?, e 40 0 rfl c0, e 41 1 rfl c1, e 59 2 rfl c2, e 43 3 rfl c3, e 45 4 rfl c4, e 42 5 rfl c5, e 60 6 rfl c6, e 61 7 rfl c7]
section
variable {L k : Nat} {d : Dat} {T : Row} {R : RT}
theorem c_R_blank {sh : Shp} {c : Int} : Cl (k + 1) 184 [vI c] sh d R ↔ R (vI (if blk c = true then 1 else 0)) sh d := by
  refine (Cl_iff rfl).trans ?_
  show Go k 184 R 0 [vI c] [] sh d ↔ _
  simp only [s_Reader_isBlank_0, s_Reader_isBlank_1, s_Reader_isBlank_3, s_Reader_isBlank_6, s_Reader_isBlank_7, s_Reader_isBlank_9, s_Reader_isBlank_12, s_Reader_isBlank_13, s_Reader_isBlank_16, s_Reader_isBlank_17, blk, decide_eq_true_eq]
  grind
theorem c_R_letter {sh : Shp} {c : Int} : Cl (k + 2) 185 [vI c] sh d R ↔ R (vI (if ltr c = true then 1 else 0)) sh d := by
  refine (Cl_iff rfl).trans ?_
  show Go (k + 1) 185 R 0 [vI c] [] sh d ↔ _
  simp only [s_Reader_isLetter_0, s_Reader_isLetter_1, s_Reader_isLetter_3, s_Reader_isLetter_5, s_Reader_isLetter_8, c_D_within, ltr, decide_eq_true_eq]
  grind
theorem c_R_digit {sh : Shp} {c : Int} : Cl (k + 2) 186 [vI c] sh d R ↔ R (vI (if dgt c = true then 1 else 0)) sh d := by
  refine (Cl_iff rfl).trans ?_
  show Go (k + 1) 186 R 0 [vI c] [] sh d ↔ _
  simp only [s_Reader_isDigit_0, s_Reader_isDigit_1, s_Reader_isDigit_3, s_Reader_isDigit_5, s_Reader_isDigit_8, c_D_within, dgt, decide_eq_true_eq]
  grind
theorem ix_st {i s r : Nat} (h : i ≤ 200 ∧ s ≤ 200 ∧ r ≤ 200) : wr (wr ((i : Int) + ((s + r : Nat) : Int)) - (s : Int)) = ((i + r : Nat) : Int) := by
  rw [wr_of (x := (i : Int) + ((s + r : Nat) : Int)) (by omega), wr_of (by omega)]
  omega
theorem c_R_stands {i s e : Nat} (hT : d 37 = T) (h8 : d 8 = wsR) (hs : s ≤ e) (he : e ≤ 50) (hi : i + (e - s) ≤ 160) : Cl (k + 1) 191 [vR 37, vI (i : Int), vI (s : Int), vI (e : Int)] (SH L) d R ↔ R (vI (if stB T i s e = true then 1 else 0)) (SH L) d := by
  refine det_iff (fun R h => ?_)
  refine Cl_succ rfl ?_
  show Go k 191 R 0 [vR 37, vI (i : Int), vI (s : Int), vI (e : Int), vU] [] (SH L) d
  have key : Go k 191 R 3 [vR 37, vI (i : Int), vI (s : Int), vI (e : Int), vI ((s + 0 : Nat) : Int)] [] (SH L) d := by
    refine loop_up (G := fun r (_ : Unit) => Go k 191 R 3 [vR 37, vI (i : Int), vI (s : Int), vI (e : Int), vI ((s + r : Nat) : Int)] [] (SH L) d) (f := fun _ u => u) (s := ()) (fun r _ => ∀ q, q < r → T (i + q) = wsL.getD (s + q) 0) (e - s) (fun r hr _ hI hG => ?_) (fun q hq => by omega) (fun hI => ?_)
    · by_cases c : T (i + r) = wsL.getD (s + r) 0
      · have hG := hG (fun q hq => by
          by_cases z : q = r
          · rw [z]
            exact c
          · exact hI q (by omega))
        have w1 : wsR (s + r) = wsL.getD (s + r) 0 := rfl
        rw [← c] at w1
        clear h hI c
        rw [s_Reader_stands_3]
        simp (disch := omega) only [s_Reader_stands_0, s_Reader_stands_1, s_Reader_stands_5, s_Reader_stands_6, s_Reader_stands_9, s_Reader_stands_10, s_Reader_stands_11, s_Reader_stands_13, s_Reader_stands_14, s_Reader_stands_15, s_Reader_stands_16, s_Reader_stands_17, s_Reader_stands_19, s_Reader_stands_21, s_Reader_stands_24, s_Reader_stands_27, s_Reader_stands_28, s_Reader_stands_29, s_Reader_stands_32, s_Reader_stands_35, s_Reader_stands_36, k_8, n_8, k_37, n_37, ld20, hT, h8, w1, ix_st, wr_inc, le_T, lt_T, le_F, lt_F, Int.toNat_natCast, cat_n, cat_i, Nat.ble_eq, Nat.reduceAdd, Nat.reduceLeDiff, true_and, and_true, true_implies, false_implies, not_true_eq_false, not_false_eq_true, implies_true]
        grind
      · have hn : ¬ stB T i s e = true := fun z => c (stB_iff.mp z r hr)
        rw [if_neg hn] at h
        have w1 : wsR (s + r) = wsL.getD (s + r) 0 := rfl
        rw [← w1] at c
        clear hI hG hn w1
        rw [s_Reader_stands_3]
        simp (disch := omega) only [s_Reader_stands_0, s_Reader_stands_1, s_Reader_stands_5, s_Reader_stands_6, s_Reader_stands_9, s_Reader_stands_10, s_Reader_stands_11, s_Reader_stands_13, s_Reader_stands_14, s_Reader_stands_15, s_Reader_stands_16, s_Reader_stands_17, s_Reader_stands_19, s_Reader_stands_21, s_Reader_stands_24, s_Reader_stands_27, s_Reader_stands_28, s_Reader_stands_29, s_Reader_stands_32, s_Reader_stands_35, s_Reader_stands_36, k_8, n_8, k_37, n_37, ld20, hT, h8, c, ix_st, wr_inc, le_T, lt_T, le_F, lt_F, Int.toNat_natCast, cat_n, cat_i, Nat.ble_eq, Nat.reduceAdd, Nat.reduceLeDiff, true_and, and_true, true_implies, false_implies, not_true_eq_false, not_false_eq_true, implies_true]
        grind
    · rw [if_pos (stB_iff.mpr hI)] at h
      clear hI
      rw [s_Reader_stands_3]
      simp (disch := omega) only [s_Reader_stands_0, s_Reader_stands_1, s_Reader_stands_5, s_Reader_stands_6, s_Reader_stands_9, s_Reader_stands_10, s_Reader_stands_11, s_Reader_stands_13, s_Reader_stands_14, s_Reader_stands_15, s_Reader_stands_16, s_Reader_stands_17, s_Reader_stands_19, s_Reader_stands_21, s_Reader_stands_24, s_Reader_stands_27, s_Reader_stands_28, s_Reader_stands_29, s_Reader_stands_32, s_Reader_stands_35, s_Reader_stands_36, le_T, lt_T, le_F, lt_F, true_and, and_true, true_implies, false_implies, not_true_eq_false, not_false_eq_true, implies_true]
      grind
  rw [s_Reader_stands_0, s_Reader_stands_1]
  exact key
theorem wq_e {q s e i : Nat} (h : q - s = e - i) (hs : s ≤ q) (hi : i ≤ e) : wr ((q : Int) - (s : Int)) = wr ((e : Int) - (i : Int)) := by
  rw [show ((q : Int) - (s : Int)) = (e : Int) - (i : Int) by omega]
theorem wq_n {q s e i : Nat} (h : ¬ q - s = e - i) (hs : s ≤ q) (hi : i ≤ e) (hq : q < 50) (he : e ≤ 160) : ¬ wr ((q : Int) - (s : Int)) = wr ((e : Int) - (i : Int)) := by
  rw [wr_of (x := (q : Int) - (s : Int)) (by omega), wr_of (x := (e : Int) - (i : Int)) (by omega)]
  omega
theorem wq_b {q s e i : Nat} (h : q - s = e - i) (hi : i ≤ e) (he : e ≤ 160) : i + (q - s) ≤ 160 := by omega
theorem wq_t {w : Nat} (h : w < 10) : 10 - w = (10 - (w + 1)) + 1 := by omega
theorem wq_w {w : Nat} (h : w < 10) : wr (-1 - (w : Int) + -1) = -1 - ((w + 1 : Nat) : Int) := by
  rw [wr_of (by omega)]
  omega
theorem c_R_wordOf {i e : Nat} (hT : d 37 = T) (h8 : d 8 = wsR) (hi : i ≤ e) (he : e ≤ 160) : Cl (k + 2) 190 [vR 37, vI (i : Int), vI (e : Int)] (SH L) d R ↔ R (vI (tokL (sl T i (e - i)))) (SH L) d := by
  refine det_iff (fun R h => ?_)
  refine Cl_succ rfl ?_
  show Go (k + 1) 190 R 0 [vR 37, vI (i : Int), vI (e : Int), vU, vU, vU] [] (SH L) d
  have key : Go (k + 1) 190 R 8 [vR 37, vI (i : Int), vI (e : Int), vI (-1 - ((Wt 0 : Nat) : Int)), vI ((St 0 : Nat) : Int), vI ((0 : Nat) : Int)] [] (SH L) d := by
    refine loop_up (G := fun q (_ : Unit) => Go (k + 1) 190 R 8 [vR 37, vI (i : Int), vI (e : Int), vI (-1 - ((Wt q : Nat) : Int)), vI ((St q : Nat) : Int), vI (q : Int)] [] (SH L) d) (f := fun _ u => u) (s := ()) (fun q _ => Wt q ≤ 10 ∧ tokL (sl T i (e - i)) = tokK (sl T i (e - i)) (10 - Wt q) (Wt q)) 50 (fun q hq _ hI hG => ?_) ⟨by decide, rfl⟩ (fun hI => ?_)
    · have wz := Ws q hq
      have wq : wsR q = wsL.getD q 0 := rfl
      generalize hs : St q = s at wz hI hG ⊢
      generalize hw : Wt q = w at wz hI hG ⊢
      generalize hs2 : St (q + 1) = s2 at wz hG
      generalize hw2 : Wt (q + 1) = wt2 at wz hG
      clear hs hw hs2 hw2
      generalize hch : wsL.getD q 0 = ch at wz wq
      obtain ⟨w1, w2, w3⟩ := wz
      by_cases c : ch = 32
      · obtain ⟨a1, a2, a3, a4⟩ := w1 c
        subst a1
        subst a2
        have iff := sl_eq (T := T) (i := i) (n := e - i) (m := q - s) (f := fun r => wsL.getD (s + r) 0)
        rw [a4] at iff
        have hk : tokK (sl T i (e - i)) (10 - w) w = if WL.getD w [] = sl T i (e - i) then -1 - (w : Int) else tokK (sl T i (e - i)) (10 - (w + 1)) (w + 1) := by
          rw [wq_t a3]
          rfl
        have hI2 := hI.2
        rw [hk] at hI2
        rw [c] at wq
        have sb := fun (S : RT) (hl : q - s = e - i) => c_R_stands (k := k) (L := L) (d := d) (T := T) (R := S) (i := i) (s := s) (e := q) hT h8 w3 (Nat.le_of_lt hq) (wq_b hl hi he)
        by_cases z : WL.getD w [] = sl T i (e - i)
        · rw [if_pos z] at hI2
          rw [hI2] at h
          obtain ⟨z1, z2⟩ := iff.mp z
          have z3 : stB T i s q = true := stB_iff.mpr (fun r hr => (z2 r hr).symm)
          have sb := fun S => sb S z1
          have y1 := wq_e z1 w3 hi
          revert y1
          clear hG hI hI2 hk iff z z2 a4 w1 w2 z1 hch c
          intro y1
          rw [s_Reader_wordOf_8]
          simp (disch := omega) only [s_Reader_wordOf_0, s_Reader_wordOf_1, s_Reader_wordOf_2, s_Reader_wordOf_3, s_Reader_wordOf_5, s_Reader_wordOf_6, s_Reader_wordOf_10, s_Reader_wordOf_12, s_Reader_wordOf_15, s_Reader_wordOf_18, s_Reader_wordOf_20, s_Reader_wordOf_22, s_Reader_wordOf_25, s_Reader_wordOf_27, s_Reader_wordOf_30, s_Reader_wordOf_32, s_Reader_wordOf_34, s_Reader_wordOf_35, s_Reader_wordOf_36, s_Reader_wordOf_37, s_Reader_wordOf_38, s_Reader_wordOf_41, s_Reader_wordOf_42, s_Reader_wordOf_43, s_Reader_wordOf_45, s_Reader_wordOf_47, s_Reader_wordOf_50, s_Reader_wordOf_53, s_Reader_wordOf_54, s_Reader_wordOf_58, s_Reader_wordOf_60, s_Reader_wordOf_61, s_Reader_wordOf_62, s_Reader_wordOf_64, s_Reader_wordOf_67, s_Reader_wordOf_72, k_8, n_8, k_37, n_37, h8, wq, y1, sb, z3, le_T, lt_T, le_F, lt_F, Int.toNat_natCast, cat_n, cat_i, cat_r, cat_l, Nat.ble_eq, Nat.reduceAdd, Nat.reduceLeDiff, true_and, and_true, true_implies, false_implies, not_true_eq_false, not_false_eq_true, implies_true]
          clear sb y1
          grind
        · rw [if_neg z] at hI2
          have hG := hG ⟨Nat.succ_le_of_lt a3, hI2⟩
          have y2 := wq_w a3
          have y3 : wr ((q : Int) + 1) = ((q + 1 : Nat) : Int) := wr_inc (Nat.lt_trans hq (by decide))
          by_cases z1 : q - s = e - i
          · have sb := fun S => sb S z1
            have z3 : ¬ stB T i s q = true := fun y => z (iff.mpr ⟨z1, fun r hr => (stB_iff.mp y r hr).symm⟩)
            have y1 := wq_e z1 w3 hi
            revert y1 y2 y3
            clear h hI hI2 hk iff z a4 w1 w2 z1 hch c
            intro y1 y2 y3
            rw [s_Reader_wordOf_8]
            simp (disch := omega) only [s_Reader_wordOf_0, s_Reader_wordOf_1, s_Reader_wordOf_2, s_Reader_wordOf_3, s_Reader_wordOf_5, s_Reader_wordOf_6, s_Reader_wordOf_10, s_Reader_wordOf_12, s_Reader_wordOf_15, s_Reader_wordOf_18, s_Reader_wordOf_20, s_Reader_wordOf_22, s_Reader_wordOf_25, s_Reader_wordOf_27, s_Reader_wordOf_30, s_Reader_wordOf_32, s_Reader_wordOf_34, s_Reader_wordOf_35, s_Reader_wordOf_36, s_Reader_wordOf_37, s_Reader_wordOf_38, s_Reader_wordOf_41, s_Reader_wordOf_42, s_Reader_wordOf_43, s_Reader_wordOf_45, s_Reader_wordOf_47, s_Reader_wordOf_50, s_Reader_wordOf_54, s_Reader_wordOf_55, s_Reader_wordOf_58, s_Reader_wordOf_60, s_Reader_wordOf_61, s_Reader_wordOf_62, s_Reader_wordOf_64, s_Reader_wordOf_67, s_Reader_wordOf_72, k_8, n_8, k_37, n_37, h8, wq, sb, z3, y1, y2, y3, le_T, lt_T, le_F, lt_F, Int.toNat_natCast, cat_n, cat_i, cat_r, cat_l, Nat.ble_eq, Nat.reduceAdd, Nat.reduceLeDiff, true_and, and_true, true_implies, false_implies, not_true_eq_false, not_false_eq_true, implies_true]
            clear sb y1 y2 y3
            grind
          · have y1 := wq_n z1 w3 hi hq he
            revert y1 y2 y3
            clear h hI hI2 hk iff z a4 w1 w2 z1 sb hch c
            intro y1 y2 y3
            rw [s_Reader_wordOf_8]
            simp (disch := omega) only [s_Reader_wordOf_0, s_Reader_wordOf_1, s_Reader_wordOf_2, s_Reader_wordOf_3, s_Reader_wordOf_5, s_Reader_wordOf_6, s_Reader_wordOf_10, s_Reader_wordOf_12, s_Reader_wordOf_15, s_Reader_wordOf_18, s_Reader_wordOf_20, s_Reader_wordOf_22, s_Reader_wordOf_25, s_Reader_wordOf_27, s_Reader_wordOf_30, s_Reader_wordOf_32, s_Reader_wordOf_34, s_Reader_wordOf_35, s_Reader_wordOf_36, s_Reader_wordOf_37, s_Reader_wordOf_38, s_Reader_wordOf_42, s_Reader_wordOf_43, s_Reader_wordOf_45, s_Reader_wordOf_47, s_Reader_wordOf_50, s_Reader_wordOf_53, s_Reader_wordOf_54, s_Reader_wordOf_55, s_Reader_wordOf_58, s_Reader_wordOf_60, s_Reader_wordOf_61, s_Reader_wordOf_62, s_Reader_wordOf_64, s_Reader_wordOf_67, s_Reader_wordOf_72, k_8, n_8, h8, wq, y1, y2, y3, le_T, lt_T, le_F, lt_F, Int.toNat_natCast, cat_n, cat_i, cat_r, cat_l, Nat.ble_eq, Nat.reduceAdd, Nat.reduceLeDiff, true_and, and_true, true_implies, false_implies, not_true_eq_false, not_false_eq_true, implies_true]
            clear y1 y2 y3
            grind
      · obtain ⟨a1, a2⟩ := w2 c
        subst a1
        subst a2
        have hG := hG hI
        rw [← wq] at c
        have y3 : wr ((q : Int) + 1) = ((q + 1 : Nat) : Int) := wr_inc (Nat.lt_trans hq (by decide))
        revert y3
        clear h hI w1 w2 w3 wq hch
        intro y3
        rw [s_Reader_wordOf_8]
        simp (disch := omega) only [s_Reader_wordOf_0, s_Reader_wordOf_1, s_Reader_wordOf_2, s_Reader_wordOf_3, s_Reader_wordOf_5, s_Reader_wordOf_6, s_Reader_wordOf_10, s_Reader_wordOf_12, s_Reader_wordOf_15, s_Reader_wordOf_18, s_Reader_wordOf_20, s_Reader_wordOf_22, s_Reader_wordOf_25, s_Reader_wordOf_27, s_Reader_wordOf_32, s_Reader_wordOf_34, s_Reader_wordOf_35, s_Reader_wordOf_36, s_Reader_wordOf_37, s_Reader_wordOf_38, s_Reader_wordOf_41, s_Reader_wordOf_42, s_Reader_wordOf_43, s_Reader_wordOf_45, s_Reader_wordOf_47, s_Reader_wordOf_50, s_Reader_wordOf_53, s_Reader_wordOf_54, s_Reader_wordOf_55, s_Reader_wordOf_58, s_Reader_wordOf_60, s_Reader_wordOf_61, s_Reader_wordOf_62, s_Reader_wordOf_64, s_Reader_wordOf_67, s_Reader_wordOf_72, k_8, n_8, h8, c, y3, le_T, lt_T, le_F, lt_F, Int.toNat_natCast, cat_n, cat_i, cat_r, cat_l, Nat.ble_eq, Nat.reduceAdd, Nat.reduceLeDiff, true_and, and_true, true_implies, false_implies, not_true_eq_false, not_false_eq_true, implies_true]
        clear y3
        grind
    · have hI2 := hI.2
      rw [show tokK (sl T i (e - i)) (10 - Wt 50) (Wt 50) = -20 from rfl] at hI2
      rw [hI2] at h
      clear hI hI2
      generalize Wt 50 = w
      generalize St 50 = s
      rw [s_Reader_wordOf_8]
      simp (disch := omega) only [s_Reader_wordOf_0, s_Reader_wordOf_1, s_Reader_wordOf_2, s_Reader_wordOf_3, s_Reader_wordOf_5, s_Reader_wordOf_6, s_Reader_wordOf_10, s_Reader_wordOf_12, s_Reader_wordOf_15, s_Reader_wordOf_20, s_Reader_wordOf_22, s_Reader_wordOf_25, s_Reader_wordOf_27, s_Reader_wordOf_30, s_Reader_wordOf_32, s_Reader_wordOf_34, s_Reader_wordOf_35, s_Reader_wordOf_36, s_Reader_wordOf_37, s_Reader_wordOf_38, s_Reader_wordOf_41, s_Reader_wordOf_42, s_Reader_wordOf_43, s_Reader_wordOf_45, s_Reader_wordOf_47, s_Reader_wordOf_50, s_Reader_wordOf_53, s_Reader_wordOf_54, s_Reader_wordOf_55, s_Reader_wordOf_58, s_Reader_wordOf_60, s_Reader_wordOf_61, s_Reader_wordOf_62, s_Reader_wordOf_64, s_Reader_wordOf_67, s_Reader_wordOf_70, s_Reader_wordOf_72, k_8, n_8, le_T, lt_T, le_F, lt_F, cat_n, cat_i, cat_r, cat_l, Nat.ble_eq, Nat.reduceAdd, Nat.reduceLeDiff, true_and, and_true, true_implies, false_implies, not_true_eq_false, not_false_eq_true, implies_true]
      grind
  clear h
  simp only [s_Reader_wordOf_0, s_Reader_wordOf_1, s_Reader_wordOf_2, s_Reader_wordOf_3, s_Reader_wordOf_5, s_Reader_wordOf_6, s_Reader_wordOf_10, s_Reader_wordOf_12, s_Reader_wordOf_15, s_Reader_wordOf_18, s_Reader_wordOf_20, s_Reader_wordOf_22, s_Reader_wordOf_25, s_Reader_wordOf_27, s_Reader_wordOf_30, s_Reader_wordOf_32, s_Reader_wordOf_34, s_Reader_wordOf_35, s_Reader_wordOf_36, s_Reader_wordOf_37, s_Reader_wordOf_38, s_Reader_wordOf_41, s_Reader_wordOf_42, s_Reader_wordOf_43, s_Reader_wordOf_45, s_Reader_wordOf_47, s_Reader_wordOf_50, s_Reader_wordOf_53, s_Reader_wordOf_54, s_Reader_wordOf_55, s_Reader_wordOf_58, s_Reader_wordOf_60, s_Reader_wordOf_61, s_Reader_wordOf_62, s_Reader_wordOf_64, s_Reader_wordOf_67, s_Reader_wordOf_70, s_Reader_wordOf_72]
  exact key
end
