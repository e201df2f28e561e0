/-! the reference's yard of held signs, as a function of the tokens -/
def rk (s : Int) : Int := if s = 0 then 0 else if s = 11 then 1 else if s = 12 then 2 else if s = 13 then 3 else if s ≤ 15 then 4 else if s ≤ 17 then 5 else if s = 18 then 6 else 7
def trC (c : Int) : Int := if 0 ≤ c then 100000 + c else if -6 ≤ c then -1 - c else if c = -8 then 11 else if c = -9 then 12 else if c = -10 then 13 else if c = -17 then 14 else if c = -18 then 15 else if c = -14 then 16 else if c = -15 then 17 else if c = -16 then 18 else 19
abbrev isB (c : Int) : Prop := c = -8 ∨ c = -9 ∨ c = -17 ∨ c = -18 ∨ c = -14 ∨ c = -15 ∨ c = -16
def thB (s : Int) : Int := if rk s = 4 then 5 else rk s
def unH (th : Int) : List Int → List Int → List Int × List Int
  | [], O => ([], O)
  | s :: H, O => if th ≤ rk s then unH th H (O ++ [s]) else (s :: H, O)
def opn : List Int → Nat
  | [] => 0
  | s :: H => opn H + (if s = 0 ∨ s = 13 ∨ s = 19 then 1 else 0)
def top4 : List Int → Bool
  | [] => false
  | s :: _ => decide (rk s = 4)
def eR (t : Nat → Int) : Nat → Bool → Bool → Nat → List Int → List Int → Nat × Option (List Int)
  | 0, _, _, j, _, _ => (j, none)
  | f + 1, true, u, j, H, O =>
    if -6 ≤ t j then eR t f false true (j + 1) (unH 7 H (O ++ [trC (t j)])).1 (unH 7 H (O ++ [trC (t j)])).2
    else if t j = -10 ∧ u = true then (if opn H = 5 then (j, none) else eR t f true u (j + 1) (13 :: H) O)
    else if t j = -15 then (if opn H = 5 then (j, none) else eR t f true false (j + 1) (19 :: H) O)
    else if t j = -11 then (if opn H = 5 then (j, none) else eR t f true true (j + 1) (0 :: H) O)
    else (j, none)
  | f + 1, false, _, j, H, O =>
    if t j = -13 then (if (unH 1 H O).1 = [] then (j + 1, some (unH 1 H O).2) else (j, none))
    else if t j = -12 then (if (unH 1 H O).1 = [] then (j, none) else eR t f false true (j + 1) (unH 7 (unH 1 H O).1.tail (unH 1 H O).2).1 (unH 7 (unH 1 H O).1.tail (unH 1 H O).2).2)
    else if isB (t j) then (if rk (trC (t j)) = 4 ∧ top4 (unH (thB (trC (t j))) H O).1 = true then (j, none) else eR t f true (decide (trC (t j) ≤ 12)) (j + 1) (trC (t j) :: (unH (thB (trC (t j))) H O).1) (unH (thB (trC (t j))) H O).2)
    else (j, none)
section
variable {t : Nat → Int} {M j : Nat} {u : Bool} {H O : List Int}
/-- it wants an operand at token j -/
def yW (t : Nat → Int) (M : Nat) (u : Bool) (j : Nat) (H O : List Int) : Nat × Option (List Int) := eR t (M - j) true u j H O
/-- it has one -/
def yN (t : Nat → Int) (M : Nat) (j : Nat) (H O : List Int) : Nat × Option (List Int) := eR t (M - j) false true j H O
theorem yW_s (h : j < M) : yW t M u j H O =
    if -6 ≤ t j then yN t M (j + 1) (unH 7 H (O ++ [trC (t j)])).1 (unH 7 H (O ++ [trC (t j)])).2
    else if t j = -10 ∧ u = true then (if opn H = 5 then (j, none) else yW t M u (j + 1) (13 :: H) O)
    else if t j = -15 then (if opn H = 5 then (j, none) else yW t M false (j + 1) (19 :: H) O)
    else if t j = -11 then (if opn H = 5 then (j, none) else yW t M true (j + 1) (0 :: H) O)
    else (j, none) := by
  unfold yW yN
  rw [show M - j = (M - (j + 1)) + 1 by omega]
  rfl
theorem yN_s (h : j < M) : yN t M j H O =
    if t j = -13 then (if (unH 1 H O).1 = [] then (j + 1, some (unH 1 H O).2) else (j, none))
    else if t j = -12 then (if (unH 1 H O).1 = [] then (j, none) else yN t M (j + 1) (unH 7 (unH 1 H O).1.tail (unH 1 H O).2).1 (unH 7 (unH 1 H O).1.tail (unH 1 H O).2).2)
    else if isB (t j) then (if rk (trC (t j)) = 4 ∧ top4 (unH (thB (trC (t j))) H O).1 = true then (j, none) else yW t M (decide (trC (t j) ≤ 12)) (j + 1) (trC (t j) :: (unH (thB (trC (t j))) H O).1) (unH (thB (trC (t j))) H O).2)
    else (j, none) := by
  unfold yW yN
  rw [show M - j = (M - (j + 1)) + 1 by omega]
  rfl
theorem un_c {th s : Int} {H O : List Int} : unH th (s :: H) O = if th ≤ rk s then unH th H (O ++ [s]) else (s :: H, O) := rfl
theorem un_p {th s : Int} {H O : List Int} (h : th ≤ rk s) : unH th (s :: H) O = unH th H (O ++ [s]) := if_pos h
theorem un_n {th s : Int} {H O : List Int} (h : ¬ th ≤ rk s) : unH th (s :: H) O = (s :: H, O) := if_neg h
theorem tr_th {c : Int} (h : isB c) : thB (trC c) = (if c = -8 then 1 else if c = -9 then 2 else if c = -17 ∨ c = -18 then 5 else if c = -14 ∨ c = -15 then 5 else 6) ∧ rk (trC c) = (if c = -8 then 1 else if c = -9 then 2 else if c = -17 ∨ c = -18 then 4 else if c = -14 ∨ c = -15 then 5 else 6) := by
  rcases h with q | q | q | q | q | q | q <;> subst q <;> decide
theorem th_v {c : Int} (h : isB c) : (c = -8 ∧ thB (trC c) = 1) ∨ (c = -9 ∧ thB (trC c) = 2) ∨ ((c = -17 ∨ c = -18) ∧ thB (trC c) = 5) ∨ ((c = -14 ∨ c = -15) ∧ thB (trC c) = 5) ∨ (c = -16 ∧ thB (trC c) = 6) := by
  rcases h with q | q | q | q | q | q | q <;> subst q <;> decide
/-- a sign on top that goes first may as well be gone -/
theorem y_U {op : Int} (h1 : 1 ≤ rk op) (h2 : isB (t j) → thB (trC (t j)) ≤ rk op) : yN t M j (op :: H) O = yN t M j H (O ++ [op]) := by
  by_cases hj : j < M
  · rw [yN_s hj, yN_s hj, un_p h1]
    by_cases c1 : isB (t j)
    · rw [un_p (h2 c1)]
    · by_cases c2 : t j = -13
      · rw [if_pos c2, if_pos c2]
      · rw [if_neg c2, if_neg c2]
        by_cases c3 : t j = -12
        · rw [if_pos c3, if_pos c3]
        · rw [if_neg c3, if_neg c3, if_neg c1, if_neg c1]
  · unfold yN
    rw [show M - j = 0 by omega]
    rfl
theorem y_7 : ∀ (H O : List Int), yN t M j (unH 7 H O).1 (unH 7 H O).2 = yN t M j H O
  | [], O => rfl
  | s :: H, O => by
    by_cases c : 7 ≤ rk s
    · rw [un_p c, y_7 H (O ++ [s])]
      refine (y_U (by omega) (fun hb => ?_)).symm
      have := th_v hb
      omega
    · rw [un_n c]
/-- the continuation behind a part of a level -/
def yC (t : Nat → Int) (M K j : Nat) (H O : List Int) : Nat × Option (List Int) := if K ≤ 2 ∧ (t j = -17 ∨ t j = -18) then (j, none) else yN t M j H O
def fit (L : Nat) : List Int → Prop
  | [] => True
  | s :: _ => rk s < (if L = 0 then 1 else if L = 1 then 2 else if L = 2 then 4 else if L = 3 then 5 else if L = 4 then 6 else 8)
def mu (L : Nat) (u : Bool) (c : Int) : Prop := (L ≤ 2 → u = true) ∧ (3 ≤ L → u = true → ¬ c = -10)
def nj (K : Nat) (c : Int) : Prop := (K ≤ 0 → ¬ c = -8) ∧ (K ≤ 1 → ¬ c = -9) ∧ (K ≤ 3 → ¬ c = -14 ∧ ¬ c = -15) ∧ (K ≤ 4 → ¬ c = -16)
def stpH (c : Int) : Int := if 100000 ≤ c ∨ c ≤ 5 then 1 else if c = 13 ∨ c = 19 then 0 else -1
def okY (h c : Int) : Prop := ((0 ≤ c ∧ c ≤ 5 ∨ 100000 ≤ c ∧ c ≤ 109999) ∧ 0 ≤ h ∧ h ≤ 63) ∨ ((c = 13 ∨ c = 19) ∧ 1 ≤ h ∧ h ≤ 64) ∨ ((c = 11 ∨ c = 12 ∨ c = 14 ∨ c = 15 ∨ c = 16 ∨ c = 17 ∨ c = 18) ∧ 2 ≤ h ∧ h ≤ 64)
def okB : Int → List Int → Prop
  | _, [] => True
  | h, c :: r => okY h c ∧ okB (h + stpH c) r
def hE : Int → List Int → Int
  | h, [] => h
  | h, c :: r => hE (h + stpH c) r
theorem hE_a : ∀ (X Y : List Int) (h : Int), hE h (X ++ Y) = hE (hE h X) Y
  | [], _, _ => rfl
  | c :: X, Y, h => hE_a X Y (h + stpH c)
theorem okB_a : ∀ (X Y : List Int) (h : Int), okB h X → okB (hE h X) Y → okB h (X ++ Y)
  | [], _, _, _, h2 => h2
  | c :: X, Y, h, h1, h2 => ⟨h1.1, okB_a X Y (h + stpH c) h1.2 h2⟩
/-- codes that leave one number more, with so much room -/
def okX (G : Int) (X : List Int) : Prop := (∀ c, c ∈ X → cpm c (trC c)) ∧ ∀ h, 0 ≤ h → h + G ≤ 64 → okB h (X.map trC) ∧ hE h (X.map trC) = h + 1
theorem okX_m {G G2 : Int} {X : List Int} (h : okX G X) (hg : G ≤ G2) : okX G2 X := ⟨h.1, fun a ha hb => h.2 a ha (by omega)⟩
theorem okX_1 {c : Int} (h : -6 ≤ c ∧ c ≤ 9999) : okX 1 [c] := by
  have e : (0 ≤ c ∧ trC c = 100000 + c) ∨ (c < 0 ∧ trC c = -1 - c) := by
    unfold trC
    by_cases q : 0 ≤ c
    · rw [if_pos q]
      exact Or.inl ⟨q, rfl⟩
    · rw [if_neg q, if_pos (by omega)]
      exact Or.inr ⟨by omega, rfl⟩
  refine ⟨fun x hx => ?_, fun a ha hb => ?_⟩
  · have : x = c := by simpa using hx
    subst this
    unfold cpm
    omega
  · show (okY a (trC c) ∧ True) ∧ a + stpH (trC c) = a + 1
    have s1 : stpH (trC c) = 1 := by
      unfold stpH
      rw [if_pos (by omega)]
    rw [s1]
    refine ⟨⟨Or.inl ⟨by omega, by omega⟩, trivial⟩, rfl⟩
theorem okX_u {G c : Int} {X : List Int} (h : okX G X) (hc : c = -10 ∨ c = -21) (hg : 1 ≤ G) : okX G (X ++ [c]) := by
  have e : trC c = 13 ∨ trC c = 19 := by
    rcases hc with q | q <;> subst q
    · exact Or.inl (by decide)
    · exact Or.inr (by decide)
  refine ⟨fun x hx => ?_, fun a ha hb => ?_⟩
  · rcases List.mem_append.mp hx with q | q
    · exact h.1 x q
    · have : x = c := by simpa using q
      subst this
      rcases hc with z | z <;> subst z
      · exact Or.inr (Or.inr (Or.inl ⟨rfl, by decide⟩))
      · exact Or.inr (Or.inr (Or.inr (Or.inl ⟨rfl, by decide⟩)))
  · obtain ⟨h1, h2⟩ := h.2 a ha hb
    rw [List.map_append]
    have s1 : stpH (trC c) = 0 := by
      rcases e with q | q <;> rw [q] <;> decide
    refine ⟨okB_a _ _ _ h1 ?_, ?_⟩
    · rw [h2]
      exact ⟨Or.inr (Or.inl ⟨e, by omega, by omega⟩), trivial⟩
    · rw [hE_a, h2]
      show a + 1 + stpH (trC c) = a + 1
      rw [s1]
      omega
theorem okX_2 {G G1 G2 c : Int} {X Y : List Int} (h : okX G1 X) (h2 : okX G2 Y) (hc : isB c) (g1 : G1 ≤ G) (g2 : G2 + 1 ≤ G) (g3 : 0 ≤ G2) (g4 : 2 ≤ G) : okX G (X ++ (Y ++ [c])) := by
  have e : (trC c = 11 ∨ trC c = 12 ∨ trC c = 14 ∨ trC c = 15 ∨ trC c = 16 ∨ trC c = 17 ∨ trC c = 18) ∧ stpH (trC c) = -1 ∧ cpm c (trC c) := by
    unfold cpm
    rcases hc with q | q | q | q | q | q | q <;> subst q <;> decide
  refine ⟨fun x hx => ?_, fun a ha hb => ?_⟩
  · rcases List.mem_append.mp hx with q | q
    · exact h.1 x q
    · rcases List.mem_append.mp q with q | q
      · exact h2.1 x q
      · have : x = c := by simpa using q
        subst this
        exact e.2.2
  · obtain ⟨a1, a2⟩ := h.2 a ha (by omega)
    obtain ⟨b1, b2⟩ := h2.2 (a + 1) (by omega) (by omega)
    rw [List.map_append, List.map_append]
    refine ⟨okB_a _ _ _ a1 ?_, ?_⟩
    · rw [a2]
      refine okB_a _ _ _ b1 ?_
      rw [b2]
      exact ⟨Or.inr (Or.inr ⟨e.1, by omega, by omega⟩), trivial⟩
    · rw [hE_a, a2, hE_a, b2]
      show a + 1 + 1 + stpH (trC c) = a + 1
      rw [e.2.1]
      omega
/-- what a part of level L (its ends those of level K), o things being open, makes of the tokens j to j2 -/
def Cn (t : Nat → Int) (M L K o j j2 : Nat) (w : Int) (X : List Int) : Prop :=
  (j ≤ j2 ∧ j2 < M ∧ (w = 0 ∨ w = 1)) ∧
  (w = 1 → ∀ u H O, opn H = o → fit L H → mu L u (t j) → yW t M u j H O = (j2, none)) ∧
  (w = 0 → X.length ≤ j2 - j ∧ okX (31 - 5 * (o : Int) - (L : Int)) X ∧ nj K (t j2) ∧ ∀ u H O, opn H = o → fit L H → mu L u (t j) → yW t M u j H O = yC t M K j2 H (O ++ X.map trC))
theorem opn_3 {s : Int} {H : List Int} {o : Nat} (h : opn H = o) (hs : s = 0 ∨ s = 13 ∨ s = 19) : opn (s :: H) = o + 1 := by
  show opn H + _ = o + 1
  rw [if_pos hs, h]
theorem opn_2 {s : Int} {H : List Int} {o : Nat} (h : opn H = o) (hs : ¬ (s = 0 ∨ s = 13 ∨ s = 19)) : opn (s :: H) = o := by
  show opn H + _ = o
  rw [if_neg hs, h]
  rfl
theorem Cn_num {o : Nat} (hj : j + 1 < M) (ho : o ≤ 5) (hc : -6 ≤ t j ∧ t j ≤ 9999) : Cn t M 5 5 o j (j + 1) 0 [t j] := by
  refine ⟨⟨by omega, hj, Or.inl rfl⟩, fun z => absurd z (by decide), fun _ => ⟨by simp, okX_m (okX_1 hc) (by omega), ?_, fun u H O _ _ _ => ?_⟩⟩
  · unfold nj
    omega
  · rw [yW_s (by omega), if_pos hc.1, y_7]
    unfold yC
    rw [if_neg (by omega)]
    rfl
theorem Cn_full {o : Nat} {L : Nat} (hj : j < M) (ho : o = 5) (hc : (t j = -10 ∧ L ≤ 2) ∨ (t j = -15 ∧ L = 5) ∨ (t j = -11 ∧ L = 5)) {X : List Int} : Cn t M L L o j j 1 X := by
  refine ⟨⟨by omega, hj, Or.inr rfl⟩, fun _ u H O h1 h2 h3 => ?_, fun z => absurd z (by decide)⟩
  rw [yW_s hj, if_neg (by omega)]
  rcases hc with ⟨q, q2⟩ | ⟨q, q2⟩ | ⟨q, q2⟩
  · rw [if_pos ⟨q, h3.1 q2⟩, if_pos (by omega)]
  · rw [if_neg (by omega), if_pos q, if_pos (by omega)]
  · rw [if_neg (by omega), if_neg (by omega), if_pos q, if_pos (by omega)]
theorem Cn_bad {o : Nat} (hj : j < M) (h1 : ¬ -6 ≤ t j) (h2 : ¬ t j = -15) (h3 : ¬ t j = -11) {X : List Int} : Cn t M 5 5 o j j 1 X := by
  refine ⟨⟨by omega, hj, Or.inr rfl⟩, fun _ u H O _ _ hm => ?_, fun z => absurd z (by decide)⟩
  rw [yW_s hj, if_neg h1, if_neg (fun z => hm.2 (by omega) z.2 z.1), if_neg h2, if_neg h3]
theorem Cn_neg {o j2 : Nat} {w : Int} {X : List Int} (hj : j < M) (ho : o < 5) (hc : t j = -15) (h : Cn t M 5 5 (o + 1) (j + 1) j2 w X) : Cn t M 5 5 o j j2 w (X ++ [-21]) := by
  obtain ⟨⟨a1, a2, a3⟩, a4, a5⟩ := h
  have st : ∀ u H O, opn H = o → yW t M u j H O = yW t M false (j + 1) (19 :: H) O := fun u H O h1 => by
    rw [yW_s hj, if_neg (by omega), if_neg (by omega), if_pos hc, if_neg (by omega)]
  have fi : ∀ H : List Int, fit 5 (19 :: H) := fun H => (by decide : rk 19 < 8)
  have m5 : mu 5 false (t (j + 1)) := ⟨fun z => by omega, fun _ z => absurd z (by decide)⟩
  refine ⟨⟨by omega, a2, a3⟩, fun z u H O h1 _ _ => ?_, fun z => ?_⟩
  · rw [st u H O h1]
    exact a4 z false (19 :: H) O (opn_3 h1 (by omega)) (fi H) m5
  · obtain ⟨b1, b2, b3, b4⟩ := a5 z
    refine ⟨by rw [List.length_append]; simp only [List.length_cons, List.length_nil]; omega, okX_m (okX_u b2 (Or.inr rfl) (by omega)) (by omega), b3, fun u H O h1 _ _ => ?_⟩
    rw [st u H O h1, b4 false (19 :: H) O (opn_3 h1 (by omega)) (fi H) m5]
    unfold yC
    rw [if_neg (by omega), if_neg (by omega), y_U (by decide) (fun hb => by
      have : rk 19 = 7 := by decide
      have := th_v hb
      omega), List.map_append, List.append_assoc]
    rfl
theorem Cn_par {o j2 : Nat} {X : List Int} (hj : j < M) (ho : o < 5) (hc : t j = -11) (h : Cn t M 0 0 (o + 1) (j + 1) j2 0 X) (h2 : t j2 = -12) (hj2 : j2 + 1 < M) : Cn t M 5 5 o j (j2 + 1) 0 X := by
  obtain ⟨⟨a1, a2, a3⟩, a4, a5⟩ := h
  obtain ⟨b1, b2, b3, b4⟩ := a5 rfl
  refine ⟨⟨by omega, hj2, Or.inl rfl⟩, fun z => absurd z (by decide), fun _ => ⟨by omega, okX_m b2 (by omega), ?_, fun u H O h1 _ _ => ?_⟩⟩
  · unfold nj
    omega
  · rw [yW_s hj, if_neg (by omega), if_neg (by omega), if_neg (by omega), if_pos hc, if_neg (by omega), b4 true (0 :: H) O (opn_3 h1 (by omega)) (by decide : rk 0 < 1) ⟨fun _ => rfl, fun z => by omega⟩]
    unfold yC
    rw [if_neg (by omega), if_neg (by omega), yN_s a2, if_neg (by omega), if_pos h2, un_n (by decide), if_neg (by simp)]
    exact y_7 H _
theorem Cn_parE {o j2 : Nat} {w : Int} {X : List Int} (hj : j < M) (ho : o < 5) (hc : t j = -11) (h : Cn t M 0 0 (o + 1) (j + 1) j2 w X) (h2 : w = 0 → ¬ t j2 = -12) {Y : List Int} : Cn t M 5 5 o j j2 1 Y := by
  obtain ⟨⟨a1, a2, a3⟩, a4, a5⟩ := h
  refine ⟨⟨by omega, a2, Or.inr rfl⟩, fun _ u H O h1 _ _ => ?_, fun z => absurd z (by decide)⟩
  have fi : fit 0 (0 :: H) := (by decide : rk 0 < 1)
  have m0 : mu 0 true (t (j + 1)) := ⟨fun _ => rfl, fun z => by omega⟩
  rw [yW_s hj, if_neg (by omega), if_neg (by omega), if_neg (by omega), if_pos hc, if_neg (by omega)]
  rcases a3 with z | z
  · obtain ⟨b1, b2, b3, b4⟩ := a5 z
    have h2 := h2 z
    rw [b4 true (0 :: H) O (opn_3 h1 (by omega)) fi m0]
    unfold yC
    by_cases c : t j2 = -17 ∨ t j2 = -18
    · rw [if_pos ⟨by omega, c⟩]
    · rw [if_neg (fun y => c y.2), yN_s a2]
      have n8 := b3.1 (by omega)
      have n9 := b3.2.1 (by omega)
      have n14 := b3.2.2.1 (by omega)
      have n16 := b3.2.2.2 (by omega)
      have nb : ¬ isB (t j2) := fun y => by unfold isB at y; omega
      by_cases c2 : t j2 = -13
      · rw [if_pos c2, un_n (by decide), if_neg (by simp)]
      · rw [if_neg c2, if_neg h2, if_neg nb]
  · exact a4 z true (0 :: H) O (opn_3 h1 (by omega)) fi m0
theorem Cn_not {o j2 : Nat} {w : Int} {X : List Int} (hj : j < M) (ho : o < 5) (hc : t j = -10) (h : Cn t M 2 2 (o + 1) (j + 1) j2 w X) : Cn t M 2 2 o j j2 w (X ++ [-10]) := by
  obtain ⟨⟨a1, a2, a3⟩, a4, a5⟩ := h
  have st : ∀ u H O, opn H = o → mu 2 u (t j) → yW t M u j H O = yW t M true (j + 1) (13 :: H) O := fun u H O h1 h3 => by
    have hu := h3.1 (by omega)
    subst hu
    rw [yW_s hj, if_neg (by omega), if_pos ⟨hc, rfl⟩, if_neg (by omega)]
  have fi : ∀ H : List Int, fit 2 (13 :: H) := fun H => (by decide : rk 13 < 4)
  have m2 : mu 2 true (t (j + 1)) := ⟨fun _ => rfl, fun z => by omega⟩
  refine ⟨⟨by omega, a2, a3⟩, fun z u H O h1 _ h3 => ?_, fun z => ?_⟩
  · rw [st u H O h1 h3]
    exact a4 z true (13 :: H) O (opn_3 h1 (by omega)) (fi H) m2
  · obtain ⟨b1, b2, b3, b4⟩ := a5 z
    refine ⟨by rw [List.length_append]; simp only [List.length_cons, List.length_nil]; omega, okX_m (okX_u b2 (Or.inl rfl) (by omega)) (by omega), b3, fun u H O h1 _ h3 => ?_⟩
    rw [st u H O h1 h3, b4 true (13 :: H) O (opn_3 h1 (by omega)) (fi H) m2]
    unfold yC
    by_cases c : t j2 = -17 ∨ t j2 = -18
    · rw [if_pos ⟨by omega, c⟩, if_pos ⟨by omega, c⟩]
    · rw [if_neg (fun y => c y.2), if_neg (fun y => c y.2), y_U (by decide) (fun hb => by
        have n14 := b3.2.2.1 (by omega)
        have n16 := b3.2.2.2 (by omega)
        have : rk 13 = 3 := by decide
        have := th_v hb
        omega), List.map_append, List.append_assoc]
      rfl
theorem fit_m {L L2 : Nat} {H : List Int} (h : fit L H) (hl : L ≤ L2) (h5 : L2 ≤ 5) : fit L2 H := by
  cases H with
  | nil => trivial
  | cons s H =>
    have h : rk s < _ := h
    show rk s < _
    refine Int.lt_of_lt_of_le h ?_
    have a : L = 0 ∨ L = 1 ∨ L = 2 ∨ L = 3 ∨ L = 4 ∨ L = 5 := by omega
    have b : L2 = 0 ∨ L2 = 1 ∨ L2 = 2 ∨ L2 = 3 ∨ L2 = 4 ∨ L2 = 5 := by omega
    rcases a with q | q | q | q | q | q <;> subst q <;> rcases b with q | q | q | q | q | q <;> subst q <;> first | decide | omega
/-- a sum without a sign behind it that compares -/
theorem Cn_sum {o j1 : Nat} {w : Int} {X : List Int} (hc : ¬ t j = -10) (h : Cn t M 3 3 o j j1 w X) (h2 : w = 0 → ¬ (t j1 = -17 ∨ t j1 = -18)) : Cn t M 2 2 o j j1 w X := by
  obtain ⟨⟨a1, a2, a3⟩, a4, a5⟩ := h
  refine ⟨⟨a1, a2, a3⟩, fun z u H O h1 h3 _ => a4 z u H O h1 (fit_m h3 (by omega) (by omega)) ⟨fun y => by omega, fun _ _ => hc⟩, fun z => ?_⟩
  obtain ⟨b1, b2, b3, b4⟩ := a5 z
  refine ⟨b1, okX_m b2 (by omega), ⟨fun y => by omega, fun y => by omega, fun _ => b3.2.2.1 (by omega), fun _ => b3.2.2.2 (by omega)⟩, fun u H O h1 h3 _ => ?_⟩
  rw [b4 u H O h1 (fit_m h3 (by omega) (by omega)) ⟨fun y => by omega, fun _ _ => hc⟩]
  unfold yC
  rw [if_neg (by omega), if_neg (fun y => h2 z y.2)]
/-- a sign goes on the stack: nothing below it goes -/
theorem y_push {c : Int} {L : Nat} (hj : j < M) (hb : isB c) (hc : t j = c) (hl : (c = -8 ∧ L = 0) ∨ (c = -9 ∧ L = 1) ∨ ((c = -17 ∨ c = -18) ∧ L = 2) ∨ ((c = -14 ∨ c = -15) ∧ L = 3) ∨ (c = -16 ∧ L = 4)) (hf : fit L H) : yN t M j H O = yW t M (decide (trC c ≤ 12)) (j + 1) (trC c :: H) O := by
  have e := tr_th hb
  have un : unH (thB (trC c)) H O = (H, O) ∧ ¬ (rk (trC c) = 4 ∧ top4 H = true) := by
    cases H with
    | nil => exact ⟨rfl, fun z => absurd z.2 (by decide)⟩
    | cons s H =>
      have hf : rk s < _ := hf
      refine ⟨un_n ?_, fun z => ?_⟩
      · rw [e.1]
        rcases hl with ⟨q, q2⟩ | ⟨q, q2⟩ | ⟨q, q2⟩ | ⟨q, q2⟩ | ⟨q, q2⟩
        · subst q; subst q2; simp at hf ⊢; omega
        · subst q; subst q2; simp at hf ⊢; omega
        · subst q2; rcases q with q | q <;> subst q <;> simp at hf ⊢ <;> omega
        · subst q2; rcases q with q | q <;> subst q <;> simp at hf ⊢ <;> omega
        · subst q; subst q2; simp at hf ⊢; omega
      · have z2 : rk s = 4 := of_decide_eq_true z.2
        have z1 := z.1
        rw [e.2] at z1
        rcases hl with ⟨q, q2⟩ | ⟨q, q2⟩ | ⟨q, q2⟩ | ⟨q, q2⟩ | ⟨q, q2⟩
        · subst q; simp at z1
        · subst q; simp at z1
        · subst q2; simp at hf; omega
        · rcases q with q | q <;> subst q <;> simp at z1
        · subst q; simp at z1
  rw [yN_s hj, hc, if_neg (by unfold isB at hb; omega), if_neg (by unfold isB at hb; omega), if_pos hb, un.1, if_neg un.2]
/-- a comparison -/
theorem Cn_cmp {o j1 j2 : Nat} {w : Int} {X Y : List Int} (hc : ¬ t j = -10) (ho : o ≤ 5) (h : Cn t M 3 3 o j j1 0 X) (h2 : t j1 = -17 ∨ t j1 = -18) (h3 : Cn t M 3 3 o (j1 + 1) j2 w Y) : Cn t M 2 2 o j j2 w (X ++ (Y ++ [t j1])) := by
  obtain ⟨⟨a1, a2, a3⟩, a4, a5⟩ := h
  obtain ⟨b1, b2, b3, b4⟩ := a5 rfl
  obtain ⟨⟨c1, c2, c3⟩, c4, c5⟩ := h3
  have hb : isB (t j1) := by unfold isB; omega
  have et := tr_th hb
  have e14 : trC (t j1) = 14 ∨ trC (t j1) = 15 := by
    rcases h2 with q | q <;> rw [q]
    · exact Or.inl (by decide)
    · exact Or.inr (by decide)
  have r4 : rk (trC (t j1)) = 4 := by rcases e14 with q | q <;> rw [q] <;> decide
  have st : ∀ u H O, opn H = o → fit 2 H → yW t M u j H O = yW t M false (j1 + 1) (trC (t j1) :: H) (O ++ X.map trC) := fun u H O h1 hf => by
    rw [b4 u H O h1 (fit_m hf (by omega) (by omega)) ⟨fun y => by omega, fun _ _ => hc⟩]
    unfold yC
    rw [if_neg (by omega), y_push (L := 2) a2 hb rfl (by omega) hf]
    congr 1
    exact decide_eq_false (by omega)
  have fi : ∀ H : List Int, fit 3 (trC (t j1) :: H) := fun H => by
    show rk (trC (t j1)) < 5
    omega
  have m3 : mu 3 false (t (j1 + 1)) := ⟨fun z => by omega, fun _ z => absurd z (by decide)⟩
  have op : ∀ H, opn H = o → opn (trC (t j1) :: H) = o := fun H h1 => opn_2 h1 (by omega)
  refine ⟨⟨by omega, c2, c3⟩, fun z u H O h1 hf _ => ?_, fun z => ?_⟩
  · rw [st u H O h1 hf]
    exact c4 z false _ _ (op H h1) (fi H) m3
  · obtain ⟨d1, d2, d3, d4⟩ := c5 z
    refine ⟨by simp only [List.length_append, List.length_cons, List.length_nil]; omega, okX_2 b2 d2 hb (by omega) (by omega) (by omega) (by omega), ⟨fun y => by omega, fun y => by omega, fun _ => d3.2.2.1 (by omega), fun _ => d3.2.2.2 (by omega)⟩, fun u H O h1 hf _ => ?_⟩
    rw [st u H O h1 hf, d4 false _ _ (op H h1) (fi H) m3]
    unfold yC
    rw [if_neg (by omega)]
    by_cases c : t j2 = -17 ∨ t j2 = -18
    · have hb2 : isB (t j2) := by unfold isB; omega
      have e2 := tr_th hb2
      have t5 : thB (trC (t j2)) = 5 ∧ rk (trC (t j2)) = 4 := by
        rw [e2.1, e2.2]
        rcases c with q | q <;> rw [q] <;> decide
      rw [if_pos ⟨by omega, c⟩, yN_s c2, if_neg (by omega), if_neg (by omega), if_pos hb2, un_n (by omega), if_pos ⟨t5.2, decide_eq_true r4⟩]
    · rw [if_neg (fun y => c y.2), y_U (by omega) (fun hb2 => by
        have n14 := d3.2.2.1 (by omega)
        have n16 := d3.2.2.2 (by omega)
        have := th_v hb2
        omega)]
      simp only [List.map_append, List.append_assoc, List.map_cons, List.map_nil]
abbrev lvY (L : Nat) : Prop := L = 0 ∨ L = 1 ∨ L = 3 ∨ L = 4
abbrev jnY (L : Nat) (c : Int) : Prop := (L = 0 ∧ c = -8) ∨ (L = 1 ∧ c = -9) ∨ (L = 3 ∧ (c = -14 ∨ c = -15)) ∨ (L = 4 ∧ c = -16)
theorem mu_m {L : Nat} (hl : lvY L) {c : Int} (h : mu L u c) : mu (L + 1) u c := by
  exact ⟨fun z => h.1 (by omega), fun z => h.2 (by unfold lvY at hl; omega)⟩
/-- the first of a row of parts -/
theorem Cn_fst {L o j1 : Nat} {w : Int} {X : List Int} (hl : lvY L) (h : Cn t M (L + 1) (L + 1) o j j1 w X) : Cn t M L (L + 1) o j j1 w X := by
  obtain ⟨⟨a1, a2, a3⟩, a4, a5⟩ := h
  have l5 : L + 1 ≤ 5 := by unfold lvY at hl; omega
  refine ⟨⟨a1, a2, a3⟩, fun z u H O h1 h3 hm => a4 z u H O h1 (fit_m h3 (by omega) l5) (mu_m hl hm), fun z => ?_⟩
  obtain ⟨b1, b2, b3, b4⟩ := a5 z
  exact ⟨b1, okX_m b2 (by omega), b3, fun u H O h1 h3 hm => b4 u H O h1 (fit_m h3 (by omega) l5) (mu_m hl hm)⟩
/-- one more of them -/
theorem Cn_nxt {L o j1 j2 : Nat} {w : Int} {X Y : List Int} (hl : lvY L) (ho : o ≤ 5) (h : Cn t M L (L + 1) o j j1 0 X) (h2 : jnY L (t j1)) (h3 : Cn t M (L + 1) (L + 1) o (j1 + 1) j2 w Y) : Cn t M L (L + 1) o j j2 w (X ++ (Y ++ [t j1])) := by
  obtain ⟨⟨a1, a2, a3⟩, a4, a5⟩ := h
  obtain ⟨b1, b2, b3, b4⟩ := a5 rfl
  obtain ⟨⟨c1, c2, c3⟩, c4, c5⟩ := h3
  unfold jnY at h2
  have hb : isB (t j1) := by unfold isB; omega
  have et := tr_th hb
  have tv : (L = 0 ∧ trC (t j1) = 11 ∧ rk (trC (t j1)) = 1) ∨ (L = 1 ∧ trC (t j1) = 12 ∧ rk (trC (t j1)) = 2) ∨ (L = 3 ∧ (trC (t j1) = 16 ∨ trC (t j1) = 17) ∧ rk (trC (t j1)) = 5) ∨ (L = 4 ∧ trC (t j1) = 18 ∧ rk (trC (t j1)) = 6) := by
    rcases h2 with ⟨q, q2⟩ | ⟨q, q2⟩ | ⟨q, q2⟩ | ⟨q, q2⟩
    · rw [q2]; exact Or.inl ⟨q, by decide, by decide⟩
    · rw [q2]; exact Or.inr (Or.inl ⟨q, by decide, by decide⟩)
    · rcases q2 with q2 | q2 <;> rw [q2]
      · exact Or.inr (Or.inr (Or.inl ⟨q, Or.inl (by decide), by decide⟩))
      · exact Or.inr (Or.inr (Or.inl ⟨q, Or.inr (by decide), by decide⟩))
    · rw [q2]; exact Or.inr (Or.inr (Or.inr ⟨q, by decide, by decide⟩))
  have st : ∀ u H O, opn H = o → fit L H → mu L u (t j) → yW t M u j H O = yW t M (decide (trC (t j1) ≤ 12)) (j1 + 1) (trC (t j1) :: H) (O ++ X.map trC) := fun u H O h1 hf hm => by
    rw [b4 u H O h1 hf hm]
    unfold yC
    rw [if_neg (by omega), y_push (L := L) a2 hb rfl (by omega) hf]
  have fi : ∀ H : List Int, fit (L + 1) (trC (t j1) :: H) := fun H => by
    show rk (trC (t j1)) < _
    rcases tv with ⟨q, _, q2⟩ | ⟨q, _, q2⟩ | ⟨q, _, q2⟩ | ⟨q, _, q2⟩ <;> subst q <;> rw [q2] <;> decide
  have m3 : mu (L + 1) (decide (trC (t j1) ≤ 12)) (t (j1 + 1)) := by
    rcases tv with ⟨q, q1, q2⟩ | ⟨q, q1, q2⟩ | ⟨q, q1, q2⟩ | ⟨q, q1, q2⟩
    · exact ⟨fun _ => decide_eq_true (by omega), fun z => by omega⟩
    · exact ⟨fun _ => decide_eq_true (by omega), fun z => by omega⟩
    · exact ⟨fun z => by omega, fun _ z => absurd (of_decide_eq_true z) (by omega)⟩
    · exact ⟨fun z => by omega, fun _ z => absurd (of_decide_eq_true z) (by omega)⟩
  have op : ∀ H, opn H = o → opn (trC (t j1) :: H) = o := fun H h1 => opn_2 h1 (by omega)
  refine ⟨⟨by omega, c2, c3⟩, fun z u H O h1 hf hm => ?_, fun z => ?_⟩
  · rw [st u H O h1 hf hm]
    exact c4 z _ _ _ (op H h1) (fi H) m3
  · obtain ⟨d1, d2, d3, d4⟩ := c5 z
    unfold lvY at hl
    refine ⟨by simp only [List.length_append, List.length_cons, List.length_nil]; omega, okX_2 b2 d2 hb (by omega) (by omega) (by omega) (by omega), d3, fun u H O h1 hf hm => ?_⟩
    rw [st u H O h1 hf hm, d4 _ _ _ (op H h1) (fi H) m3]
    unfold yC
    by_cases c : L + 1 ≤ 2 ∧ (t j2 = -17 ∨ t j2 = -18)
    · rw [if_pos c, if_pos c]
    · rw [if_neg c, if_neg c, y_U (by omega) (fun hb2 => by
        unfold nj at d3
        have := th_v hb2
        omega)]
      simp only [List.map_append, List.append_assoc, List.map_cons, List.map_nil]
/-- no more of them -/
theorem Cn_end {L o j1 : Nat} {w : Int} {X : List Int} (hl : lvY L) (h : Cn t M L (L + 1) o j j1 w X) (h2 : w = 0 → ¬ jnY L (t j1)) : Cn t M L L o j j1 w X := by
  obtain ⟨a, a4, a5⟩ := h
  refine ⟨a, a4, fun z => ?_⟩
  obtain ⟨b1, b2, b3, b4⟩ := a5 z
  have h2 := h2 z
  unfold jnY at h2
  unfold lvY at hl
  refine ⟨b1, b2, by unfold nj at b3 ⊢; omega, fun u H O h1 hf hm => ?_⟩
  rw [b4 u H O h1 hf hm]
  unfold yC
  by_cases c : L ≤ 2 ∧ (t j1 = -17 ∨ t j1 = -18)
  · rw [if_pos c, if_pos ⟨by omega, c.2⟩]
  · rw [if_neg c, if_neg (fun y => c ⟨by omega, y.2⟩)]
end
