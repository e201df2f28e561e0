/-! what the evaluator finds, the abstract machine does -/
def shL (L : Nat) (sh : Shp) : Shp := sh.set 1 (30, L, [])
def I1 (sh : Shp) : Prop := sh[1]? = some (30, 0, [])
theorem shL_at {L a : Nat} {sh : Shp} (h : a ≠ 1) : (shL L sh)[a]? = sh[a]? := by
  unfold shL
  rw [List.getElem?_set_ne (Ne.symm h)]
theorem shL_1 {L : Nat} {sh : Shp} (h : I1 sh) : (shL L sh)[1]? = some (30, L, []) := by
  unfold shL
  rw [List.getElem?_set_self (List.getElem?_eq_some_iff.mp h).1]
theorem shL_knd {L a : Nat} {sh : Shp} (h : I1 sh) : knd (shL L sh) a = knd sh a := by
  unfold knd
  by_cases ha : a = 1
  · subst ha
    rw [shL_1 h, show sh[1]? = _ from h]
  · rw [shL_at ha]
theorem shL_rf {L a k : Nat} {sh : Shp} (h : I1 sh) : rfN (shL L sh) a k = rfN sh a k := by
  unfold rfN
  by_cases ha : a = 1
  · subst ha
    rw [shL_1 h, show sh[1]? = _ from h]
  · rw [shL_at ha]
theorem shL_len {L a : Nat} {sh : Shp} (ha : a ≠ 1) : len (shL L sh) a = len sh a := by
  unfold len
  rw [shL_at ha]
theorem shL_length {L : Nat} {sh : Shp} : (shL L sh).length = sh.length := List.length_set
theorem shL_app {L : Nat} {sh t : Shp} (h : I1 sh) : shL L (sh ++ t) = shL L sh ++ t := by
  unfold shL
  rw [List.set_append_left _ _ (List.getElem?_eq_some_iff.mp h).1]
theorem I1_app {sh t : Shp} (h : I1 sh) : I1 (sh ++ t) := by
  unfold I1
  rw [List.getElem?_append_left (List.getElem?_eq_some_iff.mp h).1]
  exact h
theorem not1 {sh : Shp} (h : I1 sh) {a k : Nat} (hk : knd sh a = k) (h30 : k ≠ 30) : a ≠ 1 := by
  intro q
  subst q
  unfold knd at hk
  rw [show sh[1]? = _ from h] at hk
  exact h30 hk.symm
theorem shL_srf {L a i v : Nat} {sh : Shp} (ha : a ≠ 1) : shL L (srf sh a i v) = srf (shL L sh) a i v := by
  unfold srf
  rw [shL_at ha]
  split
  · unfold shL
    rw [List.set_comm _ _ ha]
  · rfl
theorem I1_srf {sh : Shp} {a i v : Nat} (h : I1 sh) (ha : a ≠ 1) : I1 (srf sh a i v) := by
  unfold srf
  split
  · unfold I1
    rw [List.getElem?_set_ne ha]
    exact h
  · exact h
theorem shL_slS {L : Nat} {sh : Shp} (h : I1 sh) : slS (shL L sh) = slS sh + L := by
  match sh, h with
  | [], h => cases h
  | [a], h => cases h
  | a :: b :: r, h =>
    have h : b = (30, 0, []) := Option.some.inj h
    subst h
    show slS (a :: (30, L, []) :: r) = slS (a :: (30, 0, []) :: r) + L
    simp [slS]
    omega
theorem dOf_at {r1 : Nat → Int} {dl : DL} {a i : Nat} (h : a ≠ 1) : dOf r1 dl a i = gD dl a i := by
  unfold dOf
  rw [if_neg h]
theorem getD_set {dl : DL} {a b : Nat} {r : List Int} (h : a < dl.length) : (dl.set a r).getD b [] = if b = a then r else dl.getD b [] := by
  rw [List.getD_eq_getElem?_getD, List.getElem?_set]
  by_cases q : a = b
  · rw [if_pos q, if_pos h, if_pos q.symm]
    rfl
  · rw [if_neg q, if_neg (fun z => q z.symm), ← List.getD_eq_getElem?_getD]
theorem getD_app {dl : DL} {b : Nat} {r : List Int} : (dl ++ [r]).getD b [] = if b = dl.length then r else dl.getD b [] := by
  rw [List.getD_eq_getElem?_getD, List.getElem?_append]
  by_cases q : b < dl.length
  · rw [if_pos q, if_neg (by omega), ← List.getD_eq_getElem?_getD]
  · rw [if_neg q]
    by_cases q2 : b = dl.length
    · rw [if_pos q2, q2, Nat.sub_self]
      rfl
    · rw [if_neg q2, List.getElem?_eq_none (by simp; omega), List.getD_eq_getElem?_getD, List.getElem?_eq_none (by omega)]
theorem updD_ok {r1 : Nat → Int} {dl dl' : DL} {a i : Nat} {v : Int} (h : updD dl a i v = some dl') : dOf r1 dl' = ups (dOf r1 dl) a i v := by
  unfold updD at h
  split at h
  · rename_i r hr
    split at h
    · rename_i hb
      rw [Bool.and_eq_true, Nat.blt_eq, Bool.not_eq_true'] at hb
      have ha1 : a ≠ 1 := fun q => by rw [q] at hb; exact absurd hb.2 (by decide)
      cases h
      have hal := (List.getElem?_eq_some_iff.mp hr).1
      have hrow : dl.getD a [] = r := by rw [List.getD_eq_getElem?_getD, hr]; rfl
      funext b j
      unfold ups rset dOf gD
      by_cases hb1 : b = 1
      · rw [if_pos hb1, if_pos hb1, if_neg (by omega)]
      · rw [if_neg hb1, if_neg hb1, if_neg ha1, getD_set hal]
        by_cases hab : b = a
        · rw [if_pos hab, if_pos hab, hrow]
          unfold fset
          rw [List.getD_eq_getElem?_getD, List.getElem?_set]
          by_cases hij : i = j
          · rw [if_pos hij, if_pos hb.1, if_pos hij.symm]
            rfl
          · rw [if_neg hij, if_neg (fun q => hij q.symm), ← List.getD_eq_getElem?_getD]
        · rw [if_neg hab, if_neg hab]
    · cases h
  · cases h
theorem dOf_new {r1 : Nat → Int} {dl : DL} {n m : Nat} (hl : dl.length = n) (h2 : 2 ≤ n) : dOf r1 (dl ++ [List.replicate m 0]) = rset (dOf r1 dl) n (fun _ => 0) := by
  funext b j
  unfold rset dOf gD
  by_cases hb1 : b = 1
  · rw [if_pos hb1, if_neg (by omega), if_pos hb1]
  · rw [if_neg hb1, if_neg hb1, getD_app, hl]
    by_cases hb : b = n
    · rw [if_pos hb, if_pos hb, List.getD_eq_getElem?_getD, List.getElem?_replicate]
      split <;> rfl
    · rw [if_neg hb, if_neg hb]
theorem cmpB_ok {c : Jvm.ClassFile.Cond} {x y : Int} : (cmpB c x y = true → cmpI c x y) ∧ (cmpB c x y = false → ¬ cmpI c x y) := by
  cases c <;> unfold cmpB cmpI <;> simp
theorem swL_ok {K : Int → Prop} {df x : Int} : ∀ {ps : List (Int × Int)}, K (swL df x ps) → swC K df x ps
  | [], h => h
  | (v, t) :: r, h => by
    unfold swL at h
    split at h
    · rename_i hb
      exact ⟨fun _ => h, fun q => absurd (of_decide_eq_true hb) q⟩
    · rename_i hb
      exact ⟨fun q => absurd q (of_decide_eq_false hb), fun _ => swL_ok h⟩
theorem inB_ok {i n : Int} (h : inB i n = true) : 0 ≤ i ∧ i < n := by
  unfold inB at h
  rw [Bool.and_eq_true, decide_eq_true_eq, decide_eq_true_eq] at h
  exact h
