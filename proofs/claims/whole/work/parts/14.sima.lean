/-! a step of the numbers is a step of the machine: locals and the stack -/
def lvl (ρ : Nat → Nat) (ls : List V) : List (Nat × Value) := ls.zipIdx.filterMap (fun q => match q.1 with
  | .inr (.inr (.inr _)) => none
  | v => some (q.2, rV ρ v))
theorem lvl_mem {ρ : Nat → Nat} {ls : List V} {q : Nat × Value} : q ∈ lvl ρ ls ↔ ∃ v, ls[q.1]? = some v ∧ v ≠ vU ∧ q.2 = rV ρ v := by
  unfold lvl
  rw [List.mem_filterMap]
  constructor
  · rintro ⟨⟨v, i⟩, hm, hq⟩
    have hi : ls[i]? = some v := by
      rw [List.mem_zipIdx_iff_getElem?] at hm
      exact hm
    rcases v with x | x | a | u
    · cases hq; exact ⟨_, hi, by simp, rfl⟩
    · cases hq; exact ⟨_, hi, by simp, rfl⟩
    · cases hq; exact ⟨_, hi, by simp, rfl⟩
    · cases hq
  · rintro ⟨v, hi, hv, e⟩
    refine ⟨(v, q.1), ?_, ?_⟩
    · rw [List.mem_zipIdx_iff_getElem?]
      exact hi
    · rcases v with x | x | a | u
      · exact congrArg some (Prod.ext rfl e.symm : (q.1, rV ρ (vI x)) = q)
      · exact congrArg some (Prod.ext rfl e.symm : (q.1, rV ρ (vL x)) = q)
      · exact congrArg some (Prod.ext rfl e.symm : (q.1, rV ρ (vR a)) = q)
      · exact absurd rfl hv
def LV (ρ : Nat → Nat) (n : Nat) (lsr : Array Slot) (ls : List V) : Prop := ls.length = n ∧ lv_has lsr n (lvl ρ ls)
theorem LV.at {ρ : Nat → Nat} {n : Nat} {lsr : Array Slot} {ls : List V} (h : LV ρ n lsr ls) {i : Nat} {v : V} (hi : ls[i]? = some v) (hv : v ≠ vU) : lsr[i]? = some (.val (rV ρ v)) := h.2.2.2 (i, rV ρ v) (lvl_mem.mpr ⟨v, hi, hv, rfl⟩)
theorem LV.lt {ρ : Nat → Nat} {n : Nat} {lsr : Array Slot} {ls : List V} (h : LV ρ n lsr ls) {i : Nat} {v : V} (hi : ls[i]? = some v) : i < n := by
  rw [← h.1]
  exact (List.getElem?_eq_some_iff.mp hi).1
theorem LV.agree {n m : Nat} {ρ ρ' : Nat → Nat} (ha : ∀ a, a < m → ρ' a = ρ a) {lsr : Array Slot} {ls : List V} (hk : okVs m ls) (h : LV ρ n lsr ls) : LV ρ' n lsr ls := by
  refine ⟨h.1, h.2.1, h.2.2.1, fun q hq => ?_⟩
  obtain ⟨v, h1, h2, h3⟩ := lvl_mem.mp hq
  exact h.2.2.2 q (lvl_mem.mpr ⟨v, h1, h2, by rw [h3, rV_agree ha (hk v (List.mem_of_getElem? h1))]⟩)
/-- where the longs stand -/
def lgOK (lg : List Nat) (ls : List V) : Prop := ∀ i x, ls[i]? = some (vL x) → i ∈ lg
theorem rV_cat {ρ : Nat → Nat} {v : V} : (rV ρ v).category = catV v := by
  rcases v with x | x | a | u
  · rfl
  · rfl
  · show (adV ρ a).category = 1
    unfold adV
    split <;> rfl
  · rfl
theorem kill_of {v : V} (h : ∀ x, v ≠ vL x) : kill v = v := by
  rcases v with x | x | a | u
  · rfl
  · exact absurd rfl (h x)
  · rfl
  · rfl
/-- a store of one word -/
theorem LV.st1 {ρ : Nat → Nat} {n : Nat} {lsr lsr' : Array Slot} {ls : List V} {lg : List Nat} {i : Nat} {v : V} (h : LV ρ n lsr ls) (hg : lgOK lg ls) (hv : catV v = 1) (hi : i < n)
    (h' : lv_has lsr' n ((i, rV ρ v) :: (lvl ρ ls).filter (fun q => !(q.1 == i) && !(q.1 + 1 == i && q.2.category == 2)))) : LV ρ n lsr' (stL lg ls i v) ∧ lgOK lg (stL lg ls i v) := by
  have key : ∀ j w, (stL lg ls i v)[j]? = some w → w ≠ vU → (j = i ∧ w = v) ∨ (j ≠ i ∧ ls[j]? = some w ∧ ¬ (j + 1 = i ∧ catV w = 2)) := by
    intro j w hj hw
    unfold stL at hj
    by_cases hji : j = i
    · subst hji
      left
      refine ⟨rfl, ?_⟩
      split at hj <;> rw [List.getElem?_set_self (by first | (rw [List.length_set, h.1]; exact hi) | (rw [h.1]; exact hi))] at hj <;> exact (Option.some.inj hj).symm
    · right
      refine ⟨hji, ?_⟩
      split at hj
      · rename_i hb
        rw [List.getElem?_set_ne (Ne.symm hji)] at hj
        rw [Bool.and_eq_true] at hb
        have hi0 : 0 < i := Nat.blt_eq.mp hb.2
        by_cases hj1 : i - 1 = j
        · subst hj1
          rw [List.getElem?_set_self (by rw [h.1]; omega)] at hj
          have e := Option.some.inj hj
          rw [List.getD_eq_getElem?_getD] at e
          cases hc : ls[i - 1]? with
          | none => exact absurd (List.getElem?_eq_none_iff.mp hc) (by rw [h.1]; omega)
          | some z =>
            rw [hc] at e
            have e : kill z = w := e
            rcases z with x | x | a | u
            · subst e; exact ⟨rfl, by intro q; simp [kill, catV] at q⟩
            · exact absurd e.symm hw
            · subst e; exact ⟨rfl, by intro q; simp [kill, catV] at q⟩
            · exact absurd e.symm hw
        · rw [List.getElem?_set_ne hj1] at hj
          exact ⟨hj, fun q => hj1 (by omega)⟩
      · rename_i hb
        rw [List.getElem?_set_ne (Ne.symm hji)] at hj
        refine ⟨hj, fun q => ?_⟩
        rcases w with x | x | a | u
        · exact absurd q.2 (by simp [catV])
        · have hm := hg j x hj
          rw [Bool.and_eq_false_iff] at hb
          rcases hb with hb | hb
          · rw [show i - 1 = j by omega] at hb
            rw [List.contains_iff_mem.mpr hm] at hb
            exact absurd hb (by simp)
          · exact absurd (Nat.blt_eq.mpr (show 0 < i by omega)) (by rw [hb]; simp)
        · exact absurd q.2 (by simp [catV])
        · exact absurd q.2 (by simp [catV])
  have hlen : (stL lg ls i v).length = n := by
    unfold stL
    split <;> simp [h.1]
  refine ⟨⟨hlen, h'.1, h'.2.1, fun q hq => ?_⟩, fun j x hj => ?_⟩
  · obtain ⟨w, h1, h2, h3⟩ := lvl_mem.mp hq
    apply h'.2.2
    rcases key q.1 w h1 h2 with ⟨e1, e2⟩ | ⟨e1, e2, e3⟩
    · rw [show q = (i, rV ρ v) from Prod.ext e1 (by rw [h3, e2])]
      exact List.mem_cons_self
    · refine List.mem_cons_of_mem _ (List.mem_filter.mpr ⟨lvl_mem.mpr ⟨w, e2, h2, h3⟩, ?_⟩)
      rw [h3, rV_cat]
      simp only [Bool.and_eq_true, Bool.not_eq_true', beq_eq_false_iff_ne, Bool.and_eq_false_iff]
      refine ⟨e1, ?_⟩
      by_cases z : q.1 + 1 = i
      · exact Or.inr (fun y => e3 ⟨z, y⟩)
      · exact Or.inl z
  · rcases key j _ hj (by simp) with ⟨e1, e2⟩ | ⟨e1, e2, e3⟩
    · rw [← e2] at hv
      exact absurd hv (by simp [catV])
    · exact hg j x e2
/-- a store of two words -/
theorem LV.st2 {ρ : Nat → Nat} {n : Nat} {lsr lsr' : Array Slot} {ls : List V} {lg : List Nat} {i : Nat} {x : Int} (h : LV ρ n lsr ls) (hg : lgOK lg ls) (hm : i ∈ lg) (hi : i + 1 < n)
    (h' : lv_has lsr' n ((i, rV ρ (vL x)) :: (lvl ρ ls).filter (fun q => !(q.1 == i) && (!(q.1 == i + 1) && !(q.1 + 1 == i && q.2.category == 2))))) : LV ρ n lsr' ((stL lg ls i (vL x)).set (i + 1) vU) ∧ lgOK lg ((stL lg ls i (vL x)).set (i + 1) vU) := by
  have key : ∀ j w, ((stL lg ls i (vL x)).set (i + 1) vU)[j]? = some w → w ≠ vU → (j = i ∧ w = vL x) ∨ (j ≠ i ∧ j ≠ i + 1 ∧ ls[j]? = some w ∧ ¬ (j + 1 = i ∧ catV w = 2)) := by
    intro j w hj hw
    have hlen : (stL lg ls i (vL x)).length = n := by
      unfold stL
      split <;> simp [h.1]
    by_cases hj2 : j = i + 1
    · subst hj2
      rw [List.getElem?_set_self (by omega)] at hj
      exact absurd (Option.some.inj hj).symm hw
    · rw [List.getElem?_set_ne (Ne.symm hj2)] at hj
      unfold stL at hj
      by_cases hji : j = i
      · subst hji
        left
        refine ⟨rfl, ?_⟩
        split at hj <;> rw [List.getElem?_set_self (by first | (rw [List.length_set, h.1]; omega) | (rw [h.1]; omega))] at hj <;> exact (Option.some.inj hj).symm
      · right
        refine ⟨hji, hj2, ?_⟩
        split at hj
        · rename_i hb
          rw [List.getElem?_set_ne (Ne.symm hji)] at hj
          rw [Bool.and_eq_true] at hb
          have hi0 : 0 < i := Nat.blt_eq.mp hb.2
          by_cases hj1 : i - 1 = j
          · subst hj1
            rw [List.getElem?_set_self (by rw [h.1]; omega)] at hj
            have e := Option.some.inj hj
            rw [List.getD_eq_getElem?_getD] at e
            cases hc : ls[i - 1]? with
            | none => exact absurd (List.getElem?_eq_none_iff.mp hc) (by rw [h.1]; omega)
            | some z =>
              rw [hc] at e
              have e : kill z = w := e
              rcases z with y | y | a | u
              · subst e; exact ⟨rfl, by intro q; simp [kill, catV] at q⟩
              · exact absurd e.symm hw
              · subst e; exact ⟨rfl, by intro q; simp [kill, catV] at q⟩
              · exact absurd e.symm hw
          · rw [List.getElem?_set_ne hj1] at hj
            exact ⟨hj, fun q => hj1 (by omega)⟩
        · rename_i hb
          rw [List.getElem?_set_ne (Ne.symm hji)] at hj
          refine ⟨hj, fun q => ?_⟩
          rcases w with y | y | a | u
          · exact absurd q.2 (by simp [catV])
          · have hm := hg j y hj
            rw [Bool.and_eq_false_iff] at hb
            rcases hb with hb | hb
            · rw [show i - 1 = j by omega] at hb
              rw [List.contains_iff_mem.mpr hm] at hb
              exact absurd hb (by simp)
            · exact absurd (Nat.blt_eq.mpr (show 0 < i by omega)) (by rw [hb]; simp)
          · exact absurd q.2 (by simp [catV])
          · exact absurd q.2 (by simp [catV])
  have hlen : ((stL lg ls i (vL x)).set (i + 1) vU).length = n := by
    unfold stL
    split <;> simp [h.1]
  refine ⟨⟨hlen, h'.1, h'.2.1, fun q hq => ?_⟩, fun j y hj => ?_⟩
  · obtain ⟨w, h1, h2, h3⟩ := lvl_mem.mp hq
    apply h'.2.2
    rcases key q.1 w h1 h2 with ⟨e1, e2⟩ | ⟨e1, e0, e2, e3⟩
    · rw [show q = (i, rV ρ (vL x)) from Prod.ext e1 (by rw [h3, e2])]
      exact List.mem_cons_self
    · refine List.mem_cons_of_mem _ (List.mem_filter.mpr ⟨lvl_mem.mpr ⟨w, e2, h2, h3⟩, ?_⟩)
      rw [h3, rV_cat]
      simp only [Bool.and_eq_true, Bool.not_eq_true', beq_eq_false_iff_ne, Bool.and_eq_false_iff]
      refine ⟨e1, e0, ?_⟩
      by_cases z : q.1 + 1 = i
      · exact Or.inr (fun y => e3 ⟨z, y⟩)
      · exact Or.inl z
  · rcases key j _ hj (by simp) with ⟨e1, e2⟩ | ⟨e1, e0, e2, e3⟩
    · rw [e1]; exact hm
    · exact hg j y e2
theorem okVs.st {n : Nat} {ls : List V} {lg : List Nat} {i : Nat} {v : V} (h : okVs n ls) (hv : okV n v) : okVs n (stL lg ls i v) := by
  intro w hw
  have hk : ∀ z : V, okV n z → okV n (kill z) := by
    intro z hz
    rcases z with x | x | a | u
    · exact hz
    · trivial
    · exact hz
    · trivial
  unfold stL at hw
  split at hw
  · rcases List.mem_or_eq_of_mem_set hw with q | q
    · rcases List.mem_or_eq_of_mem_set q with q | q
      · exact h w q
      · rw [q]
        apply hk
        rw [List.getD_eq_getElem?_getD]
        cases hc : ls[i - 1]? with
        | none => trivial
        | some z => exact h z (List.mem_of_getElem? hc)
    · rw [q]; exact hv
  · rcases List.mem_or_eq_of_mem_set hw with q | q
    · exact h w q
    · rw [q]; exact hv
