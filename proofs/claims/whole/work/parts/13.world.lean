/-! the real heap's picture of the numbers -/
def adV (ρ : Nat → Nat) (a : Nat) : Value := if a = 0 then .null else .ref (ρ a)
def rV (ρ : Nat → Nat) : V → Value
  | .inl x => .int (Int32.ofInt x)
  | .inr (.inl x) => .long (Int64.ofInt x)
  | .inr (.inr (.inl a)) => adV ρ a
  | .inr (.inr (.inr _)) => .null
def in32 (x : Int) : Prop := -2147483648 ≤ x ∧ x ≤ 2147483647
def in64 (x : Int) : Prop := -9223372036854775808 ≤ x ∧ x ≤ 9223372036854775807
def okV (n : Nat) : V → Prop
  | .inl x => in32 x
  | .inr (.inl x) => in64 x
  | .inr (.inr (.inl a)) => a < n
  | .inr (.inr (.inr _)) => True
def okVs (n : Nat) (vs : List V) : Prop := ∀ v ∈ vs, okV n v
def okd (k : Nat) (x : Int) : Prop := if k = 22 then in64 x else if k = 21 then (x = 0 ∨ x = 1) else in32 x
def okD (sh : Shp) (d : Dat) : Prop := ∀ a i, okd (knd sh a) (d a i)
/-- a cell's refs are known; an object has as many fields as its class; a cell of refs has as many as it is long -/
def okC (n : Nat) (c : Nat × Nat × List Nat) : Prop := (∀ r ∈ c.2.2, r < n) ∧ (c.1 < 12 → c.2.1 = nfN c.1) ∧ (c.1 < 12 ∨ (23 ≤ c.1 ∧ c.1 ≤ 25) → c.2.2.length = c.2.1)
def okSh (sh : Shp) : Prop := (∀ c ∈ sh, okC sh.length c) ∧ ∀ c ∈ sh.drop 10, c.1 < 26
def adQ (ρ : Nat → Nat) (r : Nat) : Option Nat := if r = 0 then none else some (ρ r)
theorem adV_adQ (ρ : Nat → Nat) (r : Nat) : adV ρ r = va_rf (adQ ρ r) := by
  unfold adV adQ
  split <;> rfl
def fvV (ρ : Nat → Nat) (c : Nat) (rs : List Nat) (f : Nat → Int) (j : Nat) : Value := match fTy c j with
  | .int => .int (Int32.ofInt (f j))
  | .boolean => .int (Int32.ofInt (f j))
  | _ => adV ρ (rs.getD j 0)
def fvL (ρ : Nat → Nat) (c n : Nat) (rs : List Nat) (f : Nat → Int) : List Value := (List.range n).map (fvV ρ c rs f)
def eE (ρ : Nat → Nat) (cA : Nat → ClassId) (c : Nat × Nat × List Nat) (f : Nat → Int) : va_E :=
  if c.1 < 12 then .inr (c.1, fvL ρ c.1 c.2.1 c.2.2 f)
  else .inl (cA c.1, c.2.1, if c.1 = 22 then .inr (.inl fun j => Int64.ofInt (f j)) else if c.1 < 22 then .inl (fun j => Int32.ofInt (f j)) else .inr (.inr (.inr (.inr fun j => adQ ρ (c.2.2.getD j 0)))))
def wl (ρ : Nat → Nat) (cA : Nat → ClassId) (sh : Shp) (d : Dat) : va_W := (sh.drop 10).mapIdx (fun i c => (ρ (10 + i), eE ρ cA c (d (10 + i))))
theorem wl_at {ρ : Nat → Nat} {cA : Nat → ClassId} {sh : Shp} {d : Dat} {a : Nat} {c : Nat × Nat × List Nat} (h : sh[a]? = some c) (h10 : 10 ≤ a) : (wl ρ cA sh d)[a - 10]? = some (ρ a, eE ρ cA c (d a)) := by
  unfold wl
  rw [List.getElem?_mapIdx, List.getElem?_drop, show 10 + (a - 10) = a by omega, h]
  rfl
theorem wl_get {ρ : Nat → Nat} {cA : Nat → ClassId} {sh : Shp} {d : Dat} (i : Nat) : (wl ρ cA sh d)[i]? = (sh[10 + i]?).map (fun c => (ρ (10 + i), eE ρ cA c (d (10 + i)))) := by
  unfold wl
  rw [List.getElem?_mapIdx, List.getElem?_drop]
theorem wl_len {ρ : Nat → Nat} {cA : Nat → ClassId} {sh : Shp} {d : Dat} : (wl ρ cA sh d).length = sh.length - 10 := by
  unfold wl
  rw [List.length_mapIdx, List.length_drop]
theorem wl_rset {ρ : Nat → Nat} {cA : Nat → ClassId} {sh : Shp} {d : Dat} {a : Nat} {c : Nat × Nat × List Nat} (h : sh[a]? = some c) (h10 : 10 ≤ a) (g : Nat → Int) : (wl ρ cA sh d).set (a - 10) (ρ a, eE ρ cA c g) = wl ρ cA sh (rset d a g) := by
  apply List.ext_getElem?
  intro i
  rw [List.getElem?_set, wl_get, wl_get]
  by_cases hi : a - 10 = i
  · subst hi
    have hl : a < sh.length := (List.getElem?_eq_some_iff.mp h).1
    rw [if_pos rfl, if_pos (by rw [wl_len]; omega), show 10 + (a - 10) = a by omega, h]
    simp [rset]
  · rw [if_neg hi]
    have : rset d a g (10 + i) = d (10 + i) := by
      unfold rset
      rw [if_neg (by omega)]
    rw [this]
theorem wl_sset {ρ : Nat → Nat} {cA : Nat → ClassId} {sh : Shp} {d : Dat} {a : Nat} {c : Nat × Nat × List Nat} (hl : a < sh.length) (h10 : 10 ≤ a) : (wl ρ cA sh d).set (a - 10) (ρ a, eE ρ cA c (d a)) = wl ρ cA (sh.set a c) d := by
  apply List.ext_getElem?
  intro i
  rw [List.getElem?_set, wl_get, wl_get, List.getElem?_set]
  by_cases hi : a - 10 = i
  · subst hi
    rw [if_pos rfl, if_pos (by rw [wl_len]; omega), show 10 + (a - 10) = a by omega, if_pos rfl, if_pos hl]
    rfl
  · rw [if_neg hi, if_neg (by omega)]
theorem getD_mem {l : List Nat} {n : Nat} (h : ∀ r ∈ l, r < n) (hn : 0 < n) (j : Nat) : l.getD j 0 < n := by
  rw [List.getD_eq_getElem?_getD]
  cases hj : l[j]? with
  | none => simpa using hn
  | some r => simpa using h r (List.mem_of_getElem? hj)
theorem rV_agree {n : Nat} {ρ ρ' : Nat → Nat} (h : ∀ a, a < n → ρ' a = ρ a) {v : V} (hv : okV n v) : rV ρ' v = rV ρ v := by
  rcases v with x | x | a | u
  · rfl
  · rfl
  · show adV ρ' a = adV ρ a
    unfold adV
    rw [h a hv]
  · rfl
theorem rVs_agree {n : Nat} {ρ ρ' : Nat → Nat} (h : ∀ a, a < n → ρ' a = ρ a) {vs : List V} (hv : okVs n vs) : vs.map (rV ρ') = vs.map (rV ρ) := List.map_congr_left (fun v hm => rV_agree h (hv v hm))
theorem eE_agree {n : Nat} {ρ ρ' : Nat → Nat} (h : ∀ a, a < n → ρ' a = ρ a) (hn : 0 < n) {cA : Nat → ClassId} {c : Nat × Nat × List Nat} (hc : ∀ r ∈ c.2.2, r < n) (f : Nat → Int) : eE ρ' cA c f = eE ρ cA c f := by
  have hq : ∀ j, ρ' (c.2.2.getD j 0) = ρ (c.2.2.getD j 0) := fun j => h _ (getD_mem hc hn j)
  unfold eE
  have e1 : fvL ρ' c.1 c.2.1 c.2.2 f = fvL ρ c.1 c.2.1 c.2.2 f := by
    unfold fvL
    apply List.map_congr_left
    intro j _
    unfold fvV adV
    rw [hq j]
  have e2 : (fun j => adQ ρ' (c.2.2.getD j 0)) = (fun j => adQ ρ (c.2.2.getD j 0)) := by
    funext j
    unfold adQ
    rw [hq j]
  rw [e1, e2]
theorem wl_push {ρ ρ' : Nat → Nat} {cA : Nat → ClassId} {sh : Shp} {d : Dat} (h : ∀ a, a < sh.length → ρ' a = ρ a) (h10 : 10 ≤ sh.length) (hs : okSh sh) (c : Nat × Nat × List Nat) (g : Nat → Int) : wl ρ cA sh d ++ [(ρ' sh.length, eE ρ' cA c g)] = wl ρ' cA (sh ++ [c]) (rset d sh.length g) := by
  apply List.ext_getElem?
  intro i
  rw [List.getElem?_append, wl_get, wl_get, wl_len]
  by_cases hi : i < sh.length - 10
  · rw [if_pos hi, List.getElem?_append_left (by omega)]
    have h1 : rset d sh.length g (10 + i) = d (10 + i) := by
      unfold rset
      rw [if_neg (by omega)]
    rw [h1, h _ (by omega)]
    cases hc : sh[10 + i]? with
    | none => rfl
    | some z => rw [Option.map_some, Option.map_some, eE_agree h (by omega) (hs.1 z (List.mem_of_getElem? hc)).1]
  · rw [if_neg hi, List.getElem?_append_right (by omega)]
    by_cases hj : i = sh.length - 10
    · subst hj
      rw [show 10 + (sh.length - 10) = sh.length by omega, Nat.sub_self, Nat.sub_self]
      simp [rset]
    · rw [List.getElem?_eq_none (by simp; omega), List.getElem?_eq_none (by simp; omega)]
      rfl
/-- the cells that stand ahead: null, the script, the kinds' rows, three texts -/
def sh0 (L : Nat) : Shp := [(99, 0, []), (30, L, []), (30, 6, []), (30, 6, []), (30, 6, []), (30, 6, []), (30, 6, []), (31, 23, []), (31, 50, []), (31, 8, [])]
theorem sh0_low {L : Nat} {sh : Shp} (h : sh.take 10 = sh0 L) {a : Nat} (ha : a < 10) : sh[a]? = (sh0 L)[a]? := by
  rw [← h, List.getElem?_take_of_lt ha]
theorem sh0_len {L : Nat} {sh : Shp} (h : sh.take 10 = sh0 L) : 10 ≤ sh.length := by
  have := congrArg List.length h
  rw [List.length_take] at this
  have e : (sh0 L).length = 10 := rfl
  omega
theorem knd_at {sh : Shp} {a k : Nat} (h : knd sh a = k) (hk : k ≠ 99) : ∃ n rs, sh[a]? = some (k, n, rs) ∧ len sh a = n ∧ (∀ j, rfN sh a j = rs.getD j 0) ∧ a < sh.length := by
  unfold knd at h
  cases hc : sh[a]? with
  | none => rw [hc] at h; exact absurd h.symm hk
  | some c =>
    obtain ⟨k', n, rs⟩ := c
    rw [hc] at h
    have h : k' = k := h
    subst h
    exact ⟨n, rs, rfl, by unfold len; rw [hc], fun j => by unfold rfN; rw [hc], (List.getElem?_eq_some_iff.mp hc).1⟩
theorem knd_high {L : Nat} {sh : Shp} (h : sh.take 10 = sh0 L) {a k : Nat} (hk : knd sh a = k) (h99 : k ≠ 99) (h30 : k ≠ 30) (h31 : k ≠ 31) : 10 ≤ a := by
  by_cases ha : a < 10
  · exfalso
    have e : knd sh a = knd (sh0 L) a := by
      unfold knd
      rw [sh0_low h ha]
    have hx : ∀ a, a < 10 → knd (sh0 L) a = 99 ∨ knd (sh0 L) a = 30 ∨ knd (sh0 L) a = 31 := by
      intro a ha
      match a, ha with
      | 0, _ => exact Or.inl rfl
      | 1, _ => exact Or.inr (Or.inl rfl)
      | 2, _ => exact Or.inr (Or.inl rfl)
      | 3, _ => exact Or.inr (Or.inl rfl)
      | 4, _ => exact Or.inr (Or.inl rfl)
      | 5, _ => exact Or.inr (Or.inl rfl)
      | 6, _ => exact Or.inr (Or.inl rfl)
      | 7, _ => exact Or.inr (Or.inr rfl)
      | 8, _ => exact Or.inr (Or.inr rfl)
      | 9, _ => exact Or.inr (Or.inr rfl)
    rcases hx a ha with q | q | q <;> omega
  · omega
