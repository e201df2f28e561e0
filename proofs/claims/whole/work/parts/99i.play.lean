/-! a row of deeds played: by deeds, and minute by minute -/
def tryS (e : Dat) (Q : Row) (q o : Int) : Option Row := if hasS e q o = true ∧ canS e Q q o.toNat = true then some (doesS e Q q o.toNat) else none
def passS (e : Dat) (m : Nat) (Q : Row) : Option Row := if mins e m Q 224 = Q 224 then some (mins e m Q) else none
def stpS (e : Dat) (D W : Row) (g n dp c : Nat) (Q : Row) : Option Row := (tryS e Q (D c) (W c)).bind (passS e (min g (n - dp * g)))
def evS (e : Dat) (g n : Nat) (w0 : Int) (dp : Nat) (Q : Row) : Option Int := (passS e (n - dp * g - min g (n - dp * g)) Q).map (fun Q2 => wr (worthW e Q2 - w0))
def plS (e : Dat) (D W : Row) (g n : Nat) : List Nat → Nat → Row → Option Row
  | [], _, Q => some Q
  | c :: r, dp, Q => (stpS e D W g n dp c Q).bind (plS e D W g n r (dp + 1))
def mgS (e : Dat) (D W : Row) (g : Nat) (x : List Nat) (f0 : Int) (t : Nat) (o : Option Row) : Option Row := o.bind (fun Q => (if t % g = 0 ∧ t / g < x.length then tryS e Q (D (x.getD (t / g) 0)) (W (x.getD (t / g) 0)) else some Q).bind (fun Q1 => if minS e Q1 224 = f0 then some (minS e Q1) else none))
def valS (e : Dat) (D W : Row) (g n : Nat) (P : Row) (x : List Nat) : Int := match iterN (mgS e D W g x (P 224)) n (some P) with
  | none => -1
  | some Q => wr (worthW e Q - worthW e P)
theorem plS_a {e : Dat} {D W : Row} {g n : Nat} {c : Nat} : ∀ (r : List Nat) (dp : Nat) (Q : Row), plS e D W g n (r ++ [c]) dp Q = (plS e D W g n r dp Q).bind (stpS e D W g n (dp + r.length) c)
  | [], dp, Q => by
    show (stpS e D W g n dp c Q).bind (fun Q => some Q) = stpS e D W g n dp c Q
    cases stpS e D W g n dp c Q <;> rfl
  | q :: r, dp, Q => by
    show (stpS e D W g n dp q Q).bind (plS e D W g n (r ++ [c]) (dp + 1)) = ((stpS e D W g n dp q Q).bind (plS e D W g n r (dp + 1))).bind _
    cases stpS e D W g n dp q Q with
    | none => rfl
    | some Q1 =>
      show plS e D W g n (r ++ [c]) (dp + 1) Q1 = (plS e D W g n r (dp + 1) Q1).bind _
      rw [plS_a r (dp + 1) Q1, List.length_cons, show dp + 1 + r.length = dp + (r.length + 1) by omega]
theorem mg_no {e : Dat} {D W : Row} {g : Nat} {x : List Nat} {f0 : Int} {s : Option Row} {t : Nat} (h : iterN (mgS e D W g x f0) t s = none) : ∀ j, iterN (mgS e D W g x f0) (t + j) s = none
  | 0 => h
  | j + 1 => by
    show mgS e D W g x f0 (t + j) (iterN (mgS e D W g x f0) (t + j) s) = none
    rw [mg_no h j]
    rfl
/-- a land that may be played on: m minutes may pass -/
def PO (e : Dat) (Q : Row) (m : Nat) : Prop := NI e Q ∧ Q 285 + m ≤ 600 ∧ Q 224 + 14 * m ≤ 19000
theorem PO_le {e : Dat} {Q : Row} {m k : Nat} (h : PO e Q m) (hk : k ≤ m) : PO e Q k := ⟨h.1, by have := h.2.1; omega, by have := h.2.2; omega⟩
section
variable {e : Dat} {D W P : Row} {g n : Nat}
theorem try_P {Q Q1 : Row} {q o : Int} {m : Nat} (hE : WE e) (hq : 0 ≤ q ∧ q ≤ 5) (h : PO e Q m) (ht : tryS e Q q o = some Q1) : PO e Q1 m ∧ Q1 224 = Q 224 ∧ Q1 285 = Q 285 ∧ (∀ P, HF P Q → HF P Q1) := by
  unfold tryS at ht
  by_cases c : hasS e q o = true ∧ canS e Q q o.toNat = true
  · rw [if_pos c] at ht
    have ht := Option.some.inj ht
    subst ht
    obtain ⟨d1, d2⟩ := does_MI hE h.1.1 hq c.1 c.2
    have e1 := d2 224 (by omega)
    have e2 := d2 285 (by omega)
    refine ⟨⟨⟨d1, fun l hl z => ?_⟩, by rw [e2]; exact h.2.1, by rw [e1]; exact h.2.2⟩, e1, e2, fun P hP => HF_do hE hq c.1 hP⟩
    rw [d2 _ (by omega)] at z
    rw [d2 (172 + l) (by omega), e2]
    exact h.1.2 l hl z
  · rw [if_neg c] at ht
    cases ht
theorem mins_P {Q : Row} {m k : Nat} (hE : WE e) (h : PO e Q (m + k)) : PO e (mins e m Q) k ∧ mins e m Q 285 = Q 285 + m ∧ Q 224 ≤ mins e m Q 224 := by
  obtain ⟨i1, i2, i3⟩ := mins_NI hE h.1 m (by have := h.2.1; omega) (by have := h.2.2; omega)
  refine ⟨⟨i1, ?_, ?_⟩, i2, i3.1⟩
  · have := h.2.1
    omega
  · have := h.2.2
    omega
theorem mins_HF {Q : Row} (hE : WE e) {P : Row} (h : HF P Q) : ∀ m, HF P (mins e m Q)
  | 0 => h
  | m + 1 => HF_min hE (mins_HF hE h m)
theorem pass_P {Q Q1 : Row} {m k : Nat} (hE : WE e) (h : PO e Q (m + k)) (hp : passS e m Q = some Q1) : PO e Q1 k ∧ Q1 224 = Q 224 ∧ Q1 285 = Q 285 + m ∧ (∀ P, HF P Q → HF P Q1) := by
  obtain ⟨a1, a2, a3⟩ := mins_P hE h
  unfold passS at hp
  by_cases c : mins e m Q 224 = Q 224
  · rw [if_pos c] at hp
    have hp := Option.some.inj hp
    subst hp
    exact ⟨a1, c, a2, fun P hP => mins_HF hE hP m⟩
  · rw [if_neg c] at hp
    cases hp
theorem pass_s {Q : Row} {m : Nat} (hE : WE e) (h : PO e Q (m + 1)) : (passS e m Q).bind (fun Q2 => if minS e Q2 224 = Q 224 then some (minS e Q2) else none) = passS e (m + 1) Q := by
  obtain ⟨a1, a2, a3⟩ := mins_P (m := m) (k := 1) hE h
  have b := min_MI hE a1.1.1 a1.1.2 (by have := a1.2.1; omega) (by have := a1.2.2; omega)
  have e1 : mins e (m + 1) Q = minS e (mins e m Q) := rfl
  unfold passS
  rw [e1]
  by_cases c : mins e m Q 224 = Q 224
  · rw [if_pos c]
    rfl
  · rw [if_neg c, if_neg (by have := b.2.2.2.1; omega)]
    rfl
theorem pass_2 {Q : Row} {a : Nat} (hE : WE e) : ∀ b, PO e Q (a + b) → passS e (a + b) Q = (passS e a Q).bind (passS e b)
  | 0, h => by
    have : passS e 0 = fun Q => some Q := by
      funext Q
      exact if_pos rfl
    rw [this]
    cases passS e (a + 0) Q <;> rfl
  | b + 1, h => by
    have ih := pass_2 hE b (PO_le (m := a + (b + 1)) (k := a + b) h (by omega))
    rw [← Nat.add_assoc, ← pass_s hE (m := a + b) (by rw [Nat.add_assoc]; exact h), ih]
    cases hp : passS e a Q with
    | none => rfl
    | some Q1 =>
      obtain ⟨p1, p2, p3, p4⟩ := pass_P hE h hp
      show (passS e b Q1).bind _ = passS e (b + 1) Q1
      rw [← pass_s hE p1, p2]
/-- from a deed on, minute by minute -/
theorem mg_B {x : List Nat} {Q : Row} {k m : Nat} (hE : WE e) (hD : ∀ c, 0 ≤ D c ∧ D c ≤ 5) (hg : 1 ≤ g) (hk : k < x.length) (hQ : iterN (mgS e D W g x (P 224)) (k * g) (some P) = some Q) (hP : PO e Q m) (h2 : Q 224 = P 224) : ∀ j, j + 1 ≤ m → (j + 1 ≤ g ∨ k + 1 = x.length) → iterN (mgS e D W g x (P 224)) (k * g + (j + 1)) (some P) = (tryS e Q (D (x.getD k 0)) (W (x.getD k 0))).bind (passS e (j + 1)) := by
  intro j
  induction j with
  | zero =>
    intro hj _
    show mgS e D W g x (P 224) (k * g + 0) (iterN (mgS e D W g x (P 224)) (k * g) (some P)) = _
    rw [hQ]
    unfold mgS
    have e1 : (k * g + 0) % g = 0 := by rw [Nat.add_zero, Nat.mul_mod_left]
    have e2 : (k * g + 0) / g = k := by rw [Nat.add_zero, Nat.mul_div_cancel _ hg]
    rw [e1, e2]
    show Option.bind (if 0 = 0 ∧ k < x.length then tryS e Q (D (x.getD k 0)) (W (x.getD k 0)) else some Q) _ = _
    rw [if_pos ⟨rfl, hk⟩]
    cases ht : tryS e Q (D (x.getD k 0)) (W (x.getD k 0)) with
    | none => rfl
    | some Q1 =>
      obtain ⟨p1, p2, p3, p4⟩ := try_P hE (hD _) hP ht
      have ps := pass_s (m := 0) hE (PO_le p1 (by omega))
      have p0 : passS e 0 Q1 = some Q1 := if_pos rfl
      rw [p0, p2, h2] at ps
      exact ps
  | succ j ih =>
    intro hj hj2
    have ih := ih (by omega) (by rcases hj2 with z | z; exact Or.inl (by omega); exact Or.inr z)
    have hc : ¬ ((k * g + (j + 1)) % g = 0 ∧ (k * g + (j + 1)) / g < x.length) := by
      rintro ⟨z1, z2⟩
      rcases hj2 with z | z
      · rw [Nat.mul_comm, Nat.mul_add_mod, Nat.mod_eq_of_lt (by omega)] at z1
        omega
      · have dm := Nat.div_add_mod (k * g + (j + 1)) g
        rw [z1] at dm
        have l1 : (k * g + (j + 1)) / g ≤ k := by omega
        have l2 := Nat.mul_le_mul_left g l1
        rw [Nat.mul_comm g k] at l2
        omega
    show mgS e D W g x (P 224) (k * g + (j + 1)) (iterN (mgS e D W g x (P 224)) (k * g + (j + 1)) (some P)) = _
    rw [ih]
    cases ht : tryS e Q (D (x.getD k 0)) (W (x.getD k 0)) with
    | none => rfl
    | some Q1 =>
      obtain ⟨p1, p2, p3, p4⟩ := try_P hE (hD _) hP ht
      have ps := pass_s (m := j + 1) hE (PO_le p1 (by omega))
      show mgS e D W g x (P 224) (k * g + (j + 1)) (passS e (j + 1) Q1) = passS e (j + 1 + 1) Q1
      rw [← ps]
      unfold mgS
      cases passS e (j + 1) Q1 with
      | none => rfl
      | some Q2 =>
        show Option.bind (if (k * g + (j + 1)) % g = 0 ∧ (k * g + (j + 1)) / g < x.length then tryS e Q2 (D (x.getD ((k * g + (j + 1)) / g) 0)) (W (x.getD ((k * g + (j + 1)) / g) 0)) else some Q2) _ = _
        rw [if_neg hc, p2, h2]
theorem getD_m {y z : List Nat} {c : Nat} : (y ++ c :: z).getD y.length 0 = c := by
  rw [List.getD_eq_getElem?_getD, List.getElem?_append_right (Nat.le_refl _), Nat.sub_self]
  rfl
theorem mg_A (hE : WE e) (hD : ∀ c, 0 ≤ D c ∧ D c ≤ 5) (hg : 1 ≤ g) (hn : 3 * g < n) (hP : PO e P n) : ∀ (m : Nat) (r z : List Nat) (Q : Row), r.length = m → m ≤ 3 → plS e D W g n r 0 P = some Q → iterN (mgS e D W g (r ++ z) (P 224)) (m * g) (some P) = some Q ∧ PO e Q (n - m * g) ∧ Q 224 = P 224 ∧ Q 285 = P 285 + ((m * g : Nat) : Int) ∧ HF P Q := by
  intro m
  induction m with
  | zero =>
    intro r z Q hl _ h
    have : r = [] := List.length_eq_zero_iff.mp hl
    subst this
    have h := Option.some.inj h
    subst h
    rw [Nat.zero_mul]
    exact ⟨rfl, by simpa using hP, rfl, by simp, HF_rf⟩
  | succ m ih =>
    intro r z Q hl h3 h
    obtain ⟨y, c, rfl⟩ : ∃ y c, r = y ++ [c] := ⟨r.dropLast, r.getLast (by intro q; rw [q] at hl; cases hl), (List.dropLast_concat_getLast _).symm⟩
    have hy : y.length = m := by simpa using hl
    rw [plS_a, Nat.zero_add, hy] at h
    cases hq : plS e D W g n y 0 P with
    | none =>
      rw [hq] at h
      cases h
    | some Qy =>
      rw [hq] at h
      have h : stpS e D W g n m c Qy = some Q := h
      obtain ⟨i1, i2, i3, i4, i5⟩ := ih y (c :: z) Qy hy (by omega) hq
      have mg3 : (m + 1) * g ≤ 3 * g := Nat.mul_le_mul_right g h3
      have e1 : (m + 1) * g = m * g + g := Nat.succ_mul m g
      have mn : min g (n - m * g) = g := Nat.min_eq_left (by omega)
      unfold stpS at h
      rw [mn] at h
      have gd : (y ++ c :: z).getD m 0 = c := by rw [← hy]; exact getD_m
      have b := mg_B (x := y ++ c :: z) (k := m) (m := n - m * g) hE hD hg (by rw [List.length_append, List.length_cons]; omega) i1 i2 i3 (g - 1) (by omega) (Or.inl (by omega))
      rw [gd, show g - 1 + 1 = g by omega, h, ← e1] at b
      cases ht : tryS e Qy (D c) (W c) with
      | none =>
        rw [ht] at h
        cases h
      | some Q1 =>
        rw [ht] at h
        have h : passS e g Q1 = some Q := h
        obtain ⟨p1, p2, p3, p4⟩ := try_P hE (hD _) i2 ht
        obtain ⟨q1, q2, q3, q4⟩ := pass_P (m := g) (k := n - m * g - g) hE (by rw [show g + (n - m * g - g) = n - m * g by omega]; exact p1) h
        refine ⟨by rw [List.append_assoc]; exact b, by rw [e1, show n - (m * g + g) = n - m * g - g by omega]; exact q1, by rw [q2, p2, i3], by rw [q3, p3, i4, e1]; omega, q4 _ (p4 _ i5)⟩
theorem val_n (hE : WE e) (hD : ∀ c, 0 ≤ D c ∧ D c ≤ 5) (hg : 1 ≤ g) (hn : 3 * g < n) (hP : PO e P n) (r : List Nat) (c : Nat) (z : List Nat) (Q : Row) (hl : r.length < 4) (hp : plS e D W g n r 0 P = some Q) (hs : stpS e D W g n r.length c Q = none) : valS e D W g n P (r ++ c :: z) = -1 := by
  obtain ⟨i1, i2, i3, i4, i5⟩ := mg_A hE hD hg hn hP r.length r (c :: z) Q rfl (by omega) hp
  have mg3 : r.length * g ≤ 3 * g := Nat.mul_le_mul_right g (by omega)
  have f1 : 1 ≤ min g (n - r.length * g) := Nat.le_min.mpr ⟨hg, by omega⟩
  have f2 : min g (n - r.length * g) ≤ n - r.length * g := Nat.min_le_right _ _
  have f3 : min g (n - r.length * g) ≤ g := Nat.min_le_left _ _
  unfold stpS at hs
  generalize min g (n - r.length * g) = f at *
  have b := mg_B (x := r ++ c :: z) (k := r.length) (m := n - r.length * g) hE hD hg (by rw [List.length_append, List.length_cons]; omega) i1 i2 i3 (f - 1) (by omega) (Or.inl (by omega))
  rw [getD_m, show f - 1 + 1 = f by omega, hs] at b
  have no := mg_no b (n - (r.length * g + f))
  rw [show r.length * g + f + (n - (r.length * g + f)) = n by omega] at no
  unfold valS
  rw [no]
theorem val_v (hE : WE e) (hD : ∀ c, 0 ≤ D c ∧ D c ≤ 5) (hg : 1 ≤ g) (hn : 3 * g < n) (hP : PO e P n) (r : List Nat) (c : Nat) (Q Q1 : Row) (hl : r.length < 4) (hp : plS e D W g n r 0 P = some Q) (hs : stpS e D W g n r.length c Q = some Q1) : valS e D W g n P (r ++ [c]) = (evS e g n (worthW e P) r.length Q1).getD (-1) := by
  obtain ⟨i1, i2, i3, i4, i5⟩ := mg_A hE hD hg hn hP r.length r [c] Q rfl (by omega) hp
  have mg3 : r.length * g ≤ 3 * g := Nat.mul_le_mul_right g (by omega)
  have f1 : 1 ≤ min g (n - r.length * g) := Nat.le_min.mpr ⟨hg, by omega⟩
  have f2 : min g (n - r.length * g) ≤ n - r.length * g := Nat.min_le_right _ _
  unfold stpS at hs
  unfold evS
  generalize min g (n - r.length * g) = f at *
  have b := mg_B (x := r ++ [c]) (k := r.length) (m := n - r.length * g) hE hD hg (by rw [List.length_append]; simp) i1 i2 i3 (n - r.length * g - 1) (by omega) (Or.inr (by rw [List.length_append]; rfl))
  rw [getD_m, show n - r.length * g - 1 + 1 = n - r.length * g by omega, show r.length * g + (n - r.length * g) = n by omega] at b
  unfold valS
  rw [b]
  cases ht : tryS e Q (D c) (W c) with
  | none =>
    rw [ht] at hs
    cases hs
  | some Qa =>
    rw [ht] at hs
    have hs : passS e f Qa = some Q1 := hs
    obtain ⟨p1, p2, p3, p4⟩ := try_P hE (hD _) i2 ht
    have p2' := pass_2 (a := f) hE (n - r.length * g - f) (by rw [show f + (n - r.length * g - f) = n - r.length * g by omega]; exact p1)
    rw [show f + (n - r.length * g - f) = n - r.length * g by omega, hs] at p2'
    show (match passS e (n - r.length * g) Qa with | none => (-1 : Int) | some Q => wr (worthW e Q - worthW e P)) = _
    rw [p2']
    show (match passS e (n - r.length * g - f) Q1 with | none => (-1 : Int) | some Q => wr (worthW e Q - worthW e P)) = _
    cases passS e (n - r.length * g - f) Q1 <;> rfl
/-- class and reference plan alike -/
theorem plan_eq (hE : WE e) (hD : ∀ c, 0 ≤ D c ∧ D c ≤ 5) (hg : 1 ≤ g) (hn : 3 * g < n) (hP : PO e P n) {C : Nat} (hC : 0 < C) : extS C (stpS e D W g n) (evS e g n (worthW e P)) 4 [] P (-1, []) = bfS C (valS e D W g n P) 4 := by
  refine plan_same (pl := fun r => plS e D W g n r 0 P) hC rfl (fun r c Q _ h => ?_) (fun r c Q Q1 hl h h2 => val_v hE hD hg hn hP r c Q Q1 hl h h2) (fun r c z Q hl h h2 => val_n hE hD hg hn hP r c z Q hl h h2)
  show plS e D W g n (r ++ [c]) 0 P = _
  rw [plS_a, h, Nat.zero_add]
  rfl
end
