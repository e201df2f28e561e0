/-! the best of the rows: by worth, by fewest, by first -/
def lx : List Nat → List Nat → Prop
  | [], [] => False
  | [], _ :: _ => True
  | _ :: _, [] => False
  | a :: x, b :: y => a < b ∨ (a = b ∧ lx x y)
theorem lx_as : ∀ x y : List Nat, lx x y → lx y x → False
  | [], [], h, _ => h
  | [], _ :: _, _, h => h
  | _ :: _, [], h, _ => h
  | a :: x, b :: y, h, h2 => by
    rcases h with h | ⟨h, h3⟩
    · rcases h2 with h2 | ⟨h2, _⟩ <;> omega
    · rcases h2 with h2 | ⟨_, h4⟩
      · omega
      · exact lx_as x y h3 h4
theorem lx_r : ∀ x r z : List Nat, lx x r → lx x (r ++ z)
  | [], [], _, h => (show False from h).elim
  | [], _ :: _, _, _ => trivial
  | _ :: _, [], _, h => (show False from h).elim
  | a :: x, b :: y, z, h => by
    rcases h with h | ⟨h, h2⟩
    · exact Or.inl h
    · exact Or.inr ⟨h, lx_r x y z h2⟩
theorem lx_e : ∀ (r : List Nat) (c : Nat) (z : List Nat), lx r (r ++ c :: z)
  | [], _, _ => trivial
  | _ :: r, c, z => Or.inr ⟨rfl, lx_e r c z⟩
theorem lx_m {a b : Nat} (h : a < b) : ∀ (r x y : List Nat), lx (r ++ a :: x) (r ++ b :: y)
  | [], _, _ => Or.inl h
  | _ :: r, x, y => Or.inr ⟨rfl, lx_m h r x y⟩
theorem lx_2 : ∀ x y z w : List Nat, lx x y → x.length = y.length → lx (x ++ z) (y ++ w)
  | [], [], _, _, h, _ => (show False from h).elim
  | [], _ :: _, _, _, _, h => by cases h
  | _ :: _, [], _, _, _, h => by cases h
  | a :: x, b :: y, z, w, h, hl => by
    rcases h with h | ⟨h, h2⟩
    · exact Or.inl h
    · exact Or.inr ⟨h, lx_2 x y z w h2 (by simpa using hl)⟩
abbrev Acc : Type := Int × List Nat
def btr (val : List Nat → Int) (b x : List Nat) : Prop := val x < val b ∨ (val x = val b ∧ (b.length < x.length ∨ (b.length = x.length ∧ lx b x)))
def Best (val : List Nat → Int) (acc : Acc) (V : List Nat → Prop) : Prop := (acc = (-1, []) ∧ ∀ r, V r → val r ≤ -1) ∨ (V acc.2 ∧ acc.1 = val acc.2 ∧ -1 < acc.1 ∧ ∀ r, V r → r = acc.2 ∨ btr val acc.2 r)
def cmpA (r : List Nat) (v : Int) (acc : Acc) : Acc := if acc.1 < v ∨ (v = acc.1 ∧ r.length < acc.2.length) then (v, r) else acc
def cmpM (r : List Nat) (v : Int) (acc : Acc) : Acc := if acc.1 < v then (v, r) else acc
def cmpO (r : List Nat) (o : Option Int) (acc : Acc) : Acc := match o with
  | none => acc
  | some v => cmpA r v acc
section
variable {val : List Nat → Int} {acc a b : Acc} {V V2 N : List Nat → Prop} {r : List Nat}
theorem Best_u (ha : Best val a V) (hb : Best val b V) : a = b := by
  rcases ha with ⟨a1, a2⟩ | ⟨a1, a2, a3, a4⟩
  · rcases hb with ⟨b1, b2⟩ | ⟨b1, b2, b3, b4⟩
    · rw [a1, b1]
    · have := a2 _ b1
      omega
  · rcases hb with ⟨b1, b2⟩ | ⟨b1, b2, b3, b4⟩
    · have := b2 _ a1
      omega
    · have key : b.2 = a.2 := by
        rcases a4 _ b1 with e | x
        · exact e
        · rcases b4 _ a1 with e | y
          · exact e.symm
          · exfalso
            unfold btr at x y
            rcases x with x | ⟨x, x2⟩
            · omega
            · rcases y with y | ⟨y, y2⟩
              · omega
              · rcases x2 with x2 | ⟨x2, x3⟩
                · omega
                · rcases y2 with y2 | ⟨y2, y3⟩
                  · omega
                  · exact lx_as _ _ x3 y3
      exact Prod.ext (by rw [a2, b2, key]) key.symm
theorem Best_w (h : Best val acc V) (hv : ∀ x, V2 x ↔ V x ∨ N x) (hn : ∀ x, N x → val x ≤ -1) : Best val acc V2 := by
  rcases h with ⟨a1, a2⟩ | ⟨a1, a2, a3, a4⟩
  · refine Or.inl ⟨a1, fun x hx => ?_⟩
    rcases (hv x).mp hx with y | y
    · exact a2 x y
    · exact hn x y
  · refine Or.inr ⟨(hv _).mpr (Or.inl a1), a2, a3, fun x hx => ?_⟩
    rcases (hv x).mp hx with y | y
    · exact a4 x y
    · have := hn x y
      exact Or.inr (Or.inl (by omega))
theorem Best_i (h : Best val acc V) (hv : ∀ x, V2 x ↔ V x) : Best val acc V2 := Best_w (N := fun _ => False) h (fun x => by rw [hv x]; exact ⟨Or.inl, fun z => z.elim id False.elim⟩) (fun _ z => z.elim)
theorem Best_A (h : Best val acc V) (hl : ∀ x, V x → x.length = r.length → lx x r) (hv : ∀ x, V2 x ↔ V x ∨ x = r) : Best val (cmpA r (val r) acc) V2 := by
  unfold cmpA
  rcases h with ⟨a1, a2⟩ | ⟨a1, a2, a3, a4⟩
  · subst a1
    by_cases c : (-1 : Int) < val r
    · rw [if_pos (Or.inl c)]
      refine Or.inr ⟨(hv _).mpr (Or.inr rfl), rfl, c, fun x hx => ?_⟩
      rcases (hv x).mp hx with y | y
      · have := a2 x y
        exact Or.inr (Or.inl (show val x < val r by omega))
      · exact Or.inl y
    · rw [if_neg (fun z => by
        rcases z with z | z
        · exact c z
        · exact absurd z.2 (Nat.not_lt_zero _))]
      refine Or.inl ⟨rfl, fun x hx => ?_⟩
      rcases (hv x).mp hx with y | y
      · exact a2 x y
      · rw [y]
        omega
  · by_cases c : acc.1 < val r ∨ (val r = acc.1 ∧ r.length < acc.2.length)
    · rw [if_pos c]
      refine Or.inr ⟨(hv _).mpr (Or.inr rfl), rfl, ?_, fun x hx => ?_⟩
      · show -1 < val r
        rcases c with c | c <;> omega
      · rcases (hv x).mp hx with y | y
        · refine Or.inr ?_
          show btr val r x
          unfold btr at *
          rcases a4 x y with z | z
          · subst z
            rcases c with c | c
            · exact Or.inl (by omega)
            · exact Or.inr ⟨by omega, Or.inl c.2⟩
          · rcases c with c | c
            · rcases z with z | z
              · exact Or.inl (by omega)
              · exact Or.inl (by omega)
            · rcases z with z | ⟨z, z2⟩
              · exact Or.inl (by omega)
              · refine Or.inr ⟨by omega, Or.inl ?_⟩
                rcases z2 with z2 | z2 <;> omega
        · exact Or.inl y
    · rw [if_neg c]
      refine Or.inr ⟨(hv _).mpr (Or.inl a1), a2, a3, fun x hx => ?_⟩
      rcases (hv x).mp hx with y | y
      · exact a4 x y
      · subst y
        refine Or.inr ?_
        unfold btr
        by_cases q : val x < val acc.2
        · exact Or.inl q
        · refine Or.inr ⟨?_, ?_⟩
          · have : ¬ acc.1 < val x := fun z => c (Or.inl z)
            omega
          · have e : val x = acc.1 := by
              have : ¬ acc.1 < val x := fun z => c (Or.inl z)
              omega
            have l : ¬ x.length < acc.2.length := fun z => c (Or.inr ⟨e, z⟩)
            by_cases q2 : acc.2.length < x.length
            · exact Or.inl q2
            · have l2 : acc.2.length = x.length := by omega
              exact Or.inr ⟨l2, hl _ a1 l2⟩
theorem Best_M (h : Best val acc V) (hl : ∀ x, V x → x.length < r.length ∨ (x.length = r.length ∧ lx x r)) (hv : ∀ x, V2 x ↔ V x ∨ x = r) : Best val (cmpM r (val r) acc) V2 := by
  have e : cmpM r (val r) acc = cmpA r (val r) acc := by
    unfold cmpM cmpA
    have : ¬ r.length < acc.2.length := by
      rcases h with ⟨a1, a2⟩ | ⟨a1, a2, a3, a4⟩
      · rw [a1]
        exact Nat.not_lt_zero _
      · rcases hl _ a1 with z | z <;> omega
    by_cases c : acc.1 < val r
    · rw [if_pos c, if_pos (Or.inl c)]
    · rw [if_neg c, if_neg (fun z => z.elim c (fun y => this y.2))]
  rw [e]
  exact Best_A h (fun x hx hx2 => by
    rcases hl x hx with z | z
    · omega
    · exact z.2) hv
end
def okR (C : Nat) (x : List Nat) : Prop := x.Nodup ∧ (∀ c, c ∈ x → c < C) ∧ 1 ≤ x.length ∧ x.length ≤ 4
/-- depth first, as the class goes -/
def extS {σ : Type} (C : Nat) (stp : Nat → Nat → σ → Option σ) (ev : Nat → σ → Option Int) : Nat → List Nat → σ → Acc → Acc
  | 0, _, _, acc => acc
  | f + 1, r, Q, acc => iterN (fun c acc => if c ∈ r then acc else match stp r.length c Q with
    | none => acc
    | some Q1 => extS C stp ev f (r ++ [c]) Q1 (cmpO (r ++ [c]) (ev r.length Q1) acc)) C acc
def extF {σ : Type} (C : Nat) (stp : Nat → Nat → σ → Option σ) (ev : Nat → σ → Option Int) (f : Nat) (r : List Nat) (Q : σ) (c : Nat) (acc : Acc) : Acc := if c ∈ r then acc else match stp r.length c Q with
  | none => acc
  | some Q1 => extS C stp ev f (r ++ [c]) Q1 (cmpO (r ++ [c]) (ev r.length Q1) acc)
section
variable {σ : Type} {C f c : Nat} {stp : Nat → Nat → σ → Option σ} {ev : Nat → σ → Option Int} {r : List Nat} {Q Q1 : σ} {acc : Acc}
theorem extS_s : extS C stp ev (f + 1) r Q acc = iterN (extF C stp ev f r Q) C acc := rfl
theorem extF_i (h : c ∈ r) : extF C stp ev f r Q c acc = acc := if_pos h
theorem extF_n (h : ¬ c ∈ r) (hs : stp r.length c Q = none) : extF C stp ev f r Q c acc = acc := by
  unfold extF
  rw [if_neg h, hs]
theorem extF_s (h : ¬ c ∈ r) (hs : stp r.length c Q = some Q1) : extF C stp ev f r Q c acc = extS C stp ev f (r ++ [c]) Q1 (cmpO (r ++ [c]) (ev r.length Q1) acc) := by
  unfold extF
  rw [if_neg h, hs]
end
theorem okR_c {C : Nat} {r z : List Nat} {c : Nat} (h : okR C (r ++ c :: z)) : ¬ c ∈ r ∧ c < C := by
  refine ⟨fun hc => ?_, h.2.1 c (by simp)⟩
  have := List.nodup_append.mp h.1
  exact this.2.2 c hc c (by simp) rfl
theorem dfs_ok {σ : Type} {C : Nat} {stp : Nat → Nat → σ → Option σ} {ev : Nat → σ → Option Int} {val : List Nat → Int} {pl : List Nat → Option σ} (hp : ∀ r c Q, r.length < 4 → pl r = some Q → pl (r ++ [c]) = stp r.length c Q) (hv : ∀ r c Q Q1, r.length < 4 → pl r = some Q → stp r.length c Q = some Q1 → val (r ++ [c]) = (ev r.length Q1).getD (-1)) (hn : ∀ r c z Q, r.length < 4 → pl r = some Q → stp r.length c Q = none → val (r ++ c :: z) = -1) : ∀ f (r : List Nat) (Q : σ), r.length + f = 4 → pl r = some Q → r.Nodup → (∀ c, c ∈ r → c < C) → ∀ (acc : Acc) (V : List Nat → Prop), Best val acc V → (∀ x, V x → lx x r ∨ x = r) → ∃ V2 : List Nat → Prop, Best val (extS C stp ev f r Q acc) V2 ∧ ∀ x, V2 x ↔ V x ∨ (okR C x ∧ ∃ c z, x = r ++ c :: z) := by
  intro f
  induction f with
  | zero =>
    intro r Q hl hpl hr hrc acc V hB hV
    refine ⟨V, hB, fun x => ⟨Or.inl, fun h => ?_⟩⟩
    rcases h with h | ⟨h, c, z, e⟩
    · exact h
    · exfalso
      have := h.2.2.2
      rw [e, List.length_append, List.length_cons] at this
      omega
  | succ f ih =>
    intro r Q hl hpl hr hrc acc V hB hV
    have key : ∀ n, n ≤ C → ∃ Vn : List Nat → Prop, Best val (iterN (fun c acc => if c ∈ r then acc else match stp r.length c Q with
        | none => acc
        | some Q1 => extS C stp ev f (r ++ [c]) Q1 (cmpO (r ++ [c]) (ev r.length Q1) acc)) n acc) Vn ∧ ∀ x, Vn x ↔ V x ∨ (okR C x ∧ ∃ c z, c < n ∧ x = r ++ c :: z) := by
      intro n
      induction n with
      | zero =>
        intro _
        refine ⟨V, hB, fun x => ⟨Or.inl, fun h => ?_⟩⟩
        rcases h with h | ⟨_, c, z, h, _⟩
        · exact h
        · omega
      | succ c ihn =>
        intro hc
        obtain ⟨Vc, hBc, hVc⟩ := ihn (by omega)
        generalize hac : iterN (fun c acc => if c ∈ r then acc else match stp r.length c Q with
          | none => acc
          | some Q1 => extS C stp ev f (r ++ [c]) Q1 (cmpO (r ++ [c]) (ev r.length Q1) acc)) c acc = ac at hBc
        have hst : iterN (fun c acc => if c ∈ r then acc else match stp r.length c Q with
          | none => acc
          | some Q1 => extS C stp ev f (r ++ [c]) Q1 (cmpO (r ++ [c]) (ev r.length Q1) acc)) (c + 1) acc = (if c ∈ r then ac else match stp r.length c Q with
          | none => ac
          | some Q1 => extS C stp ev f (r ++ [c]) Q1 (cmpO (r ++ [c]) (ev r.length Q1) ac)) := by
          rw [← hac]
          rfl
        rw [hst]
        have spl : ∀ x, (okR C x ∧ ∃ q z, q < c + 1 ∧ x = r ++ q :: z) ↔ (okR C x ∧ ∃ q z, q < c ∧ x = r ++ q :: z) ∨ (okR C x ∧ ∃ z, x = r ++ c :: z) := by
          intro x
          constructor
          · rintro ⟨h1, q, z, h2, h3⟩
            by_cases y : q = c
            · subst y
              exact Or.inr ⟨h1, z, h3⟩
            · exact Or.inl ⟨h1, q, z, by omega, h3⟩
          · rintro (⟨h1, q, z, h2, h3⟩ | ⟨h1, z, h3⟩)
            · exact ⟨h1, q, z, by omega, h3⟩
            · exact ⟨h1, c, z, by omega, h3⟩
        by_cases cr : c ∈ r
        · rw [if_pos cr]
          refine ⟨Vc, hBc, fun x => ?_⟩
          rw [hVc x, spl x]
          constructor
          · rintro (h | h)
            · exact Or.inl h
            · exact Or.inr (Or.inl h)
          · rintro (h | h | ⟨h1, z, h3⟩)
            · exact Or.inl h
            · exact Or.inr h
            · rw [h3] at h1
              exact absurd cr (okR_c h1).1
        · rw [if_neg cr]
          cases hs : stp r.length c Q with
          | none =>
            refine ⟨fun x => Vc x ∨ (okR C x ∧ ∃ z, x = r ++ c :: z), Best_w (N := fun x => okR C x ∧ ∃ z, x = r ++ c :: z) hBc (fun x => Iff.rfl) (fun x hx => ?_), fun x => ?_⟩
            · obtain ⟨_, z, e⟩ := hx
              rw [e, hn r c z Q (by omega) hpl hs]
              exact Int.le_refl _
            · show (Vc x ∨ _) ↔ _
              rw [hVc x, spl x, or_assoc]
          | some Q1 =>
            have hVl : ∀ x, Vc x → lx x (r ++ [c]) := by
              intro x hx
              rcases (hVc x).mp hx with y | ⟨_, q, z, y1, y2⟩
              · rcases hV x y with w | w
                · exact lx_r _ _ _ w
                · rw [w]
                  exact lx_e r c []
              · rw [y2]
                exact lx_m y1 r z []
            have hB1 : Best val (cmpO (r ++ [c]) (ev r.length Q1) ac) (fun x => Vc x ∨ x = r ++ [c]) := by
              have hv := hv r c Q Q1 (by omega) hpl hs
              cases he : ev r.length Q1 with
              | none =>
                rw [he] at hv
                exact Best_w (N := fun x => x = r ++ [c]) hBc (fun x => Iff.rfl) (fun x hx => by rw [hx, hv]; exact Int.le_refl _)
              | some v =>
                rw [he] at hv
                have hv : val (r ++ [c]) = v := hv
                show Best val (cmpA (r ++ [c]) v ac) _
                rw [← hv]
                exact Best_A hBc (fun x hx _ => hVl x hx) (fun x => Iff.rfl)
            have hr1 : (r ++ [c]).Nodup := by
              rw [List.nodup_append]
              refine ⟨hr, by simp, fun a ha b hb => ?_⟩
              have : b = c := by simpa using hb
              subst this
              exact fun y => cr (y ▸ ha)
            have hrc1 : ∀ q, q ∈ r ++ [c] → q < C := by
              intro q hq
              rcases List.mem_append.mp hq with y | y
              · exact hrc q y
              · have : q = c := by simpa using y
                omega
            obtain ⟨V2, hB2, hV2⟩ := ih (r ++ [c]) Q1 (by rw [List.length_append]; simp only [List.length_cons, List.length_nil]; omega) (by rw [hp r c Q (by omega) hpl]; exact hs) hr1 hrc1 _ _ hB1 (fun x hx => by
              rcases hx with y | y
              · exact Or.inl (hVl x y)
              · exact Or.inr y)
            refine ⟨V2, hB2, fun x => ?_⟩
            rw [hV2 x, hVc x, spl x]
            have okr : okR C (r ++ [c]) := ⟨hr1, hrc1, by rw [List.length_append]; simp, by rw [List.length_append]; simp only [List.length_cons, List.length_nil]; omega⟩
            constructor
            · rintro ((h | h) | ⟨h1, q, z, h2⟩)
              · rcases h with h | h
                · exact Or.inl h
                · exact Or.inr (Or.inl h)
              · subst h
                exact Or.inr (Or.inr ⟨okr, [], rfl⟩)
              · exact Or.inr (Or.inr ⟨h1, q :: z, by rw [h2, List.append_assoc]; rfl⟩)
            · rintro (h | h | ⟨h1, z, h2⟩)
              · exact Or.inl (Or.inl (Or.inl h))
              · exact Or.inl (Or.inl (Or.inr h))
              · cases z with
                | nil => exact Or.inl (Or.inr h2)
                | cons q z => exact Or.inr ⟨h1, q, z, by rw [h2, List.append_assoc]; rfl⟩
    obtain ⟨V2, hB2, hV2⟩ := key C (Nat.le_refl _)
    refine ⟨V2, hB2, fun x => ?_⟩
    rw [hV2 x]
    constructor
    · rintro (h | ⟨h1, c, z, _, h2⟩)
      · exact Or.inl h
      · exact Or.inr ⟨h1, c, z, h2⟩
    · rintro (h | ⟨h1, c, z, h2⟩)
      · exact Or.inl h
      · rw [h2] at h1
        exact Or.inr ⟨by rw [h2]; exact h1, c, z, (okR_c h1).2, h2⟩
/-! row by row, as the reference goes -/
def digs (C : Nat) : Nat → Nat → List Nat
  | 0, _ => []
  | m + 1, row => digs C m (row / C) ++ [row % C]
theorem digs_len {C : Nat} : ∀ m row, (digs C m row).length = m
  | 0, _ => rfl
  | m + 1, row => by
    show (digs C m (row / C) ++ [row % C]).length = m + 1
    rw [List.length_append, digs_len m]
    rfl
theorem digs_lt {C : Nat} (hC : 0 < C) : ∀ m row c, c ∈ digs C m row → c < C
  | 0, _, _, h => by cases h
  | m + 1, row, c, h => by
    rcases List.mem_append.mp h with y | y
    · exact digs_lt hC m _ c y
    · have : c = row % C := by simpa using y
      rw [this]
      exact Nat.mod_lt _ hC
theorem digs_lx {C : Nat} (hC : 0 < C) : ∀ m a b, a < b → b < C ^ m → lx (digs C m a) (digs C m b)
  | 0, a, b, h1, h2 => by
    have : C ^ 0 = 1 := rfl
    omega
  | m + 1, a, b, h1, h2 => by
    have e : C ^ (m + 1) = C ^ m * C := rfl
    rw [e] at h2
    have hb : b / C < C ^ m := Nat.div_lt_of_lt_mul (by rw [Nat.mul_comm]; exact h2)
    by_cases c : a / C < b / C
    · exact lx_2 _ _ _ _ (digs_lx hC m _ _ c hb) (by rw [digs_len, digs_len])
    · have e1 : a / C = b / C := Nat.le_antisymm (Nat.div_le_div_right (Nat.le_of_lt h1)) (Nat.le_of_not_lt c)
      have d1 := Nat.div_add_mod a C
      have d2 := Nat.div_add_mod b C
      rw [e1] at d1
      show lx (digs C m (a / C) ++ [a % C]) (digs C m (b / C) ++ [b % C])
      rw [e1]
      refine lx_m ?_ _ [] []
      generalize C * (b / C) = q at *
      omega
theorem digs_sur {C : Nat} : ∀ (n : Nat) (x : List Nat), x.length = n → (∀ c, c ∈ x → c < C) → ∃ row, row < C ^ n ∧ x = digs C n row
  | 0, x, hn, _ => ⟨0, Nat.zero_lt_one, List.length_eq_zero_iff.mp hn⟩
  | n + 1, x, hn, h => by
    obtain ⟨y, c, rfl⟩ : ∃ y c, x = y ++ [c] := ⟨x.dropLast, x.getLast (by intro z; rw [z] at hn; cases hn), (List.dropLast_concat_getLast _).symm⟩
    obtain ⟨row, h1, h2⟩ := digs_sur n y (by simpa using hn) (fun q hq => h q (by simp [hq]))
    have hc := h c (by simp)
    have hC : 0 < C := by omega
    have e1 : (C * row + c) / C = row := by
      rw [Nat.mul_add_div hC, Nat.div_eq_of_lt hc]
      rfl
    have e2 : (C * row + c) % C = c := by
      rw [Nat.mul_add_mod, Nat.mod_eq_of_lt hc]
    refine ⟨C * row + c, ?_, ?_⟩
    · have e : C ^ (n + 1) = C ^ n * C := rfl
      rw [e]
      have h3 : C * (row + 1) ≤ C * C ^ n := Nat.mul_le_mul_left _ h1
      rw [Nat.mul_comm (C ^ n)]
      rw [Nat.mul_add, Nat.mul_one] at h3
      omega
    · show y ++ [c] = digs C n ((C * row + c) / C) ++ [(C * row + c) % C]
      rw [e1, e2, ← h2]
def rowF (C : Nat) (val : List Nat → Int) (m : Nat) (row : Nat) (acc : Acc) : Acc := cmpM (digs C m row) (if (digs C m row).Nodup then val (digs C m row) else -1) acc
def bfS (C : Nat) (val : List Nat → Int) (n : Nat) : Acc := iterN (fun m acc => iterN (rowF C val (m + 1)) (C ^ (m + 1)) acc) n (-1, [])
theorem Best_1 {val : List Nat → Int} {acc : Acc} {V : List Nat → Prop} (h : Best val acc V) : -1 ≤ acc.1 := by
  rcases h with ⟨a1, _⟩ | ⟨_, _, a3, _⟩
  · rw [a1]
    exact Int.le_refl _
  · omega
theorem bfs_ok {C : Nat} {val : List Nat → Int} (hC : 0 < C) : ∀ n, n ≤ 4 → Best val (bfS C val n) (fun x => okR C x ∧ x.length ≤ n) := by
  intro n
  induction n with
  | zero => exact fun _ => Or.inl ⟨rfl, fun x hx => absurd hx.1.2.2.1 (by omega)⟩
  | succ m ih =>
    intro hm
    have hB := ih (by omega)
    show Best val (iterN (rowF C val (m + 1)) (C ^ (m + 1)) (bfS C val m)) _
    generalize bfS C val m = acc at hB
    have key : ∀ q, q ≤ C ^ (m + 1) → Best val (iterN (rowF C val (m + 1)) q acc) (fun x => okR C x ∧ (x.length ≤ m ∨ ∃ row, row < q ∧ x = digs C (m + 1) row)) := by
      intro q
      induction q with
      | zero => exact fun _ => Best_i hB (fun x => ⟨fun h => ⟨h.1, h.2.elim id (fun ⟨r, z, _⟩ => by omega)⟩, fun h => ⟨h.1, Or.inl h.2⟩⟩)
      | succ q ihq =>
        intro hq
        have hBq := ihq (by omega)
        show Best val (rowF C val (m + 1) q (iterN (rowF C val (m + 1)) q acc)) _
        generalize iterN (rowF C val (m + 1)) q acc = aq at hBq
        unfold rowF
        have dl := digs_len (C := C) (m + 1) q
        by_cases nd : (digs C (m + 1) q).Nodup
        · rw [if_pos nd]
          have okq : okR C (digs C (m + 1) q) := ⟨nd, digs_lt hC _ _, by omega, by omega⟩
          refine Best_M hBq (fun x hx => ?_) (fun x => ?_)
          · rcases hx.2 with y | ⟨row, y1, y2⟩
            · exact Or.inl (by omega)
            · refine Or.inr ⟨by rw [y2, digs_len, digs_len], ?_⟩
              rw [y2]
              exact digs_lx hC _ _ _ y1 (by omega)
          · constructor
            · rintro ⟨h1, h2 | ⟨row, h2, h3⟩⟩
              · exact Or.inl ⟨h1, Or.inl h2⟩
              · by_cases z : row = q
                · rw [z] at h3
                  exact Or.inr h3
                · exact Or.inl ⟨h1, Or.inr ⟨row, by omega, h3⟩⟩
            · rintro (⟨h1, h2 | ⟨row, h2, h3⟩⟩ | h)
              · exact ⟨h1, Or.inl h2⟩
              · exact ⟨h1, Or.inr ⟨row, by omega, h3⟩⟩
              · rw [h]
                exact ⟨okq, Or.inr ⟨q, by omega, rfl⟩⟩
        · rw [if_neg nd]
          have e : cmpM (digs C (m + 1) q) (-1) aq = aq := if_neg (by have := Best_1 hBq; omega)
          rw [e]
          refine Best_i hBq (fun x => ?_)
          constructor
          · rintro ⟨h1, h2 | ⟨row, h2, h3⟩⟩
            · exact ⟨h1, Or.inl h2⟩
            · by_cases z : row = q
              · rw [z] at h3
                rw [h3] at h1
                exact absurd h1.1 nd
              · exact ⟨h1, Or.inr ⟨row, by omega, h3⟩⟩
          · rintro ⟨h1, h2 | ⟨row, h2, h3⟩⟩
            · exact ⟨h1, Or.inl h2⟩
            · exact ⟨h1, Or.inr ⟨row, by omega, h3⟩⟩
    refine Best_i (key _ (Nat.le_refl _)) (fun x => ?_)
    constructor
    · rintro ⟨h1, h2⟩
      refine ⟨h1, ?_⟩
      by_cases z : x.length ≤ m
      · exact Or.inl z
      · exact Or.inr (digs_sur (m + 1) x (by omega) h1.2.1)
    · rintro ⟨h1, h2 | ⟨row, h2, h3⟩⟩
      · exact ⟨h1, by omega⟩
      · exact ⟨h1, by rw [h3, digs_len]; exact Nat.le_refl _⟩
/-- both ways come to the same row -/
theorem plan_same {σ : Type} {C : Nat} (hC : 0 < C) {stp : Nat → Nat → σ → Option σ} {ev : Nat → σ → Option Int} {val : List Nat → Int} {pl : List Nat → Option σ} {P : σ} (h0 : pl [] = some P) (hp : ∀ r c Q, r.length < 4 → pl r = some Q → pl (r ++ [c]) = stp r.length c Q) (hv : ∀ r c Q Q1, r.length < 4 → pl r = some Q → stp r.length c Q = some Q1 → val (r ++ [c]) = (ev r.length Q1).getD (-1)) (hn : ∀ r c z Q, r.length < 4 → pl r = some Q → stp r.length c Q = none → val (r ++ c :: z) = -1) : extS C stp ev 4 [] P (-1, []) = bfS C val 4 := by
  obtain ⟨V2, hB, hV⟩ := dfs_ok hp hv hn 4 [] P rfl h0 List.nodup_nil (fun _ h => by cases h) (-1, []) (fun _ => False) (Or.inl ⟨rfl, fun _ h => h.elim⟩) (fun _ h => h.elim)
  refine Best_u hB (Best_i (bfs_ok hC 4 (Nat.le_refl _)) (fun x => ?_))
  rw [hV x]
  constructor
  · rintro (h | ⟨h, _⟩)
    · exact h.elim
    · exact ⟨h, h.2.2.2⟩
  · rintro ⟨h, _⟩
    cases x with
    | nil => exact absurd h.2.2.1 (by decide)
    | cons c z => exact Or.inr ⟨h, c, z, rfl⟩
