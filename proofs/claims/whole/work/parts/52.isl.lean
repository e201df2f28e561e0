/-! islands: what it means to be right, that it means one thing, that joining line by line gives it -/
def okI (e : Dat) (P : Row) (m : Nat) (f : Row) : Prop := ∀ l, l < m → P (84 + l) = 1 → f ((e 244 l).toNat) = f ((e 245 l).toNat)
def RI (e : Dat) (P : Row) (m : Nat) (s : Row) : Prop :=
  (∀ n, n < (e 241 1).toNat → 0 ≤ s n ∧ s n ≤ (n : Int)) ∧ (∀ f : Row, okI e P m f → ∀ n, n < (e 241 1).toNat → f n = f (s n).toNat)
theorem RI_one {e : Dat} {P : Row} {m : Nat} {s t : Row} (hs : RI e P m s) (ht : RI e P m t) (os : okI e P m s) (ot : okI e P m t) : ∀ n, n < (e 241 1).toNat → s n = t n := by
  intro n hn
  have h1 := hs.1 n hn
  have h2 := ht.1 n hn
  have h3 := ht.2 s os n hn
  have h4 := hs.2 t ot n hn
  have h5 := hs.1 (t n).toNat (by omega)
  have h6 := ht.1 (s n).toNat (by omega)
  omega
theorem RI_idem {e : Dat} {P : Row} {m : Nat} {s : Row} (hs : RI e P m s) (os : okI e P m s) : ∀ n, n < (e 241 1).toNat → s (s n).toNat = s n := fun n hn => (hs.2 s os n hn).symm
theorem islS_0 {e : Dat} {P : Row} : islS e P 0 = (fun (i : Nat) => (i : Int)) := rfl
theorem islS_s {e : Dat} {P : Row} {m : Nat} : islS e P (m + 1) = if P (84 + m) = 1 then joinS ((e 241 1).toNat) (islS e P m ((e 244 m).toNat)) (islS e P m ((e 245 m).toNat)) (islS e P m) else islS e P m := rfl
theorem isl_hi {e : Dat} {P : Row} : ∀ m, ∀ n, (e 241 1).toNat ≤ n → islS e P m n = (n : Int)
  | 0, _, _ => rfl
  | m + 1, n, hn => by
    rw [islS_s]
    split
    · unfold joinS
      rw [if_neg (by omega)]
      exact isl_hi m n hn
    · exact isl_hi m n hn
theorem isl_RI {e : Dat} {P : Row} (hE : WE e) : ∀ m, m ≤ (e 241 3).toNat → RI e P m (islS e P m) ∧ okI e P m (islS e P m) := by
  intro m
  induction m with
  | zero =>
    intro _
    refine ⟨⟨fun n _ => ?_, fun f _ n _ => ?_⟩, fun l hl => ?_⟩
    · rw [islS_0]
      show (0 : Int) ≤ (n : Int) ∧ (n : Int) ≤ (n : Int)
      omega
    · rw [islS_0]
      show f n = f ((n : Int)).toNat
      rw [Int.toNat_natCast]
    · omega
  | succ m ih =>
    intro hm
    obtain ⟨⟨h1, h2⟩, h3⟩ := ih (by omega)
    have hl := we_L2 hE m (by omega)
    have hx := we_L hE m
    have ha := h1 ((e 244 m).toNat) (by omega)
    have hb := h1 ((e 245 m).toNat) (by omega)
    rw [islS_s]
    by_cases c : P (84 + m) = 1
    · rw [if_pos c]
      generalize hs : islS e P m = s at h1 h2 h3 ha hb
      refine ⟨⟨fun n hn => ?_, fun f hf n hn => ?_⟩, fun l hl2 hc => ?_⟩
      · have := h1 n hn
        clear h1 h2 h3 ih
        have f6 : joinS ((e 241 1).toNat) (s ((e 244 m).toNat)) (s ((e 245 m).toNat)) s n = s n ∨ (joinS ((e 241 1).toNat) (s ((e 244 m).toNat)) (s ((e 245 m).toNat)) s n = s ((e 244 m).toNat) ∧ s n = s ((e 245 m).toNat) ∧ s ((e 244 m).toNat) < s ((e 245 m).toNat)) ∨ (joinS ((e 241 1).toNat) (s ((e 244 m).toNat)) (s ((e 245 m).toNat)) s n = s ((e 245 m).toNat) ∧ s n = s ((e 244 m).toNat) ∧ s ((e 245 m).toNat) < s ((e 244 m).toNat)) := by
          unfold joinS
          grind
        omega
      · have f1 := h2 f (fun l hl2 hc => hf l (by omega) hc)
        have f2 := f1 n hn
        have f3 := hf m (by omega) c
        have f4 := f1 ((e 244 m).toNat) (by omega)
        have f5 := f1 ((e 245 m).toNat) (by omega)
        have f6 : joinS ((e 241 1).toNat) (s ((e 244 m).toNat)) (s ((e 245 m).toNat)) s n = s n ∨ (joinS ((e 241 1).toNat) (s ((e 244 m).toNat)) (s ((e 245 m).toNat)) s n = s ((e 244 m).toNat) ∧ s n = s ((e 245 m).toNat)) ∨ (joinS ((e 241 1).toNat) (s ((e 244 m).toNat)) (s ((e 245 m).toNat)) s n = s ((e 245 m).toNat) ∧ s n = s ((e 244 m).toNat)) := by
          unfold joinS
          grind
        rcases f6 with q | ⟨q, q2⟩ | ⟨q, q2⟩
        · rw [q]
          exact f2
        · rw [q, f2, q2, ← f5, ← f4, f3]
        · rw [q, f2, q2, ← f5, ← f4, f3]
      · have hlx := we_L hE l
        have hly := we_L2 hE l (by omega)
        have k1 : (e 244 l).toNat < (e 241 1).toNat := by omega
        have k2 : (e 245 l).toNat < (e 241 1).toNat := by omega
        by_cases q : l = m
        · subst q
          unfold joinS
          grind
        · have := h3 l (by omega) hc
          unfold joinS
          grind
    · rw [if_neg c]
      refine ⟨⟨h1, fun f hf n hn => h2 f (fun l hl2 hc => hf l (by omega) hc) n hn⟩, fun l hl2 hc => ?_⟩
      by_cases q : l = m
      · subst q
        exact absurd hc c
      · exact h3 l (by omega) hc
/-- only which lines are closed counts -/
theorem isl_cg {e : Dat} {P Q : Row} : ∀ m, (∀ l, l < m → (P (84 + l) = 1 ↔ Q (84 + l) = 1)) → islS e P m = islS e Q m
  | 0, _ => rfl
  | m + 1, h => by
    rw [islS_s, islS_s, isl_cg m (fun l hl => h l (by omega))]
    have := h m (by omega)
    by_cases c : P (84 + m) = 1
    · rw [if_pos c, if_pos (this.mp c)]
    · rw [if_neg c, if_neg (fun q => c (this.mpr q))]
theorem lit_s {e : Dat} {P s : Row} {n : Nat} : ∀ m, iterN (fun k v => if P (104 + k) = 2 ∧ s ((e 249 k).toNat) = s n then 1 else v) m (0 : Int) = 1 ∨ iterN (fun k v => if P (104 + k) = 2 ∧ s ((e 249 k).toNat) = s n then 1 else v) m (0 : Int) = 0
  | 0 => Or.inr rfl
  | m + 1 => by
    show (if P (104 + m) = 2 ∧ s ((e 249 m).toNat) = s n then (1 : Int) else _) = 1 ∨ (if P (104 + m) = 2 ∧ s ((e 249 m).toNat) = s n then (1 : Int) else _) = 0
    split
    · exact Or.inl rfl
    · exact lit_s m
theorem lit_m {e : Dat} {P s : Row} {n : Nat} : ∀ m, iterN (fun k v => if P (104 + k) = 2 ∧ s ((e 249 k).toNat) = s n then 1 else v) m (0 : Int) = 1 ↔ ∃ k, k < m ∧ P (104 + k) = 2 ∧ s ((e 249 k).toNat) = s n
  | 0 => ⟨fun h => absurd (show (0 : Int) = 1 from h) (by decide), fun ⟨k, h, _⟩ => absurd h (by omega)⟩
  | m + 1 => by
    show (if P (104 + m) = 2 ∧ s ((e 249 m).toNat) = s n then (1 : Int) else iterN _ m 0) = 1 ↔ _
    by_cases c : P (104 + m) = 2 ∧ s ((e 249 m).toNat) = s n
    · rw [if_pos c]
      exact ⟨fun _ => ⟨m, by omega, c⟩, fun _ => rfl⟩
    · rw [if_neg c, lit_m m]
      refine ⟨fun ⟨k, h, q⟩ => ⟨k, by omega, q⟩, fun ⟨k, h, q⟩ => ⟨k, ?_, q⟩⟩
      by_cases z : k = m
      · subst z
        exact absurd q c
      · omega
theorem lit_1 {e : Dat} {P s : Row} {n : Nat} : litS e P s n = 1 ↔ ∃ k, k < (e 241 8).toNat ∧ P (104 + k) = 2 ∧ s ((e 249 k).toNat) = s n := lit_m ((e 241 8).toNat)
theorem lit_01 {e : Dat} {P s : Row} {n : Nat} : litS e P s n = 0 ∨ litS e P s n = 1 := (lit_s ((e 241 8).toNat)).symm
theorem lit_cg {e : Dat} {P Q s t : Row} {n : Nat} (hE : WE e) (hn : n < (e 241 1).toNat) (h : ∀ k, k < (e 241 8).toNat → (P (104 + k) = 2 ↔ Q (104 + k) = 2)) (hs : ∀ n, n < (e 241 1).toNat → s n = t n) : litS e P s n = litS e Q t n := by
  have : litS e P s n = 1 ↔ litS e Q t n = 1 := by
    rw [lit_1, lit_1]
    refine ⟨fun ⟨k, h1, h2, h3⟩ => ⟨k, h1, (h k h1).mp h2, ?_⟩, fun ⟨k, h1, h2, h3⟩ => ⟨k, h1, (h k h1).mpr h2, ?_⟩⟩
    · have := we_P2 hE k h1
      have := we_P hE k
      rw [← hs n hn, ← hs ((e 249 k).toNat) (by omega)]
      exact h3
    · have := we_P2 hE k h1
      have := we_P hE k
      rw [hs n hn, hs ((e 249 k).toNat) (by omega)]
      exact h3
  have := lit_01 (e := e) (P := P) (s := s) (n := n)
  have := lit_01 (e := e) (P := Q) (s := t) (n := n)
  omega
/-- consistent: marking anew changes nothing -/
abbrev CI (e : Dat) (P : Row) : Prop := marksS e P = P
theorem mk_isl {e : Dat} {P : Row} {n : Nat} (hn : n < (e 241 1).toNat) : marksS e P (70 + n) = islS e P ((e 241 3).toNat) n := by
  unfold marksS
  rw [if_pos (by omega), show 70 + n - 70 = n by omega]
theorem mk_lit {e : Dat} {P : Row} {n : Nat} (hE : WE e) (hn : n < (e 241 1).toNat) : marksS e P (56 + n) = litS e P (islS e P ((e 241 3).toNat)) n := by
  have := we_n hE
  unfold marksS
  rw [if_neg (by omega), if_pos (by omega), show 56 + n - 56 = n by omega]
theorem mk_el {e : Dat} {P : Row} {i : Nat} (h1 : ¬ (70 ≤ i ∧ i < 70 + (e 241 1).toNat)) (h2 : ¬ (56 ≤ i ∧ i < 56 + (e 241 1).toNat)) : marksS e P i = P i := by
  unfold marksS
  rw [if_neg h1, if_neg h2]
theorem mk_hi {e : Dat} {P : Row} {i : Nat} (hE : WE e) (h : i < 56 ∨ 84 ≤ i) : marksS e P i = P i := by
  have := we_n hE
  refine mk_el ?_ ?_ <;> (omega)
theorem mk_cg {e : Dat} {P Q : Row} (hE : WE e) (hc : ∀ l, l < (e 241 3).toNat → (P (84 + l) = 1 ↔ Q (84 + l) = 1)) (hp : ∀ k, k < (e 241 8).toNat → (P (104 + k) = 2 ↔ Q (104 + k) = 2)) (i : Nat) (hi : (70 ≤ i ∧ i < 70 + (e 241 1).toNat) ∨ (56 ≤ i ∧ i < 56 + (e 241 1).toNat)) : marksS e P i = marksS e Q i := by
  have := we_n hE
  have h := isl_cg (e := e) (P := P) (Q := Q) ((e 241 3).toNat) hc
  unfold marksS
  split
  · rw [h]
  · split
    · rename_i h1 h2
      rw [h]
      exact lit_cg hE (by omega) hp (fun _ _ => rfl)
    · omega
/-- what a consistent row keeps -/
theorem CI_fs {e : Dat} {P : Row} (hE : WE e) (h : CI e P) {Q : Row} (hc : ∀ l, l < (e 241 3).toNat → (P (84 + l) = 1 ↔ Q (84 + l) = 1)) (hp : ∀ k, k < (e 241 8).toNat → (P (104 + k) = 2 ↔ Q (104 + k) = 2)) (hq : ∀ i, (70 ≤ i ∧ i < 70 + (e 241 1).toNat) ∨ (56 ≤ i ∧ i < 56 + (e 241 1).toNat) → Q i = P i) : CI e Q := by
  funext i
  by_cases c : (70 ≤ i ∧ i < 70 + (e 241 1).toNat) ∨ (56 ≤ i ∧ i < 56 + (e 241 1).toNat)
  · rw [hq i c, ← mk_cg hE hc hp i c]
    exact congrFun h i
  · exact mk_el (fun q => c (Or.inl q)) (fun q => c (Or.inr q))
theorem CI_mk {e : Dat} {P : Row} (hE : WE e) : CI e (marksS e P) := by
  have := we_n hE
  funext i
  by_cases c : (70 ≤ i ∧ i < 70 + (e 241 1).toNat) ∨ (56 ≤ i ∧ i < 56 + (e 241 1).toNat)
  · exact mk_cg hE (fun l _ => by rw [mk_hi hE (by omega)]) (fun k _ => by rw [mk_hi hE (by omega)]) i c
  · exact mk_el (fun q => c (Or.inl q)) (fun q => c (Or.inr q))
