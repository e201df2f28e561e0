/-! what following and falling leave as it was; a land's follow (expanded by gen18.py) -/
theorem WQ_of {e : Dat} {P Q : Row} (h : WQ e P) (hn : (e 241 1).toNat ≤ 14) (ho : ∀ j, j < 84 ∨ (136 ≤ j ∧ j < 224) ∨ 285 ≤ j → Q j = P j) (hc : ∀ i, i < 20 → Q (84 + i) = 0 ∨ Q (84 + i) = 1) (hF : 0 ≤ Q 224) (h1 : ∀ i, i < 8 → 0 ≤ Q (112 + i) ∧ Q (112 + i) ≤ 999) (h2 : ∀ i, i < 8 → ¬ Q (104 + i) = 2 → Q (112 + i) = 0) : WQ e Q := by
  refine ⟨fun i hi => ?_, fun i hi => ?_, hc, fun i hi => ?_, fun i hi => ?_, fun i hi => ?_, fun i hi => ?_, fun i hi => ?_, ?_, hF, fun i hi => ?_, h1, h2⟩
  · rw [ho _ (by omega)]; exact wp_i h i hi
  · rw [ho _ (by omega)]; exact wp_l h i hi
  · rw [ho _ (by omega)]; exact wp_o h i hi
  · rw [ho _ (by omega)]; exact wp_d h i hi
  · rw [ho _ (by omega), ho _ (by omega)]; exact wp_w h i hi
  · rw [ho _ (by omega), ho _ (by omega), ho _ (by omega)]; exact wp_g h i hi
  · rw [ho _ (by omega), ho _ (by omega)]; exact wp_f h i hi
  · rw [ho _ (by omega)]; exact wp_m h
  · rw [ho _ (by omega)]; exact wp_s h i hi
theorem note_rd {P : Row} {i w : Int} {j : Nat} (h0 : 0 ≤ P 224) (hj : j < 225 ∨ 285 ≤ j) : noteS P i w j = P j := by
  unfold noteS
  split
  · rw [fs_ne (by omega), fs_ne (by omega), fs_ne (by omega)]
  · rfl
theorem offS_rd {P : Row} {p : Nat} {f : Int} {j : Nat} (hp : p < 8) (hj : j < 104 ∨ 136 ≤ j) : offS P p f j = P j := by
  unfold offS
  rw [fs_ne (by omega), fs_ne (by omega), fs_ne (by omega), fs_ne (by omega)]
/-- falling: what it changes, what it leaves -/
theorem offs_all {e : Dat} {P : Row} {i : Int} (hE : WE e) : (∀ j, j < 104 ∨ 136 ≤ j → offsS e i P j = P j) ∧ (∀ k, k < 8 → ((offsS e i P (104 + k) = P (104 + k) ∧ offsS e i P (112 + k) = P (112 + k)) ∨ (offsS e i P (104 + k) = 0 ∧ offsS e i P (112 + k) = 0 ∧ P (70 + (e 249 k).toNat) = i))) := by
  have n3 := we_p hE
  unfold offsS
  refine iter_inv (f := fun k P => if P (70 + (e 249 k).toNat) = i ∧ ¬ P (104 + k) = 0 then offS P k (P 285) else P) (fun _ Q => (∀ j, j < 104 ∨ 136 ≤ j → Q j = P j) ∧ (∀ k, k < 8 → ((Q (104 + k) = P (104 + k) ∧ Q (112 + k) = P (112 + k)) ∨ (Q (104 + k) = 0 ∧ Q (112 + k) = 0 ∧ P (70 + (e 249 k).toNat) = i)))) ((e 241 8).toNat) (fun p hp Q hQ => ?_) ⟨fun _ _ => rfl, fun _ _ => Or.inl ⟨rfl, rfl⟩⟩
  obtain ⟨q1, q2⟩ := hQ
  have x := we_P hE p
  split
  · rename_i c
    rw [q1 _ (by omega)] at c
    refine ⟨fun j hj => (offS_rd (by omega) hj).trans (q1 j hj), fun k hk => ?_⟩
    by_cases z : k = p
    · subst z
      refine Or.inr ⟨?_, ?_, c.1⟩
      · unfold offS
        rw [fs_ne (by omega), fs_ne (by omega), fs_ne (by omega), fs_eq]
      · unfold offS
        rw [fs_ne (by omega), fs_ne (by omega), fs_eq]
    · have a1 : offS Q p (Q 285) (104 + k) = Q (104 + k) := by
        unfold offS
        rw [fs_ne (by omega), fs_ne (by omega), fs_ne (by omega), fs_ne (by omega)]
      have a2 : offS Q p (Q 285) (112 + k) = Q (112 + k) := by
        unfold offS
        rw [fs_ne (by omega), fs_ne (by omega), fs_ne (by omega), fs_ne (by omega)]
      rw [a1, a2]
      exact q2 k hk
  · exact ⟨q1, q2⟩
theorem part_all {e : Dat} {P : Row} {i : Int} (hE : WE e) : (∀ j, j < 84 ∨ 104 ≤ j → partS e i P j = P j) ∧ (∀ l, l < 20 → partS e i P (84 + l) = P (84 + l) ∨ partS e i P (84 + l) = 0) := by
  have n3 := we_l hE
  unfold partS
  refine iter_inv (f := fun l P => fset P (84 + l) (if P (70 + (e 244 l).toNat) = i then 0 else P (84 + l))) (fun _ Q => (∀ j, j < 84 ∨ 104 ≤ j → Q j = P j) ∧ (∀ l, l < 20 → Q (84 + l) = P (84 + l) ∨ Q (84 + l) = 0)) ((e 241 3).toNat) (fun p hp Q hQ => ?_) ⟨fun _ _ => rfl, fun _ _ => Or.inl rfl⟩
  obtain ⟨q1, q2⟩ := hQ
  refine ⟨fun j hj => (fs_ne (by omega)).trans (q1 j hj), fun l hl => ?_⟩
  rw [fs_rd]
  split
  · rename_i z
    split
    · exact Or.inr rfl
    · rw [show 84 + l = 84 + p by omega]
      have := q2 p (by omega)
      exact this
  · exact q2 l hl
theorem fall_all {e : Dat} {P : Row} {i w : Int} (hE : WE e) (h0 : 0 ≤ P 224) : (∀ j, j < 84 ∨ (136 ≤ j ∧ j < 224) ∨ 285 ≤ j → fallS e P i w j = P j) ∧ fallS e P i w 224 = wr (P 224 + 1) ∧ (∀ k, k < 8 → ((fallS e P i w (104 + k) = P (104 + k) ∧ fallS e P i w (112 + k) = P (112 + k)) ∨ (fallS e P i w (104 + k) = 0 ∧ fallS e P i w (112 + k) = 0 ∧ P (70 + (e 249 k).toNat) = i))) ∧ (∀ l, l < 20 → fallS e P i w (84 + l) = P (84 + l) ∨ fallS e P i w (84 + l) = 0) := by
  have x := we_P hE
  unfold fallS
  generalize hN : fset (noteS P i w) 224 (wr (P 224 + 1)) = N
  have hN2 : ∀ j, j < 224 ∨ 285 ≤ j → N j = P j := fun j hj => by
    rw [← hN, fs_ne (by omega), note_rd h0 (by omega)]
  have hN3 : N 224 = wr (P 224 + 1) := by
    rw [← hN, fs_eq]
  clear hN
  obtain ⟨o1, o2⟩ := offs_all (P := N) (i := i) hE
  obtain ⟨p1, p2⟩ := part_all (P := offsS e i N) (i := i) hE
  refine ⟨fun j hj => ?_, ?_, fun k hk => ?_, fun l hl => ?_⟩
  · rw [p1 j (by omega), o1 j (by omega), hN2 j (by omega)]
  · rw [p1 224 (by omega), o1 224 (by omega), hN3]
  · rw [p1 _ (by omega), p1 _ (by omega)]
    have := o2 k hk
    have x := x k
    rw [hN2 (104 + k) (by omega), hN2 (112 + k) (by omega), hN2 (70 + (e 249 k).toNat) (by omega)] at this
    exact this
  · have := p2 l hl
    rw [o1 (84 + l) (by omega), hN2 (84 + l) (by omega)] at this
    exact this
theorem fall_WQ {e : Dat} {P : Row} {i w : Int} (hE : WE e) (h : WQ e P) (h0 : P 224 ≤ 20000) : WQ e (fallS e P i w) := by
  have n1 := we_n hE
  have hF := wp_F h
  obtain ⟨f1, f2, f3, f4⟩ := fall_all (i := i) (w := w) hE hF
  refine WQ_of h (by omega) f1 (fun l hl => ?_) ?_ (fun k hk => ?_) (fun k hk hz => ?_)
  · have := wp_c h l hl
    rcases f4 l hl with q | q <;> rw [q]
    · exact this
    · exact Or.inl rfl
  · rw [f2, wr_of (by omega)]
    omega
  · have := wp_u h k hk
    rcases f3 k hk with q | q
    · rw [q.2]
      exact this
    · rw [q.2.1]
      decide
  · rcases f3 k hk with q | q
    · rw [q.1] at hz
      rw [q.2]
      exact wp_z h k hk hz
    · exact q.2.1
/-- following one island -/
theorem fol_all {e : Dat} {P : Row} {n : Nat} (hE : WE e) (h : WQ e P) (h0 : P 224 ≤ 19999) (hn : n < (e 241 1).toNat) (hw : ¬ weightS e P (n : Int) = 0) :
    WQ e (folS e P (n : Int)) ∧ (∀ j, (42 ≤ j ∧ j < 84) ∨ (136 ≤ j ∧ j < 224) ∨ 285 ≤ j → folS e P (n : Int) j = P j) ∧ (P 224 ≤ folS e P (n : Int) 224 ∧ folS e P (n : Int) 224 ≤ P 224 + 1) ∧ (folS e P (n : Int) 224 = P 224 → ∀ j, 84 ≤ j ∧ j < 112 → folS e P (n : Int) j = P j) ∧ (∀ k, k < 8 → folS e P (n : Int) (104 + k) = P (104 + k) ∨ P (70 + (e 249 k).toNat) = (n : Int)) := by
  have n1 := we_n hE
  have hF := wp_F h
  have hq := dem_bd (i := (n : Int)) hE h
  unfold folS
  simp only []
  generalize demS e P (n : Int) = q at hq
  have a1 := ramps_WQ (i := (n : Int)) (q := q) hE h
  have a2 := fun j hj => ramps_how (P := P) (i := (n : Int)) (q := q) (j := j) hj hE
  have a3 : weightS e (rampsS e P (n : Int) q) (n : Int) = weightS e P (n : Int) := weight_cg hE (fun k hk => by rw [a2 _ (by have := we_p hE; omega)]) (fun j hj => a2 _ (by omega))
  generalize rampsS e P (n : Int) q = P1 at *
  have a4 := swing_bd (i := (n : Int)) hE a1 (by omega) hq (by rw [a3]; exact hw)
  generalize swingS e P1 (n : Int) q = s at *
  generalize voltS e P1 (n : Int) q = v at *
  generalize spareS e P1 (n : Int) = p at *
  obtain ⟨s1, s2⟩ := set_low (e := e) (P := P1) (i := (n : Int)) (s := s) (v := v) (p := p) (by omega)
  have a5 : WQ e (setS e (n : Int) s v p P1) := WQ_low a1 s1 (fun j hj => by
    rcases s2 j hj with z | z <;> rw [z]
    · exact wp_s a1 j hj
    · exact a4)
  generalize setS e (n : Int) s v p P1 = P2 at *
  have g : ∀ j, (42 ≤ j ∧ j < 112) ∨ 120 ≤ j → P2 j = P j := fun j hj => (s1 j (by omega)).trans (a2 j (by omega))
  split
  · have b1 := g 224 (by omega)
    obtain ⟨f1, f2, f3, f4⟩ := fall_all (P := P2) (i := (n : Int)) (w := whyS s v) hE (by omega)
    have b2 := fall_WQ (i := (n : Int)) (w := whyS s v) hE a5 (by omega)
    rw [b1, wr_of (by omega)] at f2
    refine ⟨b2, fun j hj => (f1 j (by omega)).trans (g j (by omega)), by omega, fun z => by omega, fun k hk => ?_⟩
    rcases f3 k hk with z | z
    · rw [z.1, g _ (by omega)]
      exact Or.inl rfl
    · have x := we_P hE k
      rw [g _ (by omega)] at z
      exact Or.inr z.2.2
  · refine ⟨a5, fun j hj => g j (by omega), ?_, fun _ j hj => g j (by omega), fun k hk => Or.inl (g _ (by omega))⟩
    rw [g _ (by omega)]
    omega
