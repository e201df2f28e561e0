/-! what lies behind a row's 2102 places stays (after part 84; expanded by gen18.py) -/
def HF (P0 P : Row) : Prop := ∀ j, 2102 ≤ j → P j = P0 j
theorem HF_rf {P : Row} : HF P P := fun _ _ => rfl
theorem HF_fs {P0 : Row} {P : Row} {i : Nat} {v : Int} (h : HF P0 P) (hi : i < 2102) : HF P0 (fset P i v) := fun j hj => by
  rw [fs_ne (by omega)]
  exact h j hj
theorem HF_it {P0 : Row} {f : Nat → Row → Row} {n : Nat} {P : Row} (hs : ∀ i, i < n → ∀ Q, HF P0 Q → HF P0 (f i Q)) (h : HF P0 P) : HF P0 (iterN f n P) := iter_inv (f := f) (fun _ Q => HF P0 Q) n hs h
theorem HF_mk {e : Dat} {P0 : Row} {P : Row} (hE : WE e) (h : HF P0 P) : HF P0 (marksS e P) := by
  have n1 := we_n hE
  intro j hj
  have g : marksS e P j = P j := by
    unfold marksS
    rw [if_neg (by omega), if_neg (by omega)]
  rw [g]
  exact h j hj
theorem HF_cr {e : Dat} {P0 : Row} {P : Row} {c : Nat} (hE : WE e) (hc : c < 4) (h : HF P0 P) : HF P0 (crewS c P) := by
  have n1 := we_n hE
  have n2 := we_l hE
  have n3 := we_p hE
  unfold crewS
  split
  · exact h
  · exact HF_fs (HF_fs h (by omega)) (by omega)
theorem HF_cl {e : Dat} {P0 : Row} {P : Row} {l : Nat} (hE : WE e) (hl : l < (e 241 3).toNat) (h : HF P0 P) : HF P0 (closesS e P l) := by
  have n1 := we_n hE
  have n2 := we_l hE
  have n3 := we_p hE
  unfold closesS
  refine HF_fs ?_ (by omega)
  split
  · exact h
  · unfold evenS
    exact HF_it (fun i hi Q hQ => HF_fs hQ (by omega)) h
theorem HF_of {e : Dat} {P0 : Row} {P : Row} {p : Nat} {f : Int} (hE : WE e) (hp : p < (e 241 8).toNat) (h : HF P0 P) : HF P0 (offS P p f) := by
  have n1 := we_n hE
  have n2 := we_l hE
  have n3 := we_p hE
  unfold offS
  exact HF_fs (HF_fs (HF_fs (HF_fs h (by omega)) (by omega)) (by omega)) (by omega)
theorem HF_do {e : Dat} {P0 : Row} {P : Row} {q o : Int} (hE : WE e) (hq : 0 ≤ q ∧ q ≤ 5) (hh : hasS e q o = true) (h : HF P0 P) : HF P0 (doesS e P q o.toNat) := by
  have n1 := we_n hE
  have n2 := we_l hE
  have n3 := we_p hE
  have n4 := we_o hE
  unfold doesS
  refine HF_mk hE ?_
  unfold hasS at hh
  have hh := of_decide_eq_true hh
  obtain ⟨p, hp⟩ : ∃ p : Nat, o = (p : Int) := ⟨o.toNat, by omega⟩
  subst hp
  rw [Int.toNat_natCast]
  rcases k_of hq with q1 | q1 | q1 | q1 | q1 | q1 <;> subst q1
  · have hh : 0 ≤ (p : Int) ∧ (p : Int) < e 241 3 := hh
    rw [act_0]
    exact HF_cl hE (by omega) h
  · have hh : 0 ≤ (p : Int) ∧ (p : Int) < e 241 3 := hh
    rw [act_1]
    exact HF_fs h (by omega)
  · have hh : 0 ≤ (p : Int) ∧ (p : Int) < e 241 8 := hh
    rw [act_2]
    exact HF_fs (HF_fs h (by omega)) (by omega)
  · have hh : 0 ≤ (p : Int) ∧ (p : Int) < e 241 8 := hh
    rw [act_3]
    exact HF_of hE (by omega) h
  · have hh : 0 ≤ (p : Int) ∧ (p : Int) < e 241 13 := hh
    rw [act_4]
    exact HF_fs h (by omega)
  · have hh : 0 ≤ (p : Int) ∧ (p : Int) < e 241 13 := hh
    rw [act_5]
    exact HF_fs h (by omega)
theorem HF_or {e : Dat} {P0 : Row} {P : Row} {k : Nat} (hE : WE e) (hk : k < (e 241 21).toNat) (h : HF P0 P) : HF P0 (ordS e k P) := by
  have n1 := we_n hE
  have n2 := we_l hE
  have n3 := we_p hE
  have n4 := we_k hE
  have x1 := we_K hE k
  have x2 := we_K2 hE k hk
  unfold ordS
  split
  · exact HF_fs (HF_do hE (by omega) x2.2.2 h) (by omega)
  · exact h
theorem HF_wa {e : Dat} {P0 : Row} {P : Row} {k : Nat} (hE : WE e) (hk : k < (e 241 8).toNat) (h : HF P0 P) : HF P0 (warm1 e k P) := by
  have n1 := we_n hE
  have n2 := we_l hE
  have n3 := we_p hE
  unfold warm1
  split
  · split
    · exact HF_fs (HF_fs h (by omega)) (by omega)
    · split
      · exact HF_fs (HF_fs (HF_fs h (by omega)) (by omega)) (by omega)
      · exact HF_fs h (by omega)
  · exact h
theorem HF_fo {e : Dat} {P0 : Row} {P : Row} {i : Int} (hE : WE e) (h : HF P0 P) : HF P0 (folS e P i) := by
  have n1 := we_n hE
  have n2 := we_l hE
  have n3 := we_p hE
  have a1 : ∀ q, HF P0 (rampsS e P i q) := fun q => by
    unfold rampsS
    refine HF_it (fun k hk Q hQ => ?_) h
    unfold ramp1
    split
    · exact HF_fs hQ (by omega)
    · exact hQ
  have a2 : ∀ Q s v p, HF P0 Q → HF P0 (setS e i s v p Q) := fun Q s v p hQ => by
    unfold setS
    refine HF_it (fun n hn Q hQ => ?_) hQ
    show HF P0 (if _ then _ else _)
    split
    · exact HF_fs (HF_fs (HF_fs hQ (by omega)) (by omega)) (by omega)
    · exact hQ
  have a3 : ∀ Q w, HF P0 Q → HF P0 (fallS e Q i w) := fun Q w hQ => by
    unfold fallS partS offsS
    refine HF_it (fun l hl Q hQ => HF_fs hQ (by omega)) (HF_it (fun k hk Q hQ => ?_) (HF_fs ?_ (by omega)))
    · show HF P0 (if _ then _ else _)
      split
      · exact HF_of hE hk hQ
      · exact hQ
    · unfold noteS
      split
      · exact HF_fs (HF_fs (HF_fs hQ (by omega)) (by omega)) (by omega)
      · exact hQ
  unfold folS
  simp only []
  split
  · exact a3 _ _ (a2 _ _ _ _ (a1 _))
  · exact a2 _ _ _ _ (a1 _)
theorem HF_sv {e : Dat} {P0 : Row} {P : Row} {l : Nat} (hE : WE e) (hl : l < (e 241 13).toNat) (h : HF P0 P) : HF P0 (srv1 e l P) := by
  have n1 := we_n hE
  have n2 := we_l hE
  have n3 := we_p hE
  have n4 := we_o hE
  unfold srv1
  split
  · refine HF_fs (HF_fs (HF_fs (HF_fs ?_ (by omega)) (by omega)) (by omega)) (by omega)
    split
    · exact HF_fs (HF_fs h (by omega)) (by omega)
    · exact h
  · exact HF_fs (HF_fs (HF_fs h (by omega)) (by omega)) (by omega)
theorem HF_kp {e : Dat} {P0 : Row} {P : Row} {n : Nat} (hE : WE e) (hn : n < (e 241 1).toNat) (h : HF P0 P) : HF P0 (keep1 n P) := by
  have n1 := we_n hE
  have n2 := we_l hE
  have n3 := we_p hE
  rw [keep1_eq rfl]
  have hr : (P 285).toNat % 32 < 32 := Nat.mod_lt _ (by decide)
  generalize (P 285).toNat % 32 = r at *
  refine HF_fs (HF_fs (HF_fs (HF_fs ?_ (by omega)) (by omega)) (by omega)) (by omega)
  unfold keep0
  split
  · exact HF_fs h (by omega)
  · exact HF_fs (HF_fs (HF_fs (HF_fs h (by omega)) (by omega)) (by omega)) (by omega)
theorem HF_min {e : Dat} {P0 : Row} {P : Row} (hE : WE e) (h : HF P0 P) : HF P0 (minS e P) := by
  have n1 := we_n hE
  have n2 := we_l hE
  have n3 := we_p hE
  have n4 := we_c hE
  unfold minS minB minA
  refine HF_fs (HF_it (fun n hn Q hQ => HF_kp hE hn hQ) (HF_it (fun l hl Q hQ => HF_sv hE hl hQ) (HF_mk hE (HF_it (fun n hn Q hQ => ?_) (HF_mk hE (HF_it (fun k hk Q hQ => HF_wa hE hk hQ) (HF_it (fun k hk Q hQ => HF_or hE hk hQ) (HF_it (fun c hc Q hQ => HF_cr hE (by omega) hQ) h)))))))) (by omega)
  unfold fol1
  split
  · exact HF_fo hE hQ
  · exact hQ
theorem HF_mins {e : Dat} {P0 : Row} {P : Row} {n : Nat} (hE : WE e) (h : HF P0 P) : HF P0 (mins e n P) := HF_it (fun _ _ _ hQ => HF_min hE hQ) h
