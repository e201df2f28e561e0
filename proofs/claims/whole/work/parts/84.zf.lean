/-! what lies behind the counts stays 0 (expanded by gen18.py) -/
def Zx (e : Dat) (j : Nat) : Prop := (56 + (e 241 1).toNat ≤ j ∧ j < 70) ∨ (84 + (e 241 3).toNat ≤ j ∧ j < 104) ∨ (104 + (e 241 8).toNat ≤ j ∧ j < 112)
def ZF (e : Dat) (P : Row) : Prop := ∀ j, Zx e j → P j = 0
theorem ZF_fs {e : Dat} {P : Row} {i : Nat} {v : Int} (h : ZF e P) (hi : ¬ Zx e i) : ZF e (fset P i v) := fun j hj => by
  have q : ¬ j = i := fun q => hi (by rw [← q]; exact hj)
  rw [fs_ne q]
  exact h j hj
theorem ZF_it {e : Dat} {f : Nat → Row → Row} {n : Nat} {P : Row} (hs : ∀ i, i < n → ∀ Q, ZF e Q → ZF e (f i Q)) (h : ZF e P) : ZF e (iterN f n P) := iter_inv (f := f) (fun _ Q => ZF e Q) n hs h
theorem ZF_mk {e : Dat} {P : Row} (hE : WE e) (h : ZF e P) : ZF e (marksS e P) := by
  have n1 := we_n hE
  intro j hj
  have g : marksS e P j = P j := by
    unfold Zx at hj
    unfold marksS
    rw [if_neg (by omega), if_neg (by omega)]
  rw [g]
  exact h j hj
theorem ZF_cr {e : Dat} {P : Row} {c : Nat} (hE : WE e) (hc : c < 4) (h : ZF e P) : ZF e (crewS c P) := by
  have n1 := we_n hE
  have n2 := we_l hE
  have n3 := we_p hE
  unfold crewS
  split
  · exact h
  · exact ZF_fs (ZF_fs h (by unfold Zx; omega)) (by unfold Zx; omega)
theorem ZF_cl {e : Dat} {P : Row} {l : Nat} (hE : WE e) (hl : l < (e 241 3).toNat) (h : ZF e P) : ZF e (closesS e P l) := by
  have n1 := we_n hE
  have n2 := we_l hE
  have n3 := we_p hE
  unfold closesS
  refine ZF_fs ?_ (by unfold Zx; omega)
  split
  · exact h
  · unfold evenS
    exact ZF_it (fun i hi Q hQ => ZF_fs hQ (by unfold Zx; omega)) h
theorem ZF_of {e : Dat} {P : Row} {p : Nat} {f : Int} (hE : WE e) (hp : p < (e 241 8).toNat) (h : ZF e P) : ZF e (offS P p f) := by
  have n1 := we_n hE
  have n2 := we_l hE
  have n3 := we_p hE
  unfold offS
  exact ZF_fs (ZF_fs (ZF_fs (ZF_fs h (by unfold Zx; omega)) (by unfold Zx; omega)) (by unfold Zx; omega)) (by unfold Zx; omega)
theorem ZF_do {e : Dat} {P : Row} {q o : Int} (hE : WE e) (hq : 0 ≤ q ∧ q ≤ 5) (hh : hasS e q o = true) (h : ZF e P) : ZF e (doesS e P q o.toNat) := by
  have n1 := we_n hE
  have n2 := we_l hE
  have n3 := we_p hE
  have n4 := we_o hE
  unfold doesS
  refine ZF_mk hE ?_
  unfold hasS at hh
  have hh := of_decide_eq_true hh
  obtain ⟨p, hp⟩ : ∃ p : Nat, o = (p : Int) := ⟨o.toNat, by omega⟩
  subst hp
  rw [Int.toNat_natCast]
  rcases k_of hq with q1 | q1 | q1 | q1 | q1 | q1 <;> subst q1
  · have hh : 0 ≤ (p : Int) ∧ (p : Int) < e 241 3 := hh
    rw [act_0]
    exact ZF_cl hE (by omega) h
  · have hh : 0 ≤ (p : Int) ∧ (p : Int) < e 241 3 := hh
    rw [act_1]
    exact ZF_fs h (by unfold Zx; omega)
  · have hh : 0 ≤ (p : Int) ∧ (p : Int) < e 241 8 := hh
    rw [act_2]
    exact ZF_fs (ZF_fs h (by unfold Zx; omega)) (by unfold Zx; omega)
  · have hh : 0 ≤ (p : Int) ∧ (p : Int) < e 241 8 := hh
    rw [act_3]
    exact ZF_of hE (by omega) h
  · have hh : 0 ≤ (p : Int) ∧ (p : Int) < e 241 13 := hh
    rw [act_4]
    exact ZF_fs h (by unfold Zx; omega)
  · have hh : 0 ≤ (p : Int) ∧ (p : Int) < e 241 13 := hh
    rw [act_5]
    exact ZF_fs h (by unfold Zx; omega)
theorem ZF_or {e : Dat} {P : Row} {k : Nat} (hE : WE e) (hk : k < (e 241 21).toNat) (h : ZF e P) : ZF e (ordS e k P) := by
  have n1 := we_n hE
  have n2 := we_l hE
  have n3 := we_p hE
  have n4 := we_k hE
  have x1 := we_K hE k
  have x2 := we_K2 hE k hk
  unfold ordS
  split
  · exact ZF_fs (ZF_do hE (by omega) x2.2.2 h) (by unfold Zx; omega)
  · exact h
theorem ZF_wa {e : Dat} {P : Row} {k : Nat} (hE : WE e) (hk : k < (e 241 8).toNat) (h : ZF e P) : ZF e (warm1 e k P) := by
  have n1 := we_n hE
  have n2 := we_l hE
  have n3 := we_p hE
  unfold warm1
  split
  · split
    · exact ZF_fs (ZF_fs h (by unfold Zx; omega)) (by unfold Zx; omega)
    · split
      · exact ZF_fs (ZF_fs (ZF_fs h (by unfold Zx; omega)) (by unfold Zx; omega)) (by unfold Zx; omega)
      · exact ZF_fs h (by unfold Zx; omega)
  · exact h
theorem ZF_fo {e : Dat} {P : Row} {i : Int} (hE : WE e) (h : ZF e P) : ZF e (folS e P i) := by
  have n1 := we_n hE
  have n2 := we_l hE
  have n3 := we_p hE
  have a1 : ∀ q, ZF e (rampsS e P i q) := fun q => by
    unfold rampsS
    refine ZF_it (fun k hk Q hQ => ?_) h
    unfold ramp1
    split
    · exact ZF_fs hQ (by unfold Zx; omega)
    · exact hQ
  have a2 : ∀ Q s v p, ZF e Q → ZF e (setS e i s v p Q) := fun Q s v p hQ => by
    unfold setS
    refine ZF_it (fun n hn Q hQ => ?_) hQ
    show ZF e (if _ then _ else _)
    split
    · exact ZF_fs (ZF_fs (ZF_fs hQ (by unfold Zx; omega)) (by unfold Zx; omega)) (by unfold Zx; omega)
    · exact hQ
  have a3 : ∀ Q w, ZF e Q → ZF e (fallS e Q i w) := fun Q w hQ => by
    unfold fallS partS offsS
    refine ZF_it (fun l hl Q hQ => ZF_fs hQ (by unfold Zx; omega)) (ZF_it (fun k hk Q hQ => ?_) (ZF_fs ?_ (by unfold Zx; omega)))
    · show ZF e (if _ then _ else _)
      split
      · exact ZF_of hE hk hQ
      · exact hQ
    · unfold noteS
      split
      · exact ZF_fs (ZF_fs (ZF_fs hQ (by unfold Zx; omega)) (by unfold Zx; omega)) (by unfold Zx; omega)
      · exact hQ
  unfold folS
  simp only []
  split
  · exact a3 _ _ (a2 _ _ _ _ (a1 _))
  · exact a2 _ _ _ _ (a1 _)
theorem ZF_sv {e : Dat} {P : Row} {l : Nat} (hE : WE e) (h : ZF e P) : ZF e (srv1 e l P) := by
  have n1 := we_n hE
  have n2 := we_l hE
  have n3 := we_p hE
  unfold srv1
  split
  · refine ZF_fs (ZF_fs (ZF_fs (ZF_fs ?_ (by unfold Zx; omega)) (by unfold Zx; omega)) (by unfold Zx; omega)) (by unfold Zx; omega)
    split
    · exact ZF_fs (ZF_fs h (by unfold Zx; omega)) (by unfold Zx; omega)
    · exact h
  · exact ZF_fs (ZF_fs (ZF_fs h (by unfold Zx; omega)) (by unfold Zx; omega)) (by unfold Zx; omega)
theorem ZF_kp {e : Dat} {P : Row} {n : Nat} (hE : WE e) (hn : n < (e 241 1).toNat) (h : ZF e P) : ZF e (keep1 n P) := by
  have n1 := we_n hE
  have n2 := we_l hE
  have n3 := we_p hE
  rw [keep1_eq rfl]
  generalize (P 285).toNat % 32 = r
  refine ZF_fs (ZF_fs (ZF_fs (ZF_fs ?_ (by unfold Zx; omega)) (by unfold Zx; omega)) (by unfold Zx; omega)) (by unfold Zx; omega)
  unfold keep0
  split
  · exact ZF_fs h (by unfold Zx; omega)
  · exact ZF_fs (ZF_fs (ZF_fs (ZF_fs h (by unfold Zx; omega)) (by unfold Zx; omega)) (by unfold Zx; omega)) (by unfold Zx; omega)
theorem ZF_min {e : Dat} {P : Row} (hE : WE e) (h : ZF e P) : ZF e (minS e P) := by
  have n1 := we_n hE
  have n2 := we_l hE
  have n3 := we_p hE
  have n4 := we_c hE
  unfold minS minB minA
  refine ZF_fs (ZF_it (fun n hn Q hQ => ZF_kp hE hn hQ) (ZF_it (fun l hl Q hQ => ZF_sv hE hQ) (ZF_mk hE (ZF_it (fun n hn Q hQ => ?_) (ZF_mk hE (ZF_it (fun k hk Q hQ => ZF_wa hE hk hQ) (ZF_it (fun k hk Q hQ => ZF_or hE hk hQ) (ZF_it (fun c hc Q hQ => ZF_cr hE (by omega) hQ) h)))))))) (by unfold Zx; omega)
  unfold fol1
  split
  · exact ZF_fo hE hQ
  · exact hQ
theorem ZF_mins {e : Dat} {P : Row} {n : Nat} (hE : WE e) (h : ZF e P) : ZF e (mins e n P) := ZF_it (fun _ _ _ hQ => ZF_min hE hQ) h
