/-! a whole minute keeps what holds between minutes (expanded by gen18.py) -/
theorem WQ_kp {e : Dat} {P Q : Row} (h : WQ e P) (hn : (e 241 1).toNat ≤ 14) (ho : ∀ j, (56 ≤ j ∧ j < 285) ∨ 2078 ≤ j → Q j = P j) (hm : 0 ≤ Q 285 ∧ Q 285 ≤ 600) (hs : ∀ j, j < 14 → -1000000 ≤ Q j ∧ Q j ≤ 1000000) : WQ e Q := by
  refine ⟨fun i hi => ?_, fun i hi => ?_, fun i hi => ?_, fun i hi => ?_, fun i hi => ?_, fun i hi => ?_, fun i hi => ?_, fun i hi => ?_, hm, ?_, hs, fun i hi => ?_, fun i hi => ?_⟩
  · rw [ho _ (by omega)]; exact wp_i h i hi
  · rw [ho _ (by omega)]; exact wp_l h i hi
  · rw [ho _ (by omega)]; exact wp_c h i hi
  · rw [ho _ (by omega)]; exact wp_o h i hi
  · rw [ho _ (by omega)]; exact wp_d h i hi
  · rw [ho _ (by omega), ho _ (by omega)]; exact wp_w h i hi
  · rw [ho _ (by omega), ho _ (by omega), ho _ (by omega)]; exact wp_g h i hi
  · rw [ho _ (by omega), ho _ (by omega)]; exact wp_f h i hi
  · rw [ho _ (by omega)]; exact wp_F h
  · rw [ho _ (by omega)]; exact wp_u h i hi
  · rw [ho _ (by omega), ho _ (by omega)]; exact wp_z h i hi
theorem keep_sw {n j : Nat} {Q : Row} (hn : n < 14) (hj : j < 14) : keep1 n Q j = if j = n ∧ ¬ Q (56 + n) = 1 then 0 else Q j := by
  rw [keep1_eq rfl]
  generalize (Q 285).toNat % 32 = r
  rw [fs_ne (by omega), fs_ne (by omega), fs_ne (by omega), fs_ne (by omega)]
  unfold keep0
  by_cases c : Q (56 + n) = 1
  · rw [if_pos c, if_neg (fun z => z.2 c), fs_ne (by omega)]
  · rw [if_neg c, fs_ne (by omega), fs_ne (by omega), fs_rd]
    by_cases z : j = n
    · rw [if_pos z, if_pos ⟨z, c⟩]
    · rw [if_neg z, if_neg (fun y => z y.1), fs_ne (by omega)]
theorem keeps_sw {e : Dat} {P : Row} (hn : (e 241 1).toNat ≤ 14) : (∀ j, (56 ≤ j ∧ j < 286) ∨ 2078 ≤ j → iterN keep1 ((e 241 1).toNat) P j = P j) ∧ ∀ j, j < 14 → iterN keep1 ((e 241 1).toNat) P j = if j < (e 241 1).toNat ∧ ¬ P (56 + j) = 1 then 0 else P j := by
  refine iter_inv (f := keep1) (s := P) (fun m Q => (∀ j, (56 ≤ j ∧ j < 286) ∨ 2078 ≤ j → Q j = P j) ∧ ∀ j, j < 14 → Q j = if j < m ∧ ¬ P (56 + j) = 1 then 0 else P j) ((e 241 1).toNat) (fun m hm Q hQ => ?_) ⟨fun _ _ => rfl, fun j _ => by rw [if_neg (by omega)]⟩
  obtain ⟨q1, q2⟩ := hQ
  refine ⟨fun j hj => (keep1_rd (by omega) hj).trans (q1 j hj), fun j hj => ?_⟩
  rw [keep_sw (by omega) hj, q1 (56 + m) (by omega), q2 j hj]
  by_cases z : j = m
  · subst z
    by_cases c : P (56 + j) = 1
    · rw [if_neg (fun y => y.2 c), if_neg (fun y => y.2 c), if_neg (fun y => y.2 c)]
    · rw [if_pos ⟨rfl, c⟩, if_pos ⟨by omega, c⟩]
  · rw [if_neg (fun y => z y.1)]
    by_cases c : P (56 + j) = 1
    · rw [if_neg (fun y => y.2 c), if_neg (fun y => y.2 c)]
    · by_cases c3 : j < m
      · rw [if_pos ⟨c3, c⟩, if_pos ⟨by omega, c⟩]
      · rw [if_neg (fun y => c3 y.1), if_neg (by omega)]
theorem keeps_MI {e : Dat} {P : Row} (hE : WE e) (hI : MI e P) : MI e (iterN keep1 ((e 241 1).toNat) P) := by
  obtain ⟨hW, hC, hU⟩ := hI
  have n1 := we_n hE
  have n2 := we_l hE
  have n3 := we_p hE
  obtain ⟨k1, k2⟩ := keeps_sw (e := e) (P := P) (by omega)
  generalize iterN keep1 ((e 241 1).toNat) P = Q at *
  refine ⟨WQ_kp hW (by omega) (fun j hj => k1 j (by omega)) (by rw [k1 _ (by omega)]; exact wp_m hW) (fun j hj => ?_), CI_fs hE hC (fun l hl => by rw [k1 _ (by omega)]) (fun k hk => by rw [k1 _ (by omega)]) (fun i hi => k1 i (by omega)), fun n hn => ?_⟩
  · rw [k2 j hj]
    split
    · decide
    · exact wp_s hW j hj
  · have y := wp_i hW n hn
    obtain ⟨hr, ho⟩ := isl_RI (P := P) hE ((e 241 3).toNat) (Nat.le_refl _)
    have id := RI_idem hr ho n hn
    rw [← CI_isl hC hn, ← CI_isl hC (show (P (70 + n)).toNat < (e 241 1).toNat by omega)] at id
    have l1 := CI_lit hE hC hn
    have l2 := CI_lit hE hC (show (P (70 + n)).toNat < (e 241 1).toNat by omega)
    rw [id, ← l1] at l2
    rw [k1 (70 + n) (by omega), k2 n (by omega), k2 _ (by omega)]
    by_cases c : P (56 + n) = 1
    · rw [if_neg (fun z => z.2 c), if_neg (fun z => z.2 (l2.mpr c))]
      exact hU n hn
    · rw [if_pos ⟨hn, c⟩, if_pos ⟨by omega, fun z => c (l2.mp z)⟩]
theorem min_MI {e : Dat} {P : Row} (hE : WE e) (hI : MI e P) (hL : LF P) (hm : P 285 ≤ 599) (h0 : P 224 ≤ 19000) : MI e (minS e P) ∧ LF (minS e P) ∧ minS e P 285 = P 285 + 1 ∧ (P 224 ≤ minS e P 224 ∧ minS e P 224 ≤ P 224 + 14) := by
  have n1 := we_n hE
  have n2 := we_o hE
  have n3 := we_p hE
  have m0 := wp_m hI.1
  obtain ⟨a1, a2⟩ := minA_MI hE hI
  have a224 := a2 224 (by omega)
  obtain ⟨f1, f2, f3, f4⟩ := fols_all hE a1 (by omega)
  have b1 := MI_mk hE f1 f4
  have b2 : ∀ j, 84 ≤ j → marksS e (iterN (fol1 e) ((e 241 1).toNat) (minA e P)) j = iterN (fol1 e) ((e 241 1).toNat) (minA e P) j := fun j hj => mk_hi hE (by omega)
  unfold minS minB
  generalize hB1 : marksS e (iterN (fol1 e) ((e 241 1).toNat) (minA e P)) = B1 at *
  have b3 : ∀ j, (148 ≤ j ∧ j < 196) ∨ (285 ≤ j ∧ j < 2102) → B1 j = P j := fun j hj => by
    rw [b2 j (by omega), f2 j (by omega), a2 j (by omega)]
  have b224 : P 224 ≤ B1 224 ∧ B1 224 ≤ P 224 + 14 := by
    rw [b2 _ (by omega)]
    omega
  have hL1 : LF B1 := fun l hl q => by
    rw [b3 _ (by omega)] at q
    rw [b3 (172 + l) (by omega), b3 285 (by omega)]
    exact hL l hl q
  obtain ⟨s1, s2, _, s4⟩ := srvs_all hE b1.1 hL1 ((e 241 13).toNat) (Nat.le_refl _)
  generalize iterN (srv1 e) ((e 241 13).toNat) B1 = B2 at *
  have c1 : MI e B2 := MI_cg hE b1 s1 (fun j hj => s4 j (by omega)) (fun k hk => by rw [s4 _ (by omega)])
  have c2 := keeps_MI hE c1
  obtain ⟨k1, k2⟩ := keeps_sw (e := e) (P := B2) (by omega)
  generalize iterN keep1 ((e 241 1).toNat) B2 = B3 at *
  have e285 : B3 285 = P 285 := by rw [k1 _ (by omega), s4 _ (by omega), b3 _ (by omega)]
  have e224 : B3 224 = B1 224 := by rw [k1 _ (by omega), s4 _ (by omega)]
  rw [e285, show wr (P 285 + 1) = P 285 + 1 from wr_of (by omega)]
  refine ⟨MI_cg hE c2 (WQ_kp c2.1 (by omega) (fun j hj => fs_ne (by omega)) (by rw [fs_eq]; omega) (fun j hj => by rw [fs_ne (by omega)]; exact wp_s c2.1 j hj)) (fun j hj => fs_ne (by omega)) (fun k hk => by rw [fs_ne (by omega)]), fun l hl q => ?_, fs_eq, ?_⟩
  · rw [fs_ne (by omega), k1 _ (by omega)] at q
    rw [fs_ne (show ¬ 172 + l = 285 by omega), fs_eq, k1 _ (by omega)]
    have := s2 l hl q
    rw [b3 285 (by omega)] at this
    exact this
  · rw [fs_ne (by omega), e224]
    exact b224
