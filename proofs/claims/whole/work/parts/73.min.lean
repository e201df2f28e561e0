/-! what holds between minutes holds on over a minute (expanded by gen18.py) -/
theorem WQ_cr {e : Dat} {P Q : Row} (h : WQ e P) (hn : (e 241 1).toNat ≤ 14) (ho : ∀ j, j < 196 ∨ 208 ≤ j → Q j = P j) (h1 : ∀ i, i < 4 → (0 ≤ Q (196 + i) ∧ Q (196 + i) < 14) ∧ (0 ≤ Q (200 + i) ∧ Q (200 + i) < 14) ∧ (0 ≤ Q (204 + i) ∧ Q (204 + i) ≤ 99)) : WQ e Q := by
  refine ⟨fun i hi => ?_, fun i hi => ?_, fun i hi => ?_, fun i hi => ?_, fun i hi => ?_, fun i hi => ?_, h1, fun i hi => ?_, ?_, ?_, fun i hi => ?_, fun i hi => ?_, fun i hi => ?_⟩
  · rw [ho _ (by omega)]; exact wp_i h i hi
  · rw [ho _ (by omega)]; exact wp_l h i hi
  · rw [ho _ (by omega)]; exact wp_c h i hi
  · rw [ho _ (by omega)]; exact wp_o h i hi
  · rw [ho _ (by omega)]; exact wp_d h i hi
  · rw [ho _ (by omega), ho _ (by omega)]; exact wp_w h i hi
  · rw [ho _ (by omega), ho _ (by omega)]; exact wp_f h i hi
  · rw [ho _ (by omega)]; exact wp_m h
  · rw [ho _ (by omega)]; exact wp_F h
  · rw [ho _ (by omega)]; exact wp_s h i hi
  · rw [ho _ (by omega)]; exact wp_u h i hi
  · rw [ho _ (by omega), ho _ (by omega)]; exact wp_z h i hi
theorem crew_rd {P : Row} {c j : Nat} (hc : c < 4) (hj : j < 196 ∨ 208 ≤ j) : crewS c P j = P j := by
  unfold crewS
  split
  · rfl
  · rw [fs_ne (by omega), fs_ne (by omega)]
theorem crew_WQ {e : Dat} {P : Row} {c : Nat} (h : WQ e P) (hn : (e 241 1).toNat ≤ 14) (hc : c < 4) : WQ e (crewS c P) := by
  refine WQ_cr h hn (fun j hj => crew_rd hc hj) (fun i hi => ?_)
  have g := wp_g h
  have gi := g i hi
  have gc := g c hc
  unfold crewS
  split
  · exact gi
  · rename_i q
    rw [show wr (P (204 + c) - 1) = P (204 + c) - 1 from wr_of (by omega)]
    refine ⟨?_, ?_, ?_⟩
    · rw [fs_rd]
      split
      · split
        · exact gc.2.1
        · exact gc.1
      · rw [fs_ne (by omega)]
        exact gi.1
    · rw [fs_ne (by omega), fs_ne (by omega)]
      exact gi.2.1
    · rw [fs_ne (by omega), fs_rd]
      split
      · omega
      · exact gi.2.2
theorem crews_MI {e : Dat} {P : Row} (hE : WE e) (hI : MI e P) : MI e (iterN crewS ((e 241 17).toNat) P) ∧ (∀ j, j < 196 ∨ 208 ≤ j → iterN crewS ((e 241 17).toNat) P j = P j) := by
  have n1 := we_n hE
  have n2 := we_c hE
  have h := iter_inv (f := crewS) (s := P) (fun _ Q => WQ e Q ∧ ∀ j, j < 196 ∨ 208 ≤ j → Q j = P j) ((e 241 17).toNat) (fun c hc Q hQ => ⟨crew_WQ hQ.1 (by omega) (by omega), fun j hj => (crew_rd (by omega) hj).trans (hQ.2 j hj)⟩) ⟨hI.1, fun _ _ => rfl⟩
  refine ⟨MI_cg hE hI h.1 (fun j hj => h.2 j (by omega)) (fun k hk => ?_), h.2⟩
  have n3 := we_p hE
  rw [h.2 _ (by omega)]
theorem ords_MI {e : Dat} {P : Row} (hE : WE e) (hI : MI e P) : ∀ n, n ≤ (e 241 21).toNat → MI e (iterN (ordS e) n P) ∧ (∀ i, (148 ≤ i ∧ i < 208) ∨ (224 ≤ i ∧ i < 2102) → iterN (ordS e) n P i = P i) := by
  intro n
  induction n with
  | zero => exact fun _ => ⟨hI, fun _ _ => rfl⟩
  | succ n ih =>
    intro hn
    obtain ⟨i1, i2⟩ := ih (by omega)
    obtain ⟨o1, o2⟩ := ord_MI (j := n) hE (by omega) i1
    exact ⟨o1, fun i hi => (o2 i hi).trans (i2 i hi)⟩
theorem warms_MI {e : Dat} {P : Row} (hE : WE e) (hI : MI e P) : MI e (marksS e (iterN (warm1 e) ((e 241 8).toNat) P)) ∧ (∀ j, (128 ≤ j ∧ j < 2102) → marksS e (iterN (warm1 e) ((e 241 8).toNat) P) j = P j) := by
  have n1 := we_n hE
  have n2 := we_p hE
  have n3 := we_l hE
  have h := iter_inv (f := warm1 e) (s := P) (fun _ Q => WQ e Q ∧ ∀ j, j < 104 ∨ 128 ≤ j → Q j = P j) ((e 241 8).toNat) (fun p hp Q hQ => ⟨warm1_WQ hE hQ.1 (by omega), fun j hj => (warm1_rd hj (by omega)).trans (hQ.2 j hj)⟩) ⟨hI.1, fun _ _ => rfl⟩
  refine ⟨MI_mk hE h.1 (ok_cg hE (UO_of hE hI.2.1 hI.2.2) (fun n hn => h.2 _ (by omega)) (fun l hl q => by rw [h.2 _ (by omega)] at q; exact q)), fun j hj => ?_⟩
  rw [mk_hi hE (by omega), h.2 _ (by omega)]
theorem minA_MI {e : Dat} {P : Row} (hE : WE e) (hI : MI e P) : MI e (minA e P) ∧ (∀ j, (148 ≤ j ∧ j < 196) ∨ (224 ≤ j ∧ j < 2102) → minA e P j = P j) := by
  obtain ⟨c1, c2⟩ := crews_MI hE hI
  obtain ⟨o1, o2⟩ := ords_MI hE c1 ((e 241 21).toNat) (Nat.le_refl _)
  obtain ⟨w1, w2⟩ := warms_MI hE o1
  exact ⟨w1, fun j hj => (w2 j (by omega)).trans ((o2 j (by omega)).trans (c2 j (by omega)))⟩
theorem set_ex {e : Dat} {P : Row} {i s v p : Int} {n : Nat} (hn : (e 241 1).toNat ≤ 14) (hn2 : n < (e 241 1).toNat) : setS e i s v p P n = if P (70 + n) = i then s else P n := by
  unfold setS
  have h := iter_inv (f := fun n P => if P (70 + n) = i then fset (fset (fset P n s) (14 + n) v) (28 + n) p else P) (s := P) (fun m Q => (∀ j, 42 ≤ j → Q j = P j) ∧ ∀ j, j < (e 241 1).toNat → Q j = if j < m ∧ P (70 + j) = i then s else P j) ((e 241 1).toNat) (fun m hm Q hQ => ?_) ⟨fun _ _ => rfl, fun j _ => by rw [if_neg (by omega)]⟩
  · rw [h.2 n hn2]
    by_cases c : P (70 + n) = i
    · rw [if_pos ⟨hn2, c⟩, if_pos c]
    · rw [if_neg (fun z => c z.2), if_neg c]
  · obtain ⟨q1, q2⟩ := hQ
    rw [q1 (70 + m) (by omega)]
    by_cases c : P (70 + m) = i
    · rw [if_pos c]
      refine ⟨fun j hj => by rw [fs_ne (by omega), fs_ne (by omega), fs_ne (by omega)]; exact q1 j hj, fun j hj => ?_⟩
      rw [fs_ne (by omega), fs_ne (by omega), fs_rd, q2 j hj]
      by_cases z : j = m
      · rw [if_pos z, if_pos ⟨by omega, by rw [z]; exact c⟩]
      · rw [if_neg z]
        by_cases c2 : P (70 + j) = i
        · by_cases c3 : j < m
          · rw [if_pos ⟨c3, c2⟩, if_pos ⟨by omega, c2⟩]
          · rw [if_neg (fun z => c3 z.1), if_neg (by omega)]
        · rw [if_neg (fun z => c2 z.2), if_neg (fun z => c2 z.2)]
    · rw [if_neg c]
      refine ⟨q1, fun j hj => ?_⟩
      rw [q2 j hj]
      by_cases z : j = m
      · rw [z, if_neg (by omega), if_neg (fun z => c z.2)]
      · by_cases c2 : P (70 + j) = i
        · by_cases c3 : j < m
          · rw [if_pos ⟨c3, c2⟩, if_pos ⟨by omega, c2⟩]
          · rw [if_neg (fun z => c3 z.1), if_neg (by omega)]
        · rw [if_neg (fun z => c2 z.2), if_neg (fun z => c2 z.2)]
theorem fol_sw {e : Dat} {P : Row} {n : Nat} (hE : WE e) (hW : WQ e P) : ∃ s, ∀ j, j < (e 241 1).toNat → folS e P (n : Int) j = if P (70 + j) = (n : Int) then s else P j := by
  have n1 := we_n hE
  have hF := wp_F hW
  unfold folS
  generalize demS e P (n : Int) = q
  have a2 := fun j hj => ramps_how (P := P) (i := (n : Int)) (q := q) (j := j) hj hE
  generalize rampsS e P (n : Int) q = P1 at *
  refine ⟨swingS e P1 (n : Int) q, fun j hj => ?_⟩
  generalize swingS e P1 (n : Int) q = s at *
  generalize voltS e P1 (n : Int) q = v at *
  generalize spareS e P1 (n : Int) = p at *
  have h := set_ex (P := P1) (i := (n : Int)) (s := s) (v := v) (p := p) (by omega) hj
  have g : setS e (n : Int) s v p P1 224 = P 224 := by rw [setS_rd (by omega) (by omega), a2 _ (by omega)]
  rw [a2 (70 + j) (by omega), a2 j (by omega)] at h
  split
  · rw [(fall_all (i := (n : Int)) (w := whyS s v) hE (by rw [g]; exact hF)).1 j (by omega)]
    exact h
  · exact h
theorem f4' {e : Dat} {P : Row} {n : Nat} (hE : WE e) (h : WQ e P) (h0 : P 224 ≤ 19999) (hn : n < (e 241 1).toNat) (hw : ¬ weightS e P (n : Int) = 0) : ∀ l, l < 20 → folS e P (n : Int) (84 + l) = P (84 + l) ∨ folS e P (n : Int) (84 + l) = 0 := by
  have n1 := we_n hE
  have hF := wp_F h
  intro l hl
  unfold folS
  generalize demS e P (n : Int) = q
  have a2 := fun j hj => ramps_how (P := P) (i := (n : Int)) (q := q) (j := j) hj hE
  generalize rampsS e P (n : Int) q = P1 at *
  generalize swingS e P1 (n : Int) q = s at *
  generalize voltS e P1 (n : Int) q = v at *
  generalize spareS e P1 (n : Int) = p at *
  have g : ∀ j, 42 ≤ j → j < 112 ∨ 120 ≤ j → setS e (n : Int) s v p P1 j = P j := fun j h1 h2 => by rw [setS_rd h1 (by omega), a2 _ h2]
  split
  · have f := (fall_all (P := setS e (n : Int) s v p P1) (i := (n : Int)) (w := whyS s v) hE (by rw [g _ (by omega) (by omega)]; exact hF)).2.2.2 l hl
    rw [g _ (by omega) (by omega)] at f
    exact f
  · exact Or.inl (g _ (by omega) (by omega))
/-- the islands' following, all of them -/
theorem fols_all {e : Dat} {P : Row} (hE : WE e) (hI : MI e P) (h0 : P 224 ≤ 19000) : WQ e (iterN (fol1 e) ((e 241 1).toNat) P) ∧ (∀ j, (42 ≤ j ∧ j < 84) ∨ (136 ≤ j ∧ j < 224) ∨ 285 ≤ j → iterN (fol1 e) ((e 241 1).toNat) P j = P j) ∧ (P 224 ≤ iterN (fol1 e) ((e 241 1).toNat) P 224 ∧ iterN (fol1 e) ((e 241 1).toNat) P 224 ≤ P 224 + 14) ∧ okI e (iterN (fol1 e) ((e 241 1).toNat) P) ((e 241 3).toNat) (iterN (fol1 e) ((e 241 1).toNat) P) := by
  obtain ⟨hW, hC, hU⟩ := hI
  have n1 := we_n hE
  have n2 := we_l hE
  have n3 := we_p hE
  have h := iter_inv (f := fol1 e) (s := P) (fun n Q => WQ e Q ∧ (∀ j, (42 ≤ j ∧ j < 84) ∨ (136 ≤ j ∧ j < 224) ∨ 285 ≤ j → Q j = P j) ∧ (P 224 ≤ Q 224 ∧ Q 224 ≤ P 224 + n) ∧ (∀ k, k < (e 241 8).toNat → Q (104 + k) = P (104 + k) ∨ P (70 + (e 249 k).toNat) < (n : Int)) ∧ (∀ x y, x < (e 241 1).toNat → y < (e 241 1).toNat → P (70 + x) = P (70 + y) → Q x = Q y) ∧ (∀ l, l < 20 → Q (84 + l) = 1 → P (84 + l) = 1)) ((e 241 1).toNat) (fun n hn Q hQ => ?_) ⟨hW, fun _ _ => rfl, by omega, fun _ _ => Or.inl rfl, fun x y hx hy q => by rw [hU x hx, hU y hy, q], fun _ _ q => q⟩
  · obtain ⟨h1, h2, h3, _, h5, h6⟩ := h
    refine ⟨h1, h2, by omega, fun l hl hc => ?_⟩
    have x1 := we_L hE l
    have x2 := we_L2 hE l hl
    exact h5 _ _ (by omega) (by omega) (CI_ok hE hC l hl (h6 l (by omega) hc))
  · obtain ⟨i1, i2, i3, i5, i6, i7⟩ := hQ
    by_cases c : Q (70 + n) = (n : Int) ∧ Q (56 + n) = 1
    · have e1 : fol1 e n Q = folS e Q n := if_pos c
      rw [e1]
      have hw : ¬ weightS e Q (n : Int) = 0 := by
        have c2 := c
        rw [i2 _ (by omega), i2 _ (by omega)] at c2
        obtain ⟨k, k1, k2, k3⟩ := (CI_lit hE hC hn).mp c2.2
        have x := we_P hE k
        have hk : Q (104 + k) = P (104 + k) := by
          rcases i5 k k1 with z | z
          · exact z
          · omega
        have := weight_pos (P := Q) (i := (n : Int)) hE k1 ⟨by rw [hk]; exact k2, by rw [i2 _ (by omega), k3]; exact c2.1⟩
        omega
      obtain ⟨f1, f2, f3, f4, f5⟩ := fol_all hE i1 (by omega) hn hw
      obtain ⟨s, hs⟩ := fol_sw (n := n) hE i1
      refine ⟨f1, fun j hj => (f2 j (by omega)).trans (i2 j hj), by omega, fun k hk => ?_, fun x y hx hy q => ?_, fun l hl q => ?_⟩
      · have x := we_P hE k
        rcases f5 k (by omega) with z | z
        · rw [z]
          rcases i5 k hk with z2 | z2
          · exact Or.inl z2
          · exact Or.inr (by omega)
        · rw [i2 _ (by omega)] at z
          exact Or.inr (by omega)
      · have i2x := i2 (70 + x) (by omega)
        have i2y := i2 (70 + y) (by omega)
        rw [hs x hx, hs y hy, i2x, i2y, q, i6 x y hx hy q]
      · refine i7 l hl ?_
        rcases f4' hE i1 (by omega) hn hw l hl with z | z
        · rw [← z]
          exact q
        · rw [z] at q
          exact absurd q (by decide)
    · have e1 : fol1 e n Q = Q := if_neg c
      rw [e1]
      exact ⟨i1, i2, by omega, fun k hk => by
        rcases i5 k hk with z2 | z2
        · exact Or.inl z2
        · exact Or.inr (by omega), i6, i7⟩
