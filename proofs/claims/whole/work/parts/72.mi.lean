/-! what holds between deeds holds on over a deed (expanded by gen18.py) -/
theorem CI_ok {e : Dat} {P : Row} (hE : WE e) (hC : CI e P) : okI e P ((e 241 3).toNat) (fun n => P (70 + n)) := by
  intro l hl hc
  have x1 := we_L hE l
  have x2 := we_L2 hE l hl
  have h := (isl_RI (P := P) hE ((e 241 3).toNat) (Nat.le_refl _)).2 l hl hc
  show P (70 + (e 244 l).toNat) = P (70 + (e 245 l).toNat)
  rw [CI_isl hC (by omega), CI_isl hC (by omega)]
  exact h
theorem UO_of {e : Dat} {P : Row} (hE : WE e) (hC : CI e P) (hU : UN e P) : okI e P ((e 241 3).toNat) P := by
  intro l hl hc
  have x1 := we_L hE l
  have x2 := we_L2 hE l hl
  have h : P (70 + (e 244 l).toNat) = P (70 + (e 245 l).toNat) := CI_ok hE hC l hl hc
  rw [hU ((e 244 l).toNat) (by omega), hU ((e 245 l).toNat) (by omega), h]
theorem UN_mk {e : Dat} {Q : Row} (hE : WE e) (ho : okI e Q ((e 241 3).toNat) Q) : UN e (marksS e Q) := by
  intro n hn
  have n1 := we_n hE
  obtain ⟨⟨h1, h2⟩, _⟩ := isl_RI (P := Q) hE ((e 241 3).toNat) (Nat.le_refl _)
  have h3 := h1 n hn
  rw [mk_isl hn, mk_hi hE (by omega), mk_hi hE (by omega)]
  exact h2 Q ho n hn
theorem WQ_mk {e : Dat} {Q : Row} (hE : WE e) (h : WQ e Q) : WQ e (marksS e Q) := by
  have n1 := we_n hE
  have hi := (isl_RI (P := Q) hE ((e 241 3).toNat) (Nat.le_refl _)).1.1
  have g : ∀ j, j < 56 ∨ 84 ≤ j → marksS e Q j = Q j := fun j hj => mk_hi hE hj
  refine ⟨fun i hi2 => ?_, fun i hi2 => ?_, fun i hi => ?_, fun i hi => ?_, fun i hi => ?_, fun i hi => ?_, fun i hi => ?_, fun i hi => ?_, ?_, ?_, fun i hi => ?_, fun i hi => ?_, fun i hi => ?_⟩
  · rw [mk_isl hi2]
    have := hi i hi2
    omega
  · by_cases c : i < (e 241 1).toNat
    · rw [mk_lit hE c]
      exact lit_01
    · rw [mk_el (by omega) (by omega)]
      exact wp_l h i hi2
  · rw [g _ (by omega)]; exact wp_c h i hi
  · rw [g _ (by omega)]; exact wp_o h i hi
  · rw [g _ (by omega)]; exact wp_d h i hi
  · rw [g _ (by omega), g _ (by omega)]; exact wp_w h i hi
  · rw [g _ (by omega), g _ (by omega), g _ (by omega)]; exact wp_g h i hi
  · rw [g _ (by omega), g _ (by omega)]; exact wp_f h i hi
  · rw [g _ (by omega)]; exact wp_m h
  · rw [g _ (by omega)]; exact wp_F h
  · rw [g _ (by omega)]; exact wp_s h i hi
  · rw [g _ (by omega)]; exact wp_u h i hi
  · rw [g _ (by omega), g _ (by omega)]; exact wp_z h i hi
theorem MI_mk {e : Dat} {Q : Row} (hE : WE e) (h : WQ e Q) (ho : okI e Q ((e 241 3).toNat) Q) : MI e (marksS e Q) := ⟨WQ_mk hE h, CI_mk hE, UN_mk hE ho⟩
theorem td_mean {x w B : Int} (hw : 1 ≤ w) (hB : 0 ≤ B) (h : -(B * w) ≤ x ∧ x ≤ B * w) : -B ≤ x.tdiv w ∧ x.tdiv w ≤ B := by
  have key : ∀ y : Int, 0 ≤ y → y ≤ B * w → 0 ≤ y.tdiv w ∧ y.tdiv w ≤ B := by
    intro y hy hy2
    rw [Int.tdiv_eq_ediv_of_nonneg hy]
    exact ⟨Int.ediv_nonneg hy (by omega), Int.ediv_le_of_le_mul (by omega) hy2⟩
  by_cases c : 0 ≤ x
  · have := key x c h.2
    omega
  · have := key (-x) (by omega) (by omega)
    rw [Int.neg_tdiv] at this
    omega
theorem mul_bd {x w B C : Int} (hx : -B ≤ x ∧ x ≤ B) (hw : 0 ≤ w ∧ w ≤ C) (hB : 0 ≤ B) : -(B * w) ≤ x * w ∧ x * w ≤ B * w ∧ B * w ≤ B * C := by
  have h1 : x * w ≤ B * w := Int.mul_le_mul_of_nonneg_right hx.2 hw.1
  have h2 : -B * w ≤ x * w := Int.mul_le_mul_of_nonneg_right hx.1 hw.1
  have h3 : B * w ≤ B * C := Int.mul_le_mul_of_nonneg_left hw.2 hB
  rw [Int.neg_mul] at h2
  exact ⟨h2, h1, h3⟩
theorem mean_bd {e : Dat} {P : Row} {l : Nat} (hE : WE e) (h : WQ e P) (hw : ¬ wr (weightS e P (P (70 + (e 244 l).toNat)) + weightS e P (P (70 + (e 245 l).toNat))) = 0) : -1000000 ≤ meanS e P l ∧ meanS e P l ≤ 1000000 := by
  have x := we_L hE l
  have b1 := weight_bd (P := P) (i := P (70 + (e 244 l).toNat)) hE
  have b2 := weight_bd (P := P) (i := P (70 + (e 245 l).toNat)) hE
  have s1 := wp_s h ((e 244 l).toNat) (by omega)
  have s2 := wp_s h ((e 245 l).toNat) (by omega)
  unfold meanS
  generalize weightS e P (P (70 + (e 244 l).toNat)) = w1 at *
  generalize weightS e P (P (70 + (e 245 l).toNat)) = w2 at *
  generalize P ((e 244 l).toNat) = y1 at *
  generalize P ((e 245 l).toNat) = y2 at *
  have m1 := mul_bd (B := 1000000) (C := 792) s1 b1 (by decide)
  have m2 := mul_bd (B := 1000000) (C := 792) s2 b2 (by decide)
  have e3 : wr (w1 + w2) = w1 + w2 := wr_of (by omega)
  rw [e3] at hw ⊢
  clear e3
  have t := td_mean (x := y1 * w1 + y2 * w2) (w := w1 + w2) (B := 1000000) (by omega) (by decide) (by rw [Int.mul_add]; omega)
  rw [wr_of (x := y1 * w1) (by omega), wr_of (x := y2 * w2) (by omega), wr_of (x := y1 * w1 + y2 * w2) (by omega)]
  generalize (y1 * w1 + y2 * w2).tdiv (w1 + w2) = z at *
  rw [wr_of (by omega)]
  exact t
theorem even_low {e : Dat} {P : Row} {a b s : Int} {n : Nat} (hn : (e 241 1).toNat ≤ 14) (hn2 : n < (e 241 1).toNat) : evenS e P a b s n = if P (70 + n) = a ∨ P (70 + n) = b then s else P n := by
  unfold evenS
  have h := iter_inv (f := fun n P => fset P n (if P (70 + n) = a ∨ P (70 + n) = b then s else P n)) (s := P) (fun m Q => (∀ j, 14 ≤ j → Q j = P j) ∧ ∀ j, j < (e 241 1).toNat → Q j = if j < m ∧ (P (70 + j) = a ∨ P (70 + j) = b) then s else P j) ((e 241 1).toNat) (fun m hm Q hQ => ?_) ⟨fun _ _ => rfl, fun j _ => by rw [if_neg (by omega)]⟩
  · rw [h.2 n hn2]
    by_cases c : P (70 + n) = a ∨ P (70 + n) = b
    · rw [if_pos ⟨hn2, c⟩, if_pos c]
    · rw [if_neg (fun z => c z.2), if_neg c]
  · obtain ⟨q1, q2⟩ := hQ
    refine ⟨fun j hj => (fs_ne (by omega)).trans (q1 j hj), fun j hj => ?_⟩
    rw [fs_rd, q1 (70 + m) (by omega), q2 m hm, q2 j hj]
    by_cases z : j = m
    · subst z
      have e1 : (if j < j ∧ (P (70 + j) = a ∨ P (70 + j) = b) then s else P j) = P j := if_neg (fun z => absurd z.1 (by omega))
      rw [if_pos rfl, e1]
      by_cases c : P (70 + j) = a ∨ P (70 + j) = b
      · rw [if_pos c, if_pos ⟨by omega, c⟩]
      · rw [if_neg c, if_neg (fun z => c z.2)]
    · rw [if_neg z]
      by_cases c : P (70 + j) = a ∨ P (70 + j) = b
      · by_cases c2 : j < m
        · rw [if_pos ⟨c2, c⟩, if_pos ⟨by omega, c⟩]
        · rw [if_neg (fun z => c2 z.1), if_neg (by omega)]
      · rw [if_neg (fun z => c z.2), if_neg (fun z => c z.2)]
theorem closes_low {e : Dat} {P : Row} {l n : Nat} (hE : WE e) (hn : n < (e 241 1).toNat) : closesS e P l n = if ¬ P (70 + (e 244 l).toNat) = P (70 + (e 245 l).toNat) ∧ (P (70 + n) = P (70 + (e 244 l).toNat) ∨ P (70 + n) = P (70 + (e 245 l).toNat)) then meanS e P l else P n := by
  have n1 := we_n hE
  unfold closesS
  rw [fs_ne (by omega)]
  by_cases c : P (70 + (e 244 l).toNat) = P (70 + (e 245 l).toNat)
  · rw [if_pos c, if_neg (fun z => z.1 c)]
  · rw [if_neg c, even_low (by omega) hn]
    by_cases c2 : P (70 + n) = P (70 + (e 244 l).toNat) ∨ P (70 + n) = P (70 + (e 245 l).toNat)
    · rw [if_pos c2, if_pos ⟨c, c2⟩]
    · rw [if_neg c2, if_neg (fun z => c2 z.2)]
theorem closes_MI {e : Dat} {P : Row} {l : Nat} (hE : WE e) (hI : MI e P) (hl : l < (e 241 3).toNat) (hm : mayC e P l = true) : MI e (marksS e (closesS e P l)) := by
  obtain ⟨hW, hC, hU⟩ := hI
  have n1 := we_n hE
  have n2 := we_l hE
  have mb := mean_bd hE hW (may_w hE hC hl hm)
  have ok := CI_ok hE hC
  have uo := UO_of hE hC hU
  have g : ∀ j, (e 241 1).toNat ≤ j → ¬ j = 84 + l → closesS e P l j = P j := fun j h1 h2 => closes_rd h1 h2
  refine MI_mk hE ?_ ?_
  · refine ⟨fun i hi => ?_, fun i hi => ?_, fun i hi => ?_, fun i hi => ?_, fun i hi => ?_, fun i hi => ?_, fun i hi => ?_, fun i hi => ?_, ?_, ?_, fun i hi => ?_, fun i hi => ?_, fun i hi => ?_⟩
    · rw [g _ (by omega) (by omega)]; exact wp_i hW i hi
    · rw [g _ (by omega) (by omega)]; exact wp_l hW i hi
    · by_cases z : i = l
      · subst z
        unfold closesS
        rw [fs_eq]
        exact Or.inr rfl
      · rw [g _ (by omega) (by omega)]; exact wp_c hW i hi
    · rw [g _ (by omega) (by omega)]; exact wp_o hW i hi
    · rw [g _ (by omega) (by omega)]; exact wp_d hW i hi
    · rw [g _ (by omega) (by omega), g _ (by omega) (by omega)]; exact wp_w hW i hi
    · rw [g _ (by omega) (by omega), g _ (by omega) (by omega), g _ (by omega) (by omega)]; exact wp_g hW i hi
    · rw [g _ (by omega) (by omega), g _ (by omega) (by omega)]; exact wp_f hW i hi
    · rw [g _ (by omega) (by omega)]; exact wp_m hW
    · rw [g _ (by omega) (by omega)]; exact wp_F hW
    · by_cases c : i < (e 241 1).toNat
      · rw [closes_low hE c]
        split
        · exact mb
        · exact wp_s hW i hi
      · rw [g _ (by omega) (by omega)]; exact wp_s hW i hi
    · rw [g _ (by omega) (by omega)]; exact wp_u hW i hi
    · rw [g _ (by omega) (by omega), g _ (by omega) (by omega)]; exact wp_z hW i hi
  · intro j hj hc
    have x1 := we_L hE j
    have x2 := we_L2 hE j hj
    rw [closes_low hE (by omega), closes_low hE (by omega)]
    by_cases z : j = l
    · subst z
      by_cases c : P (70 + (e 244 j).toNat) = P (70 + (e 245 j).toNat)
      · rw [if_neg (fun z => z.1 c), if_neg (fun z => z.1 c), hU ((e 244 j).toNat) (by omega), hU ((e 245 j).toNat) (by omega), c]
      · rw [if_pos ⟨c, Or.inl rfl⟩, if_pos ⟨c, Or.inr rfl⟩]
    · rw [g _ (by omega) (by omega)] at hc
      have o1 : P (70 + (e 244 j).toNat) = P (70 + (e 245 j).toNat) := ok j hj hc
      rw [o1, uo j hj hc]
theorem WQ_bits {e : Dat} {P Q : Row} (h : WQ e P) (hn : (e 241 1).toNat ≤ 14) (ho : ∀ j, j < 84 ∨ (104 ≤ j ∧ j < 136) ∨ (148 ≤ j ∧ j < 208) ∨ 224 ≤ j → Q j = P j) (h1 : ∀ i, i < 20 → Q (84 + i) = 0 ∨ Q (84 + i) = 1) (h2 : ∀ i, i < 12 → Q (136 + i) = 0 ∨ Q (136 + i) = 1) (h3 : ∀ i, i < 16 → Q (208 + i) = 0 ∨ Q (208 + i) = 1) : WQ e Q := by
  refine ⟨fun i hi => ?_, fun i hi => ?_, h1, h2, h3, fun i hi => ?_, fun i hi => ?_, fun i hi => ?_, ?_, ?_, fun i hi => ?_, fun i hi => ?_, fun i hi => ?_⟩
  · rw [ho _ (by omega)]; exact wp_i h i hi
  · rw [ho _ (by omega)]; exact wp_l h i hi
  · rw [ho _ (by omega), ho _ (by omega)]; exact wp_w h i hi
  · rw [ho _ (by omega), ho _ (by omega), ho _ (by omega)]; exact wp_g h i hi
  · rw [ho _ (by omega), ho _ (by omega)]; exact wp_f h i hi
  · rw [ho _ (by omega)]; exact wp_m h
  · rw [ho _ (by omega)]; exact wp_F h
  · rw [ho _ (by omega)]; exact wp_s h i hi
  · rw [ho _ (by omega)]; exact wp_u h i hi
  · rw [ho _ (by omega), ho _ (by omega)]; exact wp_z h i hi
theorem fs_bit {P : Row} {q o n : Nat} {v : Int} (hv : v = 0 ∨ v = 1) (h : ∀ i, i < n → P (q + i) = 0 ∨ P (q + i) = 1) : ∀ i, i < n → fset P o v (q + i) = 0 ∨ fset P o v (q + i) = 1 := by
  intro i hi
  rw [fs_rd]
  split
  · exact hv
  · exact h i hi
theorem WQ_84 {e : Dat} {P : Row} {o : Nat} {v : Int} (h : WQ e P) (hn : (e 241 1).toNat ≤ 14) (hv : v = 0 ∨ v = 1) (ho : o < 20) : WQ e (fset P (84 + o) v) :=
  WQ_bits h hn (fun j hj => fs_ne (by omega)) (fs_bit hv (wp_c h)) (fs_bit hv (wp_o h)) (fs_bit hv (wp_d h))
theorem WQ_136 {e : Dat} {P : Row} {o : Nat} {v : Int} (h : WQ e P) (hn : (e 241 1).toNat ≤ 14) (hv : v = 0 ∨ v = 1) (ho : o < 12) : WQ e (fset P (136 + o) v) :=
  WQ_bits h hn (fun j hj => fs_ne (by omega)) (fs_bit hv (wp_c h)) (fs_bit hv (wp_o h)) (fs_bit hv (wp_d h))
theorem WQ_208 {e : Dat} {P : Row} {o : Nat} {v : Int} (h : WQ e P) (hn : (e 241 1).toNat ≤ 14) (hv : v = 0 ∨ v = 1) (ho : o < 16) : WQ e (fset P (208 + o) v) :=
  WQ_bits h hn (fun j hj => fs_ne (by omega)) (fs_bit hv (wp_c h)) (fs_bit hv (wp_o h)) (fs_bit hv (wp_d h))
theorem ok_cg {e : Dat} {P Q : Row} (hE : WE e) (h : okI e P ((e 241 3).toNat) P) (h1 : ∀ n, n < (e 241 1).toNat → Q n = P n) (h2 : ∀ l, l < (e 241 3).toNat → Q (84 + l) = 1 → P (84 + l) = 1) : okI e Q ((e 241 3).toNat) Q := by
  intro l hl hc
  have x1 := we_L hE l
  have x2 := we_L2 hE l hl
  rw [h1 _ (by omega), h1 _ (by omega)]
  exact h l hl (h2 l hl hc)
theorem MI_cg {e : Dat} {P Q : Row} (hE : WE e) (hI : MI e P) (hW : WQ e Q) (h1 : ∀ j, j < 104 → Q j = P j) (h2 : ∀ k, k < (e 241 8).toNat → (Q (104 + k) = 2 ↔ P (104 + k) = 2)) : MI e Q := by
  have n1 := we_n hE
  have n2 := we_l hE
  refine ⟨hW, CI_fs hE hI.2.1 (fun l hl => by rw [h1 _ (by omega)]) (fun k hk => (h2 k hk).symm) (fun i hi => h1 i (by omega)), fun n hn => ?_⟩
  have y := wp_i hI.1 n hn
  rw [h1 n (by omega), h1 (70 + n) (by omega), h1 _ (by omega)]
  exact hI.2.2 n hn
theorem act_0 {e : Dat} {P : Row} {o : Nat} : actS e P 0 o = closesS e P o := rfl
theorem act_1 {e : Dat} {P : Row} {o : Nat} : actS e P 1 o = fset P (84 + o) 0 := rfl
theorem act_3 {e : Dat} {P : Row} {o : Nat} : actS e P 3 o = offS P o (P 285) := rfl
theorem does_MI {e : Dat} {P : Row} {q o : Int} (hE : WE e) (hI : MI e P) (hq : 0 ≤ q ∧ q ≤ 5) (hh : hasS e q o = true) (hc : canS e P q o.toNat = true) : MI e (doesS e P q o.toNat) ∧ (∀ j, (148 ≤ j ∧ j < 2102) → doesS e P q o.toNat j = P j) := by
  have n1 := we_n hE
  have n2 := we_l hE
  have n3 := we_p hE
  have n4 := we_o hE
  have uo := UO_of hE hI.2.1 hI.2.2
  unfold hasS at hh
  have hh := of_decide_eq_true hh
  obtain ⟨p, hp⟩ : ∃ p : Nat, o = (p : Int) := ⟨o.toNat, by omega⟩
  subst hp
  rw [Int.toNat_natCast] at hc ⊢
  unfold doesS
  rcases k_of hq with q1 | q1 | q1 | q1 | q1 | q1 <;> subst q1
  · have hh : 0 ≤ (p : Int) ∧ (p : Int) < e 241 3 := hh
    rw [act_0]
    exact ⟨closes_MI hE hI (by omega) hc, fun j hj => by rw [mk_hi hE (by omega), closes_rd (by omega) (by omega)]⟩
  · have hh : 0 ≤ (p : Int) ∧ (p : Int) < e 241 3 := hh
    rw [act_1]
    refine ⟨MI_mk hE (WQ_84 hI.1 (by omega) (Or.inl rfl) (by omega)) (ok_cg hE uo (fun n hn => fs_ne (by omega)) (fun l hl hz => ?_)), fun j hj => by rw [mk_hi hE (by omega), fs_ne (by omega)]⟩
    rw [fs_rd] at hz
    split at hz
    · exact absurd hz (by decide)
    · exact hz
  · have hh : 0 ≤ (p : Int) ∧ (p : Int) < e 241 8 := hh
    have c0 : P (104 + p) = 0 := by
      rw [can_2, Bool.and_eq_true, decide_eq_true_eq] at hc
      exact hc.1
    have z0 := wp_z hI.1 p (by omega) (by rw [c0]; decide)
    rw [act_2]
    refine ⟨MI_mk hE (WQ_pl hI.1 (fun j hj => by rw [fs_ne (by omega), fs_ne (by omega)]) (fun i hi => by rw [fs_ne (by omega), fs_ne (by omega)]; exact wp_u hI.1 i hi) (fun i hi hz => ?_) (by omega)) (ok_cg hE uo (fun n hn => by rw [fs_ne (by omega), fs_ne (by omega)]) (fun l hl hz => ?_)), fun j hj => by rw [mk_hi hE (by omega), fs_ne (by omega), fs_ne (by omega)]⟩
    · rw [fs_ne (by omega), fs_ne (by omega)]
      by_cases y : i = p
      · rw [y]
        exact z0
      · rw [fs_ne (by omega), fs_ne (by omega)] at hz
        exact wp_z hI.1 i hi hz
    · rw [fs_ne (by omega), fs_ne (by omega)] at hz
      exact hz
  · have hh : 0 ≤ (p : Int) ∧ (p : Int) < e 241 8 := hh
    rw [act_3]
    have r := fun j hj => offS_rd (P := P) (p := p) (f := P 285) (j := j) (by omega) hj
    refine ⟨MI_mk hE (WQ_pl hI.1 r (fun i hi => ?_) (fun i hi hz => ?_) (by omega)) (ok_cg hE uo (fun n hn => r _ (by omega)) (fun l hl hz => by rw [r _ (by omega)] at hz; exact hz)), fun j hj => by rw [mk_hi hE (by omega), r _ (by omega)]⟩
    · unfold offS
      rw [fs_ne (by omega), fs_ne (by omega), fs_rd]
      split
      · decide
      · rw [fs_ne (by omega)]
        exact wp_u hI.1 i hi
    · unfold offS at hz ⊢
      rw [fs_ne (by omega), fs_ne (by omega), fs_rd]
      split
      · rfl
      · rw [fs_ne (by omega)]
        rw [fs_ne (by omega), fs_ne (by omega), fs_ne (by omega), fs_ne (by omega)] at hz
        exact wp_z hI.1 i hi hz
  · have hh : 0 ≤ (p : Int) ∧ (p : Int) < e 241 13 := hh
    rw [act_4]
    exact ⟨MI_mk hE (WQ_136 hI.1 (by omega) (by decide) (by omega)) (ok_cg hE uo (fun n hn => fs_ne (by omega)) (fun l hl hz => by rw [fs_ne (by omega)] at hz; exact hz)), fun j hj => by rw [mk_hi hE (by omega), fs_ne (by omega)]⟩
  · have hh : 0 ≤ (p : Int) ∧ (p : Int) < e 241 13 := hh
    rw [act_5]
    exact ⟨MI_mk hE (WQ_136 hI.1 (by omega) (by decide) (by omega)) (ok_cg hE uo (fun n hn => fs_ne (by omega)) (fun l hl hz => by rw [fs_ne (by omega)] at hz; exact hz)), fun j hj => by rw [mk_hi hE (by omega), fs_ne (by omega)]⟩
theorem ord_MI {e : Dat} {Q : Row} {j : Nat} (hE : WE e) (hj : j < (e 241 21).toNat) (hI : MI e Q) : MI e (ordS e j Q) ∧ (∀ i, (148 ≤ i ∧ i < 208) ∨ (224 ≤ i ∧ i < 2102) → ordS e j Q i = Q i) := by
  have n1 := we_n hE
  have n2 := we_k hE
  have x1 := we_K hE j
  have x2 := we_K2 hE j hj
  unfold ordS
  split
  · rename_i c
    obtain ⟨d1, d2⟩ := does_MI hE hI (q := e 259 j) (o := e 260 j) (by omega) x2.2.2 c.2.2
    exact ⟨MI_cg hE d1 (WQ_208 d1.1 (by omega) (Or.inr rfl) (by omega)) (fun i hi => fs_ne (by omega)) (fun k hk => by have := we_p hE; rw [fs_ne (by omega)]), fun i hi => (fs_ne (by omega)).trans (d2 i (by omega))⟩
  · exact ⟨hI, fun _ _ => rfl⟩
