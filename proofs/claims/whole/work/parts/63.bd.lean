/-! how far a swing goes; ranges hold on over following (expanded by gen18.py) -/
theorem wsm_sh {s : Int} {f : Nat → Int} (h : wr s = s) : ∀ n, wsm s f n = wr (s + wsm 0 f n)
  | 0 => by
    show s = wr (s + 0)
    rw [Int.add_zero, h]
  | n + 1 => by
    rw [wsm_0, wsm_0, wsm_sh h n, wr_al, wr_ar, Int.add_assoc]
theorem td_bd {x w B : Int} (hx : -B ≤ x ∧ x ≤ B) (hw : 1 ≤ w) : -B ≤ x.tdiv w ∧ x.tdiv w ≤ B := by
  have key : ∀ y : Int, 0 ≤ y → 0 ≤ y.tdiv w ∧ y.tdiv w ≤ y := by
    intro y hy
    rw [Int.tdiv_eq_ediv_of_nonneg hy]
    exact ⟨Int.ediv_nonneg hy (by omega), Int.ediv_le_self w hy⟩
  by_cases c : 0 ≤ x
  · have := key x c
    omega
  · have := key (-x) (by omega)
    rw [Int.neg_tdiv] at this
    omega
theorem hot_bd {e : Dat} {P : Row} {l : Nat} (h : WQ e P) (hl : l < 12) : ∃ n : Int, (if hotS P l < 100 then 100 else hotS P l) = n ∧ 100 ≤ n ∧ n ≤ 200 := by
  have hf := wp_f h l hl
  unfold hotS
  by_cases c : coldS P l = true
  · rw [if_pos c]
    by_cases c2 : P (2078 + l) = 1
    · have hf := hf c2
      rw [if_pos c2, wr_of (x := 10 * P (172 + l)) (by omega), wr_of (by omega)]
      refine ⟨_, rfl, ?_⟩
      split <;> omega
    · rw [if_neg c2]
      exact ⟨_, rfl, by decide⟩
  · rw [if_neg c]
    exact ⟨_, rfl, by decide⟩
theorem draw_bd {e : Dat} {P : Row} {l : Nat} (hE : WE e) (h : WQ e P) (hl : l < 12) : 0 ≤ drawS e P l ∧ drawS e P l ≤ 1998 := by
  obtain ⟨n, h1, h2, h3⟩ := hot_bd h hl
  have h4 := we_O hE l
  unfold drawS
  rw [h1]
  have h5 : 0 ≤ e 253 l * n := Int.mul_nonneg (by omega) (by omega)
  have h6 : e 253 l * n ≤ 999 * 200 := Int.mul_le_mul (by omega) h3 (by omega) (by omega)
  generalize e 253 l * n = x at *
  rw [wr_of (x := x) (by omega), Int.tdiv_eq_ediv_of_nonneg h5, wr_of (by omega)]
  omega
theorem need_bd {a m : Int} (hm : 0 ≤ m ∧ m ≤ 999) : 0 ≤ needS a m ∧ needS a m ≤ 200 := by
  unfold needS
  rw [Int.tdiv_eq_ediv_of_nonneg hm.1, wr_of (x := m / 20) (by omega), wr_of (x := m / 20 + 1) (by omega)]
  split
  · rw [wr_of (by omega)]
    omega
  · rw [wr_of (by omega)]
    omega
theorem dem_bd {e : Dat} {P : Row} {i : Int} (hE : WE e) (h : WQ e P) : 0 ≤ demS e P i ∧ demS e P i ≤ 30000 := by
  have n1 := we_o hE
  have n2 := we_p hE
  have h1 := wsm_bd (f := fun l => if P (136 + l) = 1 ∧ P (70 + (e 252 l).toNat) = i then drawS e P l else 0) (c := 1998) (by omega) ((e 241 13).toNat) (by omega) (fun l hl => by
    have := draw_bd (l := l) hE h (by omega)
    split <;> omega)
  have h2 := wsm_bd (f := fun k => if P (104 + k) = 1 ∧ P (70 + (e 249 k).toNat) = i then needS (e 248 k) (e 250 k) else 0) (c := 200) (by omega) ((e 241 8).toNat) (by omega) (fun k hk => by
    have x := we_P hE k
    have := need_bd (a := e 248 k) (m := e 250 k) (by omega)
    split <;> omega)
  unfold demS
  rw [wsm_sh (wsm_wr rfl _)]
  generalize wsm 0 (fun l => if P (136 + l) = 1 ∧ P (70 + (e 252 l).toNat) = i then drawS e P l else 0) ((e 241 13).toNat) = x at *
  generalize wsm 0 (fun k => if P (104 + k) = 1 ∧ P (70 + (e 249 k).toNat) = i then needS (e 248 k) (e 250 k) else 0) ((e 241 8).toNat) = y at *
  rw [wr_of (by omega)]
  omega
theorem out_bd {e : Dat} {P : Row} {i : Int} (hE : WE e) (h : WQ e P) : 0 ≤ outS e P i ∧ outS e P i ≤ 8000 := by
  have n2 := we_p hE
  have h1 := wsm_bd (f := fun k => if onIn e P i k then P (112 + k) else 0) (c := 999) (by omega) ((e 241 8).toNat) (by omega) (fun k hk => by
    have := wp_u h k (by omega)
    split <;> omega)
  unfold outS
  omega
theorem swing_bd {e : Dat} {P : Row} {i q : Int} (hE : WE e) (h : WQ e P) (hi : 0 ≤ i ∧ i < 14) (hq : 0 ≤ q ∧ q ≤ 30000) (hw : ¬ weightS e P i = 0) : -1000000 ≤ swingS e P i q ∧ swingS e P i q ≤ 1000000 := by
  have h1 := out_bd (i := i) hE h
  have h2 := weight_bd (P := P) (i := i) hE
  have h3 := wp_s h i.toNat (by omega)
  have h4 : -1300000 ≤ swing0 e P i q ∧ swing0 e P i q ≤ 1300000 := by
    unfold swing0
    generalize outS e P i = o at *
    generalize weightS e P i = w at *
    generalize P i.toNat = p at *
    rw [wr_of (x := o - q) (by omega), wr_of (x := (o - q) * 10) (by omega)]
    have h5 := td_bd (x := (o - q) * 10) (w := w) (B := 300000) (by omega) (by omega)
    generalize ((o - q) * 10).tdiv w = y at *
    rw [wr_of (x := y) (by omega), wr_of (by omega)]
    omega
  unfold swingS
  generalize swing0 e P i q = s at *
  by_cases c : 0 ≤ s
  · rw [Int.tdiv_eq_ediv_of_nonneg c, wr_of (x := s / 4) (by omega), wr_of (by omega)]
    omega
  · have e1 : s.tdiv 4 = -((-s) / 4) := by
      rw [← Int.tdiv_eq_ediv_of_nonneg (by omega : 0 ≤ -s), Int.neg_tdiv, Int.neg_neg]
    rw [e1, wr_of (x := -((-s) / 4)) (by omega), wr_of (by omega)]
    omega
theorem clamp_bd {o t : Int} (ht : 0 ≤ t) : 0 ≤ clampS o t ∧ clampS o t ≤ t := by
  unfold clampS
  split
  · omega
  · split <;> omega
theorem ramps_how {e : Dat} {P : Row} {i q : Int} {j : Nat} (hj : j < 112 ∨ 120 ≤ j) (hE : WE e) : rampsS e P i q j = P j := rampsS_rd hj (by have := we_p hE; omega)
theorem ramps_WQ {e : Dat} {P : Row} {i q : Int} (hE : WE e) (h : WQ e P) : WQ e (rampsS e P i q) := by
  have n1 := we_n hE
  have n3 := we_p hE
  unfold rampsS
  refine iter_inv (f := ramp1 e i q) (fun _ Q => WQ e Q) ((e 241 8).toNat) (fun p hp Q hQ => ?_) h
  have x := we_P hE p
  by_cases c : onIn e Q i p
  · rw [ramp1_in c]
    have cb := clamp_bd (o := lackS e Q i q p) (t := e 250 p) (by omega)
    refine WQ_pl hQ (fun j hj => fs_ne (by omega)) (fun j hj => ?_) (fun j hj hz => ?_) (by omega)
    · rw [fs_rd]
      split
      · omega
      · exact wp_u hQ j hj
    · rw [fs_ne (by omega)] at hz
      rw [fs_rd]
      split
      · exact absurd (show Q (104 + j) = 2 by rw [show j = p by omega]; exact c.1) hz
      · exact wp_z hQ j hj hz
  · rw [ramp1_no c]
    exact hQ
theorem weight_cg {e : Dat} {P Q : Row} {i : Int} (hE : WE e) (h1 : ∀ k, k < (e 241 8).toNat → (Q (104 + k) = 2 ↔ P (104 + k) = 2)) (h2 : ∀ j, 70 ≤ j ∧ j < 84 → Q j = P j) : weightS e Q i = weightS e P i := by
  unfold weightS
  refine wsm_cg _ (fun k hk => ?_)
  have x := we_P hE k
  simp only [onIn, h1 k hk, h2 (70 + (e 249 k).toNat) (by omega)]
theorem set_low {e : Dat} {P : Row} {i s v p : Int} (hn : (e 241 1).toNat ≤ 14) : (∀ j, 42 ≤ j → setS e i s v p P j = P j) ∧ (∀ j, j < 14 → setS e i s v p P j = P j ∨ setS e i s v p P j = s) := by
  refine ⟨fun j hj => setS_rd hj hn, fun j hj => ?_⟩
  unfold setS
  refine iter_inv (f := fun n P => if P (70 + n) = i then fset (fset (fset P n s) (14 + n) v) (28 + n) p else P) (fun _ Q => Q j = P j ∨ Q j = s) ((e 241 1).toNat) (fun n hn2 Q hQ => ?_) (Or.inl rfl)
  split
  · rw [fs_ne (by omega), fs_ne (by omega), fs_rd]
    split
    · exact Or.inr rfl
    · exact hQ
  · exact hQ
theorem WQ_low {e : Dat} {P Q : Row} (h : WQ e P) (ho : ∀ j, 42 ≤ j → Q j = P j) (hs : ∀ j, j < 14 → -1000000 ≤ Q j ∧ Q j ≤ 1000000) : WQ e Q := by
  refine ⟨fun i hi => ?_, fun i hi => ?_, fun i hi => ?_, fun i hi => ?_, fun i hi => ?_, fun i hi => ?_, fun i hi => ?_, fun i hi => ?_, ?_, ?_, hs, fun i hi => ?_, fun i hi => ?_⟩
  · rw [ho _ (by omega)]; exact wp_i h i hi
  · rw [ho _ (by omega)]; exact wp_l h i hi
  · rw [ho _ (by omega)]; exact wp_c h i hi
  · rw [ho _ (by omega)]; exact wp_o h i hi
  · rw [ho _ (by omega)]; exact wp_d h i hi
  · rw [ho _ (by omega), ho _ (by omega)]; exact wp_w h i hi
  · rw [ho _ (by omega), ho _ (by omega), ho _ (by omega)]; exact wp_g h i hi
  · rw [ho _ (by omega), ho _ (by omega)]; exact wp_f h i hi
  · rw [ho _ (by omega)]; exact wp_m h
  · rw [ho _ (by omega)]; exact wp_F h
  · rw [ho _ (by omega)]; exact wp_u h i hi
  · rw [ho _ (by omega), ho _ (by omega)]; exact wp_z h i hi
