/-! what holds of a row holds of it when more is told (expanded by gen18.py) -/
theorem isl_eg {e e' : Dat} {P P' : Row} (hE : WE e) (hn : (e' 241 1).toNat = (e 241 1).toNat ∨ (e' 241 1).toNat = (e 241 1).toNat + 1) : ∀ m, m ≤ (e 241 3).toNat → (∀ l, l < m → P' (84 + l) = P (84 + l) ∧ e' 244 l = e 244 l ∧ e' 245 l = e 245 l) → islS e' P' m = islS e P m
  | 0, _, _ => rfl
  | m + 1, hm, hl => by
    have ih := isl_eg (P := P) (P' := P') hE hn m (by omega) (fun l h => hl l (by omega))
    obtain ⟨a1, a2, a3⟩ := hl m (by omega)
    have x1 := we_L hE m
    have x2 := we_L2 hE m (by omega)
    have r := (isl_RI (P := P) hE m (by omega)).1.1
    have ra := r ((e 244 m).toNat) (by omega)
    have rb := r ((e 245 m).toNat) (by omega)
    have hi := isl_hi (e := e) (P := P) m ((e 241 1).toNat) (Nat.le_refl _)
    rw [islS_s, islS_s, ih, a1, a2, a3]
    generalize islS e P m = s at *
    generalize s ((e 244 m).toNat) = a at *
    generalize s ((e 245 m).toNat) = b at *
    by_cases c0 : P (84 + m) = 1
    · rw [if_pos c0, if_pos c0]
      rcases hn with z | z
      · rw [z]
      · rw [z]
        funext i
        unfold joinS
        by_cases c : i = (e 241 1).toNat
        · have q : ¬ s i = (if a < b then b else a) := by
            rw [c, hi]
            by_cases q2 : a < b
            · rw [if_pos q2]
              omega
            · rw [if_neg q2]
              omega
          rw [if_neg (fun y => q y.2.2), if_neg (fun y => q y.2.2)]
        · by_cases q : i < (e 241 1).toNat ∧ a ≠ b ∧ s i = (if a < b then b else a)
          · rw [if_pos q, if_pos ⟨by omega, q.2⟩]
          · rw [if_neg q, if_neg (fun y => q ⟨by omega, y.2⟩)]
    · rw [if_neg c0, if_neg c0]
theorem lit_eg {e e' : Dat} {P P' s : Row} {n : Nat} (hp : (e' 241 8).toNat = (e 241 8).toNat ∨ ((e' 241 8).toNat = (e 241 8).toNat + 1 ∧ ¬ P' (104 + (e 241 8).toNat) = 2)) (hk : ∀ k, k < (e 241 8).toNat → P' (104 + k) = P (104 + k) ∧ e' 249 k = e 249 k) : litS e' P' s n = litS e P s n := by
  have i0 : iterN (fun k v => if P' (104 + k) = 2 ∧ s ((e' 249 k).toNat) = s n then 1 else v) ((e 241 8).toNat) (0 : Int) = iterN (fun k v => if P (104 + k) = 2 ∧ s ((e 249 k).toNat) = s n then 1 else v) ((e 241 8).toNat) 0 := iter_cg _ (fun k hk2 v => by rw [(hk k hk2).1, (hk k hk2).2])
  unfold litS
  rcases hp with z | ⟨z, z2⟩
  · rw [z]
    exact i0
  · rw [z]
    show (if P' (104 + (e 241 8).toNat) = 2 ∧ _ then (1 : Int) else iterN _ ((e 241 8).toNat) 0) = _
    rw [if_neg (fun y => z2 y.1)]
    exact i0
theorem CI_eg {e e' : Dat} {P P' : Row} (hE : WE e) (hC : CI e P) (hn : (e' 241 1).toNat = (e 241 1).toNat ∨ ((e' 241 1).toNat = (e 241 1).toNat + 1 ∧ P' (70 + (e 241 1).toNat) = e 241 1 ∧ P' (56 + (e 241 1).toNat) = 0)) (n14 : (e' 241 1).toNat ≤ 14) (hl : (e' 241 3).toNat = (e 241 3).toNat ∨ ((e' 241 3).toNat = (e 241 3).toNat + 1 ∧ ¬ P' (84 + (e 241 3).toNat) = 1)) (hL : ∀ l, l < (e 241 3).toNat → P' (84 + l) = P (84 + l) ∧ e' 244 l = e 244 l ∧ e' 245 l = e 245 l) (hp : (e' 241 8).toNat = (e 241 8).toNat ∨ ((e' 241 8).toNat = (e 241 8).toNat + 1 ∧ ¬ P' (104 + (e 241 8).toNat) = 2)) (hk : ∀ k, k < (e 241 8).toNat → P' (104 + k) = P (104 + k) ∧ e' 249 k = e 249 k) (hI : ∀ i, (70 ≤ i ∧ i < 70 + (e 241 1).toNat) ∨ (56 ≤ i ∧ i < 56 + (e 241 1).toNat) → P' i = P i) : CI e' P' := by
  have n1 := we_n hE
  have i0 := isl_eg (P := P) (P' := P') hE (by rcases hn with z | z; exact Or.inl z; exact Or.inr z.1) ((e 241 3).toNat) (Nat.le_refl _) hL
  have i1 : islS e' P' ((e' 241 3).toNat) = islS e P ((e 241 3).toNat) := by
    rcases hl with z | ⟨z, z2⟩
    · rw [z]
      exact i0
    · rw [z, islS_s, if_neg z2]
      exact i0
  have rr := isl_RI (P := P) hE ((e 241 3).toNat) (Nat.le_refl _)
  funext i
  unfold marksS
  rw [i1]
  by_cases c1 : 70 ≤ i ∧ i < 70 + (e' 241 1).toNat
  · rw [if_pos c1]
    by_cases c2 : i < 70 + (e 241 1).toNat
    · rw [hI i (by omega)]
      have := CI_isl hC (n := i - 70) (by omega)
      rw [show 70 + (i - 70) = i by omega] at this
      exact this.symm
    · rcases hn with z | ⟨z, z2, z3⟩
      · omega
      · rw [isl_hi _ _ (by omega), show i = 70 + (e 241 1).toNat by omega, z2]
        omega
  · rw [if_neg c1]
    by_cases c3 : 56 ≤ i ∧ i < 56 + (e' 241 1).toNat
    · rw [if_pos c3, lit_eg (P := P) hp hk]
      by_cases c2 : i < 56 + (e 241 1).toNat
      · rw [hI i (by omega)]
        have m := mk_lit (P := P) hE (n := i - 56) (by omega)
        rw [show 56 + (i - 56) = i by omega] at m
        rw [← m]
        exact congrFun hC i
      · rcases hn with z | ⟨z, z2, z3⟩
        · omega
        · rw [show i = 56 + (e 241 1).toNat by omega, z3, show 56 + (e 241 1).toNat - 56 = (e 241 1).toNat by omega]
          rcases lit_01 (e := e) (P := P) (s := islS e P ((e 241 3).toNat)) (n := (e 241 1).toNat) with y | y
          · exact y
          · exfalso
            obtain ⟨k, k1, k2, k3⟩ := lit_1.mp y
            have p1 := we_P hE k
            have p2 := we_P2 hE k k1
            have r1 := rr.1.1 ((e 249 k).toNat) (by omega)
            rw [isl_hi _ _ (Nat.le_refl _)] at k3
            omega
    · rw [if_neg c3]
theorem UN_eg {e e' : Dat} {P P' : Row} (hW : WQ e P) (hU : UN e P) (hn : (e' 241 1).toNat = (e 241 1).toNat ∨ ((e' 241 1).toNat = (e 241 1).toNat + 1 ∧ P' (70 + (e 241 1).toNat) = e 241 1)) (h0 : ∀ i, i < (e 241 1).toNat → P' (70 + i) = P (70 + i) ∧ P' i = P i) : UN e' P' := by
  intro n hn2
  by_cases c : n < (e 241 1).toNat
  · have w := wp_i hW n c
    rw [(h0 n c).1, (h0 n c).2, (h0 (P (70 + n)).toNat (by omega)).2]
    exact hU n c
  · rcases hn with z | ⟨z, z2⟩
    · omega
    · rw [show n = (e 241 1).toNat by omega, z2]
theorem WQ_eg {e e' : Dat} {P Q : Row} (h : WQ e P) (hi : ∀ i, i < (e' 241 1).toNat → 0 ≤ Q (70 + i) ∧ Q (70 + i) < e' 241 1) (ho : ∀ j, j < 70 ∨ (84 ≤ j ∧ j < 196) ∨ (200 ≤ j ∧ j < 2090) → Q j = P j) (hg : ∀ i, i < 4 → 0 ≤ Q (196 + i) ∧ Q (196 + i) < 14) : WQ e' Q := by
  refine ⟨hi, fun i hi => ?_, fun i hi => ?_, fun i hi => ?_, fun i hi => ?_, fun i hi => ?_, fun i hi => ?_, fun i hi => ?_, ?_, ?_, fun i hi => ?_, fun i hi => ?_, fun i hi => ?_⟩
  · rw [ho _ (by omega)]; exact wp_l h i hi
  · rw [ho _ (by omega)]; exact wp_c h i hi
  · rw [ho _ (by omega)]; exact wp_o h i hi
  · rw [ho _ (by omega)]; exact wp_d h i hi
  · rw [ho _ (by omega), ho _ (by omega)]; exact wp_w h i hi
  · rw [ho (200 + i) (by omega), ho (204 + i) (by omega)]
    exact ⟨hg i hi, (wp_g h i hi).2⟩
  · rw [ho _ (by omega), ho _ (by omega)]; exact wp_f h i hi
  · rw [ho _ (by omega)]; exact wp_m h
  · rw [ho _ (by omega)]; exact wp_F h
  · rw [ho _ (by omega)]; exact wp_s h i hi
  · rw [ho _ (by omega)]; exact wp_u h i hi
  · rw [ho _ (by omega), ho _ (by omega)]; exact wp_z h i hi
theorem LF_eg {P Q : Row} (h : LF P) (ho : ∀ j, (84 ≤ j ∧ j < 196) ∨ (200 ≤ j ∧ j < 2090) → Q j = P j) : LF Q := by
  intro l hl z
  rw [ho _ (by omega)] at z
  rw [ho (172 + l) (by omega), ho 285 (by omega)]
  exact h l hl z
theorem ZF_eg {e e' : Dat} {P Q : Row} (h : ZF e P) (hz : ∀ j, Zx e' j → Zx e j ∧ Q j = P j) : ZF e' Q := fun j hj => by
  rw [(hz j hj).2]
  exact h j (hz j hj).1
theorem OK_eg {d d' e e' : Dat} (h : OK d e) (hE : WE e) (f : ∀ a, 40 ≤ a → a < 47 → d' a = d a) (h1 : e' 241 36 = e 241 36) (h2 : e' 268 = e 268) (h3 : e' 269 = e 269) : OK d' e' := by
  have n1 := we_t hE
  intro t ht
  rw [h1] at ht
  obtain ⟨n, hn⟩ := h t ht
  refine ⟨n, ?_⟩
  unfold TY TX at hn ⊢
  rw [f 46 (by omega) (by omega), f (40 + t) (by omega) (by omega), h2, h3]
  exact hn
theorem hasS_up {e e' : Dat} {q o : Int} (h : hasS e q o = true) (h1 : e 241 3 ≤ e' 241 3) (h2 : e 241 8 ≤ e' 241 8) (h3 : e 241 13 ≤ e' 241 13) : hasS e' q o = true := by
  unfold hasS at h ⊢
  have h := of_decide_eq_true h
  refine decide_eq_true ?_
  split at h
  · rename_i c
    rw [if_pos c]
    omega
  · rename_i c
    rw [if_neg c]
    split at h
    · rename_i c2
      rw [if_pos c2]
      omega
    · rename_i c2
      rw [if_neg c2]
      omega
theorem RL_eg {e e' d d' : Dat} {P Q : Row} (h : RL true 52 e d d P) (f : ∀ a, 52 ≤ a → a ≤ 80 → d' a = d a) (hn : (e' 241 1).toNat ≤ 14) (ho' : (e' 241 13).toNat ≤ 12) (c2 : ∀ i, i < (e' 241 1).toNat → d 54 i = Q (70 + i)) (c2b : ∀ i, (e' 241 1).toNat ≤ i → i < 14 → d 54 i = (i : Int)) (c19 : ∀ i, i < (e' 241 13).toNat → d 71 i = Q (2090 + i)) (c19b : ∀ i, (e' 241 13).toNat ≤ i → i < 12 → d 71 i = 60) (ho : ∀ j, j < 70 ∨ (84 ≤ j ∧ j < 2090) → Q j = P j) : RL true 52 e' d' d' Q := by
  unfold RL
  simp (disch := omega) only [f]
  refine ⟨⟨hn, ho'⟩, fun _ _ _ _ => trivial, fun i hi => by rw [ho _ (by omega)]; exact rl_3 h i hi, fun i hi => by rw [ho _ (by omega)]; exact rl_4 h i hi, fun i hi => by rw [ho _ (by omega)]; exact rl_5 h i hi, fun i hi => by rw [ho _ (by omega)]; exact rl_6 h i hi, fun i hi => by rw [ho _ (by omega)]; exact rl_7 h i hi, fun i hi => by rw [ho _ (by omega)]; exact rl_8 h i hi, fun i hi => by rw [ho _ (by omega)]; exact rl_10 h i hi, fun i hi => by rw [ho _ (by omega)]; exact rl_11 h i hi, fun i hi => by rw [ho _ (by omega)]; exact rl_12 h i hi, fun i hi => by rw [ho _ (by omega)]; exact rl_13 h i hi, fun i hi => by rw [ho _ (by omega)]; exact rl_15 h i hi, fun i hi => by rw [ho _ (by omega)]; exact rl_17 h i hi, fun i hi => by rw [ho _ (by omega)]; exact rl_18 h i hi, fun i hi => by rw [ho _ (by omega)]; exact rl_21 h i hi, fun i hi => by rw [ho _ (by omega)]; exact rl_22 h i hi, fun i hi => by rw [ho _ (by omega)]; exact rl_23 h i hi, fun i hi => by rw [ho _ (by omega)]; exact rl_24 h i hi, fun i hi => by rw [ho _ (by omega)]; exact rl_25 h i hi, c2, c2b, fun i hi => by rw [ho (2078 + i) (by omega), ho (172 + i) (by omega)]; exact rl_16 h i hi, fun i hi => by rw [ho (2078 + i) (by omega), ho (184 + i) (by omega)]; exact rl_20 h i hi, c19, c19b, by rw [ho 285 (by omega)]; exact rl_m h, by rw [ho 224 (by omega)]; exact rl_f h, fun z i hi => by rw [ho _ (by omega)]; exact rl_26 h rfl i hi, fun z i hi => by rw [ho _ (by omega)]; exact rl_27 h rfl i hi, fun z i hi => by rw [ho _ (by omega)]; exact rl_28 h rfl i hi⟩
