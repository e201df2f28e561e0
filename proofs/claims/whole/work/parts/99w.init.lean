/-! what holds at the law's loop's head, at first (printed by gen26.py) -/
theorem gz {l : List Int} (h : l.all (fun x => x == 0) = true) : (fun i => l.getD i 0) = fun _ => (0 : Int) := by
  funext i
  rw [List.getD_eq_getElem?_getD]
  cases q : l[i]? with
  | none => rfl
  | some x => exact eq_of_beq (List.all_eq_true.mp h x (List.mem_of_getElem? q))
theorem E0_zs : ∀ a, a < 280 → ((11 ≤ a ∧ a ≤ 35) ∨ (52 ≤ a ∧ a ≤ 53) ∨ (55 ≤ a ∧ a ≤ 70) ∨ (72 ≤ a ∧ a ≤ 86) ∨ a = 234 ∨ a = 236 ∨ a = 238 ∨ a = 240 ∨ (242 ≤ a ∧ a ≤ 267) ∨ a = 272 ∨ a = 273) → (dlE.getD a []).all (fun x => x == 0) = true := by decide +kernel
theorem E0_r {a : Nat} (h : ¬ a = 1) : E0 a = fun i => (dlE.getD a []).getD i 0 := by
  unfold E0 dOf
  rw [if_neg h]
  rfl
theorem zE (a : Nat) (h : (11 ≤ a ∧ a ≤ 35) ∨ (52 ≤ a ∧ a ≤ 53) ∨ (55 ≤ a ∧ a ≤ 70) ∨ (72 ≤ a ∧ a ≤ 86) ∨ a = 234 ∨ a = 236 ∨ a = 238 ∨ a = 240 ∨ (242 ≤ a ∧ a ≤ 267) ∨ a = 272 ∨ a = 273) : E0 a = fun _ => 0 := (E0_r (by omega)).trans (gz (E0_zs a (by omega) h))
theorem E0_c : E0 241 1 = 0 ∧ E0 241 3 = 0 ∧ E0 241 8 = 0 ∧ E0 241 13 = 0 ∧ E0 241 17 = 0 ∧ E0 241 18 = 0 ∧ E0 241 21 = 0 ∧ E0 241 26 = 0 ∧ E0 241 36 = 1 := by decide +kernel
theorem z1 : (E0 241 1).toNat = 0 := by rw [E0_c.1]; rfl
theorem z3 : (E0 241 3).toNat = 0 := by rw [E0_c.2.1]; rfl
theorem z8 : (E0 241 8).toNat = 0 := by rw [E0_c.2.2.1]; rfl
theorem z13 : (E0 241 13).toNat = 0 := by rw [E0_c.2.2.2.1]; rfl
theorem z21 : (E0 241 21).toNat = 0 := by rw [E0_c.2.2.2.2.2.2.1]; rfl
theorem z36 : (E0 241 36).toNat = 1 := by rw [E0_c.2.2.2.2.2.2.2.2]; rfl
theorem FC_0 : FC E0 E0 := ⟨by decide +kernel, by decide +kernel, by decide +kernel, by decide +kernel, by decide +kernel, by decide +kernel, by decide +kernel, by decide +kernel, by decide +kernel, (zE 12 (by omega)).trans (zE 243 (by omega)).symm, (zE 13 (by omega)).trans (zE 244 (by omega)).symm, (zE 14 (by omega)).trans (zE 245 (by omega)).symm, (zE 15 (by omega)).trans (zE 246 (by omega)).symm, (zE 16 (by omega)).trans (zE 247 (by omega)).symm, (zE 17 (by omega)).trans (zE 248 (by omega)).symm, (zE 18 (by omega)).trans (zE 249 (by omega)).symm, (zE 19 (by omega)).trans (zE 250 (by omega)).symm, (zE 20 (by omega)).trans (zE 251 (by omega)).symm, (zE 21 (by omega)).trans (zE 252 (by omega)).symm, (zE 22 (by omega)).trans (zE 253 (by omega)).symm, (zE 23 (by omega)).trans (zE 254 (by omega)).symm, (zE 25 (by omega)).trans (zE 255 (by omega)).symm, (zE 26 (by omega)).trans (zE 256 (by omega)).symm, (zE 27 (by omega)).trans (zE 261 (by omega)).symm, (zE 28 (by omega)).trans (zE 262 (by omega)).symm, (zE 29 (by omega)).trans (zE 263 (by omega)).symm, (zE 30 (by omega)).trans (zE 264 (by omega)).symm, (zE 31 (by omega)).trans (zE 265 (by omega)).symm, (zE 32 (by omega)).trans (zE 257 (by omega)).symm, (zE 33 (by omega)).trans (zE 258 (by omega)).symm, (zE 34 (by omega)).trans (zE 259 (by omega)).symm, (zE 35 (by omega)).trans (zE 260 (by omega)).symm, by decide +kernel, by decide +kernel, by decide +kernel, by decide +kernel, by decide +kernel, by decide +kernel, by decide +kernel, by decide +kernel, by decide +kernel, by decide +kernel, by decide +kernel, by decide +kernel, by decide +kernel, by decide +kernel, by decide +kernel, by decide +kernel, by decide +kernel, by decide +kernel, by decide +kernel, by decide +kernel, by decide +kernel, by decide +kernel, by decide +kernel, by decide +kernel, by decide +kernel, by decide +kernel, by decide +kernel, by decide +kernel, by decide +kernel, by decide +kernel⟩
theorem FM_0 : FM E0 E0 := ⟨rfl, rfl, rfl, rfl, rfl, rfl, rfl, rfl, rfl, rfl, rfl, rfl, rfl, rfl, rfl, rfl, rfl, rfl, rfl, rfl, rfl, rfl, rfl, rfl, rfl, rfl, rfl, rfl, rfl, rfl, rfl, rfl, rfl, rfl⟩
theorem WE_0 : WE E0 := ⟨by decide +kernel, by decide +kernel, by decide +kernel, by decide +kernel, by decide +kernel, by decide +kernel, by decide +kernel, by decide +kernel, by decide +kernel,
  fun i => by rw [zE 243 (by omega)]; simp,
  fun i => by rw [zE 244 (by omega), zE 245 (by omega), zE 246 (by omega), zE 247 (by omega)]; simp,
  fun i hi => absurd hi (by rw [z3]; exact Nat.not_lt_zero _),
  fun i => by rw [zE 248 (by omega), zE 249 (by omega), zE 250 (by omega), zE 251 (by omega)]; simp,
  fun i hi => absurd hi (by rw [z8]; exact Nat.not_lt_zero _),
  fun i => by rw [zE 252 (by omega), zE 253 (by omega), zE 254 (by omega)]; simp,
  fun i hi => absurd hi (by rw [z13]; exact Nat.not_lt_zero _),
  fun i => by rw [zE 255 (by omega), zE 256 (by omega)]; simp,
  fun i => by rw [zE 257 (by omega), zE 258 (by omega), zE 259 (by omega), zE 260 (by omega)]; simp,
  fun i hi => absurd hi (by rw [z21]; exact Nat.not_lt_zero _),
  fun i => by rw [zE 265 (by omega)]; exact Or.inl rfl⟩
theorem RL_0 : RL true 52 E0 E0 E0 (fun _ => 0) := ⟨⟨by decide +kernel, by decide +kernel⟩, fun _ _ _ _ => rfl, fun i hi => by show E0 55 i = 0; rw [zE 55 (by omega)], fun i hi => by show E0 56 i = 0; rw [zE 56 (by omega)], fun i hi => by show E0 57 i = 0; rw [zE 57 (by omega)], fun i hi => by show E0 58 i = 0; rw [zE 58 (by omega)], fun i hi => by show E0 59 i = 0; rw [zE 59 (by omega)], fun i hi => by show E0 60 i = 0; rw [zE 60 (by omega)], fun i hi => by show E0 62 i = 0; rw [zE 62 (by omega)], fun i hi => by show E0 63 i = 0; rw [zE 63 (by omega)], fun i hi => by show E0 64 i = 0; rw [zE 64 (by omega)], fun i hi => by show E0 65 i = 0; rw [zE 65 (by omega)], fun i hi => by show E0 67 i = 0; rw [zE 67 (by omega)], fun i hi => by show E0 69 i = 0; rw [zE 69 (by omega)], fun i hi => by show E0 70 i = 0; rw [zE 70 (by omega)], fun i hi => by show E0 73 i = 0; rw [zE 73 (by omega)], fun i hi => by show E0 74 i = 0; rw [zE 74 (by omega)], fun i hi => by show E0 75 i = 0; rw [zE 75 (by omega)], fun i hi => by show E0 76 i = 0; rw [zE 76 (by omega)], fun i hi => by show E0 77 i = 0; rw [zE 77 (by omega)], fun i hi => absurd hi (by rw [z1]; exact Nat.not_lt_zero _), fun i _ hi => (by decide +kernel : ∀ i : Nat, i < 14 → E0 54 i = (i : Int)) i hi, fun i hi => by show E0 68 i = _; rw [zE 68 (by omega), if_neg (by simp)], fun i hi => ⟨fun z => absurd z (by simp), by show E0 72 i = 0 ∨ _; rw [zE 72 (by omega)]; exact Or.inl rfl⟩, fun i hi => absurd hi (by rw [z13]; exact Nat.not_lt_zero _), fun i _ hi => (by decide +kernel : ∀ i : Nat, i < 12 → E0 71 i = 60) i hi, by show E0 52 14 = 0; rw [zE 52 (by omega)], by show E0 52 15 = 0; rw [zE 52 (by omega)], fun _ i hi => by show E0 78 i = 0; rw [zE 78 (by omega)], fun _ i hi => by show E0 79 i = 0; rw [zE 79 (by omega)], fun _ i hi => by show E0 80 i = 0; rw [zE 80 (by omega)]⟩
theorem NI_0 : NI E0 (fun _ => 0) := by
  refine ⟨⟨⟨fun i hi => absurd hi (by rw [z1]; exact Nat.not_lt_zero _), fun _ _ => Or.inl rfl, fun _ _ => Or.inl rfl, fun _ _ => Or.inl rfl, fun _ _ => Or.inl rfl, fun _ _ => ⟨Or.inl rfl, Or.inl rfl⟩, fun _ _ => by simp, fun _ _ z => absurd z (by simp), by decide, by decide, fun _ _ => by simp, fun _ _ => by simp, fun _ _ _ => rfl⟩, ?_, fun n hn => absurd hn (by rw [z1]; exact Nat.not_lt_zero _)⟩, fun _ _ z => absurd z (by simp)⟩
  funext i
  unfold marksS
  rw [z1, if_neg (by omega), if_neg (by omega)]
theorem TY_0 : TY E0 E0 0 5 := by
  refine ⟨⟨by decide +kernel, by decide +kernel, by decide, ?_⟩, by decide +kernel, ?_⟩
  · unfold okT
    decide +kernel
  · unfold cpm
    decide +kernel
theorem XS_0 : XS E0 := by
  unfold XS
  refine ⟨⟨rfl, rfl, rfl⟩, ⟨by decide +kernel, by decide +kernel, fun i hi => absurd hi ?_⟩, fun u hu => ?_, by decide +kernel, by decide +kernel, fun i _ hi => absurd hi ?_⟩
  · rw [show E0 36 1 = 0 by decide +kernel]
    omega
  · have : u = 0 ∨ u = 1 ∨ u = 2 ∨ u = 3 := by omega
    rcases this with q | q | q | q <;> subst q
    · exact ⟨by decide +kernel, by decide +kernel, by decide +kernel, by decide +kernel, by decide +kernel, fun i hi => by show E0 234 i = _; rw [zE 234 (by omega), zE 273 (by omega)]⟩
    · exact ⟨by decide +kernel, by decide +kernel, by decide +kernel, by decide +kernel, by decide +kernel, fun i hi => by show E0 236 i = _; rw [zE 236 (by omega), zE 273 (by omega)]⟩
    · exact ⟨by decide +kernel, by decide +kernel, by decide +kernel, by decide +kernel, by decide +kernel, fun i hi => by show E0 238 i = _; rw [zE 238 (by omega), zE 273 (by omega)]⟩
    · exact ⟨by decide +kernel, by decide +kernel, by decide +kernel, by decide +kernel, by decide +kernel, fun i hi => by show E0 240 i = _; rw [zE 240 (by omega), zE 273 (by omega)]⟩
  · rw [show E0 81 11 = 0 by decide +kernel]
    omega
theorem HV_0 {s : Row} : HV s (dOf s dlE) := by
  have hD : ∀ a, ¬ a = 1 → dOf s dlE a = E0 a := fun a h => by
    unfold E0 dOf
    rw [if_neg h, if_neg h]
  refine ⟨E0, fun _ => 0, if_pos rfl, (hD 242 (by decide)).trans (zE 242 (by omega)), FC_cg FC_0 (fun a _ h1 _ _ => hD a h1), FM_cg FM_0 (fun a h1 _ _ => hD a (by omega)), WE_0, RL_cg RL_0 (fun a h1 _ => hD a (by omega)), NI_0, by decide, fun t ht => ?_, fun j _ => rfl, XS_cg XS_0 (fun a ha => hD a (by omega))⟩
  rw [z36] at ht
  have t0 : t = 0 := by omega
  subst t0
  refine ⟨5, TY_0.1, ?_, fun k hk => ?_⟩
  · rw [hD 46 (by decide)]
    exact TY_0.2.1
  · rw [hD (40 + 0) (by decide)]
    exact TY_0.2.2 k hk
