/-! the law's loop (printed by gen25.py; expanded by gen18.py) -/
theorem lz_1 {x : Nat} (h : x ≤ 4000) : wr ((x : Int) + 1) = ((x + 1 : Nat) : Int) := wa_n (a := x) (b := 1) (by omega)
theorem lz_2 {x : Nat} (h : x ≤ 4000) : wr ((x : Int) + 2) = ((x + 2 : Nat) : Int) := wa_n (a := x) (b := 2) (by omega)
theorem lz_3 {x : Nat} (h : x ≤ 4000) : wr ((x : Int) + 3) = ((x + 3 : Nat) : Int) := wa_n (a := x) (b := 3) (by omega)
theorem lz_4 {x : Nat} (h : x ≤ 4000) : wr ((x : Int) + 4) = ((x + 4 : Nat) : Int) := wa_n (a := x) (b := 4) (by omega)
theorem lz_5 {x : Nat} (h : x ≤ 4000) : wr ((x : Int) + 5) = ((x + 5 : Nat) : Int) := wa_n (a := x) (b := 5) (by omega)
theorem lz_6 {x : Nat} (h : x ≤ 4000) : wr ((x : Int) + 6) = ((x + 6 : Nat) : Int) := wa_n (a := x) (b := 6) (by omega)
def feedW (a b : Int) : Int := (Int64.ofInt ((Int64.ofInt a <<< ((Int32.ofInt 32).toInt64 &&& 63)).toInt) ||| Int64.ofInt ((Int64.ofInt b &&& Int64.ofInt 4294967295).toInt)).toInt
theorem Cl_mn {k y : Nat} {as : List V} {sh : Shp} {d : Dat} {Q Q2 : RT} (h : Cl k y as sh d Q) (hq : ∀ v sh d, Q v sh d → Q2 v sh d) : Cl k y as sh d Q2 := ClG_mono k _ _ _ _ _ _ hq h
section
variable {L K i : Nat} {s : Row} {d : Dat} {R : RT}
theorem law_node (hi : i + 6 ≤ L) (hL : L ≤ 3072) (hok : Ok2 L K 1 41 [vI (s (i + 1))] s d) (hd : d 1 = s) (nx : ∀ d2, HV s d2 → Go K 212 R 1439 [vR 1, vR 10, vR 241, vI (i : Int)] [] (SH L) d2) : Go K 212 R 184 [vR 1, vR 10, vR 241, vI (i : Int)] [] (SH L) d := by
  have hok := Cl_mn (Q2 := fun v sh' d' => sh' = SH L ∧ Go K 212 R 193 [vR 1, vR 10, vR 241, vI (i : Int)] [v] (SH L) d') hok (fun v sh1 d1 h => ⟨h.1, by
    obtain ⟨_, h1, ⟨q, rfl⟩, h3⟩ := h
    have h3 := Cl_mn (Q2 := fun r sh' d' => sh' = SH L ∧ Go K 212 R 202 [vR 1, vR 10, vR 241, vI (i : Int)] [r, vI q] (SH L) d') h3 (fun v sh2 d2 h => ⟨h.1, by
      obtain ⟨_, h5, h6⟩ := h
      have nx := nx d2 h6
      rw [h5]
      clear hok h3 h6
      simp only [s_Law_law_202]
      exact ⟨fun _ => nx, fun z => absurd trivial z⟩⟩)
    clear hok nx
    simp (disch := omega) only [s_Law_law_193, s_Law_law_194, s_Law_law_195, s_Law_law_196, s_Law_law_197, s_Law_law_198, s_Law_law_199, k_1, n_1, ld30, k_241, h1, lz_1, lz_2, lz_3, lz_4, lz_5, lz_6, le_T, lt_T, le_F, lt_F, Int.toNat_natCast, cat_n, cat_i, cat_r, cat_l, Nat.ble_eq, Nat.reduceAdd, Nat.reduceLeDiff, true_and, and_true, true_implies, false_implies, not_true_eq_false, not_false_eq_true, implies_true]
    exact h3⟩)
  clear nx
  simp (disch := omega) only [s_Law_law_184, s_Law_law_185, s_Law_law_186, s_Law_law_187, s_Law_law_188, s_Law_law_189, s_Law_law_190, k_1, n_1, ld30, k_10, hd, lz_1, lz_2, lz_3, lz_4, lz_5, lz_6, le_T, lt_T, le_F, lt_F, Int.toNat_natCast, cat_n, cat_i, cat_r, cat_l, Nat.ble_eq, Nat.reduceAdd, Nat.reduceLeDiff, true_and, and_true, true_implies, false_implies, not_true_eq_false, not_false_eq_true, implies_true]
  exact hok
theorem law_line (hi : i + 6 ≤ L) (hL : L ≤ 3072) (hok : Ok2 L K 2 42 [vI (s (i + 1)), vI (s (i + 2)), vI (s (i + 3)), vI (s (i + 4))] s d) (hd : d 1 = s) (nx : ∀ d2, HV s d2 → Go K 212 R 1439 [vR 1, vR 10, vR 241, vI (i : Int)] [] (SH L) d2) : Go K 212 R 207 [vR 1, vR 10, vR 241, vI (i : Int)] [] (SH L) d := by
  have hok := Cl_mn (Q2 := fun v sh' d' => sh' = SH L ∧ Go K 212 R 231 [vR 1, vR 10, vR 241, vI (i : Int)] [v] (SH L) d') hok (fun v sh1 d1 h => ⟨h.1, by
    obtain ⟨_, h1, ⟨q, rfl⟩, h3⟩ := h
    have h3 := Cl_mn (Q2 := fun r sh' d' => sh' = SH L ∧ Go K 212 R 255 [vR 1, vR 10, vR 241, vI (i : Int)] [r, vI q] (SH L) d') h3 (fun v sh2 d2 h => ⟨h.1, by
      obtain ⟨_, h5, h6⟩ := h
      have nx := nx d2 h6
      rw [h5]
      clear hok h3 h6
      simp only [s_Law_law_255]
      exact ⟨fun _ => nx, fun z => absurd trivial z⟩⟩)
    clear hok nx
    simp (disch := omega) only [s_Law_law_231, s_Law_law_232, s_Law_law_233, s_Law_law_234, s_Law_law_235, s_Law_law_236, s_Law_law_237, s_Law_law_238, s_Law_law_239, s_Law_law_240, s_Law_law_241, s_Law_law_242, s_Law_law_243, s_Law_law_244, s_Law_law_245, s_Law_law_246, s_Law_law_247, s_Law_law_248, s_Law_law_249, s_Law_law_250, s_Law_law_251, s_Law_law_252, k_1, n_1, ld30, k_241, h1, lz_1, lz_2, lz_3, lz_4, lz_5, lz_6, le_T, lt_T, le_F, lt_F, Int.toNat_natCast, cat_n, cat_i, cat_r, cat_l, Nat.ble_eq, Nat.reduceAdd, Nat.reduceLeDiff, true_and, and_true, true_implies, false_implies, not_true_eq_false, not_false_eq_true, implies_true]
    exact h3⟩)
  clear nx
  simp (disch := omega) only [s_Law_law_207, s_Law_law_208, s_Law_law_209, s_Law_law_210, s_Law_law_211, s_Law_law_212, s_Law_law_213, s_Law_law_214, s_Law_law_215, s_Law_law_216, s_Law_law_217, s_Law_law_218, s_Law_law_219, s_Law_law_220, s_Law_law_221, s_Law_law_222, s_Law_law_223, s_Law_law_224, s_Law_law_225, s_Law_law_226, s_Law_law_227, s_Law_law_228, k_1, n_1, ld30, k_10, hd, lz_1, lz_2, lz_3, lz_4, lz_5, lz_6, le_T, lt_T, le_F, lt_F, Int.toNat_natCast, cat_n, cat_i, cat_r, cat_l, Nat.ble_eq, Nat.reduceAdd, Nat.reduceLeDiff, true_and, and_true, true_implies, false_implies, not_true_eq_false, not_false_eq_true, implies_true]
  exact hok
theorem law_plant (hi : i + 6 ≤ L) (hL : L ≤ 3072) (hok : Ok2 L K 3 43 [vI (s (i + 1)), vI (s (i + 2)), vI (s (i + 3)), vI (s (i + 4))] s d) (hd : d 1 = s) (nx : ∀ d2, HV s d2 → Go K 212 R 1439 [vR 1, vR 10, vR 241, vI (i : Int)] [] (SH L) d2) : Go K 212 R 260 [vR 1, vR 10, vR 241, vI (i : Int)] [] (SH L) d := by
  have hok := Cl_mn (Q2 := fun v sh' d' => sh' = SH L ∧ Go K 212 R 284 [vR 1, vR 10, vR 241, vI (i : Int)] [v] (SH L) d') hok (fun v sh1 d1 h => ⟨h.1, by
    obtain ⟨_, h1, ⟨q, rfl⟩, h3⟩ := h
    have h3 := Cl_mn (Q2 := fun r sh' d' => sh' = SH L ∧ Go K 212 R 308 [vR 1, vR 10, vR 241, vI (i : Int)] [r, vI q] (SH L) d') h3 (fun v sh2 d2 h => ⟨h.1, by
      obtain ⟨_, h5, h6⟩ := h
      have nx := nx d2 h6
      rw [h5]
      clear hok h3 h6
      simp only [s_Law_law_308]
      exact ⟨fun _ => nx, fun z => absurd trivial z⟩⟩)
    clear hok nx
    simp (disch := omega) only [s_Law_law_284, s_Law_law_285, s_Law_law_286, s_Law_law_287, s_Law_law_288, s_Law_law_289, s_Law_law_290, s_Law_law_291, s_Law_law_292, s_Law_law_293, s_Law_law_294, s_Law_law_295, s_Law_law_296, s_Law_law_297, s_Law_law_298, s_Law_law_299, s_Law_law_300, s_Law_law_301, s_Law_law_302, s_Law_law_303, s_Law_law_304, s_Law_law_305, k_1, n_1, ld30, k_241, h1, lz_1, lz_2, lz_3, lz_4, lz_5, lz_6, le_T, lt_T, le_F, lt_F, Int.toNat_natCast, cat_n, cat_i, cat_r, cat_l, Nat.ble_eq, Nat.reduceAdd, Nat.reduceLeDiff, true_and, and_true, true_implies, false_implies, not_true_eq_false, not_false_eq_true, implies_true]
    exact h3⟩)
  clear nx
  simp (disch := omega) only [s_Law_law_260, s_Law_law_261, s_Law_law_262, s_Law_law_263, s_Law_law_264, s_Law_law_265, s_Law_law_266, s_Law_law_267, s_Law_law_268, s_Law_law_269, s_Law_law_270, s_Law_law_271, s_Law_law_272, s_Law_law_273, s_Law_law_274, s_Law_law_275, s_Law_law_276, s_Law_law_277, s_Law_law_278, s_Law_law_279, s_Law_law_280, s_Law_law_281, k_1, n_1, ld30, k_10, hd, lz_1, lz_2, lz_3, lz_4, lz_5, lz_6, le_T, lt_T, le_F, lt_F, Int.toNat_natCast, cat_n, cat_i, cat_r, cat_l, Nat.ble_eq, Nat.reduceAdd, Nat.reduceLeDiff, true_and, and_true, true_implies, false_implies, not_true_eq_false, not_false_eq_true, implies_true]
  exact hok
theorem law_load (hi : i + 6 ≤ L) (hL : L ≤ 3072) (hok : Ok2 L K 4 44 [vI (s (i + 1)), vI (s (i + 2)), vI (s (i + 3))] s d) (hd : d 1 = s) (nx : ∀ d2, HV s d2 → Go K 212 R 1439 [vR 1, vR 10, vR 241, vI (i : Int)] [] (SH L) d2) : Go K 212 R 313 [vR 1, vR 10, vR 241, vI (i : Int)] [] (SH L) d := by
  have hok := Cl_mn (Q2 := fun v sh' d' => sh' = SH L ∧ Go K 212 R 332 [vR 1, vR 10, vR 241, vI (i : Int)] [v] (SH L) d') hok (fun v sh1 d1 h => ⟨h.1, by
    obtain ⟨_, h1, ⟨q, rfl⟩, h3⟩ := h
    have h3 := Cl_mn (Q2 := fun r sh' d' => sh' = SH L ∧ Go K 212 R 351 [vR 1, vR 10, vR 241, vI (i : Int)] [r, vI q] (SH L) d') h3 (fun v sh2 d2 h => ⟨h.1, by
      obtain ⟨_, h5, h6⟩ := h
      have nx := nx d2 h6
      rw [h5]
      clear hok h3 h6
      simp only [s_Law_law_351]
      exact ⟨fun _ => nx, fun z => absurd trivial z⟩⟩)
    clear hok nx
    simp (disch := omega) only [s_Law_law_332, s_Law_law_333, s_Law_law_334, s_Law_law_335, s_Law_law_336, s_Law_law_337, s_Law_law_338, s_Law_law_339, s_Law_law_340, s_Law_law_341, s_Law_law_342, s_Law_law_343, s_Law_law_344, s_Law_law_345, s_Law_law_346, s_Law_law_347, s_Law_law_348, k_1, n_1, ld30, k_241, h1, lz_1, lz_2, lz_3, lz_4, lz_5, lz_6, le_T, lt_T, le_F, lt_F, Int.toNat_natCast, cat_n, cat_i, cat_r, cat_l, Nat.ble_eq, Nat.reduceAdd, Nat.reduceLeDiff, true_and, and_true, true_implies, false_implies, not_true_eq_false, not_false_eq_true, implies_true]
    exact h3⟩)
  clear nx
  simp (disch := omega) only [s_Law_law_313, s_Law_law_314, s_Law_law_315, s_Law_law_316, s_Law_law_317, s_Law_law_318, s_Law_law_319, s_Law_law_320, s_Law_law_321, s_Law_law_322, s_Law_law_323, s_Law_law_324, s_Law_law_325, s_Law_law_326, s_Law_law_327, s_Law_law_328, s_Law_law_329, k_1, n_1, ld30, k_10, hd, lz_1, lz_2, lz_3, lz_4, lz_5, lz_6, le_T, lt_T, le_F, lt_F, Int.toNat_natCast, cat_n, cat_i, cat_r, cat_l, Nat.ble_eq, Nat.reduceAdd, Nat.reduceLeDiff, true_and, and_true, true_implies, false_implies, not_true_eq_false, not_false_eq_true, implies_true]
  exact hok
theorem law_crew (hi : i + 6 ≤ L) (hL : L ≤ 3072) (hok : Ok2 L K 5 45 [vI (s (i + 1))] s d) (hd : d 1 = s) (nx : ∀ d2, HV s d2 → Go K 212 R 1439 [vR 1, vR 10, vR 241, vI (i : Int)] [] (SH L) d2) : Go K 212 R 356 [vR 1, vR 10, vR 241, vI (i : Int)] [] (SH L) d := by
  have hok := Cl_mn (Q2 := fun v sh' d' => sh' = SH L ∧ Go K 212 R 365 [vR 1, vR 10, vR 241, vI (i : Int)] [v] (SH L) d') hok (fun v sh1 d1 h => ⟨h.1, by
    obtain ⟨_, h1, ⟨q, rfl⟩, h3⟩ := h
    have h3 := Cl_mn (Q2 := fun r sh' d' => sh' = SH L ∧ Go K 212 R 374 [vR 1, vR 10, vR 241, vI (i : Int)] [r, vI q] (SH L) d') h3 (fun v sh2 d2 h => ⟨h.1, by
      obtain ⟨_, h5, h6⟩ := h
      have nx := nx d2 h6
      rw [h5]
      clear hok h3 h6
      simp only [s_Law_law_374]
      exact ⟨fun _ => nx, fun z => absurd trivial z⟩⟩)
    clear hok nx
    simp (disch := omega) only [s_Law_law_365, s_Law_law_366, s_Law_law_367, s_Law_law_368, s_Law_law_369, s_Law_law_370, s_Law_law_371, k_1, n_1, ld30, k_241, h1, lz_1, lz_2, lz_3, lz_4, lz_5, lz_6, le_T, lt_T, le_F, lt_F, Int.toNat_natCast, cat_n, cat_i, cat_r, cat_l, Nat.ble_eq, Nat.reduceAdd, Nat.reduceLeDiff, true_and, and_true, true_implies, false_implies, not_true_eq_false, not_false_eq_true, implies_true]
    exact h3⟩)
  clear nx
  simp (disch := omega) only [s_Law_law_356, s_Law_law_357, s_Law_law_358, s_Law_law_359, s_Law_law_360, s_Law_law_361, s_Law_law_362, k_1, n_1, ld30, k_10, hd, lz_1, lz_2, lz_3, lz_4, lz_5, lz_6, le_T, lt_T, le_F, lt_F, Int.toNat_natCast, cat_n, cat_i, cat_r, cat_l, Nat.ble_eq, Nat.reduceAdd, Nat.reduceLeDiff, true_and, and_true, true_implies, false_implies, not_true_eq_false, not_false_eq_true, implies_true]
  exact hok
theorem law_room (hi : i + 6 ≤ L) (hL : L ≤ 3072) (hok : Ok2 L K 6 46 [vI (s (i + 1)), vI (s (i + 2))] s d) (hd : d 1 = s) (nx : ∀ d2, HV s d2 → Go K 212 R 1439 [vR 1, vR 10, vR 241, vI (i : Int)] [] (SH L) d2) : Go K 212 R 379 [vR 1, vR 10, vR 241, vI (i : Int)] [] (SH L) d := by
  have hok := Cl_mn (Q2 := fun v sh' d' => sh' = SH L ∧ Go K 212 R 393 [vR 1, vR 10, vR 241, vI (i : Int)] [v] (SH L) d') hok (fun v sh1 d1 h => ⟨h.1, by
    obtain ⟨_, h1, ⟨q, rfl⟩, h3⟩ := h
    have h3 := Cl_mn (Q2 := fun r sh' d' => sh' = SH L ∧ Go K 212 R 407 [vR 1, vR 10, vR 241, vI (i : Int)] [r, vI q] (SH L) d') h3 (fun v sh2 d2 h => ⟨h.1, by
      obtain ⟨_, h5, h6⟩ := h
      have nx := nx d2 h6
      rw [h5]
      clear hok h3 h6
      simp only [s_Law_law_407]
      exact ⟨fun _ => nx, fun z => absurd trivial z⟩⟩)
    clear hok nx
    simp (disch := omega) only [s_Law_law_393, s_Law_law_394, s_Law_law_395, s_Law_law_396, s_Law_law_397, s_Law_law_398, s_Law_law_399, s_Law_law_400, s_Law_law_401, s_Law_law_402, s_Law_law_403, s_Law_law_404, k_1, n_1, ld30, k_241, h1, lz_1, lz_2, lz_3, lz_4, lz_5, lz_6, le_T, lt_T, le_F, lt_F, Int.toNat_natCast, cat_n, cat_i, cat_r, cat_l, Nat.ble_eq, Nat.reduceAdd, Nat.reduceLeDiff, true_and, and_true, true_implies, false_implies, not_true_eq_false, not_false_eq_true, implies_true]
    exact h3⟩)
  clear nx
  simp (disch := omega) only [s_Law_law_379, s_Law_law_380, s_Law_law_381, s_Law_law_382, s_Law_law_383, s_Law_law_384, s_Law_law_385, s_Law_law_386, s_Law_law_387, s_Law_law_388, s_Law_law_389, s_Law_law_390, k_1, n_1, ld30, k_10, hd, lz_1, lz_2, lz_3, lz_4, lz_5, lz_6, le_T, lt_T, le_F, lt_F, Int.toNat_natCast, cat_n, cat_i, cat_r, cat_l, Nat.ble_eq, Nat.reduceAdd, Nat.reduceLeDiff, true_and, and_true, true_implies, false_implies, not_true_eq_false, not_false_eq_true, implies_true]
  exact hok
theorem law_kindTold (hi : i + 6 ≤ L) (hL : L ≤ 3072) (hok : Ok2 L K 7 53 [vI (s (i + 1)), vI (s (i + 2)), vI (s (i + 3)), vI (s (i + 4))] s d) (hd : d 1 = s) (nx : ∀ d2, HV s d2 → Go K 212 R 1439 [vR 1, vR 10, vR 241, vI (i : Int)] [] (SH L) d2) : Go K 212 R 412 [vR 1, vR 10, vR 241, vI (i : Int)] [] (SH L) d := by
  have hok := Cl_mn (Q2 := fun v sh' d' => sh' = SH L ∧ Go K 212 R 436 [vR 1, vR 10, vR 241, vI (i : Int)] [v] (SH L) d') hok (fun v sh1 d1 h => ⟨h.1, by
    obtain ⟨_, h1, ⟨q, rfl⟩, h3⟩ := h
    have h3 := Cl_mn (Q2 := fun r sh' d' => sh' = SH L ∧ Go K 212 R 460 [vR 1, vR 10, vR 241, vI (i : Int)] [r, vI q] (SH L) d') h3 (fun v sh2 d2 h => ⟨h.1, by
      obtain ⟨_, h5, h6⟩ := h
      have nx := nx d2 h6
      rw [h5]
      clear hok h3 h6
      simp only [s_Law_law_460]
      exact ⟨fun _ => nx, fun z => absurd trivial z⟩⟩)
    clear hok nx
    simp (disch := omega) only [s_Law_law_436, s_Law_law_437, s_Law_law_438, s_Law_law_439, s_Law_law_440, s_Law_law_441, s_Law_law_442, s_Law_law_443, s_Law_law_444, s_Law_law_445, s_Law_law_446, s_Law_law_447, s_Law_law_448, s_Law_law_449, s_Law_law_450, s_Law_law_451, s_Law_law_452, s_Law_law_453, s_Law_law_454, s_Law_law_455, s_Law_law_456, s_Law_law_457, k_1, n_1, ld30, k_241, h1, lz_1, lz_2, lz_3, lz_4, lz_5, lz_6, le_T, lt_T, le_F, lt_F, Int.toNat_natCast, cat_n, cat_i, cat_r, cat_l, Nat.ble_eq, Nat.reduceAdd, Nat.reduceLeDiff, true_and, and_true, true_implies, false_implies, not_true_eq_false, not_false_eq_true, implies_true]
    exact h3⟩)
  clear nx
  simp (disch := omega) only [s_Law_law_412, s_Law_law_413, s_Law_law_414, s_Law_law_415, s_Law_law_416, s_Law_law_417, s_Law_law_418, s_Law_law_419, s_Law_law_420, s_Law_law_421, s_Law_law_422, s_Law_law_423, s_Law_law_424, s_Law_law_425, s_Law_law_426, s_Law_law_427, s_Law_law_428, s_Law_law_429, s_Law_law_430, s_Law_law_431, s_Law_law_432, s_Law_law_433, k_1, n_1, ld30, k_10, hd, lz_1, lz_2, lz_3, lz_4, lz_5, lz_6, le_T, lt_T, le_F, lt_F, Int.toNat_natCast, cat_n, cat_i, cat_r, cat_l, Nat.ble_eq, Nat.reduceAdd, Nat.reduceLeDiff, true_and, and_true, true_implies, false_implies, not_true_eq_false, not_false_eq_true, implies_true]
  exact hok
theorem law_deed (hi : i + 6 ≤ L) (hL : L ≤ 3072) (hok : Ok2 L K 8 63 [vI (s (i + 1)), vI (s (i + 2))] s d) (hd : d 1 = s) (nx : ∀ d2, HV s d2 → Go K 212 R 1439 [vR 1, vR 10, vR 241, vI (i : Int)] [] (SH L) d2) : Go K 212 R 465 [vR 1, vR 10, vR 241, vI (i : Int)] [] (SH L) d := by
  have hok := Cl_mn (Q2 := fun v sh' d' => sh' = SH L ∧ Go K 212 R 479 [vR 1, vR 10, vR 241, vI (i : Int)] [v] (SH L) d') hok (fun v sh1 d1 h => ⟨h.1, by
    obtain ⟨_, h1, ⟨q, rfl⟩, h3⟩ := h
    have h3 := Cl_mn (Q2 := fun r sh' d' => sh' = SH L ∧ Go K 212 R 493 [vR 1, vR 10, vR 241, vI (i : Int)] [r, vI q] (SH L) d') h3 (fun v sh2 d2 h => ⟨h.1, by
      obtain ⟨_, h5, h6⟩ := h
      have nx := nx d2 h6
      rw [h5]
      clear hok h3 h6
      simp only [s_Law_law_493]
      exact ⟨fun _ => nx, fun z => absurd trivial z⟩⟩)
    clear hok nx
    simp (disch := omega) only [s_Law_law_479, s_Law_law_480, s_Law_law_481, s_Law_law_482, s_Law_law_483, s_Law_law_484, s_Law_law_485, s_Law_law_486, s_Law_law_487, s_Law_law_488, s_Law_law_489, s_Law_law_490, k_1, n_1, ld30, k_241, h1, lz_1, lz_2, lz_3, lz_4, lz_5, lz_6, le_T, lt_T, le_F, lt_F, Int.toNat_natCast, cat_n, cat_i, cat_r, cat_l, Nat.ble_eq, Nat.reduceAdd, Nat.reduceLeDiff, true_and, and_true, true_implies, false_implies, not_true_eq_false, not_false_eq_true, implies_true]
    exact h3⟩)
  clear nx
  simp (disch := omega) only [s_Law_law_465, s_Law_law_466, s_Law_law_467, s_Law_law_468, s_Law_law_469, s_Law_law_470, s_Law_law_471, s_Law_law_472, s_Law_law_473, s_Law_law_474, s_Law_law_475, s_Law_law_476, k_1, n_1, ld30, k_10, hd, lz_1, lz_2, lz_3, lz_4, lz_5, lz_6, le_T, lt_T, le_F, lt_F, Int.toNat_natCast, cat_n, cat_i, cat_r, cat_l, Nat.ble_eq, Nat.reduceAdd, Nat.reduceLeDiff, true_and, and_true, true_implies, false_implies, not_true_eq_false, not_false_eq_true, implies_true]
  exact hok
theorem law_may (hi : i + 6 ≤ L) (hL : L ≤ 3072) (hok : Ok2 L K 9 64 [vI (s (i + 1))] s d) (hd : d 1 = s) (nx : ∀ d2, HV s d2 → Go K 212 R 1439 [vR 1, vR 10, vR 241, vI (i : Int)] [] (SH L) d2) : Go K 212 R 498 [vR 1, vR 10, vR 241, vI (i : Int)] [] (SH L) d := by
  have hok := Cl_mn (Q2 := fun v sh' d' => sh' = SH L ∧ Go K 212 R 507 [vR 1, vR 10, vR 241, vI (i : Int)] [v] (SH L) d') hok (fun v sh1 d1 h => ⟨h.1, by
    obtain ⟨_, h1, ⟨q, rfl⟩, h3⟩ := h
    have h3 := Cl_mn (Q2 := fun r sh' d' => sh' = SH L ∧ Go K 212 R 516 [vR 1, vR 10, vR 241, vI (i : Int)] [r, vI q] (SH L) d') h3 (fun v sh2 d2 h => ⟨h.1, by
      obtain ⟨_, h5, h6⟩ := h
      have nx := nx d2 h6
      rw [h5]
      clear hok h3 h6
      simp only [s_Law_law_516]
      exact ⟨fun _ => nx, fun z => absurd trivial z⟩⟩)
    clear hok nx
    simp (disch := omega) only [s_Law_law_507, s_Law_law_508, s_Law_law_509, s_Law_law_510, s_Law_law_511, s_Law_law_512, s_Law_law_513, k_1, n_1, ld30, k_241, h1, lz_1, lz_2, lz_3, lz_4, lz_5, lz_6, le_T, lt_T, le_F, lt_F, Int.toNat_natCast, cat_n, cat_i, cat_r, cat_l, Nat.ble_eq, Nat.reduceAdd, Nat.reduceLeDiff, true_and, and_true, true_implies, false_implies, not_true_eq_false, not_false_eq_true, implies_true]
    exact h3⟩)
  clear nx
  simp (disch := omega) only [s_Law_law_498, s_Law_law_499, s_Law_law_500, s_Law_law_501, s_Law_law_502, s_Law_law_503, s_Law_law_504, k_1, n_1, ld30, k_10, hd, lz_1, lz_2, lz_3, lz_4, lz_5, lz_6, le_T, lt_T, le_F, lt_F, Int.toNat_natCast, cat_n, cat_i, cat_r, cat_l, Nat.ble_eq, Nat.reduceAdd, Nat.reduceLeDiff, true_and, and_true, true_implies, false_implies, not_true_eq_false, not_false_eq_true, implies_true]
  exact hok
theorem law_go (hi : i + 6 ≤ L) (hL : L ≤ 3072) (hok : Ok2 L K 10 65 [vI (s (i + 1)), vI (s (i + 2))] s d) (hd : d 1 = s) (nx : ∀ d2, HV s d2 → Go K 212 R 1439 [vR 1, vR 10, vR 241, vI (i : Int)] [] (SH L) d2) : Go K 212 R 521 [vR 1, vR 10, vR 241, vI (i : Int)] [] (SH L) d := by
  have hok := Cl_mn (Q2 := fun v sh' d' => sh' = SH L ∧ Go K 212 R 535 [vR 1, vR 10, vR 241, vI (i : Int)] [v] (SH L) d') hok (fun v sh1 d1 h => ⟨h.1, by
    obtain ⟨_, h1, ⟨q, rfl⟩, h3⟩ := h
    have h3 := Cl_mn (Q2 := fun r sh' d' => sh' = SH L ∧ Go K 212 R 549 [vR 1, vR 10, vR 241, vI (i : Int)] [r, vI q] (SH L) d') h3 (fun v sh2 d2 h => ⟨h.1, by
      obtain ⟨_, h5, h6⟩ := h
      have nx := nx d2 h6
      rw [h5]
      clear hok h3 h6
      simp only [s_Law_law_549]
      exact ⟨fun _ => nx, fun z => absurd trivial z⟩⟩)
    clear hok nx
    simp (disch := omega) only [s_Law_law_535, s_Law_law_536, s_Law_law_537, s_Law_law_538, s_Law_law_539, s_Law_law_540, s_Law_law_541, s_Law_law_542, s_Law_law_543, s_Law_law_544, s_Law_law_545, s_Law_law_546, k_1, n_1, ld30, k_241, h1, lz_1, lz_2, lz_3, lz_4, lz_5, lz_6, le_T, lt_T, le_F, lt_F, Int.toNat_natCast, cat_n, cat_i, cat_r, cat_l, Nat.ble_eq, Nat.reduceAdd, Nat.reduceLeDiff, true_and, and_true, true_implies, false_implies, not_true_eq_false, not_false_eq_true, implies_true]
    exact h3⟩)
  clear nx
  simp (disch := omega) only [s_Law_law_521, s_Law_law_522, s_Law_law_523, s_Law_law_524, s_Law_law_525, s_Law_law_526, s_Law_law_527, s_Law_law_528, s_Law_law_529, s_Law_law_530, s_Law_law_531, s_Law_law_532, k_1, n_1, ld30, k_10, hd, lz_1, lz_2, lz_3, lz_4, lz_5, lz_6, le_T, lt_T, le_F, lt_F, Int.toNat_natCast, cat_n, cat_i, cat_r, cat_l, Nat.ble_eq, Nat.reduceAdd, Nat.reduceLeDiff, true_and, and_true, true_implies, false_implies, not_true_eq_false, not_false_eq_true, implies_true]
  exact hok
theorem law_run (hi : i + 6 ≤ L) (hL : L ≤ 3072) (hok : Ok2 L K 11 78 [vI (s (i + 1))] s d) (hd : d 1 = s) (nx : ∀ d2, HV s d2 → Go K 212 R 1439 [vR 1, vR 10, vR 241, vI (i : Int)] [] (SH L) d2) : Go K 212 R 554 [vR 1, vR 10, vR 241, vI (i : Int)] [] (SH L) d := by
  have hok := Cl_mn (Q2 := fun v sh' d' => sh' = SH L ∧ Go K 212 R 563 [vR 1, vR 10, vR 241, vI (i : Int)] [v] (SH L) d') hok (fun v sh1 d1 h => ⟨h.1, by
    obtain ⟨_, h1, ⟨q, rfl⟩, h3⟩ := h
    have h3 := Cl_mn (Q2 := fun r sh' d' => sh' = SH L ∧ Go K 212 R 572 [vR 1, vR 10, vR 241, vI (i : Int)] [r, vI q] (SH L) d') h3 (fun v sh2 d2 h => ⟨h.1, by
      obtain ⟨_, h5, h6⟩ := h
      have nx := nx d2 h6
      rw [h5]
      clear hok h3 h6
      simp only [s_Law_law_572]
      exact ⟨fun _ => nx, fun z => absurd trivial z⟩⟩)
    clear hok nx
    simp (disch := omega) only [s_Law_law_563, s_Law_law_564, s_Law_law_565, s_Law_law_566, s_Law_law_567, s_Law_law_568, s_Law_law_569, k_1, n_1, ld30, k_241, h1, lz_1, lz_2, lz_3, lz_4, lz_5, lz_6, le_T, lt_T, le_F, lt_F, Int.toNat_natCast, cat_n, cat_i, cat_r, cat_l, Nat.ble_eq, Nat.reduceAdd, Nat.reduceLeDiff, true_and, and_true, true_implies, false_implies, not_true_eq_false, not_false_eq_true, implies_true]
    exact h3⟩)
  clear nx
  simp (disch := omega) only [s_Law_law_554, s_Law_law_555, s_Law_law_556, s_Law_law_557, s_Law_law_558, s_Law_law_559, s_Law_law_560, k_1, n_1, ld30, k_10, hd, lz_1, lz_2, lz_3, lz_4, lz_5, lz_6, le_T, lt_T, le_F, lt_F, Int.toNat_natCast, cat_n, cat_i, cat_r, cat_l, Nat.ble_eq, Nat.reduceAdd, Nat.reduceLeDiff, true_and, and_true, true_implies, false_implies, not_true_eq_false, not_false_eq_true, implies_true]
  exact hok
theorem law_nodeTold (hi : i + 6 ≤ L) (hL : L ≤ 3072) (hok : Ok2 L K 12 79 [vI (s (i + 1)), vI (s (i + 2))] s d) (hd : d 1 = s) (nx : ∀ d2, HV s d2 → Go K 212 R 1439 [vR 1, vR 10, vR 241, vI (i : Int)] [] (SH L) d2) : Go K 212 R 577 [vR 1, vR 10, vR 241, vI (i : Int)] [] (SH L) d := by
  have hok := Cl_mn (Q2 := fun v sh' d' => sh' = SH L ∧ Go K 212 R 591 [vR 1, vR 10, vR 241, vI (i : Int)] [v] (SH L) d') hok (fun v sh1 d1 h => ⟨h.1, by
    obtain ⟨_, h1, ⟨q, rfl⟩, h3⟩ := h
    have h3 := Cl_mn (Q2 := fun r sh' d' => sh' = SH L ∧ Go K 212 R 605 [vR 1, vR 10, vR 241, vI (i : Int)] [r, vI q] (SH L) d') h3 (fun v sh2 d2 h => ⟨h.1, by
      obtain ⟨_, h5, h6⟩ := h
      have nx := nx d2 h6
      rw [h5]
      clear hok h3 h6
      simp only [s_Law_law_605]
      exact ⟨fun _ => nx, fun z => absurd trivial z⟩⟩)
    clear hok nx
    simp (disch := omega) only [s_Law_law_591, s_Law_law_592, s_Law_law_593, s_Law_law_594, s_Law_law_595, s_Law_law_596, s_Law_law_597, s_Law_law_598, s_Law_law_599, s_Law_law_600, s_Law_law_601, s_Law_law_602, k_1, n_1, ld30, k_241, h1, lz_1, lz_2, lz_3, lz_4, lz_5, lz_6, le_T, lt_T, le_F, lt_F, Int.toNat_natCast, cat_n, cat_i, cat_r, cat_l, Nat.ble_eq, Nat.reduceAdd, Nat.reduceLeDiff, true_and, and_true, true_implies, false_implies, not_true_eq_false, not_false_eq_true, implies_true]
    exact h3⟩)
  clear nx
  simp (disch := omega) only [s_Law_law_577, s_Law_law_578, s_Law_law_579, s_Law_law_580, s_Law_law_581, s_Law_law_582, s_Law_law_583, s_Law_law_584, s_Law_law_585, s_Law_law_586, s_Law_law_587, s_Law_law_588, k_1, n_1, ld30, k_10, hd, lz_1, lz_2, lz_3, lz_4, lz_5, lz_6, le_T, lt_T, le_F, lt_F, Int.toNat_natCast, cat_n, cat_i, cat_r, cat_l, Nat.ble_eq, Nat.reduceAdd, Nat.reduceLeDiff, true_and, and_true, true_implies, false_implies, not_true_eq_false, not_false_eq_true, implies_true]
  exact hok
theorem law_plantTold (hi : i + 6 ≤ L) (hL : L ≤ 3072) (hok : Ok2 L K 13 80 [vI (s (i + 1)), vI (s (i + 2))] s d) (hd : d 1 = s) (nx : ∀ d2, HV s d2 → Go K 212 R 1439 [vR 1, vR 10, vR 241, vI (i : Int)] [] (SH L) d2) : Go K 212 R 610 [vR 1, vR 10, vR 241, vI (i : Int)] [] (SH L) d := by
  have hok := Cl_mn (Q2 := fun v sh' d' => sh' = SH L ∧ Go K 212 R 624 [vR 1, vR 10, vR 241, vI (i : Int)] [v] (SH L) d') hok (fun v sh1 d1 h => ⟨h.1, by
    obtain ⟨_, h1, ⟨q, rfl⟩, h3⟩ := h
    have h3 := Cl_mn (Q2 := fun r sh' d' => sh' = SH L ∧ Go K 212 R 638 [vR 1, vR 10, vR 241, vI (i : Int)] [r, vI q] (SH L) d') h3 (fun v sh2 d2 h => ⟨h.1, by
      obtain ⟨_, h5, h6⟩ := h
      have nx := nx d2 h6
      rw [h5]
      clear hok h3 h6
      simp only [s_Law_law_638]
      exact ⟨fun _ => nx, fun z => absurd trivial z⟩⟩)
    clear hok nx
    simp (disch := omega) only [s_Law_law_624, s_Law_law_625, s_Law_law_626, s_Law_law_627, s_Law_law_628, s_Law_law_629, s_Law_law_630, s_Law_law_631, s_Law_law_632, s_Law_law_633, s_Law_law_634, s_Law_law_635, k_1, n_1, ld30, k_241, h1, lz_1, lz_2, lz_3, lz_4, lz_5, lz_6, le_T, lt_T, le_F, lt_F, Int.toNat_natCast, cat_n, cat_i, cat_r, cat_l, Nat.ble_eq, Nat.reduceAdd, Nat.reduceLeDiff, true_and, and_true, true_implies, false_implies, not_true_eq_false, not_false_eq_true, implies_true]
    exact h3⟩)
  clear nx
  simp (disch := omega) only [s_Law_law_610, s_Law_law_611, s_Law_law_612, s_Law_law_613, s_Law_law_614, s_Law_law_615, s_Law_law_616, s_Law_law_617, s_Law_law_618, s_Law_law_619, s_Law_law_620, s_Law_law_621, k_1, n_1, ld30, k_10, hd, lz_1, lz_2, lz_3, lz_4, lz_5, lz_6, le_T, lt_T, le_F, lt_F, Int.toNat_natCast, cat_n, cat_i, cat_r, cat_l, Nat.ble_eq, Nat.reduceAdd, Nat.reduceLeDiff, true_and, and_true, true_implies, false_implies, not_true_eq_false, not_false_eq_true, implies_true]
  exact hok
theorem law_loadTold (hi : i + 6 ≤ L) (hL : L ≤ 3072) (hok : Ok2 L K 14 81 [vI (s (i + 1)), vI (s (i + 2))] s d) (hd : d 1 = s) (nx : ∀ d2, HV s d2 → Go K 212 R 1439 [vR 1, vR 10, vR 241, vI (i : Int)] [] (SH L) d2) : Go K 212 R 643 [vR 1, vR 10, vR 241, vI (i : Int)] [] (SH L) d := by
  have hok := Cl_mn (Q2 := fun v sh' d' => sh' = SH L ∧ Go K 212 R 657 [vR 1, vR 10, vR 241, vI (i : Int)] [v] (SH L) d') hok (fun v sh1 d1 h => ⟨h.1, by
    obtain ⟨_, h1, ⟨q, rfl⟩, h3⟩ := h
    have h3 := Cl_mn (Q2 := fun r sh' d' => sh' = SH L ∧ Go K 212 R 671 [vR 1, vR 10, vR 241, vI (i : Int)] [r, vI q] (SH L) d') h3 (fun v sh2 d2 h => ⟨h.1, by
      obtain ⟨_, h5, h6⟩ := h
      have nx := nx d2 h6
      rw [h5]
      clear hok h3 h6
      simp only [s_Law_law_671]
      exact ⟨fun _ => nx, fun z => absurd trivial z⟩⟩)
    clear hok nx
    simp (disch := omega) only [s_Law_law_657, s_Law_law_658, s_Law_law_659, s_Law_law_660, s_Law_law_661, s_Law_law_662, s_Law_law_663, s_Law_law_664, s_Law_law_665, s_Law_law_666, s_Law_law_667, s_Law_law_668, k_1, n_1, ld30, k_241, h1, lz_1, lz_2, lz_3, lz_4, lz_5, lz_6, le_T, lt_T, le_F, lt_F, Int.toNat_natCast, cat_n, cat_i, cat_r, cat_l, Nat.ble_eq, Nat.reduceAdd, Nat.reduceLeDiff, true_and, and_true, true_implies, false_implies, not_true_eq_false, not_false_eq_true, implies_true]
    exact h3⟩)
  clear nx
  simp (disch := omega) only [s_Law_law_643, s_Law_law_644, s_Law_law_645, s_Law_law_646, s_Law_law_647, s_Law_law_648, s_Law_law_649, s_Law_law_650, s_Law_law_651, s_Law_law_652, s_Law_law_653, s_Law_law_654, k_1, n_1, ld30, k_10, hd, lz_1, lz_2, lz_3, lz_4, lz_5, lz_6, le_T, lt_T, le_F, lt_F, Int.toNat_natCast, cat_n, cat_i, cat_r, cat_l, Nat.ble_eq, Nat.reduceAdd, Nat.reduceLeDiff, true_and, and_true, true_implies, false_implies, not_true_eq_false, not_false_eq_true, implies_true]
  exact hok
theorem law_lineTold (hi : i + 6 ≤ L) (hL : L ≤ 3072) (hok : Ok2 L K 15 82 [vI (s (i + 1))] s d) (hd : d 1 = s) (nx : ∀ d2, HV s d2 → Go K 212 R 1439 [vR 1, vR 10, vR 241, vI (i : Int)] [] (SH L) d2) : Go K 212 R 676 [vR 1, vR 10, vR 241, vI (i : Int)] [] (SH L) d := by
  have hok := Cl_mn (Q2 := fun v sh' d' => sh' = SH L ∧ Go K 212 R 685 [vR 1, vR 10, vR 241, vI (i : Int)] [v] (SH L) d') hok (fun v sh1 d1 h => ⟨h.1, by
    obtain ⟨_, h1, ⟨q, rfl⟩, h3⟩ := h
    have h3 := Cl_mn (Q2 := fun r sh' d' => sh' = SH L ∧ Go K 212 R 694 [vR 1, vR 10, vR 241, vI (i : Int)] [r, vI q] (SH L) d') h3 (fun v sh2 d2 h => ⟨h.1, by
      obtain ⟨_, h5, h6⟩ := h
      have nx := nx d2 h6
      rw [h5]
      clear hok h3 h6
      simp only [s_Law_law_694]
      exact ⟨fun _ => nx, fun z => absurd trivial z⟩⟩)
    clear hok nx
    simp (disch := omega) only [s_Law_law_685, s_Law_law_686, s_Law_law_687, s_Law_law_688, s_Law_law_689, s_Law_law_690, s_Law_law_691, k_1, n_1, ld30, k_241, h1, lz_1, lz_2, lz_3, lz_4, lz_5, lz_6, le_T, lt_T, le_F, lt_F, Int.toNat_natCast, cat_n, cat_i, cat_r, cat_l, Nat.ble_eq, Nat.reduceAdd, Nat.reduceLeDiff, true_and, and_true, true_implies, false_implies, not_true_eq_false, not_false_eq_true, implies_true]
    exact h3⟩)
  clear nx
  simp (disch := omega) only [s_Law_law_676, s_Law_law_677, s_Law_law_678, s_Law_law_679, s_Law_law_680, s_Law_law_681, s_Law_law_682, k_1, n_1, ld30, k_10, hd, lz_1, lz_2, lz_3, lz_4, lz_5, lz_6, le_T, lt_T, le_F, lt_F, Int.toNat_natCast, cat_n, cat_i, cat_r, cat_l, Nat.ble_eq, Nat.reduceAdd, Nat.reduceLeDiff, true_and, and_true, true_implies, false_implies, not_true_eq_false, not_false_eq_true, implies_true]
  exact hok
theorem law_crewTold (hi : i + 6 ≤ L) (hL : L ≤ 3072) (hok : Ok2 L K 16 83 [vI (s (i + 1)), vI (s (i + 2))] s d) (hd : d 1 = s) (nx : ∀ d2, HV s d2 → Go K 212 R 1439 [vR 1, vR 10, vR 241, vI (i : Int)] [] (SH L) d2) : Go K 212 R 699 [vR 1, vR 10, vR 241, vI (i : Int)] [] (SH L) d := by
  have hok := Cl_mn (Q2 := fun v sh' d' => sh' = SH L ∧ Go K 212 R 713 [vR 1, vR 10, vR 241, vI (i : Int)] [v] (SH L) d') hok (fun v sh1 d1 h => ⟨h.1, by
    obtain ⟨_, h1, ⟨q, rfl⟩, h3⟩ := h
    have h3 := Cl_mn (Q2 := fun r sh' d' => sh' = SH L ∧ Go K 212 R 727 [vR 1, vR 10, vR 241, vI (i : Int)] [r, vI q] (SH L) d') h3 (fun v sh2 d2 h => ⟨h.1, by
      obtain ⟨_, h5, h6⟩ := h
      have nx := nx d2 h6
      rw [h5]
      clear hok h3 h6
      simp only [s_Law_law_727]
      exact ⟨fun _ => nx, fun z => absurd trivial z⟩⟩)
    clear hok nx
    simp (disch := omega) only [s_Law_law_713, s_Law_law_714, s_Law_law_715, s_Law_law_716, s_Law_law_717, s_Law_law_718, s_Law_law_719, s_Law_law_720, s_Law_law_721, s_Law_law_722, s_Law_law_723, s_Law_law_724, k_1, n_1, ld30, k_241, h1, lz_1, lz_2, lz_3, lz_4, lz_5, lz_6, le_T, lt_T, le_F, lt_F, Int.toNat_natCast, cat_n, cat_i, cat_r, cat_l, Nat.ble_eq, Nat.reduceAdd, Nat.reduceLeDiff, true_and, and_true, true_implies, false_implies, not_true_eq_false, not_false_eq_true, implies_true]
    exact h3⟩)
  clear nx
  simp (disch := omega) only [s_Law_law_699, s_Law_law_700, s_Law_law_701, s_Law_law_702, s_Law_law_703, s_Law_law_704, s_Law_law_705, s_Law_law_706, s_Law_law_707, s_Law_law_708, s_Law_law_709, s_Law_law_710, k_1, n_1, ld30, k_10, hd, lz_1, lz_2, lz_3, lz_4, lz_5, lz_6, le_T, lt_T, le_F, lt_F, Int.toNat_natCast, cat_n, cat_i, cat_r, cat_l, Nat.ble_eq, Nat.reduceAdd, Nat.reduceLeDiff, true_and, and_true, true_implies, false_implies, not_true_eq_false, not_false_eq_true, implies_true]
  exact hok
theorem law_fall (hi : i + 6 ≤ L) (hL : L ≤ 3072) (hok : Ok2 L K 17 84 [vI (s (i + 1)), vI (s (i + 2))] s d) (hd : d 1 = s) (nx : ∀ d2, HV s d2 → Go K 212 R 1439 [vR 1, vR 10, vR 241, vI (i : Int)] [] (SH L) d2) : Go K 212 R 732 [vR 1, vR 10, vR 241, vI (i : Int)] [] (SH L) d := by
  have hok := Cl_mn (Q2 := fun v sh' d' => sh' = SH L ∧ Go K 212 R 746 [vR 1, vR 10, vR 241, vI (i : Int)] [v] (SH L) d') hok (fun v sh1 d1 h => ⟨h.1, by
    obtain ⟨_, h1, ⟨q, rfl⟩, h3⟩ := h
    have h3 := Cl_mn (Q2 := fun r sh' d' => sh' = SH L ∧ Go K 212 R 760 [vR 1, vR 10, vR 241, vI (i : Int)] [r, vI q] (SH L) d') h3 (fun v sh2 d2 h => ⟨h.1, by
      obtain ⟨_, h5, h6⟩ := h
      have nx := nx d2 h6
      rw [h5]
      clear hok h3 h6
      simp only [s_Law_law_760]
      exact ⟨fun _ => nx, fun z => absurd trivial z⟩⟩)
    clear hok nx
    simp (disch := omega) only [s_Law_law_746, s_Law_law_747, s_Law_law_748, s_Law_law_749, s_Law_law_750, s_Law_law_751, s_Law_law_752, s_Law_law_753, s_Law_law_754, s_Law_law_755, s_Law_law_756, s_Law_law_757, k_1, n_1, ld30, k_241, h1, lz_1, lz_2, lz_3, lz_4, lz_5, lz_6, le_T, lt_T, le_F, lt_F, Int.toNat_natCast, cat_n, cat_i, cat_r, cat_l, Nat.ble_eq, Nat.reduceAdd, Nat.reduceLeDiff, true_and, and_true, true_implies, false_implies, not_true_eq_false, not_false_eq_true, implies_true]
    exact h3⟩)
  clear nx
  simp (disch := omega) only [s_Law_law_732, s_Law_law_733, s_Law_law_734, s_Law_law_735, s_Law_law_736, s_Law_law_737, s_Law_law_738, s_Law_law_739, s_Law_law_740, s_Law_law_741, s_Law_law_742, s_Law_law_743, k_1, n_1, ld30, k_10, hd, lz_1, lz_2, lz_3, lz_4, lz_5, lz_6, le_T, lt_T, le_F, lt_F, Int.toNat_natCast, cat_n, cat_i, cat_r, cat_l, Nat.ble_eq, Nat.reduceAdd, Nat.reduceLeDiff, true_and, and_true, true_implies, false_implies, not_true_eq_false, not_false_eq_true, implies_true]
  exact hok
theorem law_sign (hi : i + 6 ≤ L) (hL : L ≤ 3072) (hok : Ok2 L K 18 85 [vI (s (i + 1)), vI (s (i + 2)), vI (s (i + 3)), vI (s (i + 4))] s d) (hd : d 1 = s) (nx : ∀ d2, HV s d2 → Go K 212 R 1439 [vR 1, vR 10, vR 241, vI (i : Int)] [] (SH L) d2) : Go K 212 R 765 [vR 1, vR 10, vR 241, vI (i : Int)] [] (SH L) d := by
  have hok := Cl_mn (Q2 := fun v sh' d' => sh' = SH L ∧ Go K 212 R 789 [vR 1, vR 10, vR 241, vI (i : Int)] [v] (SH L) d') hok (fun v sh1 d1 h => ⟨h.1, by
    obtain ⟨_, h1, ⟨q, rfl⟩, h3⟩ := h
    have h3 := Cl_mn (Q2 := fun r sh' d' => sh' = SH L ∧ Go K 212 R 813 [vR 1, vR 10, vR 241, vI (i : Int)] [r, vI q] (SH L) d') h3 (fun v sh2 d2 h => ⟨h.1, by
      obtain ⟨_, h5, h6⟩ := h
      have nx := nx d2 h6
      rw [h5]
      clear hok h3 h6
      simp only [s_Law_law_813]
      exact ⟨fun _ => nx, fun z => absurd trivial z⟩⟩)
    clear hok nx
    simp (disch := omega) only [s_Law_law_789, s_Law_law_790, s_Law_law_791, s_Law_law_792, s_Law_law_793, s_Law_law_794, s_Law_law_795, s_Law_law_796, s_Law_law_797, s_Law_law_798, s_Law_law_799, s_Law_law_800, s_Law_law_801, s_Law_law_802, s_Law_law_803, s_Law_law_804, s_Law_law_805, s_Law_law_806, s_Law_law_807, s_Law_law_808, s_Law_law_809, s_Law_law_810, k_1, n_1, ld30, k_241, h1, lz_1, lz_2, lz_3, lz_4, lz_5, lz_6, le_T, lt_T, le_F, lt_F, Int.toNat_natCast, cat_n, cat_i, cat_r, cat_l, Nat.ble_eq, Nat.reduceAdd, Nat.reduceLeDiff, true_and, and_true, true_implies, false_implies, not_true_eq_false, not_false_eq_true, implies_true]
    exact h3⟩)
  clear nx
  simp (disch := omega) only [s_Law_law_765, s_Law_law_766, s_Law_law_767, s_Law_law_768, s_Law_law_769, s_Law_law_770, s_Law_law_771, s_Law_law_772, s_Law_law_773, s_Law_law_774, s_Law_law_775, s_Law_law_776, s_Law_law_777, s_Law_law_778, s_Law_law_779, s_Law_law_780, s_Law_law_781, s_Law_law_782, s_Law_law_783, s_Law_law_784, s_Law_law_785, s_Law_law_786, k_1, n_1, ld30, k_10, hd, lz_1, lz_2, lz_3, lz_4, lz_5, lz_6, le_T, lt_T, le_F, lt_F, Int.toNat_natCast, cat_n, cat_i, cat_r, cat_l, Nat.ble_eq, Nat.reduceAdd, Nat.reduceLeDiff, true_and, and_true, true_implies, false_implies, not_true_eq_false, not_false_eq_true, implies_true]
  exact hok
theorem law_mend (hi : i + 6 ≤ L) (hL : L ≤ 3072) (hok : Ok2 L K 19 86 [vI (s (i + 1))] s d) (hd : d 1 = s) (nx : ∀ d2, HV s d2 → Go K 212 R 1439 [vR 1, vR 10, vR 241, vI (i : Int)] [] (SH L) d2) : Go K 212 R 818 [vR 1, vR 10, vR 241, vI (i : Int)] [] (SH L) d := by
  have hok := Cl_mn (Q2 := fun v sh' d' => sh' = SH L ∧ Go K 212 R 827 [vR 1, vR 10, vR 241, vI (i : Int)] [v] (SH L) d') hok (fun v sh1 d1 h => ⟨h.1, by
    obtain ⟨_, h1, ⟨q, rfl⟩, h3⟩ := h
    have h3 := Cl_mn (Q2 := fun r sh' d' => sh' = SH L ∧ Go K 212 R 836 [vR 1, vR 10, vR 241, vI (i : Int)] [r, vI q] (SH L) d') h3 (fun v sh2 d2 h => ⟨h.1, by
      obtain ⟨_, h5, h6⟩ := h
      have nx := nx d2 h6
      rw [h5]
      clear hok h3 h6
      simp only [s_Law_law_836]
      exact ⟨fun _ => nx, fun z => absurd trivial z⟩⟩)
    clear hok nx
    simp (disch := omega) only [s_Law_law_827, s_Law_law_828, s_Law_law_829, s_Law_law_830, s_Law_law_831, s_Law_law_832, s_Law_law_833, k_1, n_1, ld30, k_241, h1, lz_1, lz_2, lz_3, lz_4, lz_5, lz_6, le_T, lt_T, le_F, lt_F, Int.toNat_natCast, cat_n, cat_i, cat_r, cat_l, Nat.ble_eq, Nat.reduceAdd, Nat.reduceLeDiff, true_and, and_true, true_implies, false_implies, not_true_eq_false, not_false_eq_true, implies_true]
    exact h3⟩)
  clear nx
  simp (disch := omega) only [s_Law_law_818, s_Law_law_819, s_Law_law_820, s_Law_law_821, s_Law_law_822, s_Law_law_823, s_Law_law_824, k_1, n_1, ld30, k_10, hd, lz_1, lz_2, lz_3, lz_4, lz_5, lz_6, le_T, lt_T, le_F, lt_F, Int.toNat_natCast, cat_n, cat_i, cat_r, cat_l, Nat.ble_eq, Nat.reduceAdd, Nat.reduceLeDiff, true_and, and_true, true_implies, false_implies, not_true_eq_false, not_false_eq_true, implies_true]
  exact hok
theorem law_sees (hi : i + 6 ≤ L) (hL : L ≤ 3072) (hok : OkL L K 20 89 [vI (s (i + 1)), vI (s (i + 2)), vI (s (i + 3)), vI (s (i + 4))] s d) (hd : d 1 = s) (nx : ∀ d2, HV s d2 → Go K 212 R 1439 [vR 1, vR 10, vR 241, vI (i : Int)] [] (SH L) d2) : Go K 212 R 841 [vR 1, vR 10, vR 241, vI (i : Int)] [] (SH L) d := by
  have hok := Cl_mn (Q2 := fun v sh' d' => sh' = SH L ∧ Go K 212 R 865 [vR 1, vR 10, vR 241, vI (i : Int)] [v] (SH L) d') hok (fun v sh1 d1 h => ⟨h.1, by
    obtain ⟨_, h1, ⟨q, rfl⟩, h3⟩ := h
    have h3 := Cl_mn (Q2 := fun r sh' d' => sh' = SH L ∧ Go K 212 R 889 [vR 1, vR 10, vR 241, vI (i : Int)] [r, vL q] (SH L) d') h3 (fun v sh2 d2 h => ⟨h.1, by
      obtain ⟨_, h5, h6⟩ := h
      have nx := nx d2 h6
      rw [h5]
      clear hok h3 h6
      simp only [s_Law_law_889, s_Law_law_890, lg_eq]
      exact ⟨fun _ => nx, fun z => absurd trivial z⟩⟩)
    clear hok nx
    simp (disch := omega) only [s_Law_law_865, s_Law_law_866, s_Law_law_867, s_Law_law_868, s_Law_law_869, s_Law_law_870, s_Law_law_871, s_Law_law_872, s_Law_law_873, s_Law_law_874, s_Law_law_875, s_Law_law_876, s_Law_law_877, s_Law_law_878, s_Law_law_879, s_Law_law_880, s_Law_law_881, s_Law_law_882, s_Law_law_883, s_Law_law_884, s_Law_law_885, s_Law_law_886, k_1, n_1, ld30, k_241, h1, lz_1, lz_2, lz_3, lz_4, lz_5, lz_6, le_T, lt_T, le_F, lt_F, Int.toNat_natCast, cat_n, cat_i, cat_r, cat_l, Nat.ble_eq, Nat.reduceAdd, Nat.reduceLeDiff, true_and, and_true, true_implies, false_implies, not_true_eq_false, not_false_eq_true, implies_true]
    exact h3⟩)
  clear nx
  simp (disch := omega) only [s_Law_law_841, s_Law_law_842, s_Law_law_843, s_Law_law_844, s_Law_law_845, s_Law_law_846, s_Law_law_847, s_Law_law_848, s_Law_law_849, s_Law_law_850, s_Law_law_851, s_Law_law_852, s_Law_law_853, s_Law_law_854, s_Law_law_855, s_Law_law_856, s_Law_law_857, s_Law_law_858, s_Law_law_859, s_Law_law_860, s_Law_law_861, s_Law_law_862, k_1, n_1, ld30, k_10, hd, lz_1, lz_2, lz_3, lz_4, lz_5, lz_6, le_T, lt_T, le_F, lt_F, Int.toNat_natCast, cat_n, cat_i, cat_r, cat_l, Nat.ble_eq, Nat.reduceAdd, Nat.reduceLeDiff, true_and, and_true, true_implies, false_implies, not_true_eq_false, not_false_eq_true, implies_true]
  exact hok
theorem law_order (hi : i + 6 ≤ L) (hL : L ≤ 3072) (hok : Ok2 L K 21 91 [vI (s (i + 1)), vI (s (i + 2)), vI (s (i + 3)), vI (s (i + 4))] s d) (hd : d 1 = s) (nx : ∀ d2, HV s d2 → Go K 212 R 1439 [vR 1, vR 10, vR 241, vI (i : Int)] [] (SH L) d2) : Go K 212 R 895 [vR 1, vR 10, vR 241, vI (i : Int)] [] (SH L) d := by
  have hok := Cl_mn (Q2 := fun v sh' d' => sh' = SH L ∧ Go K 212 R 919 [vR 1, vR 10, vR 241, vI (i : Int)] [v] (SH L) d') hok (fun v sh1 d1 h => ⟨h.1, by
    obtain ⟨_, h1, ⟨q, rfl⟩, h3⟩ := h
    have h3 := Cl_mn (Q2 := fun r sh' d' => sh' = SH L ∧ Go K 212 R 943 [vR 1, vR 10, vR 241, vI (i : Int)] [r, vI q] (SH L) d') h3 (fun v sh2 d2 h => ⟨h.1, by
      obtain ⟨_, h5, h6⟩ := h
      have nx := nx d2 h6
      rw [h5]
      clear hok h3 h6
      simp only [s_Law_law_943]
      exact ⟨fun _ => nx, fun z => absurd trivial z⟩⟩)
    clear hok nx
    simp (disch := omega) only [s_Law_law_919, s_Law_law_920, s_Law_law_921, s_Law_law_922, s_Law_law_923, s_Law_law_924, s_Law_law_925, s_Law_law_926, s_Law_law_927, s_Law_law_928, s_Law_law_929, s_Law_law_930, s_Law_law_931, s_Law_law_932, s_Law_law_933, s_Law_law_934, s_Law_law_935, s_Law_law_936, s_Law_law_937, s_Law_law_938, s_Law_law_939, s_Law_law_940, k_1, n_1, ld30, k_241, h1, lz_1, lz_2, lz_3, lz_4, lz_5, lz_6, le_T, lt_T, le_F, lt_F, Int.toNat_natCast, cat_n, cat_i, cat_r, cat_l, Nat.ble_eq, Nat.reduceAdd, Nat.reduceLeDiff, true_and, and_true, true_implies, false_implies, not_true_eq_false, not_false_eq_true, implies_true]
    exact h3⟩)
  clear nx
  simp (disch := omega) only [s_Law_law_895, s_Law_law_896, s_Law_law_897, s_Law_law_898, s_Law_law_899, s_Law_law_900, s_Law_law_901, s_Law_law_902, s_Law_law_903, s_Law_law_904, s_Law_law_905, s_Law_law_906, s_Law_law_907, s_Law_law_908, s_Law_law_909, s_Law_law_910, s_Law_law_911, s_Law_law_912, s_Law_law_913, s_Law_law_914, s_Law_law_915, s_Law_law_916, k_1, n_1, ld30, k_10, hd, lz_1, lz_2, lz_3, lz_4, lz_5, lz_6, le_T, lt_T, le_F, lt_F, Int.toNat_natCast, cat_n, cat_i, cat_r, cat_l, Nat.ble_eq, Nat.reduceAdd, Nat.reduceLeDiff, true_and, and_true, true_implies, false_implies, not_true_eq_false, not_false_eq_true, implies_true]
  exact hok
theorem law_ordered (hi : i + 6 ≤ L) (hL : L ≤ 3072) (hok : Ok2 L K 22 92 [vI (s (i + 1))] s d) (hd : d 1 = s) (nx : ∀ d2, HV s d2 → Go K 212 R 1439 [vR 1, vR 10, vR 241, vI (i : Int)] [] (SH L) d2) : Go K 212 R 948 [vR 1, vR 10, vR 241, vI (i : Int)] [] (SH L) d := by
  have hok := Cl_mn (Q2 := fun v sh' d' => sh' = SH L ∧ Go K 212 R 957 [vR 1, vR 10, vR 241, vI (i : Int)] [v] (SH L) d') hok (fun v sh1 d1 h => ⟨h.1, by
    obtain ⟨_, h1, ⟨q, rfl⟩, h3⟩ := h
    have h3 := Cl_mn (Q2 := fun r sh' d' => sh' = SH L ∧ Go K 212 R 966 [vR 1, vR 10, vR 241, vI (i : Int)] [r, vI q] (SH L) d') h3 (fun v sh2 d2 h => ⟨h.1, by
      obtain ⟨_, h5, h6⟩ := h
      have nx := nx d2 h6
      rw [h5]
      clear hok h3 h6
      simp only [s_Law_law_966]
      exact ⟨fun _ => nx, fun z => absurd trivial z⟩⟩)
    clear hok nx
    simp (disch := omega) only [s_Law_law_957, s_Law_law_958, s_Law_law_959, s_Law_law_960, s_Law_law_961, s_Law_law_962, s_Law_law_963, k_1, n_1, ld30, k_241, h1, lz_1, lz_2, lz_3, lz_4, lz_5, lz_6, le_T, lt_T, le_F, lt_F, Int.toNat_natCast, cat_n, cat_i, cat_r, cat_l, Nat.ble_eq, Nat.reduceAdd, Nat.reduceLeDiff, true_and, and_true, true_implies, false_implies, not_true_eq_false, not_false_eq_true, implies_true]
    exact h3⟩)
  clear nx
  simp (disch := omega) only [s_Law_law_948, s_Law_law_949, s_Law_law_950, s_Law_law_951, s_Law_law_952, s_Law_law_953, s_Law_law_954, k_1, n_1, ld30, k_10, hd, lz_1, lz_2, lz_3, lz_4, lz_5, lz_6, le_T, lt_T, le_F, lt_F, Int.toNat_natCast, cat_n, cat_i, cat_r, cat_l, Nat.ble_eq, Nat.reduceAdd, Nat.reduceLeDiff, true_and, and_true, true_implies, false_implies, not_true_eq_false, not_false_eq_true, implies_true]
  exact hok
theorem law_when (hi : i + 6 ≤ L) (hL : L ≤ 3072) (hok : OkL L K 23 116 [vI (s (i + 1)), vI (s (i + 2))] s d) (hd : d 1 = s) (nx : ∀ d2, HV s d2 → Go K 212 R 1439 [vR 1, vR 10, vR 241, vI (i : Int)] [] (SH L) d2) : Go K 212 R 971 [vR 1, vR 10, vR 241, vI (i : Int)] [] (SH L) d := by
  have hok := Cl_mn (Q2 := fun v sh' d' => sh' = SH L ∧ Go K 212 R 985 [vR 1, vR 10, vR 241, vI (i : Int)] [v] (SH L) d') hok (fun v sh1 d1 h => ⟨h.1, by
    obtain ⟨_, h1, ⟨q, rfl⟩, h3⟩ := h
    have h3 := Cl_mn (Q2 := fun r sh' d' => sh' = SH L ∧ Go K 212 R 999 [vR 1, vR 10, vR 241, vI (i : Int)] [r, vL q] (SH L) d') h3 (fun v sh2 d2 h => ⟨h.1, by
      obtain ⟨_, h5, h6⟩ := h
      have nx := nx d2 h6
      rw [h5]
      clear hok h3 h6
      simp only [s_Law_law_999, s_Law_law_1000, lg_eq]
      exact ⟨fun _ => nx, fun z => absurd trivial z⟩⟩)
    clear hok nx
    simp (disch := omega) only [s_Law_law_985, s_Law_law_986, s_Law_law_987, s_Law_law_988, s_Law_law_989, s_Law_law_990, s_Law_law_991, s_Law_law_992, s_Law_law_993, s_Law_law_994, s_Law_law_995, s_Law_law_996, k_1, n_1, ld30, k_241, h1, lz_1, lz_2, lz_3, lz_4, lz_5, lz_6, le_T, lt_T, le_F, lt_F, Int.toNat_natCast, cat_n, cat_i, cat_r, cat_l, Nat.ble_eq, Nat.reduceAdd, Nat.reduceLeDiff, true_and, and_true, true_implies, false_implies, not_true_eq_false, not_false_eq_true, implies_true]
    exact h3⟩)
  clear nx
  simp (disch := omega) only [s_Law_law_971, s_Law_law_972, s_Law_law_973, s_Law_law_974, s_Law_law_975, s_Law_law_976, s_Law_law_977, s_Law_law_978, s_Law_law_979, s_Law_law_980, s_Law_law_981, s_Law_law_982, k_1, n_1, ld30, k_10, hd, lz_1, lz_2, lz_3, lz_4, lz_5, lz_6, le_T, lt_T, le_F, lt_F, Int.toNat_natCast, cat_n, cat_i, cat_r, cat_l, Nat.ble_eq, Nat.reduceAdd, Nat.reduceLeDiff, true_and, and_true, true_implies, false_implies, not_true_eq_false, not_false_eq_true, implies_true]
  exact hok
theorem law_plan (hi : i + 6 ≤ L) (hL : L ≤ 3072) (hok : OkL L K 24 99 [vI (s (i + 1)), vI (s (i + 2)), vI (s (i + 3))] s d) (hd : d 1 = s) (nx : ∀ d2, HV s d2 → Go K 212 R 1439 [vR 1, vR 10, vR 241, vI (i : Int)] [] (SH L) d2) : Go K 212 R 1005 [vR 1, vR 10, vR 241, vI (i : Int)] [] (SH L) d := by
  have hok := Cl_mn (Q2 := fun v sh' d' => sh' = SH L ∧ Go K 212 R 1024 [vR 1, vR 10, vR 241, vI (i : Int)] [v] (SH L) d') hok (fun v sh1 d1 h => ⟨h.1, by
    obtain ⟨_, h1, ⟨q, rfl⟩, h3⟩ := h
    have h3 := Cl_mn (Q2 := fun r sh' d' => sh' = SH L ∧ Go K 212 R 1043 [vR 1, vR 10, vR 241, vI (i : Int)] [r, vL q] (SH L) d') h3 (fun v sh2 d2 h => ⟨h.1, by
      obtain ⟨_, h5, h6⟩ := h
      have nx := nx d2 h6
      rw [h5]
      clear hok h3 h6
      simp only [s_Law_law_1043, s_Law_law_1044, lg_eq]
      exact ⟨fun _ => nx, fun z => absurd trivial z⟩⟩)
    clear hok nx
    simp (disch := omega) only [s_Law_law_1024, s_Law_law_1025, s_Law_law_1026, s_Law_law_1027, s_Law_law_1028, s_Law_law_1029, s_Law_law_1030, s_Law_law_1031, s_Law_law_1032, s_Law_law_1033, s_Law_law_1034, s_Law_law_1035, s_Law_law_1036, s_Law_law_1037, s_Law_law_1038, s_Law_law_1039, s_Law_law_1040, k_1, n_1, ld30, k_241, h1, lz_1, lz_2, lz_3, lz_4, lz_5, lz_6, le_T, lt_T, le_F, lt_F, Int.toNat_natCast, cat_n, cat_i, cat_r, cat_l, Nat.ble_eq, Nat.reduceAdd, Nat.reduceLeDiff, true_and, and_true, true_implies, false_implies, not_true_eq_false, not_false_eq_true, implies_true]
    exact h3⟩)
  clear nx
  simp (disch := omega) only [s_Law_law_1005, s_Law_law_1006, s_Law_law_1007, s_Law_law_1008, s_Law_law_1009, s_Law_law_1010, s_Law_law_1011, s_Law_law_1012, s_Law_law_1013, s_Law_law_1014, s_Law_law_1015, s_Law_law_1016, s_Law_law_1017, s_Law_law_1018, s_Law_law_1019, s_Law_law_1020, s_Law_law_1021, k_1, n_1, ld30, k_10, hd, lz_1, lz_2, lz_3, lz_4, lz_5, lz_6, le_T, lt_T, le_F, lt_F, Int.toNat_natCast, cat_n, cat_i, cat_r, cat_l, Nat.ble_eq, Nat.reduceAdd, Nat.reduceLeDiff, true_and, and_true, true_implies, false_implies, not_true_eq_false, not_false_eq_true, implies_true]
  exact hok
theorem law_planned (hi : i + 6 ≤ L) (hL : L ≤ 3072) (hok : Ok2 L K 25 100 [vI (s (i + 1))] s d) (hd : d 1 = s) (nx : ∀ d2, HV s d2 → Go K 212 R 1439 [vR 1, vR 10, vR 241, vI (i : Int)] [] (SH L) d2) : Go K 212 R 1049 [vR 1, vR 10, vR 241, vI (i : Int)] [] (SH L) d := by
  have hok := Cl_mn (Q2 := fun v sh' d' => sh' = SH L ∧ Go K 212 R 1058 [vR 1, vR 10, vR 241, vI (i : Int)] [v] (SH L) d') hok (fun v sh1 d1 h => ⟨h.1, by
    obtain ⟨_, h1, ⟨q, rfl⟩, h3⟩ := h
    have h3 := Cl_mn (Q2 := fun r sh' d' => sh' = SH L ∧ Go K 212 R 1067 [vR 1, vR 10, vR 241, vI (i : Int)] [r, vI q] (SH L) d') h3 (fun v sh2 d2 h => ⟨h.1, by
      obtain ⟨_, h5, h6⟩ := h
      have nx := nx d2 h6
      rw [h5]
      clear hok h3 h6
      simp only [s_Law_law_1067]
      exact ⟨fun _ => nx, fun z => absurd trivial z⟩⟩)
    clear hok nx
    simp (disch := omega) only [s_Law_law_1058, s_Law_law_1059, s_Law_law_1060, s_Law_law_1061, s_Law_law_1062, s_Law_law_1063, s_Law_law_1064, k_1, n_1, ld30, k_241, h1, lz_1, lz_2, lz_3, lz_4, lz_5, lz_6, le_T, lt_T, le_F, lt_F, Int.toNat_natCast, cat_n, cat_i, cat_r, cat_l, Nat.ble_eq, Nat.reduceAdd, Nat.reduceLeDiff, true_and, and_true, true_implies, false_implies, not_true_eq_false, not_false_eq_true, implies_true]
    exact h3⟩)
  clear nx
  simp (disch := omega) only [s_Law_law_1049, s_Law_law_1050, s_Law_law_1051, s_Law_law_1052, s_Law_law_1053, s_Law_law_1054, s_Law_law_1055, k_1, n_1, ld30, k_10, hd, lz_1, lz_2, lz_3, lz_4, lz_5, lz_6, le_T, lt_T, le_F, lt_F, Int.toNat_natCast, cat_n, cat_i, cat_r, cat_l, Nat.ble_eq, Nat.reduceAdd, Nat.reduceLeDiff, true_and, and_true, true_implies, false_implies, not_true_eq_false, not_false_eq_true, implies_true]
  exact hok
theorem law_beside (hi : i + 6 ≤ L) (hL : L ≤ 3072) (hok : Ok2 L K 26 95 [vI (s (i + 1)), vI (s (i + 2))] s d) (hd : d 1 = s) (nx : ∀ d2, HV s d2 → Go K 212 R 1439 [vR 1, vR 10, vR 241, vI (i : Int)] [] (SH L) d2) : Go K 212 R 1072 [vR 1, vR 10, vR 241, vI (i : Int)] [] (SH L) d := by
  have hok := Cl_mn (Q2 := fun v sh' d' => sh' = SH L ∧ Go K 212 R 1086 [vR 1, vR 10, vR 241, vI (i : Int)] [v] (SH L) d') hok (fun v sh1 d1 h => ⟨h.1, by
    obtain ⟨_, h1, ⟨q, rfl⟩, h3⟩ := h
    have h3 := Cl_mn (Q2 := fun r sh' d' => sh' = SH L ∧ Go K 212 R 1100 [vR 1, vR 10, vR 241, vI (i : Int)] [r, vI q] (SH L) d') h3 (fun v sh2 d2 h => ⟨h.1, by
      obtain ⟨_, h5, h6⟩ := h
      have nx := nx d2 h6
      rw [h5]
      clear hok h3 h6
      simp only [s_Law_law_1100]
      exact ⟨fun _ => nx, fun z => absurd trivial z⟩⟩)
    clear hok nx
    simp (disch := omega) only [s_Law_law_1086, s_Law_law_1087, s_Law_law_1088, s_Law_law_1089, s_Law_law_1090, s_Law_law_1091, s_Law_law_1092, s_Law_law_1093, s_Law_law_1094, s_Law_law_1095, s_Law_law_1096, s_Law_law_1097, k_1, n_1, ld30, k_241, h1, lz_1, lz_2, lz_3, lz_4, lz_5, lz_6, le_T, lt_T, le_F, lt_F, Int.toNat_natCast, cat_n, cat_i, cat_r, cat_l, Nat.ble_eq, Nat.reduceAdd, Nat.reduceLeDiff, true_and, and_true, true_implies, false_implies, not_true_eq_false, not_false_eq_true, implies_true]
    exact h3⟩)
  clear nx
  simp (disch := omega) only [s_Law_law_1072, s_Law_law_1073, s_Law_law_1074, s_Law_law_1075, s_Law_law_1076, s_Law_law_1077, s_Law_law_1078, s_Law_law_1079, s_Law_law_1080, s_Law_law_1081, s_Law_law_1082, s_Law_law_1083, k_1, n_1, ld30, k_10, hd, lz_1, lz_2, lz_3, lz_4, lz_5, lz_6, le_T, lt_T, le_F, lt_F, Int.toNat_natCast, cat_n, cat_i, cat_r, cat_l, Nat.ble_eq, Nat.reduceAdd, Nat.reduceLeDiff, true_and, and_true, true_implies, false_implies, not_true_eq_false, not_false_eq_true, implies_true]
  exact hok
theorem law_feed (hi : i + 6 ≤ L) (hL : L ≤ 3072) (hok : Ok2 L K 27 101 [vL (feedW (s (i + 1)) (s (i + 2))), vI (s (i + 3))] s d) (hd : d 1 = s) (nx : ∀ d2, HV s d2 → Go K 212 R 1439 [vR 1, vR 10, vR 241, vI (i : Int)] [] (SH L) d2) : Go K 212 R 1105 [vR 1, vR 10, vR 241, vI (i : Int)] [] (SH L) d := by
  have hok := Cl_mn (Q2 := fun v sh' d' => sh' = SH L ∧ Go K 212 R 1134 [vR 1, vR 10, vR 241, vI (i : Int)] [v] (SH L) d') hok (fun v sh1 d1 h => ⟨h.1, by
    obtain ⟨_, h1, ⟨q, rfl⟩, h3⟩ := h
    have h3 := Cl_mn (Q2 := fun r sh' d' => sh' = SH L ∧ Go K 212 R 1163 [vR 1, vR 10, vR 241, vI (i : Int)] [r, vI q] (SH L) d') h3 (fun v sh2 d2 h => ⟨h.1, by
      obtain ⟨_, h5, h6⟩ := h
      have nx := nx d2 h6
      rw [h5]
      clear hok h3 h6
      simp only [s_Law_law_1163]
      exact ⟨fun _ => nx, fun z => absurd trivial z⟩⟩)
    clear hok nx
    unfold feedW at h3
    simp (disch := omega) only [s_Law_law_1134, s_Law_law_1135, s_Law_law_1136, s_Law_law_1137, s_Law_law_1138, s_Law_law_1139, s_Law_law_1140, s_Law_law_1141, s_Law_law_1143, s_Law_law_1144, s_Law_law_1145, s_Law_law_1146, s_Law_law_1147, s_Law_law_1148, s_Law_law_1149, s_Law_law_1150, s_Law_law_1153, s_Law_law_1154, s_Law_law_1155, s_Law_law_1156, s_Law_law_1157, s_Law_law_1158, s_Law_law_1159, s_Law_law_1160, k_1, n_1, ld30, k_241, h1, lz_1, lz_2, lz_3, lz_4, lz_5, lz_6, le_T, lt_T, le_F, lt_F, Int.toNat_natCast, cat_n, cat_i, cat_r, cat_l, Nat.ble_eq, Nat.reduceAdd, Nat.reduceLeDiff, true_and, and_true, true_implies, false_implies, not_true_eq_false, not_false_eq_true, implies_true]
    exact h3⟩)
  clear nx
  unfold feedW at hok
  simp (disch := omega) only [s_Law_law_1105, s_Law_law_1106, s_Law_law_1107, s_Law_law_1108, s_Law_law_1109, s_Law_law_1110, s_Law_law_1111, s_Law_law_1112, s_Law_law_1114, s_Law_law_1115, s_Law_law_1116, s_Law_law_1117, s_Law_law_1118, s_Law_law_1119, s_Law_law_1120, s_Law_law_1121, s_Law_law_1124, s_Law_law_1125, s_Law_law_1126, s_Law_law_1127, s_Law_law_1128, s_Law_law_1129, s_Law_law_1130, s_Law_law_1131, k_1, n_1, ld30, k_10, hd, lz_1, lz_2, lz_3, lz_4, lz_5, lz_6, le_T, lt_T, le_F, lt_F, Int.toNat_natCast, cat_n, cat_i, cat_r, cat_l, Nat.ble_eq, Nat.reduceAdd, Nat.reduceLeDiff, true_and, and_true, true_implies, false_implies, not_true_eq_false, not_false_eq_true, implies_true]
  exact hok
theorem law_text (hi : i + 6 ≤ L) (hL : L ≤ 3072) (hok : Ok2 L K 28 112 [] s d) (hd : d 1 = s) (nx : ∀ d2, HV s d2 → Go K 212 R 1439 [vR 1, vR 10, vR 241, vI (i : Int)] [] (SH L) d2) : Go K 212 R 1168 [vR 1, vR 10, vR 241, vI (i : Int)] [] (SH L) d := by
  have hok := Cl_mn (Q2 := fun v sh' d' => sh' = SH L ∧ Go K 212 R 1172 [vR 1, vR 10, vR 241, vI (i : Int)] [v] (SH L) d') hok (fun v sh1 d1 h => ⟨h.1, by
    obtain ⟨_, h1, ⟨q, rfl⟩, h3⟩ := h
    have h3 := Cl_mn (Q2 := fun r sh' d' => sh' = SH L ∧ Go K 212 R 1176 [vR 1, vR 10, vR 241, vI (i : Int)] [r, vI q] (SH L) d') h3 (fun v sh2 d2 h => ⟨h.1, by
      obtain ⟨_, h5, h6⟩ := h
      have nx := nx d2 h6
      rw [h5]
      clear hok h3 h6
      simp only [s_Law_law_1176]
      exact ⟨fun _ => nx, fun z => absurd trivial z⟩⟩)
    clear hok nx
    simp (disch := omega) only [s_Law_law_1172, s_Law_law_1173, k_1, n_1, ld30, k_241, h1, lz_1, lz_2, lz_3, lz_4, lz_5, lz_6, le_T, lt_T, le_F, lt_F, Int.toNat_natCast, cat_n, cat_i, cat_r, cat_l, Nat.ble_eq, Nat.reduceAdd, Nat.reduceLeDiff, true_and, and_true, true_implies, false_implies, not_true_eq_false, not_false_eq_true, implies_true]
    exact h3⟩)
  clear nx
  simp (disch := omega) only [s_Law_law_1168, s_Law_law_1169, k_1, n_1, ld30, k_10, hd, lz_1, lz_2, lz_3, lz_4, lz_5, lz_6, le_T, lt_T, le_F, lt_F, Int.toNat_natCast, cat_n, cat_i, cat_r, cat_l, Nat.ble_eq, Nat.reduceAdd, Nat.reduceLeDiff, true_and, and_true, true_implies, false_implies, not_true_eq_false, not_false_eq_true, implies_true]
  exact hok
theorem law_count (hi : i + 6 ≤ L) (hL : L ≤ 3072) (hok : Ok2 L K 29 117 [vI (s (i + 1))] s d) (hd : d 1 = s) (nx : ∀ d2, HV s d2 → Go K 212 R 1439 [vR 1, vR 10, vR 241, vI (i : Int)] [] (SH L) d2) : Go K 212 R 1181 [vR 1, vR 10, vR 241, vI (i : Int)] [] (SH L) d := by
  have hok := Cl_mn (Q2 := fun v sh' d' => sh' = SH L ∧ Go K 212 R 1190 [vR 1, vR 10, vR 241, vI (i : Int)] [v] (SH L) d') hok (fun v sh1 d1 h => ⟨h.1, by
    obtain ⟨_, h1, ⟨q, rfl⟩, h3⟩ := h
    have h3 := Cl_mn (Q2 := fun r sh' d' => sh' = SH L ∧ Go K 212 R 1199 [vR 1, vR 10, vR 241, vI (i : Int)] [r, vI q] (SH L) d') h3 (fun v sh2 d2 h => ⟨h.1, by
      obtain ⟨_, h5, h6⟩ := h
      have nx := nx d2 h6
      rw [h5]
      clear hok h3 h6
      simp only [s_Law_law_1199]
      exact ⟨fun _ => nx, fun z => absurd trivial z⟩⟩)
    clear hok nx
    simp (disch := omega) only [s_Law_law_1190, s_Law_law_1191, s_Law_law_1192, s_Law_law_1193, s_Law_law_1194, s_Law_law_1195, s_Law_law_1196, k_1, n_1, ld30, k_241, h1, lz_1, lz_2, lz_3, lz_4, lz_5, lz_6, le_T, lt_T, le_F, lt_F, Int.toNat_natCast, cat_n, cat_i, cat_r, cat_l, Nat.ble_eq, Nat.reduceAdd, Nat.reduceLeDiff, true_and, and_true, true_implies, false_implies, not_true_eq_false, not_false_eq_true, implies_true]
    exact h3⟩)
  clear nx
  simp (disch := omega) only [s_Law_law_1181, s_Law_law_1182, s_Law_law_1183, s_Law_law_1184, s_Law_law_1185, s_Law_law_1186, s_Law_law_1187, k_1, n_1, ld30, k_10, hd, lz_1, lz_2, lz_3, lz_4, lz_5, lz_6, le_T, lt_T, le_F, lt_F, Int.toNat_natCast, cat_n, cat_i, cat_r, cat_l, Nat.ble_eq, Nat.reduceAdd, Nat.reduceLeDiff, true_and, and_true, true_implies, false_implies, not_true_eq_false, not_false_eq_true, implies_true]
  exact hok
theorem law_sheet (hi : i + 6 ≤ L) (hL : L ≤ 3072) (hok : Ok2 L K 30 118 [vI (s (i + 1)), vI (s (i + 2)), vI (s (i + 3))] s d) (hd : d 1 = s) (nx : ∀ d2, HV s d2 → Go K 212 R 1439 [vR 1, vR 10, vR 241, vI (i : Int)] [] (SH L) d2) : Go K 212 R 1204 [vR 1, vR 10, vR 241, vI (i : Int)] [] (SH L) d := by
  have hok := Cl_mn (Q2 := fun v sh' d' => sh' = SH L ∧ Go K 212 R 1223 [vR 1, vR 10, vR 241, vI (i : Int)] [v] (SH L) d') hok (fun v sh1 d1 h => ⟨h.1, by
    obtain ⟨_, h1, ⟨q, rfl⟩, h3⟩ := h
    have h3 := Cl_mn (Q2 := fun r sh' d' => sh' = SH L ∧ Go K 212 R 1242 [vR 1, vR 10, vR 241, vI (i : Int)] [r, vI q] (SH L) d') h3 (fun v sh2 d2 h => ⟨h.1, by
      obtain ⟨_, h5, h6⟩ := h
      have nx := nx d2 h6
      rw [h5]
      clear hok h3 h6
      simp only [s_Law_law_1242]
      exact ⟨fun _ => nx, fun z => absurd trivial z⟩⟩)
    clear hok nx
    simp (disch := omega) only [s_Law_law_1223, s_Law_law_1224, s_Law_law_1225, s_Law_law_1226, s_Law_law_1227, s_Law_law_1228, s_Law_law_1229, s_Law_law_1230, s_Law_law_1231, s_Law_law_1232, s_Law_law_1233, s_Law_law_1234, s_Law_law_1235, s_Law_law_1236, s_Law_law_1237, s_Law_law_1238, s_Law_law_1239, k_1, n_1, ld30, k_241, h1, lz_1, lz_2, lz_3, lz_4, lz_5, lz_6, le_T, lt_T, le_F, lt_F, Int.toNat_natCast, cat_n, cat_i, cat_r, cat_l, Nat.ble_eq, Nat.reduceAdd, Nat.reduceLeDiff, true_and, and_true, true_implies, false_implies, not_true_eq_false, not_false_eq_true, implies_true]
    exact h3⟩)
  clear nx
  simp (disch := omega) only [s_Law_law_1204, s_Law_law_1205, s_Law_law_1206, s_Law_law_1207, s_Law_law_1208, s_Law_law_1209, s_Law_law_1210, s_Law_law_1211, s_Law_law_1212, s_Law_law_1213, s_Law_law_1214, s_Law_law_1215, s_Law_law_1216, s_Law_law_1217, s_Law_law_1218, s_Law_law_1219, s_Law_law_1220, k_1, n_1, ld30, k_10, hd, lz_1, lz_2, lz_3, lz_4, lz_5, lz_6, le_T, lt_T, le_F, lt_F, Int.toNat_natCast, cat_n, cat_i, cat_r, cat_l, Nat.ble_eq, Nat.reduceAdd, Nat.reduceLeDiff, true_and, and_true, true_implies, false_implies, not_true_eq_false, not_false_eq_true, implies_true]
  exact hok
theorem law_cell (hi : i + 6 ≤ L) (hL : L ≤ 3072) (hok : Ok2 L K 31 119 [vI (s (i + 1)), vI (s (i + 2)), vI (s (i + 3))] s d) (hd : d 1 = s) (nx : ∀ d2, HV s d2 → Go K 212 R 1439 [vR 1, vR 10, vR 241, vI (i : Int)] [] (SH L) d2) : Go K 212 R 1247 [vR 1, vR 10, vR 241, vI (i : Int)] [] (SH L) d := by
  have hok := Cl_mn (Q2 := fun v sh' d' => sh' = SH L ∧ Go K 212 R 1266 [vR 1, vR 10, vR 241, vI (i : Int)] [v] (SH L) d') hok (fun v sh1 d1 h => ⟨h.1, by
    obtain ⟨_, h1, ⟨q, rfl⟩, h3⟩ := h
    have h3 := Cl_mn (Q2 := fun r sh' d' => sh' = SH L ∧ Go K 212 R 1285 [vR 1, vR 10, vR 241, vI (i : Int)] [r, vI q] (SH L) d') h3 (fun v sh2 d2 h => ⟨h.1, by
      obtain ⟨_, h5, h6⟩ := h
      have nx := nx d2 h6
      rw [h5]
      clear hok h3 h6
      simp only [s_Law_law_1285]
      exact ⟨fun _ => nx, fun z => absurd trivial z⟩⟩)
    clear hok nx
    simp (disch := omega) only [s_Law_law_1266, s_Law_law_1267, s_Law_law_1268, s_Law_law_1269, s_Law_law_1270, s_Law_law_1271, s_Law_law_1272, s_Law_law_1273, s_Law_law_1274, s_Law_law_1275, s_Law_law_1276, s_Law_law_1277, s_Law_law_1278, s_Law_law_1279, s_Law_law_1280, s_Law_law_1281, s_Law_law_1282, k_1, n_1, ld30, k_241, h1, lz_1, lz_2, lz_3, lz_4, lz_5, lz_6, le_T, lt_T, le_F, lt_F, Int.toNat_natCast, cat_n, cat_i, cat_r, cat_l, Nat.ble_eq, Nat.reduceAdd, Nat.reduceLeDiff, true_and, and_true, true_implies, false_implies, not_true_eq_false, not_false_eq_true, implies_true]
    exact h3⟩)
  clear nx
  simp (disch := omega) only [s_Law_law_1247, s_Law_law_1248, s_Law_law_1249, s_Law_law_1250, s_Law_law_1251, s_Law_law_1252, s_Law_law_1253, s_Law_law_1254, s_Law_law_1255, s_Law_law_1256, s_Law_law_1257, s_Law_law_1258, s_Law_law_1259, s_Law_law_1260, s_Law_law_1261, s_Law_law_1262, s_Law_law_1263, k_1, n_1, ld30, k_10, hd, lz_1, lz_2, lz_3, lz_4, lz_5, lz_6, le_T, lt_T, le_F, lt_F, Int.toNat_natCast, cat_n, cat_i, cat_r, cat_l, Nat.ble_eq, Nat.reduceAdd, Nat.reduceLeDiff, true_and, and_true, true_implies, false_implies, not_true_eq_false, not_false_eq_true, implies_true]
  exact hok
theorem law_copy (hi : i + 6 ≤ L) (hL : L ≤ 3072) (hok : Ok2 L K 32 120 [vI (s (i + 1)), vI (s (i + 2)), vI (s (i + 3)), vI (s (i + 4)), vI (s (i + 5))] s d) (hd : d 1 = s) (nx : ∀ d2, HV s d2 → Go K 212 R 1439 [vR 1, vR 10, vR 241, vI (i : Int)] [] (SH L) d2) : Go K 212 R 1290 [vR 1, vR 10, vR 241, vI (i : Int)] [] (SH L) d := by
  have hok := Cl_mn (Q2 := fun v sh' d' => sh' = SH L ∧ Go K 212 R 1319 [vR 1, vR 10, vR 241, vI (i : Int)] [v] (SH L) d') hok (fun v sh1 d1 h => ⟨h.1, by
    obtain ⟨_, h1, ⟨q, rfl⟩, h3⟩ := h
    have h3 := Cl_mn (Q2 := fun r sh' d' => sh' = SH L ∧ Go K 212 R 1348 [vR 1, vR 10, vR 241, vI (i : Int)] [r, vI q] (SH L) d') h3 (fun v sh2 d2 h => ⟨h.1, by
      obtain ⟨_, h5, h6⟩ := h
      have nx := nx d2 h6
      rw [h5]
      clear hok h3 h6
      simp only [s_Law_law_1348]
      exact ⟨fun _ => nx, fun z => absurd trivial z⟩⟩)
    clear hok nx
    simp (disch := omega) only [s_Law_law_1319, s_Law_law_1320, s_Law_law_1321, s_Law_law_1322, s_Law_law_1323, s_Law_law_1324, s_Law_law_1325, s_Law_law_1326, s_Law_law_1327, s_Law_law_1328, s_Law_law_1329, s_Law_law_1330, s_Law_law_1331, s_Law_law_1332, s_Law_law_1333, s_Law_law_1334, s_Law_law_1335, s_Law_law_1336, s_Law_law_1337, s_Law_law_1338, s_Law_law_1339, s_Law_law_1340, s_Law_law_1341, s_Law_law_1342, s_Law_law_1343, s_Law_law_1344, s_Law_law_1345, k_1, n_1, ld30, k_241, h1, lz_1, lz_2, lz_3, lz_4, lz_5, lz_6, le_T, lt_T, le_F, lt_F, Int.toNat_natCast, cat_n, cat_i, cat_r, cat_l, Nat.ble_eq, Nat.reduceAdd, Nat.reduceLeDiff, true_and, and_true, true_implies, false_implies, not_true_eq_false, not_false_eq_true, implies_true]
    exact h3⟩)
  clear nx
  simp (disch := omega) only [s_Law_law_1290, s_Law_law_1291, s_Law_law_1292, s_Law_law_1293, s_Law_law_1294, s_Law_law_1295, s_Law_law_1296, s_Law_law_1297, s_Law_law_1298, s_Law_law_1299, s_Law_law_1300, s_Law_law_1301, s_Law_law_1302, s_Law_law_1303, s_Law_law_1304, s_Law_law_1305, s_Law_law_1306, s_Law_law_1307, s_Law_law_1308, s_Law_law_1309, s_Law_law_1310, s_Law_law_1311, s_Law_law_1312, s_Law_law_1313, s_Law_law_1314, s_Law_law_1315, s_Law_law_1316, k_1, n_1, ld30, k_10, hd, lz_1, lz_2, lz_3, lz_4, lz_5, lz_6, le_T, lt_T, le_F, lt_F, Int.toNat_natCast, cat_n, cat_i, cat_r, cat_l, Nat.ble_eq, Nat.reduceAdd, Nat.reduceLeDiff, true_and, and_true, true_implies, false_implies, not_true_eq_false, not_false_eq_true, implies_true]
  exact hok
theorem law_lines (hi : i + 6 ≤ L) (hL : L ≤ 3072) (hok : Ok2 L K 33 121 [vI (s (i + 1)), vI (s (i + 2)), vI (s (i + 3)), vI (s (i + 4))] s d) (hd : d 1 = s) (nx : ∀ d2, HV s d2 → Go K 212 R 1439 [vR 1, vR 10, vR 241, vI (i : Int)] [] (SH L) d2) : Go K 212 R 1353 [vR 1, vR 10, vR 241, vI (i : Int)] [] (SH L) d := by
  have hok := Cl_mn (Q2 := fun v sh' d' => sh' = SH L ∧ Go K 212 R 1377 [vR 1, vR 10, vR 241, vI (i : Int)] [v] (SH L) d') hok (fun v sh1 d1 h => ⟨h.1, by
    obtain ⟨_, h1, ⟨q, rfl⟩, h3⟩ := h
    have h3 := Cl_mn (Q2 := fun r sh' d' => sh' = SH L ∧ Go K 212 R 1401 [vR 1, vR 10, vR 241, vI (i : Int)] [r, vI q] (SH L) d') h3 (fun v sh2 d2 h => ⟨h.1, by
      obtain ⟨_, h5, h6⟩ := h
      have nx := nx d2 h6
      rw [h5]
      clear hok h3 h6
      simp only [s_Law_law_1401]
      exact ⟨fun _ => nx, fun z => absurd trivial z⟩⟩)
    clear hok nx
    simp (disch := omega) only [s_Law_law_1377, s_Law_law_1378, s_Law_law_1379, s_Law_law_1380, s_Law_law_1381, s_Law_law_1382, s_Law_law_1383, s_Law_law_1384, s_Law_law_1385, s_Law_law_1386, s_Law_law_1387, s_Law_law_1388, s_Law_law_1389, s_Law_law_1390, s_Law_law_1391, s_Law_law_1392, s_Law_law_1393, s_Law_law_1394, s_Law_law_1395, s_Law_law_1396, s_Law_law_1397, s_Law_law_1398, k_1, n_1, ld30, k_241, h1, lz_1, lz_2, lz_3, lz_4, lz_5, lz_6, le_T, lt_T, le_F, lt_F, Int.toNat_natCast, cat_n, cat_i, cat_r, cat_l, Nat.ble_eq, Nat.reduceAdd, Nat.reduceLeDiff, true_and, and_true, true_implies, false_implies, not_true_eq_false, not_false_eq_true, implies_true]
    exact h3⟩)
  clear nx
  simp (disch := omega) only [s_Law_law_1353, s_Law_law_1354, s_Law_law_1355, s_Law_law_1356, s_Law_law_1357, s_Law_law_1358, s_Law_law_1359, s_Law_law_1360, s_Law_law_1361, s_Law_law_1362, s_Law_law_1363, s_Law_law_1364, s_Law_law_1365, s_Law_law_1366, s_Law_law_1367, s_Law_law_1368, s_Law_law_1369, s_Law_law_1370, s_Law_law_1371, s_Law_law_1372, s_Law_law_1373, s_Law_law_1374, k_1, n_1, ld30, k_10, hd, lz_1, lz_2, lz_3, lz_4, lz_5, lz_6, le_T, lt_T, le_F, lt_F, Int.toNat_natCast, cat_n, cat_i, cat_r, cat_l, Nat.ble_eq, Nat.reduceAdd, Nat.reduceLeDiff, true_and, and_true, true_implies, false_implies, not_true_eq_false, not_false_eq_true, implies_true]
  exact hok
theorem law_taken (hi : i + 6 ≤ L) (hL : L ≤ 3072) (hok : Ok2 L K 34 123 [vI (s (i + 1)), vI (s (i + 2))] s d) (hd : d 1 = s) (nx : ∀ d2, HV s d2 → Go K 212 R 1439 [vR 1, vR 10, vR 241, vI (i : Int)] [] (SH L) d2) : Go K 212 R 1406 [vR 1, vR 10, vR 241, vI (i : Int)] [] (SH L) d := by
  have hok := Cl_mn (Q2 := fun v sh' d' => sh' = SH L ∧ Go K 212 R 1420 [vR 1, vR 10, vR 241, vI (i : Int)] [v] (SH L) d') hok (fun v sh1 d1 h => ⟨h.1, by
    obtain ⟨_, h1, ⟨q, rfl⟩, h3⟩ := h
    have h3 := Cl_mn (Q2 := fun r sh' d' => sh' = SH L ∧ Go K 212 R 1434 [vR 1, vR 10, vR 241, vI (i : Int)] [r, vI q] (SH L) d') h3 (fun v sh2 d2 h => ⟨h.1, by
      obtain ⟨_, h5, h6⟩ := h
      have nx := nx d2 h6
      rw [h5]
      clear hok h3 h6
      simp only [s_Law_law_1434]
      exact ⟨fun _ => nx, fun z => absurd trivial z⟩⟩)
    clear hok nx
    simp (disch := omega) only [s_Law_law_1420, s_Law_law_1421, s_Law_law_1422, s_Law_law_1423, s_Law_law_1424, s_Law_law_1425, s_Law_law_1426, s_Law_law_1427, s_Law_law_1428, s_Law_law_1429, s_Law_law_1430, s_Law_law_1431, k_1, n_1, ld30, k_241, h1, lz_1, lz_2, lz_3, lz_4, lz_5, lz_6, le_T, lt_T, le_F, lt_F, Int.toNat_natCast, cat_n, cat_i, cat_r, cat_l, Nat.ble_eq, Nat.reduceAdd, Nat.reduceLeDiff, true_and, and_true, true_implies, false_implies, not_true_eq_false, not_false_eq_true, implies_true]
    exact h3⟩)
  clear nx
  simp (disch := omega) only [s_Law_law_1406, s_Law_law_1407, s_Law_law_1408, s_Law_law_1409, s_Law_law_1410, s_Law_law_1411, s_Law_law_1412, s_Law_law_1413, s_Law_law_1414, s_Law_law_1415, s_Law_law_1416, s_Law_law_1417, k_1, n_1, ld30, k_10, hd, lz_1, lz_2, lz_3, lz_4, lz_5, lz_6, le_T, lt_T, le_F, lt_F, Int.toNat_natCast, cat_n, cat_i, cat_r, cat_l, Nat.ble_eq, Nat.reduceAdd, Nat.reduceLeDiff, true_and, and_true, true_implies, false_implies, not_true_eq_false, not_false_eq_true, implies_true]
  exact hok
theorem law_all (hL : L ≤ 3072) (hs : ∀ j, -2147483648 ≤ s j ∧ s j ≤ 2147483647) : ∀ f (i : Nat), L - i ≤ f → i ≤ 3100 → ∀ d, HV s d → Go (K + 100) 212 RtL 18 [vR 1, vR 10, vR 241, vI (i : Int)] [] (SH L) d := by
  have sm : ∀ d : Dat, RtL (vI 1) (SH L) d := fun _ => ⟨rfl, by
    unfold SH
    rw [shL_length]
    decide +kernel, by
    have : slS (SH L) = slS shE + L := shL_slS rfl
    have e : slS shE = 21686 := by decide +kernel
    omega⟩
  have wl : wr ((L : Int) - 6) = (L : Int) - 6 := wr_of (by omega)
  intro f
  induction f with
  | zero =>
    intro i hf hb d h
    have hi : (L : Int) - 6 < (i : Int) := by omega
    have wl := fun (_ : Unit) => wl
    have sm : RtL (vI 1) (SH L) d := sm d
    simp (disch := omega) only [s_Law_law_18, s_Law_law_19, s_Law_law_20, s_Law_law_21, s_Law_law_23, s_Law_law_24, s_Law_law_1445, s_Law_law_1446, n_1, wl (), le_T, lt_T, le_F, lt_F, Int.toNat_natCast, cat_n, cat_i, cat_r, cat_l, Nat.ble_eq, Nat.reduceAdd, Nat.reduceLeDiff, true_and, and_true, true_implies, false_implies, not_true_eq_false, not_false_eq_true, implies_true]
    clear wl
    grind
  | succ f ih =>
    intro i hf hb d h
    by_cases hi : i + 6 ≤ L
    · have nx : ∀ d2, HV s d2 → Go (K + 100) 212 RtL 1439 [vR 1, vR 10, vR 241, vI (i : Int)] [] (SH L) d2 := fun d2 h2 => by
        have ih := ih (i + 6) (by omega) (by omega) d2 h2
        have w6 := lz_6 (x := i) (by omega)
        rw [s_Law_law_1439, w6, s_Law_law_1442]
        exact ih
      have hd : d 1 = s := by
        obtain ⟨e, P, h⟩ := h
        exact h.1
      have go27 : Go (K + 100) 212 RtL 33 [vR 1, vR 10, vR 241, vI (i : Int)] [vI (s i % 64)] (SH L) d := by
        rw [s_Law_law_33]
        refine ⟨fun _ => law_node hi hL (ok_node (k := K + 91) h) hd nx, fun _ => ⟨fun _ => law_line hi hL (ok_line (k := K + 91) h) hd nx, fun _ => ⟨fun _ => law_plant hi hL (ok_plant (k := K + 91) h) hd nx, fun _ => ⟨fun _ => law_load hi hL (ok_load (k := K + 91) h) hd nx, fun _ => ⟨fun _ => law_crew hi hL (ok_crew (k := K + 91) h) hd nx, fun _ => ⟨fun _ => law_room hi hL (ok_room (k := K + 91) h) hd nx, fun _ => ⟨fun _ => law_kindTold hi hL (ok_kindTold (k := K + 91) h) hd nx, fun _ => ⟨fun _ => law_deed hi hL (ok_deed (k := K + 91) h) hd nx, fun _ => ⟨fun _ => law_may hi hL (ok_may (k := K + 91) h) hd nx, fun _ => ⟨fun _ => law_go hi hL (ok_go (k := K + 91) h) hd nx, fun _ => ⟨fun _ => law_run hi hL (ok_run (k := K + 91) h) hd nx, fun _ => ⟨fun _ => law_nodeTold hi hL (ok_nodeTold (k := K + 91) h) hd nx, fun _ => ⟨fun _ => law_plantTold hi hL (ok_plantTold (k := K + 91) h) hd nx, fun _ => ⟨fun _ => law_loadTold hi hL (ok_loadTold (k := K + 91) h) hd nx, fun _ => ⟨fun _ => law_lineTold hi hL (ok_lineTold (k := K + 91) h) hd nx, fun _ => ⟨fun _ => law_crewTold hi hL (ok_crewTold (k := K + 91) h) hd nx, fun _ => ⟨fun _ => law_fall hi hL (ok_fall (k := K + 91) h) hd nx, fun _ => ⟨fun _ => law_sign hi hL (ok_sign (k := K + 91) h) hd nx, fun _ => ⟨fun _ => law_mend hi hL (ok_mend (k := K + 91) h) hd nx, fun _ => ⟨fun _ => law_sees hi hL (ok_sees (k := K + 91) h) hd nx, fun _ => ⟨fun _ => law_order hi hL (ok_order (k := K + 91) h) hd nx, fun _ => ⟨fun _ => law_ordered hi hL (ok_ordered (k := K + 91) h) hd nx, fun _ => ⟨fun _ => law_when hi hL (ok_when (k := K + 91) h) hd nx, fun _ => ⟨fun _ => law_plan hi hL (ok_plan (k := K + 0) h) hd nx, fun _ => ⟨fun _ => law_planned hi hL (ok_planned (k := K + 91) h) hd nx, fun _ => ⟨fun _ => law_beside hi hL (ok_beside (k := K + 91) h) hd nx, fun _ => ⟨fun _ => law_feed hi hL (ok_feed (k := K + 91) (in_toInt64 _) h) hd nx, fun _ => ⟨fun _ => law_text hi hL (ok_text (k := K + 19) h) hd nx, fun _ => ⟨fun _ => law_count hi hL (ok_count (k := K + 91) h) hd nx, fun _ => ⟨fun _ => law_sheet hi hL (ok_sheet (k := K + 91) h) hd nx, fun _ => ⟨fun _ => law_cell hi hL (ok_cell (k := K + 91) h (hs _)) hd nx, fun _ => ⟨fun _ => law_copy hi hL (ok_copy (k := K + 91) h (hs _) (hs _) (hs _)) hd nx, fun _ => ⟨fun _ => law_lines hi hL (ok_lines (k := K + 90) h (hs _)) hd nx, fun _ => ⟨fun _ => law_taken hi hL (ok_taken (k := K + 91) h) hd nx, fun _ => nx d h⟩⟩⟩⟩⟩⟩⟩⟩⟩⟩⟩⟩⟩⟩⟩⟩⟩⟩⟩⟩⟩⟩⟩⟩⟩⟩⟩⟩⟩⟩⟩⟩⟩⟩
      have wl := fun (_ : Unit) => wl
      clear ih nx
      simp (disch := omega) only [s_Law_law_18, s_Law_law_19, s_Law_law_20, s_Law_law_21, s_Law_law_23, s_Law_law_24, s_Law_law_27, s_Law_law_28, s_Law_law_29, s_Law_law_30, s_Law_law_32, k_1, n_1, ld30, hd, an_63, wl (), le_T, lt_T, le_F, lt_F, Int.toNat_natCast, cat_n, cat_i, cat_r, cat_l, Nat.ble_eq, Nat.reduceAdd, Nat.reduceLeDiff, true_and, and_true, true_implies, false_implies, not_true_eq_false, not_false_eq_true, implies_true]
      exact go27
    · have hi : (L : Int) - 6 < (i : Int) := by omega
      have wl := fun (_ : Unit) => wl
      have sm : RtL (vI 1) (SH L) d := sm d
      clear ih
      simp (disch := omega) only [s_Law_law_18, s_Law_law_19, s_Law_law_20, s_Law_law_21, s_Law_law_23, s_Law_law_24, s_Law_law_1445, s_Law_law_1446, n_1, wl (), le_T, lt_T, le_F, lt_F, Int.toNat_natCast, cat_n, cat_i, cat_r, cat_l, Nat.ble_eq, Nat.reduceAdd, Nat.reduceLeDiff, true_and, and_true, true_implies, false_implies, not_true_eq_false, not_false_eq_true, implies_true]
      clear wl
      grind
end
