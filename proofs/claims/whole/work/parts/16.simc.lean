/-! a step of the numbers is a step of the machine: the heap -/
def va_AI (U : State) : Prop := va_AOA .int U
def lenS : List Nat := [23, 50, 8]
def bytS : List (List Int32) := [[119, 104, 101, 110, 32, 108, 105, 116, 32, 97, 110, 100, 32, 52, 32, 60, 32, 104, 101, 108, 100, 32, 59], [109, 105, 110, 117, 116, 101, 32, 108, 105, 116, 32, 115, 119, 105, 110, 103, 32, 118, 111, 108, 116, 115, 32, 104, 101, 108, 100, 32, 102, 97, 108, 108, 115, 32, 119, 104, 101, 110, 32, 111, 114, 32, 97, 110, 100, 32, 110, 111, 116, 32], [40, 41, 59, 43, 45, 42, 60, 61]]
def SX (w : WP) (s : State) : Prop := (∀ e ∈ strL, ∃ tx, vk_R (clsName e.1) e.2.1 tx (w.2.2.2.2.2.2.1 e.2.2.1) s) ∧ (∃ adK adV : Nat → Nat, vk_S 3 lenS bytS adK adV w.2.2.1 s s.heap ∧ ∀ i, i < 3 → w.2.2.2.2.2.2.1 (7 + i) = adK i) ∧ va_Z "java/lang/String" "COMPACT_STRINGS" "Z" (.int 1) w.2.2.1 s s.heap ∧ va_Zq "jdk/internal/util/Preconditions" "SIOOBE_FORMATTER" "Ljava/util/function/BiFunction;" w.2.2.1 s s.heap ∧ ∀ i, i < 3 → ∀ j, j < lenS.getD i 0 → w.2.2.2.2.2.2.2 (7 + i) j = ((bytS.getD i []).getD j 0).toInt
/-- what the frame's start gives beside its world -/
def EX (w : WP) (s : State) : Prop := va_K w.1 vwCl (tysA w.2.1) s ∧ (va_AO "DarkLand$Sheet" s ∧ va_AO "DarkLand$Land" s ∧ (va_AI s ∧ SX w s)) ∧
  (∀ e ∈ callL, 3 ≤ e.2.2.2.1 → va_Nw (.methodLinkNest (clsName e.1) e.2.1 (mNm e.2.2.1) (clsName e.2.2.2.2.2)) s) ∧
  (∀ k, 2 ≤ k → k ≤ 6 → va_Z "DarkLand$Kind" (stNm k) "[I" (.ref (w.2.2.2.2.2.2.1 k)) w.2.2.1 s s.heap ∧ va_T .int (w.2.2.2.2.2.2.1 k) 6 (fun j => .int (Int32.ofInt (w.2.2.2.2.2.2.2 k j))) w.2.2.1 s s.heap) ∧
  (∃ xs : Nat → Int32, va_X (w.2.2.2.2.2.2.1 1) w.2.2.2.2.2.1 xs s s.heap ∧ w.2.2.2.2.2.2.1 1 < s.heap.size ∧ ¬ w.2.2.1 (w.2.2.2.2.2.2.1 1) ∧ ∀ j, w.2.2.2.2.2.2.2 1 j = (xs j).toInt) ∧
  (∀ q, s.heap.size ≤ q → w.2.2.1 q) ∧ (w.2.2.2.2.2.1 < 2147483648 ∧ 10 ≤ w.2.2.2.1)
theorem clampI {i : Int} (h0 : 0 ≤ i) (h1 : in32 i) : (Int32.ofInt i).toNatClampNeg = i.toNat := by
  show (Int32.ofInt i).toInt.toNat = i.toNat
  rw [toI32 h1]
theorem vin_of {i : Int} {n : Nat} (h0 : 0 ≤ i) (h1 : i < (n : Int)) (h : in32 i) : vp_in (Int32.ofInt i) n := by
  unfold vp_in
  rw [clampI h0 h, show (0 : Int32) = Int32.ofInt 0 from rfl, i32_lt h in0]
  omega
theorem fvL_at {ρ : Nat → Nat} {c n : Nat} {rs : List Nat} {f : Nat → Int} {k : Nat} (hk : k < n) : (fvL ρ c n rs f)[k]? = some (fvV ρ c rs f k) := by
  unfold fvL
  rw [List.getElem?_map, List.getElem?_range hk]
  rfl
theorem fvL_len {ρ : Nat → Nat} {c n : Nat} {rs : List Nat} {f : Nat → Int} : (fvL ρ c n rs f).length = n := by
  unfold fvL
  rw [List.length_map, List.length_range]
theorem fvL_seti {ρ : Nat → Nat} {c n : Nat} {rs : List Nat} {f : Nat → Int} {k : Nat} {x : Int} (hk : k < n) (ht : fTy c k = .int ∨ fTy c k = .boolean) : (fvL ρ c n rs f).set k (.int (Int32.ofInt x)) = fvL ρ c n rs (fset f k x) := by
  apply List.ext_getElem?
  intro i
  rw [List.getElem?_set, fvL_len]
  by_cases hi : k = i
  · subst hi
    rw [if_pos rfl, if_pos hk, fvL_at hk]
    unfold fvV
    rcases ht with e | e <;> rw [e] <;> simp [fset]
  · rw [if_neg hi]
    by_cases h2 : i < n
    · rw [fvL_at h2, fvL_at h2]
      unfold fvV fset
      rw [if_neg (fun q => hi q.symm)]
    · rw [List.getElem?_eq_none (by rw [fvL_len]; omega), List.getElem?_eq_none (by rw [fvL_len]; omega)]
theorem fvL_setr {ρ : Nat → Nat} {c n : Nat} {rs : List Nat} {f : Nat → Int} {k v : Nat} (hk : k < n) (hr : rs.length = n) (ht : mkT 2 (fTy c k) = true) : (fvL ρ c n rs f).set k (adV ρ v) = fvL ρ c n (rs.set k v) f := by
  apply List.ext_getElem?
  intro i
  rw [List.getElem?_set, fvL_len]
  by_cases hi : k = i
  · subst hi
    rw [if_pos rfl, if_pos hk, fvL_at hk]
    unfold fvV
    have e : (rs.set k v).getD k 0 = v := by rw [List.getD_eq_getElem?_getD, List.getElem?_set_self (by omega)]; rfl
    rw [e]
    revert ht
    cases fTy c k <;> intro ht <;> first | rfl | exact absurd ht (by simp [mkT])
  · rw [if_neg hi]
    by_cases h2 : i < n
    · rw [fvL_at h2, fvL_at h2]
      unfold fvV
      have e : (rs.set k v).getD i 0 = rs.getD i 0 := by rw [List.getD_eq_getElem?_getD, List.getElem?_set_ne hi, ← List.getD_eq_getElem?_getD]
      rw [e]
    · rw [List.getElem?_eq_none (by rw [fvL_len]; omega), List.getElem?_eq_none (by rw [fvL_len]; omega)]
theorem fv_int {ρ : Nat → Nat} {c : Nat} {rs : List Nat} {f : Nat → Int} {k t : Nat} (ht : mkT t (fTy c k) = true) (h2 : t ≠ 2) : fvV ρ c rs f k = .int (Int32.ofInt (f k)) := by
  unfold fvV
  revert ht
  cases fTy c k <;> intro ht <;> first | rfl | (exfalso; revert ht; unfold mkT; split <;> simp_all)
theorem fv_ref {ρ : Nat → Nat} {c : Nat} {rs : List Nat} {f : Nat → Int} {k : Nat} (ht : mkT 2 (fTy c k) = true) : fvV ρ c rs f k = adV ρ (rs.getD k 0) := by
  unfold fvV
  revert ht
  cases fTy c k <;> intro ht <;> first | rfl | exact absurd ht (by simp [mkT])
theorem fld_at {e : Nat × Nat × Nat × Nat} (h : e ∈ fldL) : fldOK e = true := List.all_eq_true.mp fld_ok e h
theorem slS_set {sh : Shp} {a : Nat} {c c' : Nat × Nat × List Nat} (h : sh[a]? = some c) (e : c'.2.1 = c.2.1) : slS (sh.set a c') = slS sh := by
  unfold slS
  congr 1
  apply List.ext_getElem?
  intro i
  rw [List.getElem?_map, List.getElem?_map, List.getElem?_set]
  by_cases hi : a = i
  · subst hi
    rw [if_pos rfl, if_pos (List.getElem?_eq_some_iff.mp h).1, h]
    simp [e]
  · rw [if_neg hi]
theorem slS_app {sh t : Shp} : slS (sh ++ t) = slS sh + slS t := by
  unfold slS
  rw [List.map_append, List.sum_append]
theorem eE_obj {ρ : Nat → Nat} {cA : Nat → ClassId} {k n : Nat} {rs : List Nat} {f : Nat → Int} (h : k < 12) : eE ρ cA (k, n, rs) f = .inr (k, fvL ρ k n rs f) := if_pos h
theorem eE_int {ρ : Nat → Nat} {cA : Nat → ClassId} {k n : Nat} {rs : List Nat} {f : Nat → Int} (h : k = 20 ∨ k = 21) : eE ρ cA (k, n, rs) f = .inl (cA k, n, .inl (fun j => Int32.ofInt (f j))) := by
  rcases h with rfl | rfl <;> rfl
theorem eE_long {ρ : Nat → Nat} {cA : Nat → ClassId} {n : Nat} {rs : List Nat} {f : Nat → Int} : eE ρ cA (22, n, rs) f = .inl (cA 22, n, .inr (.inl fun j => Int64.ofInt (f j))) := rfl
theorem eE_ref {ρ : Nat → Nat} {cA : Nat → ClassId} {k n : Nat} {rs : List Nat} {f : Nat → Int} (h : ldQ k = true) : eE ρ cA (k, n, rs) f = .inl (cA k, n, .inr (.inr (.inr (.inr fun j => adQ ρ (rs.getD j 0))))) := by
  unfold ldQ at h
  simp only [Bool.or_eq_true, beq_iff_eq] at h
  rcases h with (rfl | rfl) | rfl <;> rfl
theorem okC_up {n m : Nat} {c : Nat × Nat × List Nat} (h : okC n c) (hm : n ≤ m) : okC m c := ⟨fun r hr => Nat.lt_of_lt_of_le (h.1 r hr) hm, h.2⟩
