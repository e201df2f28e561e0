/-! the law's entry: what the Statement gives of the start -/
def stV (k j : Nat) : Int := (match k with
  | 2 => [-1, 0, 0, 1, 2, 2]
  | 3 => [10, 30, 10, 50, 5, 1]
  | 4 => [1, 1, 2, 1, 2, 2]
  | 5 => [10, 10, 10, 30, 10, 10]
  | 6 => [0, 1, 0, 1, 0, 0]
  | _ => ([] : List Int)).getD j 0
/-- the data at the start: the script, Kind's rows, the texts -/
def dS (xs : Nat → Int32) : Dat := fun a j => if a = 1 then (xs j).toInt else if a < 7 then stV a j else if a < 10 then bS (a - 7) j else 0
theorem dS_in (xs : Nat → Int32) (a j : Nat) : in32 (dS xs a j) := by
  unfold dS
  split
  · exact in_toInt _
  · split
    · have key : ∀ l : List Int, l.all (fun x => decide (-1 ≤ x) && decide (x ≤ 50)) = true → in32 (l.getD j 0) := by
        intro l hl
        rw [List.getD_eq_getElem?_getD]
        cases hc : l[j]? with
        | none => exact in0
        | some x =>
          have := List.all_eq_true.mp hl x (List.mem_of_getElem? hc)
          rw [Bool.and_eq_true, decide_eq_true_eq, decide_eq_true_eq] at this
          show in32 x
          unfold in32
          omega
      unfold stV
      split <;> exact key _ (by decide)
    · split
      · exact in_toInt _
      · exact in0
theorem lawW {i : Nat} {w : Cond} (h : lw_tbl[i]? = some w) : w ∈ lw_tbl := List.mem_of_getElem? h
section SO
variable {s : State} {b : Nat}
def AL (s : State) : Nat → Prop := fun q => s.heap.size ≤ q
theorem AL_not : ∀ a : Nat, a < s.heap.size → ¬ AL s a := fun _ h q => absurd h (Nat.not_lt.mpr q)
theorem fl_2 : Cond.arrayOf (.static "DarkLand$Kind" "ABOVE" "[I") .int ∈ flatC (Jvm.Cond.and given_1 narrow_1) ∧ Cond.eq (.length (.static "DarkLand$Kind" "ABOVE" "[I")) (.int (Int32.ofNat 6)) ∈ flatC (Jvm.Cond.and given_1 narrow_1) ∧ (∀ j, j < 6 → Cond.eq (.elem (.static "DarkLand$Kind" "ABOVE" "[I") (.int (Int32.ofNat j))) (.int (Int32.ofInt (stV 2 j))) ∈ flatC (Jvm.Cond.and given_1 narrow_1)) := by decide +kernel
theorem st_2 (hg : (Jvm.Cond.and given_1 narrow_1).before #[Value.ref b] s = true) (hts : ∀ w ∈ lw_tbl, w.before #[Value.ref b] s = true) : ∃ t : Nat, va_Z "DarkLand$Kind" "ABOVE" "[I" (.ref t) (AL s) s s.heap ∧ va_T .int t 6 (fun j => .int (Int32.ofInt (stV 2 j))) (AL s) s s.heap := by
  have hs := flat_of_before _ hg
  obtain ⟨t, h1, h2⟩ := va_Tof (A := AL s) (N := 6) (f := fun j => .int (Int32.ofInt (stV 2 j))) (by decide) (hs _ fl_2.1) (va_eqt (hs _ fl_2.2.1)) (fun j hj => va_eqt (hs _ (fl_2.2.2 j hj))) AL_not
  exact ⟨t, va_Zref (hts _ (lawW (i := 1185) (by decide +kernel))) (hts _ (lawW (i := 90) (by decide +kernel))) h1 AL_not, h2⟩
theorem fl_3 : Cond.arrayOf (.static "DarkLand$Kind" "RAMP" "[I") .int ∈ flatC (Jvm.Cond.and given_1 narrow_1) ∧ Cond.eq (.length (.static "DarkLand$Kind" "RAMP" "[I")) (.int (Int32.ofNat 6)) ∈ flatC (Jvm.Cond.and given_1 narrow_1) ∧ (∀ j, j < 6 → Cond.eq (.elem (.static "DarkLand$Kind" "RAMP" "[I") (.int (Int32.ofNat j))) (.int (Int32.ofInt (stV 3 j))) ∈ flatC (Jvm.Cond.and given_1 narrow_1)) := by decide +kernel
theorem st_3 (hg : (Jvm.Cond.and given_1 narrow_1).before #[Value.ref b] s = true) (hts : ∀ w ∈ lw_tbl, w.before #[Value.ref b] s = true) : ∃ t : Nat, va_Z "DarkLand$Kind" "RAMP" "[I" (.ref t) (AL s) s s.heap ∧ va_T .int t 6 (fun j => .int (Int32.ofInt (stV 3 j))) (AL s) s s.heap := by
  have hs := flat_of_before _ hg
  obtain ⟨t, h1, h2⟩ := va_Tof (A := AL s) (N := 6) (f := fun j => .int (Int32.ofInt (stV 3 j))) (by decide) (hs _ fl_3.1) (va_eqt (hs _ fl_3.2.1)) (fun j hj => va_eqt (hs _ (fl_3.2.2 j hj))) AL_not
  exact ⟨t, va_Zref (hts _ (lawW (i := 802) (by decide +kernel))) (hts _ (lawW (i := 90) (by decide +kernel))) h1 AL_not, h2⟩
theorem fl_4 : Cond.arrayOf (.static "DarkLand$Kind" "NEED_TIMES" "[I") .int ∈ flatC (Jvm.Cond.and given_1 narrow_1) ∧ Cond.eq (.length (.static "DarkLand$Kind" "NEED_TIMES" "[I")) (.int (Int32.ofNat 6)) ∈ flatC (Jvm.Cond.and given_1 narrow_1) ∧ (∀ j, j < 6 → Cond.eq (.elem (.static "DarkLand$Kind" "NEED_TIMES" "[I") (.int (Int32.ofNat j))) (.int (Int32.ofInt (stV 4 j))) ∈ flatC (Jvm.Cond.and given_1 narrow_1)) := by decide +kernel
theorem st_4 (hg : (Jvm.Cond.and given_1 narrow_1).before #[Value.ref b] s = true) (hts : ∀ w ∈ lw_tbl, w.before #[Value.ref b] s = true) : ∃ t : Nat, va_Z "DarkLand$Kind" "NEED_TIMES" "[I" (.ref t) (AL s) s s.heap ∧ va_T .int t 6 (fun j => .int (Int32.ofInt (stV 4 j))) (AL s) s s.heap := by
  have hs := flat_of_before _ hg
  obtain ⟨t, h1, h2⟩ := va_Tof (A := AL s) (N := 6) (f := fun j => .int (Int32.ofInt (stV 4 j))) (by decide) (hs _ fl_4.1) (va_eqt (hs _ fl_4.2.1)) (fun j hj => va_eqt (hs _ (fl_4.2.2 j hj))) AL_not
  exact ⟨t, va_Zref (hts _ (lawW (i := 807) (by decide +kernel))) (hts _ (lawW (i := 90) (by decide +kernel))) h1 AL_not, h2⟩
theorem fl_5 : Cond.arrayOf (.static "DarkLand$Kind" "SOAK" "[I") .int ∈ flatC (Jvm.Cond.and given_1 narrow_1) ∧ Cond.eq (.length (.static "DarkLand$Kind" "SOAK" "[I")) (.int (Int32.ofNat 6)) ∈ flatC (Jvm.Cond.and given_1 narrow_1) ∧ (∀ j, j < 6 → Cond.eq (.elem (.static "DarkLand$Kind" "SOAK" "[I") (.int (Int32.ofNat j))) (.int (Int32.ofInt (stV 5 j))) ∈ flatC (Jvm.Cond.and given_1 narrow_1)) := by decide +kernel
theorem st_5 (hg : (Jvm.Cond.and given_1 narrow_1).before #[Value.ref b] s = true) (hts : ∀ w ∈ lw_tbl, w.before #[Value.ref b] s = true) : ∃ t : Nat, va_Z "DarkLand$Kind" "SOAK" "[I" (.ref t) (AL s) s s.heap ∧ va_T .int t 6 (fun j => .int (Int32.ofInt (stV 5 j))) (AL s) s s.heap := by
  have hs := flat_of_before _ hg
  obtain ⟨t, h1, h2⟩ := va_Tof (A := AL s) (N := 6) (f := fun j => .int (Int32.ofInt (stV 5 j))) (by decide) (hs _ fl_5.1) (va_eqt (hs _ fl_5.2.1)) (fun j hj => va_eqt (hs _ (fl_5.2.2 j hj))) AL_not
  exact ⟨t, va_Zref (hts _ (lawW (i := 820) (by decide +kernel))) (hts _ (lawW (i := 90) (by decide +kernel))) h1 AL_not, h2⟩
theorem fl_6 : Cond.arrayOf (.static "DarkLand$Kind" "ALONE" "[I") .int ∈ flatC (Jvm.Cond.and given_1 narrow_1) ∧ Cond.eq (.length (.static "DarkLand$Kind" "ALONE" "[I")) (.int (Int32.ofNat 6)) ∈ flatC (Jvm.Cond.and given_1 narrow_1) ∧ (∀ j, j < 6 → Cond.eq (.elem (.static "DarkLand$Kind" "ALONE" "[I") (.int (Int32.ofNat j))) (.int (Int32.ofInt (stV 6 j))) ∈ flatC (Jvm.Cond.and given_1 narrow_1)) := by decide +kernel
theorem st_6 (hg : (Jvm.Cond.and given_1 narrow_1).before #[Value.ref b] s = true) (hts : ∀ w ∈ lw_tbl, w.before #[Value.ref b] s = true) : ∃ t : Nat, va_Z "DarkLand$Kind" "ALONE" "[I" (.ref t) (AL s) s s.heap ∧ va_T .int t 6 (fun j => .int (Int32.ofInt (stV 6 j))) (AL s) s s.heap := by
  have hs := flat_of_before _ hg
  obtain ⟨t, h1, h2⟩ := va_Tof (A := AL s) (N := 6) (f := fun j => .int (Int32.ofInt (stV 6 j))) (by decide) (hs _ fl_6.1) (va_eqt (hs _ fl_6.2.1)) (fun j hj => va_eqt (hs _ (fl_6.2.2 j hj))) AL_not
  exact ⟨t, va_Zref (hts _ (lawW (i := 815) (by decide +kernel))) (hts _ (lawW (i := 90) (by decide +kernel))) h1 AL_not, h2⟩
def tmS (i : Nat) : Term := match i with
  | 0 => .string "DarkLand" 55
  | 1 => .string "DarkLand$Reader" 82
  | _ => .string "DarkLand$Reader" 74
theorem fs_1 : ∀ i, i < 3 → Cond.exactly (tmS i) "java/lang/String" ∈ flatC (Jvm.Cond.and given_1 narrow_1) ∧ Cond.eq (.field (tmS i) "java/lang/String" "coder" "B") (.int 0) ∈ flatC (Jvm.Cond.and given_1 narrow_1) ∧ Cond.arrayOf (.field (tmS i) "java/lang/String" "value" "[B") .byte ∈ flatC (Jvm.Cond.and given_1 narrow_1) ∧ Cond.eq (.length (.field (tmS i) "java/lang/String" "value" "[B")) (.int (Int32.ofNat (lenS.getD i 0))) ∈ flatC (Jvm.Cond.and given_1 narrow_1) := by decide +kernel
theorem fs_2 : ∀ i, i < 3 → ∀ j, j < lenS.getD i 0 → Cond.eq (.elem (.field (tmS i) "java/lang/String" "value" "[B") (.int (Int32.ofNat j))) (.int ((bytS.getD i []).getD j 0)) ∈ flatC (Jvm.Cond.and given_1 narrow_1) := by decide +kernel
theorem fs_3 : ∀ i, i < 3 → ∀ j, j < 3 → i ≠ j → Cond.not (Cond.eq (tmS i) (tmS j)) ∈ flatC (Jvm.Cond.and given_1 narrow_1) ∨ Cond.not (Cond.eq (tmS j) (tmS i)) ∈ flatC (Jvm.Cond.and given_1 narrow_1) := by decide +kernel
theorem st_str (hg : (Jvm.Cond.and given_1 narrow_1).before #[Value.ref b] s = true) : ∃ adK adV : Nat → Nat, vk_S 3 lenS bytS adK adV (AL s) s s.heap ∧ ∀ i : Nat, i < 3 → (tmS i).eval #[Value.ref b] s none [] s = some (.ref (adK i)) := by
  have hs := flat_of_before _ hg
  have hlen : ∀ i, i < 3 → lenS.getD i 0 < 2 ^ 31 := by decide
  exact vk_Sof (tm := tmS) hlen (fun i hi => hs _ (fs_1 i hi).1) (fun i hi => hs _ (fs_1 i hi).2.1) (fun i hi => hs _ (fs_1 i hi).2.2.1) (fun i hi => hs _ (fs_1 i hi).2.2.2) (fun i hi j hj => hs _ (fs_2 i hi j hj)) (fun i j hi hj hij => (fs_3 i hi j hj hij).elim (fun q => Or.inl (hs _ q)) (fun q => Or.inr (hs _ q))) AL_not
theorem st_cs (hg : (Jvm.Cond.and given_1 narrow_1).before #[Value.ref b] s = true) (hts : ∀ w ∈ lw_tbl, w.before #[Value.ref b] s = true) : va_Z "java/lang/String" "COMPACT_STRINGS" "Z" (.int 1) (AL s) s s.heap ∧ va_Zq "jdk/internal/util/Preconditions" "SIOOBE_FORMATTER" "Ljava/util/function/BiFunction;" (AL s) s s.heap := by
  have hs := flat_of_before _ hg
  exact ⟨va_Zof (hts _ (lawW (i := 575) (by decide +kernel))) (hts _ (lawW (i := 82) (by decide +kernel))) (va_eqi (hs _ (by decide +kernel))) AL_not, va_Zqof (hts _ (lawW (i := 591) (by decide +kernel))) (hts _ (lawW (i := 84) (by decide +kernel))) (hs _ (by decide +kernel)) AL_not⟩
theorem strW : strL.all (fun e => decide (lw_tbl[e.2.2.2]? = some (.stringRef (clsName e.1) e.2.1 (match e.2.2.1 with
    | 7 => "when lit and 4 < held ;"
    | 8 => "minute lit swing volts held falls when or and not "
    | _ => "();+-*<="))) && decide (tmS (e.2.2.1 - 7) = .string (clsName e.1) e.2.1) && Nat.ble 7 e.2.2.1 && Nat.blt e.2.2.1 10) = true := by decide +kernel
theorem st_ao (hts : ∀ w ∈ lw_tbl, w.before #[Value.ref b] s = true) : va_AO "DarkLand$Sheet" s ∧ va_AO "DarkLand$Land" s ∧ va_AI s := ⟨va_AO.of (hts _ (lawW (i := 545) (by decide +kernel))), va_AO.of (hts _ (lawW (i := 498) (by decide +kernel))), va_AOA.of (hts _ (lawW (i := 266) (by decide +kernel)))⟩
theorem nestW : callL.all (fun e => decide (e.2.2.2.1 < 3) || decide (lw_tbl[e.2.2.2.2.1]? = some (.methodLinkNest (clsName e.1) e.2.1 (mNm e.2.2.1) (clsName e.2.2.2.2.2)))) = true := by decide +kernel
theorem arr_at {ty : FieldType} (h : (Cond.arrayClass ty).before #[Value.ref b] s = true) (hr : ∀ C, ty ≠ .object C) : ∃ cA, ArrOfT s cA ty ∧ va_RA s cA ty := by
  obtain ⟨c, k, comp, h1, h2, h3⟩ := Cond.arrayClass_spec h
  refine ⟨c, fun n z => ⟨fun k h => (by cases h), k, h2, comp, h3⟩, ?_⟩
  cases ty <;> first | exact h1 | exact absurd rfl (hr _)
theorem arr_ao {C : String} (h : va_AO C s) : ∃ cA, ArrOfT s cA (.object C) ∧ va_RA s cA (.object C) := by
  obtain ⟨comp, c, k, h1, h2, h3, h4, h5⟩ := Cond.arrayOver_spec h
  exact ⟨c, fun n z => ⟨fun k h => (by cases h), k, h3, comp, h4⟩, k, comp, h3, h4, h1, h5⟩
theorem arr_ai {t : FieldType} (h : va_AOA t s) : ∃ cA, ArrOfT s cA (.array t) ∧ va_RA s cA (.array t) := by
  obtain ⟨comp, c, k, h1, h2, h3, h4, h5⟩ := aoA_spec h
  exact ⟨c, fun n z => ⟨fun k h => (by cases h), k, h3, comp, h4⟩, h5⟩
end SO
