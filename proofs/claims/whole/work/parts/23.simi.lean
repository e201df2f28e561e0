/-! calls of String's methods; texts; a row of rows -/
def cdJ (b : Nat) : ByteArray := match b with
  | 5 => prog_17_method_56_code
  | 6 => prog_17_method_54_code
  | _ => prog_17_method_79_code
def mxJ (b : Nat) : Nat := match b with
  | 5 => 2
  | 6 => 1
  | _ => 2
def rtJ (b : Nat) : Option FieldType := match b with
  | 5 => (some .char)
  | 6 => (some .int)
  | _ => (some .int)
def wsJ (b : Nat) : List Cond := Cond.code (biNm b) (cdJ b) (mxJ b) (rtJ b) :: wsT
set_option maxRecDepth 100000 in
theorem jcd_5 : lw_tbl[579]? = some (.code (biNm 5) (cdJ 5) (mxJ 5) (rtJ 5)) := rfl
theorem jwd_5 : (hasW 577 (.instanceMethod (biNm 5)) && (hasW 578 (.selects "java/lang/String" (biNm 5) (biNm 5)) && hasW 82 (.initialized "java/lang/String"))) = true := by decide +kernel
set_option maxRecDepth 100000 in
theorem jcd_6 : lw_tbl[569]? = some (.code (biNm 6) (cdJ 6) (mxJ 6) (rtJ 6)) := rfl
theorem jwd_6 : (hasW 567 (.instanceMethod (biNm 6)) && (hasW 568 (.selects "java/lang/String" (biNm 6) (biNm 6)) && hasW 82 (.initialized "java/lang/String"))) = true := by decide +kernel
set_option maxRecDepth 100000 in
theorem jcd_7 : lw_tbl[660]? = some (.code (biNm 7) (cdJ 7) (mxJ 7) (rtJ 7)) := rfl
theorem jwd_7 : (hasW 658 (.instanceMethod (biNm 7)) && (hasW 659 (.selects "java/lang/String" (biNm 7) (biNm 7)) && hasW 82 (.initialized "java/lang/String"))) = true := by decide +kernel
theorem jwd {b : Nat} (hb : b = 5 ∨ b = 6 ∨ b = 7) : Cond.code (biNm b) (cdJ b) (mxJ b) (rtJ b) ∈ wsT ∧ Cond.instanceMethod (biNm b) ∈ wsT ∧ Cond.selects "java/lang/String" (biNm b) (biNm b) ∈ wsT ∧ Cond.initialized "java/lang/String" ∈ wsT := by
  have key : ∀ {i j k : Nat} {b : Nat}, (hasW i (.instanceMethod (biNm b)) && (hasW j (.selects "java/lang/String" (biNm b) (biNm b)) && hasW k (.initialized "java/lang/String"))) = true → Cond.instanceMethod (biNm b) ∈ wsT ∧ Cond.selects "java/lang/String" (biNm b) (biNm b) ∈ wsT ∧ Cond.initialized "java/lang/String" ∈ wsT := by
    intro i j k b h
    simp only [Bool.and_eq_true] at h
    exact ⟨hasW_mem h.1, hasW_mem h.2.1, hasW_mem h.2.2⟩
  rcases hb with rfl | rfl | rfl
  · exact ⟨List.mem_filter.mpr ⟨List.mem_of_getElem? jcd_5, rfl⟩, key jwd_5⟩
  · exact ⟨List.mem_filter.mpr ⟨List.mem_of_getElem? jcd_6, rfl⟩, key jwd_6⟩
  · exact ⟨List.mem_filter.mpr ⟨List.mem_of_getElem? jcd_7, rfl⟩, key jwd_7⟩
def rmJ : Room := { frames := 6, cells := 0, slots := 0, locals := 300 }
def SJ (adK adV : Nat → Nat) (U : State) : Prop := vk_S 3 lenS bytS adK adV (fun _ => False) U U.heap ∧ va_Z "java/lang/String" "COMPACT_STRINGS" "Z" (.int 1) (fun _ => False) U U.heap ∧ va_Zq "jdk/internal/util/Preconditions" "SIOOBE_FORMATTER" "Ljava/util/function/BiFunction;" (fun _ => False) U U.heap
def QJ (rv : Int) (oc : Outcome) (_ : State) : Prop := oc = .returned (some (.int (Int32.ofInt rv)))
def bS (i j : Nat) : Int := ((bytS.getD i []).getD j 0).toInt
/-- what String's three methods answer of the three texts -/
def MJ (l : Launch) : Prop := ∀ (adK adV : Nat → Nat) (i : Nat), i < 3 →
  (∀ k : Nat, k < lenS.getD i 0 → Met l (biNm 5) (wsJ 5) rmJ (va_Pc [.ref (adK i), .int (Int32.ofInt (k : Int))] (SJ adK adV)) (fun _ st oc t => QJ (bS i k) oc t ∧ va_F (fun _ => False) st t) 0 0 (fun _ => False)) ∧
  Met l (biNm 6) (wsJ 6) rmJ (va_Pc [.ref (adK i)] (SJ adK adV)) (fun _ st oc t => QJ (lenS.getD i 0 : Nat) oc t ∧ va_F (fun _ => False) st t) 0 0 (fun _ => False) ∧
  ∀ x : Int, in32 x → Met l (biNm 7) (wsJ 7) rmJ (va_Pc [.ref (adK i), .int (Int32.ofInt x)] (SJ adK adV)) (fun _ st oc t => QJ (idxO (bS i) (lenS.getD i 0) x) oc t ∧ va_F (fun _ => False) st t) 0 0 (fun _ => False)
section SI
variable {w : WP} {y : Nat} {p : Program} {l : Launch} {e : Env} {R : Room} {s : State} {m : MethodId} {args : Array Value} {below : List Frame} {meth : Method} {c : Code} {Q : State → Prop} {pc : Nat} {ls st : List V} {sh : Shp} {d : Dat}
/-- a cell of kind 31: a text -/
theorem k31 {ρ : Nat → Nat} {H : Heap} {locs : List Loc} (hG : GW w s ρ H locs sh d) {a : Nat} (hk : knd sh a = 31) : ∃ i, i < 3 ∧ a = 7 + i ∧ len sh a = (lenS.getD i 0 : Nat) := by
  obtain ⟨n0, rs, h1, h2, h3, h4⟩ := knd_at hk (by omega)
  have h10 : a < 10 := by
    rcases Nat.lt_or_ge a 10 with q | q
    · exact q
    · have := hG.2.2.1.2 (31, n0, rs) (List.mem_of_getElem? (i := a - 10) (by rw [List.getElem?_drop, show 10 + (a - 10) = a by omega]; exact h1))
      exact absurd this (by omega)
  have e := sh0_low hG.2.1.1 h10
  rw [h1] at e
  rw [h2]
  match a, h10 with
  | 0, _ => cases e
  | 1, _ => cases e
  | 2, _ => cases e
  | 3, _ => cases e
  | 4, _ => cases e
  | 5, _ => cases e
  | 6, _ => cases e
  | 7, _ => cases e; exact ⟨0, by omega, rfl, rfl⟩
  | 8, _ => cases e; exact ⟨1, by omega, rfl, rfl⟩
  | 9, _ => cases e; exact ⟨2, by omega, rfl, rfl⟩
theorem x_jcall {b i0 idx wi : Nat} {tl : List Int} {rv : Int} (E : EX w s) (X : CX y p s m args meth c) (hb : b = 5 ∨ b = 6 ∨ b = 7) (hi : i0 < 3) (hm : (mCl y, idx, b, wi) ∈ biL) (hd : decode (mCd y) pc = .ok (.invokevirtual idx, 3)) (hc : catS st ≤ 8) (hR : 9 ≤ R.frames ∧ 728 ≤ R.locals) (hcl : sh.length ≤ w.2.2.2.1 + R.cells ∧ slS sh ≤ w.2.2.2.2.1 + R.slots)
    (hpar : (parseMethodDescriptor (biNm b).desc).map (fun d => d.parameters.length) = some tl.length) (hrv : in32 rv)
    (HM : ∀ adK adV : Nat → Nat, Met l (biNm b) (wsJ b) rmJ (va_Pc (.ref (adK i0) :: tl.map (fun x => .int (Int32.ofInt x))) (SJ adK adV)) (fun _ st oc t => QJ rv oc t ∧ va_F (fun _ => False) st t) 0 0 (fun _ => False))
    (K : PX w y p l e R s m args below meth c Q (pc + 3) ls (.inl rv :: st) sh d) : PX w y p l e R s m args below meth c Q pc ls (tl.reverse.map (fun x => .inl x) ++ vR (7 + i0) :: st) sh d := by
  intro ρ H locs lsr hG hF
  have hst : okVs sh.length st := fun v hv => hF.1 v (List.mem_append_right _ (List.mem_cons_of_mem _ hv))
  obtain ⟨k1, ⟨adK, adV, k2, k3⟩, k4, k5, k6⟩ := E.2.1.2.2.2
  obtain ⟨w1, w2, w3, w4⟩ := jwd hb
  have hmap : (tl.reverse.map (fun x => (.inl x : V)) ++ vR (7 + i0) :: st).map (rV ρ) = (tl.map (fun x => Value.int (Int32.ofInt x))).reverse ++ .ref (adK i0) :: st.map (rV ρ) := by
    have e1 : (vR (7 + i0) :: st).map (rV ρ) = .ref (adK i0) :: st.map (rV ρ) := by
      rw [List.map_cons, rV, low_ref E hG (by omega) (by omega), k3 i0 hi]
    rw [List.map_append, e1, List.map_map, List.map_reverse]
    rfl
  rw [hmap]
  have hS := hG.2.2.2.2.2.2
  have hkept : ∀ (A : Nat → Prop), True := fun _ => trivial
  have hSJ : ∀ U : State, U.heap = H → s.WarmedH U.vm → SJ adK adV U := by
    intro U hU hW
    have hq : ∀ a : Nat, a < s.heap.size → ¬ w.2.2.1 a → U.heap[a]? = s.heap[a]? := fun a h1 h2 => by rw [hU]; exact hS.2.1 a h1 h2
    refine ⟨((k2.moved hW.alike).kept hq).narrow (fun _ h => h.elim), ?_, ((k5.moved hW.alike).kept hq).narrow (fun _ h => h.elim)⟩
    obtain ⟨cf, kf, fi, f, a, cell, r1, r2, r3, r4, r5, r6, r7, r8⟩ := (k4.moved hW.alike).kept hq
    exact ⟨cf, kf, fi, f, a, cell, r1, r2, r3, r4, r5, r6, r7, fun z => z.elim⟩
  have hblind : FrameBlind (va_Pc (.ref (adK i0) :: tl.map (fun x => .int (Int32.ofInt x))) (SJ adK adV)) := by
    intro a U g mk q
    obtain ⟨q0, q1, q2, q3⟩ := q
    exact ⟨q0, q1.moved (U := U.calling g mk a) (Vm.Alike.refl U.vm), q2.moved (U := U.calling g mk a) (Vm.Alike.refl U.vm), q3.moved (U := U.calling g mk a) (Vm.Alike.refl U.vm)⟩
  have hrc := vk_recv k2 hi hS
  have hfix : CallFix p m c (mCd y) (mxN y) s args wsT (clsName (mCl y)) := ⟨X.1, X.2.1, X.2.2.1, X.2.2.2.1, X.2.2.2.2.1⟩
  have hcls : (biNm b).cls = "java/lang/String" := by rcases hb with rfl | rfl | rfl <;> rfl
  have hmx : mxJ b ≤ 10 := by rcases hb with rfl | rfl | rfl <;> decide
  have hgl := hG.1.1
  have hgs := hG.1.2
  have hrun := va_runV (p := p) (e := e) (R := R) (below := below) (meth := meth) (H := H) (locs := locs) (cells := sh.length - w.2.2.2.1) (slots := slS sh - w.2.2.2.2.1) (g := F0 m pc lsr ((tl.map (fun x => Value.int (Int32.ofInt x))).reverse ++ .ref (adK i0) :: st.map (rV ρ))) (rest := st.map (rV ρ)) (b := adK i0) (As := tl.map (fun x => .int (Int32.ofInt x))) (index := idx) hfix (HM adK adV)
    (cwV (C := "java/lang/String") (own := clsName (mCl y)) (index := idx) (bytes := cdJ b) (maxL := mxJ b) (ret := rtJ b) tl.length X.2.2.2.2.1 (good_of (fun z hz => by
      rcases List.mem_append.mp hz with q | q
      · simp only [List.mem_cons, List.not_mem_nil, or_false] at q
        rcases q with rfl | rfl | rfl | rfl
        · exact bi_at hm
        · exact w2
        · exact w3
        · exact w4
      · rcases List.mem_cons.mp q with q | q
        · rw [q]; exact w1
        · exact q)) rfl rfl rfl ⟨hcls, by rw [hcls]; decide, by rw [hcls]; decide, hpar⟩ ⟨by show 6 + 1 ≤ _; omega, by show 8 + (mxJ b + 11) + 300 ≤ _; omega⟩) ⟨hblind, hrc, fun U hU hW => ⟨rfl, hSJ U hU hW⟩⟩ rfl (by rw [List.length_map]) hF.size rfl (lv_room (by rw [catS_sum]; exact hc)) hd (by omega)
  refine va_callX (a := (.ref (adK i0) :: tl.map (fun x => Value.int (Int32.ofInt x))).toArray) hrun hS (fun q _ h => h.elim) (fun q h => h.elim) (fun v t H1 locs1 ht hP hk1 hS1 => ?_)
  have hv : v = some (.int (Int32.ofInt rv)) := by cases hP; rfl
  subst hv
  have hG1 : GW w s ρ H1 locs1 sh d := ⟨hG.1, hG.2.1, hG.2.2.1, hG.2.2.2.1, hG.2.2.2.2.1.kept (fun k q hq => hk1 q.1 ((hG.2.2.2.2.1 k q hq).lt) (fun z => z.elim)), hG.2.2.2.2.2.1, hS1⟩
  exact K ρ H1 locs1 lsr hG1 (hF.push hrv hst)
theorem x_ldcS {idx k wi : Nat} (E : EX w s) (X : CX y p s m args meth c) (hm : (mCl y, idx, k, wi) ∈ strL) (h7 : 7 ≤ k) (h9 : k ≤ 9) (hd : decode (mCd y) pc = .ok (.ldc idx, 2)) (K : PX w y p l e R s m args below meth c Q (pc + 2) ls (vR k :: st) sh d) : PX w y p l e R s m args below meth c Q pc ls st sh d := by
  intro ρ H locs lsr hG hF
  obtain ⟨tx, ht⟩ := E.2.1.2.2.2.1 _ hm
  have hK := K ρ H locs lsr hG (hF.push (show k < sh.length by have := hG.1.1; have := E.2.2.2.2.2.2.2; omega) hF.1)
  refine va_ldcS X.1 X.2.1 X.2.2.2.1 ht hd ?_
  rw [List.map_cons, rV, low_ref E hG (by omega) (by omega)] at hK
  exact hK
end SI
