/-! String's three methods, as they run on the three texts -/
def rmL (d : Nat) : Room := { frames := d + 1, cells := 0, slots := 0, locals := 60 * d }
theorem jW {i : Nat} {w : Cond} (h : hasW i w = true) {args : Array Value} {s : State} (hts : ∀ w ∈ wsT, w.before args s = true) : w.before args s = true := hts w (hasW_mem h)
def yj_isLatin1 : MethodName := ⟨"java/lang/String", "isLatin1", "()Z"⟩
def wj_isLatin1 : List Cond := Cond.code yj_isLatin1 prog_17_method_154_code 1 (some .boolean) :: wsT
set_option maxRecDepth 100000 in
theorem jc_isLatin1 : lw_tbl[583]? = some (.code yj_isLatin1 prog_17_method_154_code 1 (some .boolean)) := rfl
theorem jm_isLatin1 : (hasW 581 (.instanceMethod yj_isLatin1) && (hasW 582 (.selects "java/lang/String" yj_isLatin1 yj_isLatin1) && hasW 82 (.initialized "java/lang/String"))) = true := by decide +kernel
def yj_coder : MethodName := ⟨"java/lang/String", "coder", "()B"⟩
def wj_coder : List Cond := Cond.code yj_coder prog_17_method_152_code 1 (some .byte) :: wsT
set_option maxRecDepth 100000 in
theorem jc_coder : lw_tbl[573]? = some (.code yj_coder prog_17_method_152_code 1 (some .byte)) := rfl
theorem jm_coder : (hasW 571 (.instanceMethod yj_coder) && (hasW 572 (.selects "java/lang/String" yj_coder yj_coder) && hasW 82 (.initialized "java/lang/String"))) = true := by decide +kernel
def yj_length : MethodName := ⟨"java/lang/String", "length", "()I"⟩
def wj_length : List Cond := Cond.code yj_length prog_17_method_54_code 1 (some .int) :: wsT
set_option maxRecDepth 100000 in
theorem jc_length : lw_tbl[569]? = some (.code yj_length prog_17_method_54_code 1 (some .int)) := rfl
theorem jm_length : (hasW 567 (.instanceMethod yj_length) && (hasW 568 (.selects "java/lang/String" yj_length yj_length) && hasW 82 (.initialized "java/lang/String"))) = true := by decide +kernel
def yj_charAt : MethodName := ⟨"java/lang/String", "charAt", "(I)C"⟩
def wj_charAt : List Cond := Cond.code yj_charAt prog_17_method_56_code 2 (some .char) :: wsT
set_option maxRecDepth 100000 in
theorem jc_charAt : lw_tbl[579]? = some (.code yj_charAt prog_17_method_56_code 2 (some .char)) := rfl
theorem jm_charAt : (hasW 577 (.instanceMethod yj_charAt) && (hasW 578 (.selects "java/lang/String" yj_charAt yj_charAt) && hasW 82 (.initialized "java/lang/String"))) = true := by decide +kernel
def yj_indexOf : MethodName := ⟨"java/lang/String", "indexOf", "(I)I"⟩
def wj_indexOf : List Cond := Cond.code yj_indexOf prog_17_method_79_code 2 (some .int) :: wsT
set_option maxRecDepth 100000 in
theorem jc_indexOf : lw_tbl[660]? = some (.code yj_indexOf prog_17_method_79_code 2 (some .int)) := rfl
theorem jm_indexOf : (hasW 658 (.instanceMethod yj_indexOf) && (hasW 659 (.selects "java/lang/String" yj_indexOf yj_indexOf) && hasW 82 (.initialized "java/lang/String"))) = true := by decide +kernel
def yj_indexOf2 : MethodName := ⟨"java/lang/String", "indexOf", "(II)I"⟩
def wj_indexOf2 : List Cond := Cond.code yj_indexOf2 prog_17_method_80_code 3 (some .int) :: wsT
set_option maxRecDepth 100000 in
theorem jc_indexOf2 : lw_tbl[664]? = some (.code yj_indexOf2 prog_17_method_80_code 3 (some .int)) := rfl
theorem jm_indexOf2 : (hasW 662 (.instanceMethod yj_indexOf2) && (hasW 663 (.selects "java/lang/String" yj_indexOf2 yj_indexOf2) && hasW 82 (.initialized "java/lang/String"))) = true := by decide +kernel
def yj_checkIndex : MethodName := ⟨"java/lang/String", "checkIndex", "(II)V"⟩
def wj_checkIndex : List Cond := Cond.code yj_checkIndex prog_17_method_155_code 2 none :: wsT
set_option maxRecDepth 100000 in
theorem jc_checkIndex : lw_tbl[589]? = some (.code yj_checkIndex prog_17_method_155_code 2 none) := rfl
theorem jm_checkIndex : (hasW 588 (.static yj_checkIndex) && hasW 82 (.initialized "java/lang/String")) = true := by decide +kernel
def yj_LcharAt : MethodName := ⟨"java/lang/StringLatin1", "charAt", "([BI)C"⟩
def wj_LcharAt : List Cond := Cond.code yj_LcharAt prog_18_method_2_code 2 (some .char) :: wsT
set_option maxRecDepth 100000 in
theorem jc_LcharAt : lw_tbl[586]? = some (.code yj_LcharAt prog_18_method_2_code 2 (some .char)) := rfl
theorem jm_LcharAt : (hasW 585 (.static yj_LcharAt) && hasW 83 (.initialized "java/lang/StringLatin1")) = true := by decide +kernel
def yj_canEncode : MethodName := ⟨"java/lang/StringLatin1", "canEncode", "(I)Z"⟩
def wj_canEncode : List Cond := Cond.code yj_canEncode prog_18_method_4_code 1 (some .boolean) :: wsT
set_option maxRecDepth 100000 in
theorem jc_canEncode : lw_tbl[671]? = some (.code yj_canEncode prog_18_method_4_code 1 (some .boolean)) := rfl
theorem jm_canEncode : (hasW 670 (.static yj_canEncode) && hasW 83 (.initialized "java/lang/StringLatin1")) = true := by decide +kernel
def yj_LindexOf : MethodName := ⟨"java/lang/StringLatin1", "indexOf", "([BIII)I"⟩
def wj_LindexOf : List Cond := Cond.code yj_LindexOf prog_18_method_22_code 4 (some .int) :: wsT
set_option maxRecDepth 100000 in
theorem jc_LindexOf : lw_tbl[668]? = some (.code yj_LindexOf prog_18_method_22_code 4 (some .int)) := rfl
theorem jm_LindexOf : (hasW 667 (.static yj_LindexOf) && hasW 83 (.initialized "java/lang/StringLatin1")) = true := by decide +kernel
def yj_indexOfChar : MethodName := ⟨"java/lang/StringLatin1", "indexOfChar", "([BIII)I"⟩
def wj_indexOfChar : List Cond := Cond.code yj_indexOfChar prog_18_method_23_code 6 (some .int) :: wsT
set_option maxRecDepth 100000 in
theorem jc_indexOfChar : lw_tbl[680]? = some (.code yj_indexOfChar prog_18_method_23_code 6 (some .int)) := rfl
theorem jm_indexOfChar : (hasW 679 (.static yj_indexOfChar) && hasW 83 (.initialized "java/lang/StringLatin1")) = true := by decide +kernel
def yj_PcheckIndex : MethodName := ⟨"jdk/internal/util/Preconditions", "checkIndex", "(IILjava/util/function/BiFunction;)I"⟩
def wj_PcheckIndex : List Cond := Cond.code yj_PcheckIndex prog_21_method_11_code 3 (some .int) :: wsT
set_option maxRecDepth 100000 in
theorem jc_PcheckIndex : lw_tbl[594]? = some (.code yj_PcheckIndex prog_21_method_11_code 3 (some .int)) := rfl
theorem jm_PcheckIndex : (hasW 593 (.static yj_PcheckIndex) && hasW 84 (.initialized "jdk/internal/util/Preconditions")) = true := by decide +kernel
def QV (v : Option Value) (oc : Outcome) (_ : State) : Prop := oc = .returned v
abbrev jQ (v : Option Value) : Array Value → State → Outcome → State → Prop := fun _ st oc t => QV v oc t ∧ va_F (fun _ => False) st t
theorem SJ_blind {vs : List Value} {adK adV : Nat → Nat} : FrameBlind (va_Pc vs (SJ adK adV)) := by
  intro a U g mk q
  obtain ⟨q0, q1, q2, q3⟩ := q
  exact ⟨q0, q1.moved (U := U.calling g mk a) (Vm.Alike.refl U.vm), q2.moved (U := U.calling g mk a) (Vm.Alike.refl U.vm), q3.moved (U := U.calling g mk a) (Vm.Alike.refl U.vm)⟩
theorem SJ_on {adK adV : Nat → Nat} {s U : State} {H : Heap} {locs : List Loc} (h : SJ adK adV s) (hS : va_S (fun _ => False) s.heap H locs) (hU : U.heap = H) (hW : s.WarmedH U.vm) : SJ adK adV U := by
  have hq : ∀ a : Nat, a < s.heap.size → ¬ (fun _ => False : Nat → Prop) a → U.heap[a]? = s.heap[a]? := fun a h1 h2 => by rw [hU]; exact hS.2.1 a h1 h2
  obtain ⟨k2, k4, k5⟩ := h
  refine ⟨(k2.moved hW.alike).kept hq, (k4.moved hW.alike).kept hq, (k5.moved hW.alike).kept hq⟩
section JC
variable {p : Program} {l : Launch} {e : Env} {R : Room} {s : State} {m : MethodId} {args : Array Value} {below : List Frame} {meth : Method} {c : Code} {H : Heap} {locs : List Loc} {cells slots : Nat} {Q : State → Prop}
theorem j_callS {d mx nL idx wi1 wi2 wi3 : Nat} {own : String} {y : MethodName} {bytes cc : ByteArray} {ret : Option FieldType} {adK adV : Nat → Nat} {As rest : List Value} {v : Option Value} {pc : Nat} {ls : Array Slot} {st0 : List Value}
    (hfix : CallFix p m c cc nL s args wsT own) (hM : Met l y (Cond.code y bytes mx ret :: wsT) (rmL d) (va_Pc As (SJ adK adV)) (jQ v) 0 0 (fun _ => False)) (hc : Cond.code y bytes mx ret ∈ wsT) (hl : hasW wi1 (.methodLink own idx y) = true) (hst : hasW wi2 (.static y) = true) (hini : hasW wi3 (.initialized y.cls) = true)
    (hy : y.cls ≠ "java/lang/invoke/MethodHandle" ∧ y.cls ≠ "java/lang/invoke/VarHandle") (hpar : (parseMethodDescriptor y.desc).map (fun d => d.parameters.length) = some As.length) (hmx : mx ≤ 30) (hR : d + 2 ≤ R.frames ∧ 60 * d + 60 ≤ R.locals) (h0 : SJ adK adV s) (hS : va_S (fun _ => False) s.heap H locs) (hls : ls.size = nL) (hst0 : st0 = As.reverse ++ rest) (hcat : (rest.map fun v => v.category).sum ≤ 8) (hdg : decode cc pc = .ok (.invokestatic idx, 3)) (hcs : cells ≤ R.cells ∧ slots ≤ R.slots)
    (K : ∀ (H1 : Heap) (locs1 : List Loc), va_S (fun _ => False) s.heap H1 locs1 → W p l e R s m args below meth c H1 locs1 cells slots Q (F0 m (pc + 3) ls (v.toList ++ rest))) : W p l e R s m args below meth c H locs cells slots Q (F0 m pc ls st0) := by
  have hrun := va_runS (p := p) (e := e) (R := R) (below := below) (meth := meth) (H := H) (locs := locs) (cells := cells) (slots := slots) (g := F0 m pc ls st0) (rest := rest) (As := As) (index := idx) hfix hM
    (va_cwS (own := own) (index := idx) (bytes := bytes) (maxL := mx) (ret := ret) As.length hfix.2.2.2.2 (good_of (fun z hz => by
      rcases List.mem_append.mp hz with q | q
      · simp only [List.mem_cons, List.not_mem_nil, or_false] at q
        rcases q with rfl | rfl | rfl
        · exact hasW_mem hl
        · exact hasW_mem hst
        · exact hasW_mem hini
      · rcases List.mem_cons.mp q with q | q
        · rw [q]; exact hc
        · exact q)) rfl rfl rfl ⟨hy.1, hy.2, hpar⟩ ⟨by show d + 1 + 1 ≤ _; omega, by show 8 + (mx + 11) + 60 * d ≤ _; omega⟩) ⟨SJ_blind, fun U hU hW => ⟨rfl, SJ_on h0 hS hU hW⟩⟩ rfl rfl hls hst0 (lv_room hcat) hdg (by omega)
  refine va_callX (a := As.toArray) hrun hS (fun q _ h => h.elim) (fun q h => h.elim) (fun v2 t H1 locs1 ht hP hk1 hS1 => ?_)
  have hv : v2 = v := by cases hP; rfl
  subst hv
  exact K H1 locs1 hS1
theorem j_callV {d mx nL idx wi1 wi2 wi3 wi4 i : Nat} {own : String} {y : MethodName} {bytes cc : ByteArray} {ret : Option FieldType} {adK adV : Nat → Nat} {As rest : List Value} {v : Option Value} {pc : Nat} {ls : Array Slot} {st0 : List Value}
    (hfix : CallFix p m c cc nL s args wsT own) (hM : Met l y (Cond.code y bytes mx ret :: wsT) (rmL d) (va_Pc (.ref (adK i) :: As) (SJ adK adV)) (jQ v) 0 0 (fun _ => False)) (hi : i < 3) (hcls : y.cls = "java/lang/String") (hc : Cond.code y bytes mx ret ∈ wsT) (hl : hasW wi1 (.methodLink own idx y) = true) (hst : hasW wi2 (.instanceMethod y) = true) (hsel : hasW wi4 (.selects "java/lang/String" y y) = true) (hini : hasW wi3 (.initialized "java/lang/String") = true)
    (hpar : (parseMethodDescriptor y.desc).map (fun d => d.parameters.length) = some As.length) (hmx : mx ≤ 30) (hR : d + 2 ≤ R.frames ∧ 60 * d + 60 ≤ R.locals) (h0 : SJ adK adV s) (hS : va_S (fun _ => False) s.heap H locs) (hls : ls.size = nL) (hst0 : st0 = As.reverse ++ .ref (adK i) :: rest) (hcat : (rest.map fun v => v.category).sum ≤ 8) (hdg : decode cc pc = .ok (.invokevirtual idx, 3)) (hcs : cells ≤ R.cells ∧ slots ≤ R.slots)
    (K : ∀ (H1 : Heap) (locs1 : List Loc), va_S (fun _ => False) s.heap H1 locs1 → W p l e R s m args below meth c H1 locs1 cells slots Q (F0 m (pc + 3) ls (v.toList ++ rest))) : W p l e R s m args below meth c H locs cells slots Q (F0 m pc ls st0) := by
  have hrun := va_runV (p := p) (e := e) (R := R) (below := below) (meth := meth) (H := H) (locs := locs) (cells := cells) (slots := slots) (g := F0 m pc ls st0) (rest := rest) (b := adK i) (As := As) (index := idx) hfix hM
    (cwV (C := "java/lang/String") (own := own) (index := idx) (bytes := bytes) (maxL := mx) (ret := ret) As.length hfix.2.2.2.2 (good_of (fun z hz => by
      rcases List.mem_append.mp hz with q | q
      · simp only [List.mem_cons, List.not_mem_nil, or_false] at q
        rcases q with rfl | rfl | rfl | rfl
        · exact hasW_mem hl
        · exact hasW_mem hst
        · exact hasW_mem hsel
        · exact hasW_mem hini
      · rcases List.mem_cons.mp q with q | q
        · rw [q]; exact hc
        · exact q)) rfl rfl rfl ⟨hcls, by rw [hcls]; decide, by rw [hcls]; decide, hpar⟩ ⟨by show d + 1 + 1 ≤ _; omega, by show 8 + (mx + 11) + 60 * d ≤ _; omega⟩) ⟨SJ_blind, vk_recv h0.1 hi hS, fun U hU hW => ⟨rfl, SJ_on h0 hS hU hW⟩⟩ rfl rfl hls hst0 (lv_room hcat) hdg (by omega)
  refine va_callX (a := (.ref (adK i) :: As).toArray) hrun hS (fun q _ h => h.elim) (fun q h => h.elim) (fun v2 t H1 locs1 ht hP hk1 hS1 => ?_)
  have hv : v2 = v := by cases hP; rfl
  subst hv
  exact K H1 locs1 hS1
end JC
theorem jp_checkIndex {as : List Value} (h : as.length = 2 := by rfl) : (parseMethodDescriptor yj_checkIndex.desc).map (fun d => d.parameters.length) = some as.length := by
  rw [h]
  decide +kernel
theorem jp_LcharAt {as : List Value} (h : as.length = 2 := by rfl) : (parseMethodDescriptor yj_LcharAt.desc).map (fun d => d.parameters.length) = some as.length := by
  rw [h]
  decide +kernel
theorem jp_canEncode {as : List Value} (h : as.length = 1 := by rfl) : (parseMethodDescriptor yj_canEncode.desc).map (fun d => d.parameters.length) = some as.length := by
  rw [h]
  decide +kernel
theorem jp_LindexOf {as : List Value} (h : as.length = 4 := by rfl) : (parseMethodDescriptor yj_LindexOf.desc).map (fun d => d.parameters.length) = some as.length := by
  rw [h]
  decide +kernel
theorem jp_indexOfChar {as : List Value} (h : as.length = 4 := by rfl) : (parseMethodDescriptor yj_indexOfChar.desc).map (fun d => d.parameters.length) = some as.length := by
  rw [h]
  decide +kernel
theorem jp_PcheckIndex {as : List Value} (h : as.length = 3 := by rfl) : (parseMethodDescriptor yj_PcheckIndex.desc).map (fun d => d.parameters.length) = some as.length := by
  rw [h]
  decide +kernel
theorem jp_isLatin1 {as : List Value} (h : as.length = 0 := by rfl) : (parseMethodDescriptor yj_isLatin1.desc).map (fun d => d.parameters.length) = some as.length := by
  rw [h]
  decide +kernel
theorem jp_coder {as : List Value} (h : as.length = 0 := by rfl) : (parseMethodDescriptor yj_coder.desc).map (fun d => d.parameters.length) = some as.length := by
  rw [h]
  decide +kernel
theorem jp_length {as : List Value} (h : as.length = 0 := by rfl) : (parseMethodDescriptor yj_length.desc).map (fun d => d.parameters.length) = some as.length := by
  rw [h]
  decide +kernel
theorem jp_indexOf2 {as : List Value} (h : as.length = 2 := by rfl) : (parseMethodDescriptor yj_indexOf2.desc).map (fun d => d.parameters.length) = some as.length := by
  rw [h]
  decide +kernel
set_option maxHeartbeats 4000000 in
set_option maxRecDepth 10000 in
theorem j_isLatin1 (l : Launch) (adK adV : Nat → Nat) {i : Nat} (hi : i < 3) : Met l yj_isLatin1 wj_isLatin1 (rmL 1) (va_Pc [.ref (adK i)] (SJ adK adV)) (jQ (some (.int 1))) 0 0 (fun _ => False) := by
  refine Met.ofW (cc := prog_17_method_154_code) (maxL := 1) (ret := (some .boolean)) (by decide) rfl ?_
  intro p e s m args below meth c s₁ B hml hv
  obtain ⟨rfl, h0⟩ := hv
  have hx := B.exec
  have hb := B.bytes
  have hr := B.returns
  have hts := fun w hw => atoms_spec (ws := wj_isLatin1) B.pre w (List.mem_cons_of_mem _ hw)
  have hown : s.vm.findClass "java/lang/String" = some m.cls := findClass_of_methodNamed B.named
  have hlocks := B.notSynchronized
  have hS : va_S (fun _ => False) s.heap s.heap [] := va_S.rf
  have hfix : CallFix p m c prog_17_method_154_code 1 s _ wsT "java/lang/String" := ⟨hx, hb, hml, hown, hts⟩
  have hl := lv_entry [.ref (adK i)] (n := 1) (by simp [lg_sl, Value.category])
  rw [lg_entry_eq]
  generalize (lg_sl [.ref (adK i)] ++ List.replicate (1 - (lg_sl [.ref (adK i)]).length) Slot.unset).toArray = ls at hl ⊢
  have hl : lv_has ls 1 [(0, .ref (adK i))] := hl
  show W p l e (rmL 1) s m _ below meth c s.heap [] 0 0 _ (F0 m 0 ls [])
  refine va_gets hx hb h0.2.1 hS hown (hts (.fieldLink "java/lang/String" 38 "java/lang/String" "COMPACT_STRINGS" "Z") (hasW_mem (i := 574) (by decide +kernel))) (fun _ h => h) (by decide +kernel) ?_
  refine lv_if_eq (off := 14) (tgt := 17) hx hb (by decide +kernel) (by decide) (fun q => absurd q (by decide)) (fun _ => ?_)
  refine lv_aload_n hx hb (show decode _ _ = .ok (.aload_n 0, 1) by decide +kernel) rfl (lv_at hl 0 rfl) ?_
  refine vk_getf hx hb (h0.1.1 i hi).2.1 hS hown (hts (.fieldLink "java/lang/String" 15 "java/lang/String" "coder" "B") (hasW_mem (i := 1711) (by decide +kernel))) (fun _ h => h) (by decide +kernel) ?_
  refine lv_if_ne (off := 7) (tgt := 17) hx hb (by decide +kernel) (by decide) (fun q => absurd rfl q) (fun _ => ?_)
  refine lv_iconst (n := 1) (v := 1) hx hb (by decide +kernel) (by decide) ?_
  refine lv_goto (off := 4) (tgt := 18) hx hb (by decide +kernel) (by decide) ?_
  exact W.zret (ty := .boolean) hx hb hr rfl (fun t ht hw => ⟨rfl, hS.F ht⟩) hS.2.2 (by decide +kernel)
set_option maxHeartbeats 4000000 in
set_option maxRecDepth 10000 in
theorem j_coder (l : Launch) (adK adV : Nat → Nat) {i : Nat} (hi : i < 3) : Met l yj_coder wj_coder (rmL 1) (va_Pc [.ref (adK i)] (SJ adK adV)) (jQ (some (.int 0))) 0 0 (fun _ => False) := by
  refine Met.ofW (cc := prog_17_method_152_code) (maxL := 1) (ret := (some .byte)) (by decide) rfl ?_
  intro p e s m args below meth c s₁ B hml hv
  obtain ⟨rfl, h0⟩ := hv
  have hx := B.exec
  have hb := B.bytes
  have hr := B.returns
  have hts := fun w hw => atoms_spec (ws := wj_coder) B.pre w (List.mem_cons_of_mem _ hw)
  have hown : s.vm.findClass "java/lang/String" = some m.cls := findClass_of_methodNamed B.named
  have hlocks := B.notSynchronized
  have hS : va_S (fun _ => False) s.heap s.heap [] := va_S.rf
  have hfix : CallFix p m c prog_17_method_152_code 1 s _ wsT "java/lang/String" := ⟨hx, hb, hml, hown, hts⟩
  have hl := lv_entry [.ref (adK i)] (n := 1) (by simp [lg_sl, Value.category])
  rw [lg_entry_eq]
  generalize (lg_sl [.ref (adK i)] ++ List.replicate (1 - (lg_sl [.ref (adK i)]).length) Slot.unset).toArray = ls at hl ⊢
  have hl : lv_has ls 1 [(0, .ref (adK i))] := hl
  show W p l e (rmL 1) s m _ below meth c s.heap [] 0 0 _ (F0 m 0 ls [])
  refine va_gets hx hb h0.2.1 hS hown (hts (.fieldLink "java/lang/String" 38 "java/lang/String" "COMPACT_STRINGS" "Z") (hasW_mem (i := 574) (by decide +kernel))) (fun _ h => h) (by decide +kernel) ?_
  refine lv_if_eq (off := 10) (tgt := 13) hx hb (by decide +kernel) (by decide) (fun q => absurd q (by decide)) (fun _ => ?_)
  refine lv_aload_n hx hb (show decode _ _ = .ok (.aload_n 0, 1) by decide +kernel) rfl (lv_at hl 0 rfl) ?_
  refine vk_getf hx hb (h0.1.1 i hi).2.1 hS hown (hts (.fieldLink "java/lang/String" 15 "java/lang/String" "coder" "B") (hasW_mem (i := 1711) (by decide +kernel))) (fun _ h => h) (by decide +kernel) ?_
  refine lv_goto (off := 4) (tgt := 14) hx hb (by decide +kernel) (by decide) ?_
  exact W.zret (ty := .byte) hx hb hr rfl (fun t ht hw => ⟨rfl, hS.F ht⟩) hS.2.2 (by decide +kernel)
set_option maxHeartbeats 4000000 in
set_option maxRecDepth 10000 in
theorem j_length (l : Launch) (adK adV : Nat → Nat) {i : Nat} (hi : i < 3) : Met l yj_length wj_length (rmL 2) (va_Pc [.ref (adK i)] (SJ adK adV)) (jQ (some (.int (Int32.ofInt (lenS.getD i 0 : Nat))))) 0 0 (fun _ => False) := by
  refine Met.ofW (cc := prog_17_method_54_code) (maxL := 1) (ret := (some .int)) (by decide) rfl ?_
  intro p e s m args below meth c s₁ B hml hv
  obtain ⟨rfl, h0⟩ := hv
  have hx := B.exec
  have hb := B.bytes
  have hr := B.returns
  have hts := fun w hw => atoms_spec (ws := wj_length) B.pre w (List.mem_cons_of_mem _ hw)
  have hown : s.vm.findClass "java/lang/String" = some m.cls := findClass_of_methodNamed B.named
  have hlocks := B.notSynchronized
  have hS : va_S (fun _ => False) s.heap s.heap [] := va_S.rf
  have hfix : CallFix p m c prog_17_method_54_code 1 s _ wsT "java/lang/String" := ⟨hx, hb, hml, hown, hts⟩
  have hl := lv_entry [.ref (adK i)] (n := 1) (by simp [lg_sl, Value.category])
  rw [lg_entry_eq]
  generalize (lg_sl [.ref (adK i)] ++ List.replicate (1 - (lg_sl [.ref (adK i)]).length) Slot.unset).toArray = ls at hl ⊢
  have hl : lv_has ls 1 [(0, .ref (adK i))] := hl
  show W p l e (rmL 2) s m _ below meth c s.heap [] 0 0 _ (F0 m 0 ls [])
  refine lv_aload_n hx hb (show decode _ _ = .ok (.aload_n 0, 1) by decide +kernel) rfl (lv_at hl 0 rfl) ?_
  refine vk_getf hx hb (h0.1.1 i hi).2.2.1 hS hown (hts (.fieldLink "java/lang/String" 9 "java/lang/String" "value" "[B") (hasW_mem (i := 1710) (by decide +kernel))) (fun _ h => h) (by decide +kernel) ?_
  refine va_tlen hx hb (h0.1.1 i hi).2.2.2 hS (v := Int32.ofInt (lenS.getD i 0 : Nat)) (Int32.ofInt_eq_ofNat).symm (by decide +kernel) ?_
  refine lv_aload_n hx hb (show decode _ _ = .ok (.aload_n 0, 1) by decide +kernel) rfl (lv_at hl 0 rfl) ?_
  refine j_callV (i := i) (idx := 335) (d := 1) (wi1 := 570) (wi2 := 571) (wi3 := 82) (wi4 := 572) hfix (j_coder l adK adV hi) hi rfl (List.mem_filter.mpr ⟨List.mem_of_getElem? jc_coder, rfl⟩) (by decide +kernel) (by decide +kernel) (by decide +kernel) (by decide +kernel) jp_coder (by decide) ⟨by show _ ≤ _; decide, by show _ ≤ _; decide⟩ h0 hS hl.1 rfl (by simp [Value.category]) (by decide +kernel) ⟨Nat.zero_le _, Nat.zero_le _⟩ (fun H locs hS => ?_)
  refine lv_ishr hx hb (by decide +kernel) ?_
  have ez : ∀ z : Int32, z >>> ((0 : Int32) &&& 31) = z := fun z => by
    rw [show ((0 : Int32) &&& 31) = 0 from rfl]
    simp
  rw [ez]
  exact W.iret hx hb hr (fun t ht hw => ⟨rfl, hS.F ht⟩) hS.2.2 (by decide +kernel)
set_option maxHeartbeats 4000000 in
set_option maxRecDepth 10000 in
theorem j_length5 (l : Launch) (adK adV : Nat → Nat) {i : Nat} (hi : i < 3) : Met l yj_length wj_length (rmL 5) (va_Pc [.ref (adK i)] (SJ adK adV)) (jQ (some (.int (Int32.ofInt (lenS.getD i 0 : Nat))))) 0 0 (fun _ => False) := by
  refine Met.ofW (cc := prog_17_method_54_code) (maxL := 1) (ret := (some .int)) (by decide) rfl ?_
  intro p e s m args below meth c s₁ B hml hv
  obtain ⟨rfl, h0⟩ := hv
  have hx := B.exec
  have hb := B.bytes
  have hr := B.returns
  have hts := fun w hw => atoms_spec (ws := wj_length) B.pre w (List.mem_cons_of_mem _ hw)
  have hown : s.vm.findClass "java/lang/String" = some m.cls := findClass_of_methodNamed B.named
  have hlocks := B.notSynchronized
  have hS : va_S (fun _ => False) s.heap s.heap [] := va_S.rf
  have hfix : CallFix p m c prog_17_method_54_code 1 s _ wsT "java/lang/String" := ⟨hx, hb, hml, hown, hts⟩
  have hl := lv_entry [.ref (adK i)] (n := 1) (by simp [lg_sl, Value.category])
  rw [lg_entry_eq]
  generalize (lg_sl [.ref (adK i)] ++ List.replicate (1 - (lg_sl [.ref (adK i)]).length) Slot.unset).toArray = ls at hl ⊢
  have hl : lv_has ls 1 [(0, .ref (adK i))] := hl
  show W p l e (rmL 5) s m _ below meth c s.heap [] 0 0 _ (F0 m 0 ls [])
  refine lv_aload_n hx hb (show decode _ _ = .ok (.aload_n 0, 1) by decide +kernel) rfl (lv_at hl 0 rfl) ?_
  refine vk_getf hx hb (h0.1.1 i hi).2.2.1 hS hown (hts (.fieldLink "java/lang/String" 9 "java/lang/String" "value" "[B") (hasW_mem (i := 1710) (by decide +kernel))) (fun _ h => h) (by decide +kernel) ?_
  refine va_tlen hx hb (h0.1.1 i hi).2.2.2 hS (v := Int32.ofInt (lenS.getD i 0 : Nat)) (Int32.ofInt_eq_ofNat).symm (by decide +kernel) ?_
  refine lv_aload_n hx hb (show decode _ _ = .ok (.aload_n 0, 1) by decide +kernel) rfl (lv_at hl 0 rfl) ?_
  refine j_callV (i := i) (idx := 335) (d := 1) (wi1 := 570) (wi2 := 571) (wi3 := 82) (wi4 := 572) hfix (j_coder l adK adV hi) hi rfl (List.mem_filter.mpr ⟨List.mem_of_getElem? jc_coder, rfl⟩) (by decide +kernel) (by decide +kernel) (by decide +kernel) (by decide +kernel) jp_coder (by decide) ⟨by show _ ≤ _; decide, by show _ ≤ _; decide⟩ h0 hS hl.1 rfl (by simp [Value.category]) (by decide +kernel) ⟨Nat.zero_le _, Nat.zero_le _⟩ (fun H locs hS => ?_)
  refine lv_ishr hx hb (by decide +kernel) ?_
  have ez : ∀ z : Int32, z >>> ((0 : Int32) &&& 31) = z := fun z => by
    rw [show ((0 : Int32) &&& 31) = 0 from rfl]
    simp
  rw [ez]
  exact W.iret hx hb hr (fun t ht hw => ⟨rfl, hS.F ht⟩) hS.2.2 (by decide +kernel)
set_option maxHeartbeats 4000000 in
set_option maxRecDepth 10000 in
theorem j_PcheckIndex (l : Launch) (adK adV : Nat → Nat) {x n : Int32} {q : Value} (hq : q.category = 1) (h1 : ¬ x < 0) (h2 : x < n) : Met l yj_PcheckIndex wj_PcheckIndex (rmL 1) (va_Pc [.int x, .int n, q] (SJ adK adV)) (jQ (some (.int x))) 0 0 (fun _ => False) := by
  refine Met.ofW (cc := prog_21_method_11_code) (maxL := 3) (ret := (some .int)) (by decide) rfl ?_
  intro p e s m args below meth c s₁ B hml hv
  obtain ⟨rfl, h0⟩ := hv
  have hx := B.exec
  have hb := B.bytes
  have hr := B.returns
  have hts := fun w hw => atoms_spec (ws := wj_PcheckIndex) B.pre w (List.mem_cons_of_mem _ hw)
  have hown : s.vm.findClass "jdk/internal/util/Preconditions" = some m.cls := findClass_of_methodNamed B.named
  have hlocks := B.notSynchronized
  have hS : va_S (fun _ => False) s.heap s.heap [] := va_S.rf
  have hfix : CallFix p m c prog_21_method_11_code 3 s _ wsT "jdk/internal/util/Preconditions" := ⟨hx, hb, hml, hown, hts⟩
  have hl := lv_entry [.int x, .int n, q] (n := 3) (by simp [lg_sl, hq]; simp [Value.category])
  rw [lg_entry_eq]
  generalize (lg_sl [.int x, .int n, q] ++ List.replicate (3 - (lg_sl [.int x, .int n, q]).length) Slot.unset).toArray = ls at hl ⊢
  have hl : lv_has ls 3 [(0, .int x), (1, .int n), (2, q)] := hl
  show W p l e (rmL 1) s m _ below meth c s.heap [] 0 0 _ (F0 m 0 ls [])
  refine lv_iload_n hx hb (show decode _ _ = .ok (.iload_n 0, 1) by decide +kernel) rfl (lv_at hl 0 rfl) ?_
  refine lv_if_lt (off := 8) (tgt := 9) hx hb (by decide +kernel) (by decide) (fun q => absurd q h1) (fun _ => ?_)
  refine lv_iload_n hx hb (show decode _ _ = .ok (.iload_n 0, 1) by decide +kernel) rfl (lv_at hl 0 rfl) ?_
  refine lv_iload_n hx hb (show decode _ _ = .ok (.iload_n 1, 1) by decide +kernel) rfl (lv_at hl 1 rfl) ?_
  refine lv_icmp_lt (off := 10) (tgt := 16) hx hb (by decide +kernel) (by decide) (fun _ => ?_) (fun q => absurd h2 q)
  refine lv_iload_n hx hb (show decode _ _ = .ok (.iload_n 0, 1) by decide +kernel) rfl (lv_at hl 0 rfl) ?_
  exact W.iret hx hb hr (fun t ht hw => ⟨rfl, hS.F ht⟩) hS.2.2 (by decide +kernel)
set_option maxHeartbeats 4000000 in
set_option maxRecDepth 10000 in
theorem j_checkIndex (l : Launch) (adK adV : Nat → Nat) {x n : Int32} (h1 : ¬ x < 0) (h2 : x < n) : Met l yj_checkIndex wj_checkIndex (rmL 2) (va_Pc [.int x, .int n] (SJ adK adV)) (jQ none) 0 0 (fun _ => False) := by
  refine Met.ofW (cc := prog_17_method_155_code) (maxL := 2) (ret := none) (by decide) rfl ?_
  intro p e s m args below meth c s₁ B hml hv
  obtain ⟨rfl, h0⟩ := hv
  have hx := B.exec
  have hb := B.bytes
  have hr := B.returns
  have hts := fun w hw => atoms_spec (ws := wj_checkIndex) B.pre w (List.mem_cons_of_mem _ hw)
  have hown : s.vm.findClass "java/lang/String" = some m.cls := findClass_of_methodNamed B.named
  have hlocks := B.notSynchronized
  have hS : va_S (fun _ => False) s.heap s.heap [] := va_S.rf
  have hfix : CallFix p m c prog_17_method_155_code 2 s _ wsT "java/lang/String" := ⟨hx, hb, hml, hown, hts⟩
  have hl := lv_entry [.int x, .int n] (n := 2) (by simp [lg_sl, Value.category])
  rw [lg_entry_eq]
  generalize (lg_sl [.int x, .int n] ++ List.replicate (2 - (lg_sl [.int x, .int n]).length) Slot.unset).toArray = ls at hl ⊢
  have hl : lv_has ls 2 [(0, .int x), (1, .int n)] := hl
  show W p l e (rmL 2) s m _ below meth c s.heap [] 0 0 _ (F0 m 0 ls [])
  refine lv_iload_n hx hb (show decode _ _ = .ok (.iload_n 0, 1) by decide +kernel) rfl (lv_at hl 0 rfl) ?_
  refine lv_iload_n hx hb (show decode _ _ = .ok (.iload_n 1, 1) by decide +kernel) rfl (lv_at hl 1 rfl) ?_
  rcases h0.2.2 with hz | ⟨tq, hz⟩
  · refine va_gets hx hb hz hS hown (hts (.fieldLink "java/lang/String" 1053 "jdk/internal/util/Preconditions" "SIOOBE_FORMATTER" "Ljava/util/function/BiFunction;") (hasW_mem (i := 590) (by decide +kernel))) (fun _ h => h) (by decide +kernel) ?_
    refine j_callS (idx := 1059) (d := 1) (wi1 := 592) (wi2 := 593) (wi3 := 84) hfix (j_PcheckIndex l adK adV (q := .null) rfl h1 h2) (List.mem_filter.mpr ⟨List.mem_of_getElem? jc_PcheckIndex, rfl⟩) (by decide +kernel) (by decide +kernel) (by decide +kernel) ⟨by decide, by decide⟩ jp_PcheckIndex (by decide) ⟨by show _ ≤ _; decide, by show _ ≤ _; decide⟩ h0 hS hl.1 rfl (by simp [Value.category]) (by decide +kernel) ⟨Nat.zero_le _, Nat.zero_le _⟩ (fun H locs hS => ?_)
    refine lv_pop hx hb (by decide +kernel) rfl ?_
    exact W.vret hx hb hr (fun t ht hw => ⟨rfl, hS.F ht⟩) hS.2.2 (by decide +kernel)
  · refine va_gets hx hb hz hS hown (hts (.fieldLink "java/lang/String" 1053 "jdk/internal/util/Preconditions" "SIOOBE_FORMATTER" "Ljava/util/function/BiFunction;") (hasW_mem (i := 590) (by decide +kernel))) (fun _ h => h) (by decide +kernel) ?_
    refine j_callS (idx := 1059) (d := 1) (wi1 := 592) (wi2 := 593) (wi3 := 84) hfix (j_PcheckIndex l adK adV (q := .ref tq) rfl h1 h2) (List.mem_filter.mpr ⟨List.mem_of_getElem? jc_PcheckIndex, rfl⟩) (by decide +kernel) (by decide +kernel) (by decide +kernel) ⟨by decide, by decide⟩ jp_PcheckIndex (by decide) ⟨by show _ ≤ _; decide, by show _ ≤ _; decide⟩ h0 hS hl.1 rfl (by simp [Value.category]) (by decide +kernel) ⟨Nat.zero_le _, Nat.zero_le _⟩ (fun H locs hS => ?_)
    refine lv_pop hx hb (by decide +kernel) rfl ?_
    exact W.vret hx hb hr (fun t ht hw => ⟨rfl, hS.F ht⟩) hS.2.2 (by decide +kernel)
theorem byte_ok : ∀ i, i < 3 → ∀ k, k < lenS.getD i 0 → ((((bytS.getD i []).getD k 0) &&& 255).toUInt32 % 65536).toInt32 = Int32.ofInt (bS i k) := by decide +kernel
theorem char_ok : ∀ i, i < 3 → ∀ k, k < lenS.getD i 0 → narrow .char (.int (Int32.ofInt (bS i k))) = .int (Int32.ofInt (bS i k)) := by decide +kernel
set_option maxHeartbeats 4000000 in
set_option maxRecDepth 10000 in
theorem j_LcharAt (l : Launch) (adK adV : Nat → Nat) {i k : Nat} (hi : i < 3) (hk : k < lenS.getD i 0) : Met l yj_LcharAt wj_LcharAt (rmL 3) (va_Pc [.ref (adV i), .int (Int32.ofInt (k : Int))] (SJ adK adV)) (jQ (some (.int (Int32.ofInt (bS i k))))) 0 0 (fun _ => False) := by
  refine Met.ofW (cc := prog_18_method_2_code) (maxL := 2) (ret := (some .char)) (by decide) rfl ?_
  intro p e s m args below meth c s₁ B hml hv
  obtain ⟨rfl, h0⟩ := hv
  have hx := B.exec
  have hb := B.bytes
  have hr := B.returns
  have hts := fun w hw => atoms_spec (ws := wj_LcharAt) B.pre w (List.mem_cons_of_mem _ hw)
  have hown : s.vm.findClass "java/lang/StringLatin1" = some m.cls := findClass_of_methodNamed B.named
  have hlocks := B.notSynchronized
  have hS : va_S (fun _ => False) s.heap s.heap [] := va_S.rf
  have hfix : CallFix p m c prog_18_method_2_code 2 s _ wsT "java/lang/StringLatin1" := ⟨hx, hb, hml, hown, hts⟩
  have hl := lv_entry [.ref (adV i), .int (Int32.ofInt (k : Int))] (n := 2) (by simp [lg_sl, Value.category])
  rw [lg_entry_eq]
  generalize (lg_sl [.ref (adV i), .int (Int32.ofInt (k : Int))] ++ List.replicate (2 - (lg_sl [.ref (adV i), .int (Int32.ofInt (k : Int))]).length) Slot.unset).toArray = ls at hl ⊢
  have hl : lv_has ls 2 [(0, .ref (adV i)), (1, .int (Int32.ofInt (k : Int)))] := hl
  show W p l e (rmL 3) s m _ below meth c s.heap [] 0 0 _ (F0 m 0 ls [])
  have hlt := lenS_lt hi
  have hk32 : in32 (k : Int) := by unfold in32; omega
  refine lv_iload_n hx hb (show decode _ _ = .ok (.iload_n 1, 1) by decide +kernel) rfl (lv_at hl 1 rfl) ?_
  refine lv_aload_n hx hb (show decode _ _ = .ok (.aload_n 0, 1) by decide +kernel) rfl (lv_at hl 0 rfl) ?_
  refine va_tlen hx hb (h0.1.1 i hi).2.2.2 hS (v := Int32.ofInt (lenS.getD i 0 : Nat)) (Int32.ofInt_eq_ofNat).symm (by decide +kernel) ?_
  refine j_callS (idx := 9) (d := 2) (wi1 := 587) (wi2 := 588) (wi3 := 82) hfix (j_checkIndex l adK adV (x := Int32.ofInt (k : Int)) (n := Int32.ofInt (lenS.getD i 0 : Nat)) (fun q => by rw [show (0 : Int32) = Int32.ofInt 0 from rfl, i32_lt hk32 in0] at q; omega) ((i32_lt hk32 (by unfold in32; omega)).mpr (by omega))) (List.mem_filter.mpr ⟨List.mem_of_getElem? jc_checkIndex, rfl⟩) (by decide +kernel) (by decide +kernel) (by decide +kernel) ⟨by decide, by decide⟩ jp_checkIndex (by decide) ⟨by show _ ≤ _; decide, by show _ ≤ _; decide⟩ h0 hS hl.1 rfl (by simp [Value.category]) (by decide +kernel) ⟨Nat.zero_le _, Nat.zero_le _⟩ (fun H locs hS => ?_)
  refine lv_aload_n hx hb (show decode _ _ = .ok (.aload_n 0, 1) by decide +kernel) rfl (lv_at hl 0 rfl) ?_
  refine lv_iload_n hx hb (show decode _ _ = .ok (.iload_n 1, 1) by decide +kernel) rfl (lv_at hl 1 rfl) ?_
  refine va_tb hx hb (h0.1.1 i hi).2.2.2 hS (vin_of (by omega) (by omega) hk32) rfl (by decide +kernel) ?_
  rw [clampI (by omega) hk32, show ((k : Int)).toNat = k by omega]
  refine lv_sipush (n := 255) (v := 255) hx hb (by decide +kernel) (by decide) ?_
  refine lv_iand hx hb (by decide +kernel) ?_
  refine lv_i2c (v := Int32.ofInt (bS i k)) hx hb (by decide +kernel) (byte_ok i hi k hk) ?_
  exact W.zret (ty := .char) hx hb hr (char_ok i hi k hk) (fun t ht hw => ⟨rfl, hS.F ht⟩) hS.2.2 (by decide +kernel)
set_option maxHeartbeats 4000000 in
set_option maxRecDepth 10000 in
theorem j_charAt (l : Launch) (adK adV : Nat → Nat) {i k : Nat} (hi : i < 3) (hk : k < lenS.getD i 0) : Met l yj_charAt wj_charAt (rmL 5) (va_Pc [.ref (adK i), .int (Int32.ofInt (k : Int))] (SJ adK adV)) (jQ (some (.int (Int32.ofInt (bS i k))))) 0 0 (fun _ => False) := by
  refine Met.ofW (cc := prog_17_method_56_code) (maxL := 2) (ret := (some .char)) (by decide) rfl ?_
  intro p e s m args below meth c s₁ B hml hv
  obtain ⟨rfl, h0⟩ := hv
  have hx := B.exec
  have hb := B.bytes
  have hr := B.returns
  have hts := fun w hw => atoms_spec (ws := wj_charAt) B.pre w (List.mem_cons_of_mem _ hw)
  have hown : s.vm.findClass "java/lang/String" = some m.cls := findClass_of_methodNamed B.named
  have hlocks := B.notSynchronized
  have hS : va_S (fun _ => False) s.heap s.heap [] := va_S.rf
  have hfix : CallFix p m c prog_17_method_56_code 2 s _ wsT "java/lang/String" := ⟨hx, hb, hml, hown, hts⟩
  have hl := lv_entry [.ref (adK i), .int (Int32.ofInt (k : Int))] (n := 2) (by simp [lg_sl, Value.category])
  rw [lg_entry_eq]
  generalize (lg_sl [.ref (adK i), .int (Int32.ofInt (k : Int))] ++ List.replicate (2 - (lg_sl [.ref (adK i), .int (Int32.ofInt (k : Int))]).length) Slot.unset).toArray = ls at hl ⊢
  have hl : lv_has ls 2 [(0, .ref (adK i)), (1, .int (Int32.ofInt (k : Int)))] := hl
  show W p l e (rmL 5) s m _ below meth c s.heap [] 0 0 _ (F0 m 0 ls [])
  refine lv_aload_n hx hb (show decode _ _ = .ok (.aload_n 0, 1) by decide +kernel) rfl (lv_at hl 0 rfl) ?_
  refine j_callV (i := i) (idx := 492) (d := 1) (wi1 := 580) (wi2 := 581) (wi3 := 82) (wi4 := 582) hfix (j_isLatin1 l adK adV hi) hi rfl (List.mem_filter.mpr ⟨List.mem_of_getElem? jc_isLatin1, rfl⟩) (by decide +kernel) (by decide +kernel) (by decide +kernel) (by decide +kernel) jp_isLatin1 (by decide) ⟨by show _ ≤ _; decide, by show _ ≤ _; decide⟩ h0 hS hl.1 rfl (by simp [Value.category]) (by decide +kernel) ⟨Nat.zero_le _, Nat.zero_le _⟩ (fun H locs hS => ?_)
  refine lv_if_eq (off := 12) (tgt := 16) hx hb (by decide +kernel) (by decide) (fun q => absurd q (by decide)) (fun _ => ?_)
  refine lv_aload_n hx hb (show decode _ _ = .ok (.aload_n 0, 1) by decide +kernel) rfl (lv_at hl 0 rfl) ?_
  refine vk_getf hx hb (h0.1.1 i hi).2.2.1 hS hown (hts (.fieldLink "java/lang/String" 9 "java/lang/String" "value" "[B") (hasW_mem (i := 1710) (by decide +kernel))) (fun _ h => h) (by decide +kernel) ?_
  refine lv_iload_n hx hb (show decode _ _ = .ok (.iload_n 1, 1) by decide +kernel) rfl (lv_at hl 1 rfl) ?_
  refine j_callS (idx := 495) (d := 3) (wi1 := 584) (wi2 := 585) (wi3 := 83) hfix (j_LcharAt l adK adV hi hk) (List.mem_filter.mpr ⟨List.mem_of_getElem? jc_LcharAt, rfl⟩) (by decide +kernel) (by decide +kernel) (by decide +kernel) ⟨by decide, by decide⟩ jp_LcharAt (by decide) ⟨by show _ ≤ _; decide, by show _ ≤ _; decide⟩ h0 hS hl.1 rfl (by simp [Value.category]) (by decide +kernel) ⟨Nat.zero_le _, Nat.zero_le _⟩ (fun H locs hS => ?_)
  exact W.zret (ty := .char) hx hb hr (char_ok i hi k hk) (fun t ht hw => ⟨rfl, hS.F ht⟩) hS.2.2 (by decide +kernel)
theorem idxO_none {f : Nat → Int} {n : Nat} {x : Int} (h : ∀ t, t < n → f t ≠ x) : idxO f n x = -1 := by
  unfold idxO
  have e : (List.range n).find? (fun i => f i == x) = none := by
    rw [List.find?_eq_none]
    intro t ht q
    exact h t (List.mem_range.mp ht) (by simpa using q)
  rw [e]
theorem idxO_hit {f : Nat → Int} {n j : Nat} {x : Int} (hj : j < n) (h : ∀ t, t < j → f t ≠ x) (he : f j = x) : idxO f n x = j := by
  unfold idxO
  have e : (List.range n).find? (fun i => f i == x) = some j := by
    rw [List.find?_range_eq_some]
    refine ⟨by simpa using he, List.mem_range.mpr hj, fun t ht => ?_⟩
    have := h t ht
    simpa using this
  rw [e]
theorem bS_in : ∀ i, i < 3 → ∀ j, j < lenS.getD i 0 → 0 ≤ bS i j ∧ bS i j < 128 := by decide +kernel
theorem i2b_val {x : Int} (h : 0 ≤ x ∧ x ≤ 255) : (Int32.ofInt x).toInt8.toInt32 = Int32.ofInt (if x < 128 then x else x - 256) := by
  have hx : in32 x := by unfold in32; omega
  have hr : in32 (if x < 128 then x else x - 256) := by unfold in32; split <;> omega
  rw [← Int32.toInt_inj, Int8.toInt_toInt32, Int32.toInt_toInt8, toI32 hx, toI32 hr, Int.bmod_def]
  split <;> omega
set_option maxHeartbeats 4000000 in
set_option maxRecDepth 10000 in
theorem j_canEncode (l : Launch) (adK adV : Nat → Nat) {x : Int} (hx32 : in32 x) : Met l yj_canEncode wj_canEncode (rmL 1) (va_Pc [.int (Int32.ofInt x)] (SJ adK adV)) (jQ (some (.int (Int32.ofInt (if 0 ≤ x ∧ x ≤ 255 then 1 else 0))))) 0 0 (fun _ => False) := by
  refine Met.ofW (cc := prog_18_method_4_code) (maxL := 1) (ret := (some .boolean)) (by decide) rfl ?_
  intro p e s m args below meth c s₁ B hml hv
  obtain ⟨rfl, h0⟩ := hv
  have hx := B.exec
  have hb := B.bytes
  have hr := B.returns
  have hts := fun w hw => atoms_spec (ws := wj_canEncode) B.pre w (List.mem_cons_of_mem _ hw)
  have hown : s.vm.findClass "java/lang/StringLatin1" = some m.cls := findClass_of_methodNamed B.named
  have hlocks := B.notSynchronized
  have hS : va_S (fun _ => False) s.heap s.heap [] := va_S.rf
  have hfix : CallFix p m c prog_18_method_4_code 1 s _ wsT "java/lang/StringLatin1" := ⟨hx, hb, hml, hown, hts⟩
  have hl := lv_entry [.int (Int32.ofInt x)] (n := 1) (by simp [lg_sl, Value.category])
  rw [lg_entry_eq]
  generalize (lg_sl [.int (Int32.ofInt x)] ++ List.replicate (1 - (lg_sl [.int (Int32.ofInt x)]).length) Slot.unset).toArray = ls at hl ⊢
  have hl : lv_has ls 1 [(0, .int (Int32.ofInt x))] := hl
  show W p l e (rmL 1) s m _ below meth c s.heap [] 0 0 _ (F0 m 0 ls [])
  refine lv_iload_n hx hb (show decode _ _ = .ok (.iload_n 0, 1) by decide +kernel) rfl (lv_at hl 0 rfl) ?_
  refine lv_if_lt (off := 14) (tgt := 15) hx hb (by decide +kernel) (by decide) (fun q => ?_) (fun q => ?_)
  · rw [show (0 : Int32) = Int32.ofInt 0 from rfl, i32_lt hx32 in0] at q
    rw [if_neg (by omega)]
    refine lv_iconst (n := 0) (v := 0) hx hb (by decide +kernel) (by decide) ?_
    exact W.zret (ty := .boolean) hx hb hr rfl (fun t ht hw => ⟨rfl, hS.F ht⟩) hS.2.2 (by decide +kernel)
  · rw [show (0 : Int32) = Int32.ofInt 0 from rfl, i32_lt hx32 in0] at q
    refine lv_iload_n hx hb (show decode _ _ = .ok (.iload_n 0, 1) by decide +kernel) rfl (lv_at hl 0 rfl) ?_
    refine lv_sipush (n := 255) (v := Int32.ofInt 255) hx hb (by decide +kernel) (by decide) ?_
    refine lv_icmp_gt (off := 7) (tgt := 15) hx hb (by decide +kernel) (by decide) (fun q2 => ?_) (fun q2 => ?_)
    · rw [i32_lt (by unfold in32; omega) hx32] at q2
      rw [if_neg (by omega)]
      refine lv_iconst (n := 0) (v := 0) hx hb (by decide +kernel) (by decide) ?_
      exact W.zret (ty := .boolean) hx hb hr rfl (fun t ht hw => ⟨rfl, hS.F ht⟩) hS.2.2 (by decide +kernel)
    · rw [i32_lt (by unfold in32; omega) hx32] at q2
      rw [if_pos (by omega)]
      refine lv_iconst (n := 1) (v := 1) hx hb (by decide +kernel) (by decide) ?_
      refine lv_goto (off := 4) (tgt := 16) hx hb (by decide +kernel) (by decide) ?_
      exact W.zret (ty := .boolean) hx hb hr rfl (fun t ht hw => ⟨rfl, hS.F ht⟩) hS.2.2 (by decide +kernel)
set_option maxHeartbeats 4000000 in
set_option maxRecDepth 10000 in
theorem j_indexOfChar (l : Launch) (adK adV : Nat → Nat) {i : Nat} {x : Int} (hi : i < 3) (hx2 : 0 ≤ x ∧ x ≤ 255) : Met l yj_indexOfChar wj_indexOfChar (rmL 1) (va_Pc [.ref (adV i), .int (Int32.ofInt x), .int 0, .int (Int32.ofInt (lenS.getD i 0 : Nat))] (SJ adK adV)) (jQ (some (.int (Int32.ofInt (idxO (bS i) (lenS.getD i 0) x))))) 0 0 (fun _ => False) := by
  refine Met.ofW (cc := prog_18_method_23_code) (maxL := 6) (ret := (some .int)) (by decide) rfl ?_
  intro p e s m args below meth c s₁ B hml hv
  obtain ⟨rfl, h0⟩ := hv
  have hx := B.exec
  have hb := B.bytes
  have hr := B.returns
  have hts := fun w hw => atoms_spec (ws := wj_indexOfChar) B.pre w (List.mem_cons_of_mem _ hw)
  have hown : s.vm.findClass "java/lang/StringLatin1" = some m.cls := findClass_of_methodNamed B.named
  have hlocks := B.notSynchronized
  have hS : va_S (fun _ => False) s.heap s.heap [] := va_S.rf
  have hfix : CallFix p m c prog_18_method_23_code 6 s _ wsT "java/lang/StringLatin1" := ⟨hx, hb, hml, hown, hts⟩
  have hl := lv_entry [.ref (adV i), .int (Int32.ofInt x), .int 0, .int (Int32.ofInt (lenS.getD i 0 : Nat))] (n := 6) (by simp [lg_sl, Value.category])
  rw [lg_entry_eq]
  generalize (lg_sl [.ref (adV i), .int (Int32.ofInt x), .int 0, .int (Int32.ofInt (lenS.getD i 0 : Nat))] ++ List.replicate (6 - (lg_sl [.ref (adV i), .int (Int32.ofInt x), .int 0, .int (Int32.ofInt (lenS.getD i 0 : Nat))]).length) Slot.unset).toArray = ls at hl ⊢
  have hl : lv_has ls 6 [(0, .ref (adV i)), (1, .int (Int32.ofInt x)), (2, .int 0), (3, .int (Int32.ofInt (lenS.getD i 0 : Nat)))] := hl
  show W p l e (rmL 1) s m _ below meth c s.heap [] 0 0 _ (F0 m 0 ls [])
  have hlt := lenS_lt hi
  have hl32 : in32 (lenS.getD i 0 : Nat) := by unfold in32; omega
  have hc32 : in32 (if x < 128 then x else x - 256) := by unfold in32; split <;> omega
  have loop : ∀ (n j : Nat), j + n = lenS.getD i 0 → (∀ t, t < j → bS i t ≠ x) → ∀ ls : Array Slot, lv_has ls 6 [(0, .ref (adV i)), (3, .int (Int32.ofInt (lenS.getD i 0 : Nat))), (4, .int (Int32.ofInt (if x < 128 then x else x - 256))), (5, .int (Int32.ofInt (j : Int)))] → W p l e (rmL 1) s m #[.ref (adV i), .int (Int32.ofInt x), .int 0, .int (Int32.ofInt (lenS.getD i 0 : Nat))] below meth c s.heap [] 0 0 (MQ below (jQ (some (.int (Int32.ofInt (idxO (bS i) (lenS.getD i 0) x))))) #[.ref (adV i), .int (Int32.ofInt x), .int 0, .int (Int32.ofInt (lenS.getD i 0 : Nat))] s 0 0 (fun _ => False)) (F0 m 7 ls []) := by
    intro n
    induction n with
    | zero =>
      intro j hj hno ls hl
      have hj32 : in32 (j : Int) := by unfold in32; omega
      refine lv_iload hx hb (show decode _ _ = .ok (.iload 5, 2) by decide +kernel) (lv_at hl 3 rfl) ?_
      refine lv_iload_n hx hb (show decode _ _ = .ok (.iload_n 3, 1) by decide +kernel) rfl (lv_at hl 1 rfl) ?_
      refine lv_icmp_ge (off := 21) (tgt := 31) hx hb (by decide +kernel) (by decide) (fun q => ?_) (fun q => absurd ((i32_le hl32 hj32).mpr (by omega)) q)
      rw [idxO_none (fun t ht => hno t (by omega))]
      refine lv_iconst (n := -1) (v := Int32.ofInt (-1)) hx hb (by decide +kernel) rfl ?_
      exact W.iret hx hb hr (fun t ht hw => ⟨rfl, hS.F ht⟩) hS.2.2 (by decide +kernel)
    | succ n ih =>
      intro j hj hno ls hl
      have hj32 : in32 (j : Int) := by unfold in32; omega
      have hjl : j < lenS.getD i 0 := by omega
      refine lv_iload hx hb (show decode _ _ = .ok (.iload 5, 2) by decide +kernel) (lv_at hl 3 rfl) ?_
      refine lv_iload_n hx hb (show decode _ _ = .ok (.iload_n 3, 1) by decide +kernel) rfl (lv_at hl 1 rfl) ?_
      refine lv_icmp_ge (off := 21) (tgt := 31) hx hb (by decide +kernel) (by decide) (fun q => absurd ((i32_le hl32 hj32).mp q) (by omega)) (fun _ => ?_)
      refine lv_aload_n hx hb (show decode _ _ = .ok (.aload_n 0, 1) by decide +kernel) rfl (lv_at hl 0 rfl) ?_
      refine lv_iload hx hb (show decode _ _ = .ok (.iload 5, 2) by decide +kernel) (lv_at hl 3 rfl) ?_
      refine va_tb hx hb (h0.1.1 i hi).2.2.2 hS (vin_of (by omega) (by omega) hj32) rfl (by decide +kernel) ?_
      rw [clampI (by omega) hj32, show ((j : Int)).toNat = j by omega]
      refine lv_iload hx hb (show decode _ _ = .ok (.iload 4, 2) by decide +kernel) (lv_at hl 2 rfl) ?_
      have hb1 := bS_in i hi j hjl
      have hcmp : ((bytS.getD i []).getD j 0 = Int32.ofInt (if x < 128 then x else x - 256)) ↔ bS i j = x := by
        rw [← Int32.toInt_inj, toI32 hc32]
        show bS i j = _ ↔ _
        split <;> omega
      refine lv_icmp_ne (off := 6) (tgt := 25) hx hb (by decide +kernel) (by decide) (fun q => ?_) (fun q => ?_)
      · refine lv_iinc (v := Int32.ofInt ((j + 1 : Nat) : Int)) hx hb (show decode _ _ = .ok (.iinc 5 1, 3) by decide +kernel) hl (k := 3) rfl (by rw [← Int32.ofInt_add]; rfl) (by decide) rfl (fun ls2 hl2 => ?_)
        refine lv_goto (off := -21) (tgt := 7) hx hb (by decide +kernel) (by decide) ?_
        exact ih (j + 1) (by omega) (fun t ht => by
          rcases Nat.lt_or_ge t j with z | z
          · exact hno t z
          · have : t = j := by omega
            subst this
            exact fun z => q (hcmp.mpr z)) ls2 (lv_sub hl2 [1, 2, 3, 0] rfl)
      · rw [idxO_hit hjl hno (hcmp.mp q)]
        refine lv_iload hx hb (show decode _ _ = .ok (.iload 5, 2) by decide +kernel) (lv_at hl 3 rfl) ?_
        exact W.iret hx hb hr (fun t ht hw => ⟨rfl, hS.F ht⟩) hS.2.2 (by decide +kernel)
  refine lv_iload_n hx hb (show decode _ _ = .ok (.iload_n 1, 1) by decide +kernel) rfl (lv_at hl 1 rfl) ?_
  refine lv_i2b hx hb (by decide +kernel) (i2b_val hx2) ?_
  refine lv_istore hx hb (show decode _ _ = .ok (.istore 4, 2) by decide +kernel) hl (by decide) rfl (fun ls hl => ?_)
  refine lv_iload_n hx hb (show decode _ _ = .ok (.iload_n 2, 1) by decide +kernel) rfl (lv_at hl 3 rfl) ?_
  refine lv_istore hx hb (show decode _ _ = .ok (.istore 5, 2) by decide +kernel) hl (by decide) rfl (fun ls hl => ?_)
  exact loop (lenS.getD i 0) 0 (by omega) (fun t ht => absurd ht (by omega)) ls (lv_sub hl [2, 5, 1, 0] rfl)
theorem lenS_pos {i : Nat} (h : i < 3) : 0 < lenS.getD i 0 := by
  match i, h with
  | 0, _ => decide
  | 1, _ => decide
  | 2, _ => decide
set_option maxHeartbeats 4000000 in
set_option maxRecDepth 10000 in
theorem j_LindexOf (l : Launch) (adK adV : Nat → Nat) {i : Nat} {x : Int} (hi : i < 3) (hx2 : in32 x) : Met l yj_LindexOf wj_LindexOf (rmL 3) (va_Pc [.ref (adV i), .int (Int32.ofInt x), .int 0, .int (Int32.ofInt (lenS.getD i 0 : Nat))] (SJ adK adV)) (jQ (some (.int (Int32.ofInt (idxO (bS i) (lenS.getD i 0) x))))) 0 0 (fun _ => False) := by
  refine Met.ofW (cc := prog_18_method_22_code) (maxL := 4) (ret := (some .int)) (by decide) rfl ?_
  intro p e s m args below meth c s₁ B hml hv
  obtain ⟨rfl, h0⟩ := hv
  have hx := B.exec
  have hb := B.bytes
  have hr := B.returns
  have hts := fun w hw => atoms_spec (ws := wj_LindexOf) B.pre w (List.mem_cons_of_mem _ hw)
  have hown : s.vm.findClass "java/lang/StringLatin1" = some m.cls := findClass_of_methodNamed B.named
  have hlocks := B.notSynchronized
  have hS : va_S (fun _ => False) s.heap s.heap [] := va_S.rf
  have hfix : CallFix p m c prog_18_method_22_code 4 s _ wsT "java/lang/StringLatin1" := ⟨hx, hb, hml, hown, hts⟩
  have hl := lv_entry [.ref (adV i), .int (Int32.ofInt x), .int 0, .int (Int32.ofInt (lenS.getD i 0 : Nat))] (n := 4) (by simp [lg_sl, Value.category])
  rw [lg_entry_eq]
  generalize (lg_sl [.ref (adV i), .int (Int32.ofInt x), .int 0, .int (Int32.ofInt (lenS.getD i 0 : Nat))] ++ List.replicate (4 - (lg_sl [.ref (adV i), .int (Int32.ofInt x), .int 0, .int (Int32.ofInt (lenS.getD i 0 : Nat))]).length) Slot.unset).toArray = ls at hl ⊢
  have hl : lv_has ls 4 [(0, .ref (adV i)), (1, .int (Int32.ofInt x)), (2, .int 0), (3, .int (Int32.ofInt (lenS.getD i 0 : Nat)))] := hl
  show W p l e (rmL 3) s m _ below meth c s.heap [] 0 0 _ (F0 m 0 ls [])
  have hlt := lenS_lt hi
  have hl0 := lenS_pos hi
  have hl32 : in32 (lenS.getD i 0 : Nat) := by unfold in32; omega
  refine lv_iload_n hx hb (show decode _ _ = .ok (.iload_n 1, 1) by decide +kernel) rfl (lv_at hl 1 rfl) ?_
  refine j_callS (idx := 88) (d := 1) (wi1 := 669) (wi2 := 670) (wi3 := 83) hfix (j_canEncode l adK adV hx2) (List.mem_filter.mpr ⟨List.mem_of_getElem? jc_canEncode, rfl⟩) (by decide +kernel) (by decide +kernel) (by decide +kernel) ⟨by decide, by decide⟩ jp_canEncode (by decide) ⟨by show _ ≤ _; decide, by show _ ≤ _; decide⟩ h0 hS hl.1 rfl (by simp [Value.category]) (by decide +kernel) ⟨Nat.zero_le _, Nat.zero_le _⟩ (fun H locs hS => ?_)
  by_cases hq : 0 ≤ x ∧ x ≤ 255
  · rw [if_pos hq]
    refine lv_if_ne (off := 5) (tgt := 9) hx hb (by decide +kernel) (by decide) (fun _ => ?_) (fun q => absurd q (by decide))
    refine lv_iload_n hx hb (show decode _ _ = .ok (.iload_n 2, 1) by decide +kernel) rfl (lv_at hl 2 rfl) ?_
    refine lv_iconst (n := 0) (v := 0) hx hb (by decide +kernel) (by decide) ?_
    refine va_mmax (index := 92) hx hb (by rw [hml]; exact hl.1.symm) hown (hts (.methodLink "java/lang/StringLatin1" 92 Lib.Math.max.name) (hasW_mem (i := 672) (by decide +kernel))) (hts _ (hasW_mem (Bool.and_eq_true_iff.mp ma_max).1)) (hts _ (hasW_mem wi_math)) (hts _ (hasW_mem (Bool.and_eq_true_iff.mp ma_max).2)) (by show 1 ≤ 4; omega) (by show 0 + 13 ≤ 180; omega) (Nat.zero_le _) (Nat.zero_le _) (by decide +kernel) ?_
    refine lv_istore_n hx hb (show decode _ _ = .ok (.istore_n 2, 1) by decide +kernel) rfl hl (by decide) rfl (fun ls hl => ?_)
    refine lv_iload_n hx hb (show decode _ _ = .ok (.iload_n 3, 1) by decide +kernel) rfl (lv_at hl 3 rfl) ?_
    refine lv_aload_n hx hb (show decode _ _ = .ok (.aload_n 0, 1) by decide +kernel) rfl (lv_at hl 1 rfl) ?_
    refine va_tlen hx hb (h0.1.1 i hi).2.2.2 hS (v := Int32.ofInt (lenS.getD i 0 : Nat)) (Int32.ofInt_eq_ofNat).symm (by decide +kernel) ?_
    refine va_mmin (index := 38) hx hb (by rw [hml]; exact hl.1.symm) hown (hts (.methodLink "java/lang/StringLatin1" 38 Lib.Math.min.name) (hasW_mem (i := 675) (by decide +kernel))) (hts _ (hasW_mem (Bool.and_eq_true_iff.mp ma_min).1)) (hts _ (hasW_mem wi_math)) (hts _ (hasW_mem (Bool.and_eq_true_iff.mp ma_min).2)) (by show 1 ≤ 4; omega) (by show 0 + 13 ≤ 180; omega) (Nat.zero_le _) (Nat.zero_le _) (by decide +kernel) ?_
    rw [ite_self]
    refine lv_istore_n hx hb (show decode _ _ = .ok (.istore_n 3, 1) by decide +kernel) rfl hl (by decide) rfl (fun ls hl => ?_)
    refine lv_iload_n hx hb (show decode _ _ = .ok (.iload_n 2, 1) by decide +kernel) rfl (lv_at hl 1 rfl) ?_
    refine lv_iload_n hx hb (show decode _ _ = .ok (.iload_n 3, 1) by decide +kernel) rfl (lv_at hl 0 rfl) ?_
    refine lv_icmp_lt (off := 5) (tgt := 29) hx hb (by decide +kernel) (by decide) (fun _ => ?_) (fun q => absurd ((i32_lt in0 hl32).mpr (by omega)) q)
    refine lv_aload_n hx hb (show decode _ _ = .ok (.aload_n 0, 1) by decide +kernel) rfl (lv_at hl 2 rfl) ?_
    refine lv_iload_n hx hb (show decode _ _ = .ok (.iload_n 1, 1) by decide +kernel) rfl (lv_at hl 3 rfl) ?_
    refine lv_iload_n hx hb (show decode _ _ = .ok (.iload_n 2, 1) by decide +kernel) rfl (lv_at hl 1 rfl) ?_
    refine lv_iload_n hx hb (show decode _ _ = .ok (.iload_n 3, 1) by decide +kernel) rfl (lv_at hl 0 rfl) ?_
    refine j_callS (idx := 95) (d := 1) (wi1 := 678) (wi2 := 679) (wi3 := 83) hfix (j_indexOfChar l adK adV hi hq) (List.mem_filter.mpr ⟨List.mem_of_getElem? jc_indexOfChar, rfl⟩) (by decide +kernel) (by decide +kernel) (by decide +kernel) ⟨by decide, by decide⟩ jp_indexOfChar (by decide) ⟨by show _ ≤ _; decide, by show _ ≤ _; decide⟩ h0 hS hl.1 rfl (by simp [Value.category]) (by decide +kernel) ⟨Nat.zero_le _, Nat.zero_le _⟩ (fun H locs hS => ?_)
    exact W.iret hx hb hr (fun t ht hw => ⟨rfl, hS.F ht⟩) hS.2.2 (by decide +kernel)
  · rw [if_neg hq]
    refine lv_if_ne (off := 5) (tgt := 9) hx hb (by decide +kernel) (by decide) (fun q => absurd rfl q) (fun _ => ?_)
    rw [idxO_none (fun t ht z => hq (by have := bS_in i hi t ht; omega))]
    refine lv_iconst (n := -1) (v := Int32.ofInt (-1)) hx hb (by decide +kernel) rfl ?_
    exact W.iret hx hb hr (fun t ht hw => ⟨rfl, hS.F ht⟩) hS.2.2 (by decide +kernel)
set_option maxHeartbeats 4000000 in
set_option maxRecDepth 10000 in
theorem j_indexOf2 (l : Launch) (adK adV : Nat → Nat) {i : Nat} {x : Int} (hi : i < 3) (hx2 : in32 x) : Met l yj_indexOf2 wj_indexOf2 (rmL 4) (va_Pc [.ref (adK i), .int (Int32.ofInt x), .int 0] (SJ adK adV)) (jQ (some (.int (Int32.ofInt (idxO (bS i) (lenS.getD i 0) x))))) 0 0 (fun _ => False) := by
  refine Met.ofW (cc := prog_17_method_80_code) (maxL := 3) (ret := (some .int)) (by decide) rfl ?_
  intro p e s m args below meth c s₁ B hml hv
  obtain ⟨rfl, h0⟩ := hv
  have hx := B.exec
  have hb := B.bytes
  have hr := B.returns
  have hts := fun w hw => atoms_spec (ws := wj_indexOf2) B.pre w (List.mem_cons_of_mem _ hw)
  have hown : s.vm.findClass "java/lang/String" = some m.cls := findClass_of_methodNamed B.named
  have hlocks := B.notSynchronized
  have hS : va_S (fun _ => False) s.heap s.heap [] := va_S.rf
  have hfix : CallFix p m c prog_17_method_80_code 3 s _ wsT "java/lang/String" := ⟨hx, hb, hml, hown, hts⟩
  have hl := lv_entry [.ref (adK i), .int (Int32.ofInt x), .int 0] (n := 3) (by simp [lg_sl, Value.category])
  rw [lg_entry_eq]
  generalize (lg_sl [.ref (adK i), .int (Int32.ofInt x), .int 0] ++ List.replicate (3 - (lg_sl [.ref (adK i), .int (Int32.ofInt x), .int 0]).length) Slot.unset).toArray = ls at hl ⊢
  have hl : lv_has ls 3 [(0, .ref (adK i)), (1, .int (Int32.ofInt x)), (2, .int 0)] := hl
  show W p l e (rmL 4) s m _ below meth c s.heap [] 0 0 _ (F0 m 0 ls [])
  refine lv_aload_n hx hb (show decode _ _ = .ok (.aload_n 0, 1) by decide +kernel) rfl (lv_at hl 0 rfl) ?_
  refine j_callV (i := i) (idx := 492) (d := 1) (wi1 := 580) (wi2 := 581) (wi3 := 82) (wi4 := 582) hfix (j_isLatin1 l adK adV hi) hi rfl (List.mem_filter.mpr ⟨List.mem_of_getElem? jc_isLatin1, rfl⟩) (by decide +kernel) (by decide +kernel) (by decide +kernel) (by decide +kernel) jp_isLatin1 (by decide) ⟨by show _ ≤ _; decide, by show _ ≤ _; decide⟩ h0 hS hl.1 rfl (by simp [Value.category]) (by decide +kernel) ⟨Nat.zero_le _, Nat.zero_le _⟩ (fun H locs hS => ?_)
  refine lv_if_eq (off := 19) (tgt := 23) hx hb (by decide +kernel) (by decide) (fun q => absurd q (by decide)) (fun _ => ?_)
  refine lv_aload_n hx hb (show decode _ _ = .ok (.aload_n 0, 1) by decide +kernel) rfl (lv_at hl 0 rfl) ?_
  refine vk_getf hx hb (h0.1.1 i hi).2.2.1 hS hown (hts (.fieldLink "java/lang/String" 9 "java/lang/String" "value" "[B") (hasW_mem (i := 1710) (by decide +kernel))) (fun _ h => h) (by decide +kernel) ?_
  refine lv_iload_n hx hb (show decode _ _ = .ok (.iload_n 1, 1) by decide +kernel) rfl (lv_at hl 1 rfl) ?_
  refine lv_iload_n hx hb (show decode _ _ = .ok (.iload_n 2, 1) by decide +kernel) rfl (lv_at hl 2 rfl) ?_
  refine lv_aload_n hx hb (show decode _ _ = .ok (.aload_n 0, 1) by decide +kernel) rfl (lv_at hl 0 rfl) ?_
  refine j_callV (i := i) (idx := 505) (d := 2) (wi1 := 665) (wi2 := 567) (wi3 := 82) (wi4 := 568) hfix (j_length l adK adV hi) hi rfl (List.mem_filter.mpr ⟨List.mem_of_getElem? jc_length, rfl⟩) (by decide +kernel) (by decide +kernel) (by decide +kernel) (by decide +kernel) jp_length (by decide) ⟨by show _ ≤ _; decide, by show _ ≤ _; decide⟩ h0 hS hl.1 rfl (by simp [Value.category]) (by decide +kernel) ⟨Nat.zero_le _, Nat.zero_le _⟩ (fun H locs hS => ?_)
  refine j_callS (idx := 637) (d := 3) (wi1 := 666) (wi2 := 667) (wi3 := 83) hfix (j_LindexOf l adK adV hi hx2) (List.mem_filter.mpr ⟨List.mem_of_getElem? jc_LindexOf, rfl⟩) (by decide +kernel) (by decide +kernel) (by decide +kernel) ⟨by decide, by decide⟩ jp_LindexOf (by decide) ⟨by show _ ≤ _; decide, by show _ ≤ _; decide⟩ h0 hS hl.1 rfl (by simp [Value.category]) (by decide +kernel) ⟨Nat.zero_le _, Nat.zero_le _⟩ (fun H locs hS => ?_)
  refine lv_goto (off := 16) (tgt := 36) hx hb (by decide +kernel) (by decide) ?_
  exact W.iret hx hb hr (fun t ht hw => ⟨rfl, hS.F ht⟩) hS.2.2 (by decide +kernel)
set_option maxHeartbeats 4000000 in
set_option maxRecDepth 10000 in
theorem j_indexOf (l : Launch) (adK adV : Nat → Nat) {i : Nat} {x : Int} (hi : i < 3) (hx2 : in32 x) : Met l yj_indexOf wj_indexOf (rmL 5) (va_Pc [.ref (adK i), .int (Int32.ofInt x)] (SJ adK adV)) (jQ (some (.int (Int32.ofInt (idxO (bS i) (lenS.getD i 0) x))))) 0 0 (fun _ => False) := by
  refine Met.ofW (cc := prog_17_method_79_code) (maxL := 2) (ret := (some .int)) (by decide) rfl ?_
  intro p e s m args below meth c s₁ B hml hv
  obtain ⟨rfl, h0⟩ := hv
  have hx := B.exec
  have hb := B.bytes
  have hr := B.returns
  have hts := fun w hw => atoms_spec (ws := wj_indexOf) B.pre w (List.mem_cons_of_mem _ hw)
  have hown : s.vm.findClass "java/lang/String" = some m.cls := findClass_of_methodNamed B.named
  have hlocks := B.notSynchronized
  have hS : va_S (fun _ => False) s.heap s.heap [] := va_S.rf
  have hfix : CallFix p m c prog_17_method_79_code 2 s _ wsT "java/lang/String" := ⟨hx, hb, hml, hown, hts⟩
  have hl := lv_entry [.ref (adK i), .int (Int32.ofInt x)] (n := 2) (by simp [lg_sl, Value.category])
  rw [lg_entry_eq]
  generalize (lg_sl [.ref (adK i), .int (Int32.ofInt x)] ++ List.replicate (2 - (lg_sl [.ref (adK i), .int (Int32.ofInt x)]).length) Slot.unset).toArray = ls at hl ⊢
  have hl : lv_has ls 2 [(0, .ref (adK i)), (1, .int (Int32.ofInt x))] := hl
  show W p l e (rmL 5) s m _ below meth c s.heap [] 0 0 _ (F0 m 0 ls [])
  refine lv_aload_n hx hb (show decode _ _ = .ok (.aload_n 0, 1) by decide +kernel) rfl (lv_at hl 0 rfl) ?_
  refine lv_iload_n hx hb (show decode _ _ = .ok (.iload_n 1, 1) by decide +kernel) rfl (lv_at hl 1 rfl) ?_
  refine lv_iconst (n := 0) (v := 0) hx hb (by decide +kernel) (by decide) ?_
  refine j_callV (i := i) (idx := 633) (d := 4) (wi1 := 661) (wi2 := 662) (wi3 := 82) (wi4 := 663) hfix (j_indexOf2 l adK adV hi hx2) hi rfl (List.mem_filter.mpr ⟨List.mem_of_getElem? jc_indexOf2, rfl⟩) (by decide +kernel) (by decide +kernel) (by decide +kernel) (by decide +kernel) jp_indexOf2 (by decide) ⟨by show _ ≤ _; decide, by show _ ≤ _; decide⟩ h0 hS hl.1 rfl (by simp [Value.category]) (by decide +kernel) ⟨Nat.zero_le _, Nat.zero_le _⟩ (fun H locs hS => ?_)
  exact W.iret hx hb hr (fun t ht hw => ⟨rfl, hS.F ht⟩) hS.2.2 (by decide +kernel)
set_option maxRecDepth 100000 in
theorem MJ_all (l : Launch) : MJ l := by
  intro adK adV i hi
  have e1 : biNm 5 = yj_charAt := rfl
  have e2 : wsJ 5 = wj_charAt := rfl
  have e3 : biNm 6 = yj_length := rfl
  have e4 : wsJ 6 = wj_length := rfl
  have e5 : biNm 7 = yj_indexOf := rfl
  have e6 : wsJ 7 = wj_indexOf := rfl
  have er : rmJ = rmL 5 := rfl
  refine ⟨fun k hk => ?_, ?_, fun x hx => ?_⟩
  · rw [e1, e2, er]
    exact j_charAt l adK adV hi hk
  · rw [e3, e4, er]
    exact j_length5 l adK adV hi
  · rw [e5, e6, er]
    exact j_indexOf l adK adV hi hx
