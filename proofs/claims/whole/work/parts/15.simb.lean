/-! a step of the numbers is a step of the machine: the frame, the stack -/
abbrev WP : Type := va_G × (Nat → ClassId) × (Nat → Prop) × Nat × Nat × Nat × (Nat → Nat) × Dat
def tysA (cA : Nat → ClassId) : List (ClassId × FieldType) := [(cA 20, .int), (cA 21, .boolean), (cA 22, .long), (cA 23, .object "DarkLand$Sheet"), (cA 24, .object "DarkLand$Land"), (cA 25, .array .int)]
/-- the world: from the frame's entry on its heap holds the numbers -/
def GW (w : WP) (s : State) (ρ : Nat → Nat) (H : Heap) (locs : List Loc) (sh : Shp) (d : Dat) : Prop :=
  (w.2.2.2.1 ≤ sh.length ∧ w.2.2.2.2.1 ≤ slS sh) ∧ (sh.take 10 = sh0 w.2.2.2.2.2.1 ∧ (∀ a, a < 10 → d a = w.2.2.2.2.2.2.2 a) ∧ (∀ a, a < w.2.2.2.1 → ρ a = w.2.2.2.2.2.2.1 a)) ∧ okSh sh ∧ okD sh d ∧ va_P w.1 vwCl (wl ρ w.2.1 sh d) H ∧ va_D w.2.2.1 (wl ρ w.2.1 sh d) ∧ va_S w.2.2.1 s.heap H locs
def FR (y : Nat) (ρ : Nat → Nat) (lsr : Array Slot) (ls st : List V) (sh : Shp) : Prop := okVs sh.length st ∧ okVs sh.length ls ∧ LV ρ (mxN y) lsr ls ∧ lgOK (lgOf y) ls
def PX (w : WP) (y : Nat) (p : Program) (l : Launch) (e : Env) (R : Room) (s : State) (m : MethodId) (args : Array Value) (below : List Frame) (meth : Method) (c : Code) (Q : State → Prop) : KK := fun pc ls st sh d =>
  ∀ (ρ : Nat → Nat) (H : Heap) (locs : List Loc) (lsr : Array Slot), GW w s ρ H locs sh d → FR y ρ lsr ls st sh → W p l e R s m args below meth c H locs (sh.length - w.2.2.2.1) (slS sh - w.2.2.2.2.1) Q (F0 m pc lsr (st.map (rV ρ)))
/-- what a frame has: its code, its tables' words -/
def CX (y : Nat) (p : Program) (s : State) (m : MethodId) (args : Array Value) (meth : Method) (c : Code) : Prop := p.tables.exec = Jvm.exec ∧ c.code = mCd y ∧ c.maxLocals = mxN y ∧ s.vm.findClass (clsName (mCl y)) = some m.cls ∧ (∀ w ∈ wsT, w.before args s = true) ∧ (mIni y = true → meth.name = "<init>") ∧ meth.sig.returnType = mRt y ∧ meth.locks = false
theorem okVs_cons {n : Nat} {v : V} {st : List V} : okVs n (v :: st) ↔ okV n v ∧ okVs n st := List.forall_mem_cons
theorem wr_in (x : Int) : in32 (wr x) := by
  unfold in32 wr
  omega
theorem wrl_in (x : Int) : in64 (wrl x) := by
  unfold in64 wrl
  omega
theorem wr_id {x : Int} (h : in32 x) : wr x = x := by
  unfold in32 at h
  unfold wr
  omega
theorem ofInt_wr (x : Int) : Int32.ofInt (wr x) = Int32.ofInt x := by
  rw [← Int32.toInt_inj, Int32.toInt_ofInt, Int32.toInt_ofInt]
  unfold wr
  have e : Int32.size = 4294967296 := rfl
  rw [e, Int.bmod_def, Int.bmod_def]
  omega
theorem ofInt_wrl (x : Int) : Int64.ofInt (wrl x) = Int64.ofInt x := by
  rw [← Int64.toInt_inj, Int64.toInt_ofInt, Int64.toInt_ofInt]
  unfold wrl
  have e : Int64.size = 18446744073709551616 := rfl
  rw [e, Int.bmod_def, Int.bmod_def]
  omega
theorem toI32 {x : Int} (h : in32 x) : (Int32.ofInt x).toInt = x := by
  unfold in32 at h
  rw [Int32.toInt_ofInt]
  have e : Int32.size = 4294967296 := rfl
  rw [e, Int.bmod_def]
  omega
theorem toI64 {x : Int} (h : in64 x) : (Int64.ofInt x).toInt = x := by
  unfold in64 at h
  rw [Int64.toInt_ofInt]
  have e : Int64.size = 18446744073709551616 := rfl
  rw [e, Int.bmod_def]
  omega
theorem in_toInt (x : Int32) : in32 x.toInt := ⟨Int32.le_toInt x, by have := Int32.toInt_lt x; omega⟩
theorem in_toInt64 (x : Int64) : in64 x.toInt := ⟨Int64.le_toInt x, by have := Int64.toInt_lt x; omega⟩
theorem i32_le {a b : Int} (ha : in32 a) (hb : in32 b) : Int32.ofInt a ≤ Int32.ofInt b ↔ a ≤ b := by rw [Int32.le_iff_toInt_le, toI32 ha, toI32 hb]
theorem i32_lt {a b : Int} (ha : in32 a) (hb : in32 b) : Int32.ofInt a < Int32.ofInt b ↔ a < b := by rw [Int32.lt_iff_toInt_lt, toI32 ha, toI32 hb]
theorem i32_eq {a b : Int} (ha : in32 a) (hb : in32 b) : Int32.ofInt a = Int32.ofInt b ↔ a = b := by rw [← Int32.toInt_inj, toI32 ha, toI32 hb]
theorem in0 : in32 0 := ⟨by decide, by decide⟩
section SB
variable {w : WP} {y : Nat} {p : Program} {l : Launch} {e : Env} {R : Room} {s : State} {m : MethodId} {args : Array Value} {below : List Frame} {meth : Method} {c : Code} {Q : State → Prop} {pc : Nat} {ls st : List V} {sh : Shp} {d : Dat}
theorem FR.push {ρ : Nat → Nat} {lsr : Array Slot} {st2 : List V} {v : V} (h : FR y ρ lsr ls st2 sh) (hv : okV sh.length v) (hs : okVs sh.length st) : FR y ρ lsr ls (v :: st) sh := ⟨okVs_cons.mpr ⟨hv, hs⟩, h.2⟩
theorem FR.stk {ρ : Nat → Nat} {lsr : Array Slot} {st2 : List V} (h : FR y ρ lsr ls st2 sh) (hs : okVs sh.length st) : FR y ρ lsr ls st sh := ⟨hs, h.2⟩
theorem x_iadd {a b : Int} (X : CX y p s m args meth c) (hd : decode (mCd y) pc = .ok (.iadd, 1)) (K : PX w y p l e R s m args below meth c Q (pc + 1) ls (.inl (wr (a + b)) :: st) sh d) : PX w y p l e R s m args below meth c Q pc ls (.inl b :: .inl a :: st) sh d := by
  intro ρ H locs lsr hG hF
  have h0 := hF.1
  simp only [okVs_cons] at h0
  refine lv_iadd X.1 X.2.1 hd ?_
  have h := K ρ H locs lsr hG (hF.push (wr_in _) h0.2.2)
  rwa [List.map_cons, rV, ofInt_wr, Int32.ofInt_add] at h
theorem x_isub {a b : Int} (X : CX y p s m args meth c) (hd : decode (mCd y) pc = .ok (.isub, 1)) (K : PX w y p l e R s m args below meth c Q (pc + 1) ls (.inl (wr (a - b)) :: st) sh d) : PX w y p l e R s m args below meth c Q pc ls (.inl b :: .inl a :: st) sh d := by
  intro ρ H locs lsr hG hF
  have h0 := hF.1
  simp only [okVs_cons] at h0
  refine lv_isub X.1 X.2.1 hd ?_
  have h := K ρ H locs lsr hG (hF.push (wr_in _) h0.2.2)
  rwa [List.map_cons, rV, ofInt_wr, Int32.ofInt_sub] at h
theorem x_imul {a b : Int} (X : CX y p s m args meth c) (hd : decode (mCd y) pc = .ok (.imul, 1)) (K : PX w y p l e R s m args below meth c Q (pc + 1) ls (.inl (wr (a * b)) :: st) sh d) : PX w y p l e R s m args below meth c Q pc ls (.inl b :: .inl a :: st) sh d := by
  intro ρ H locs lsr hG hF
  have h0 := hF.1
  simp only [okVs_cons] at h0
  refine lv_imul X.1 X.2.1 hd ?_
  have h := K ρ H locs lsr hG (hF.push (wr_in _) h0.2.2)
  rwa [List.map_cons, rV, ofInt_wr, Int32.ofInt_mul] at h
theorem ofInt_tdiv32 {a b : Int} (ha : in32 a) (hb : in32 b) : Int32.ofInt (Int.tdiv a b) = Int32.ofInt a / Int32.ofInt b := by
  rw [← Int32.toInt_inj, Int32.toInt_div, toI32 ha, toI32 hb, Int32.toInt_ofInt]
theorem tmod_abs (a b : Int) : (Int.tmod a b).natAbs ≤ a.natAbs := by
  rw [Int.natAbs_tmod]
  exact Nat.mod_le _ _
theorem ofInt_tmod32 {a b : Int} (ha : in32 a) (hb : in32 b) : Int32.ofInt (Int.tmod a b) = Int32.ofInt a - Int32.ofInt a / Int32.ofInt b * Int32.ofInt b := by
  rw [Int.tmod_def, Int32.ofInt_sub, Int32.ofInt_mul, ofInt_tdiv32 ha hb, Int32.mul_comm]
theorem tmod_in32 {a b : Int} (ha : in32 a) : in32 (Int.tmod a b) := by
  have h1 := tmod_abs a b
  unfold in32 at ha ⊢
  rcases Int.lt_or_le a 0 with z | z
  · have h2 := Int.tmod_nonneg b (show 0 ≤ -a by omega)
    rw [Int.neg_tmod] at h2
    omega
  · have := Int.tmod_nonneg b z
    omega
theorem x_idiv {a b : Int} (hb0 : b ≠ 0) (X : CX y p s m args meth c) (hd : decode (mCd y) pc = .ok (.idiv, 1)) (K : PX w y p l e R s m args below meth c Q (pc + 1) ls (.inl (wr (Int.tdiv a b)) :: st) sh d) : PX w y p l e R s m args below meth c Q pc ls (.inl b :: .inl a :: st) sh d := by
  intro ρ H locs lsr hG hF
  have h0 := hF.1
  simp only [okVs_cons] at h0
  have ha : in32 a := h0.2.1
  have hb : in32 b := h0.1
  refine lv_idiv X.1 X.2.1 hd (fun q => hb0 ((i32_eq hb in0).mp q)) ?_
  have h := K ρ H locs lsr hG (hF.push (wr_in _) h0.2.2)
  rwa [List.map_cons, rV, ofInt_wr, ofInt_tdiv32 ha hb] at h
theorem x_irem {a b : Int} (hb0 : b ≠ 0) (X : CX y p s m args meth c) (hd : decode (mCd y) pc = .ok (.irem, 1)) (K : PX w y p l e R s m args below meth c Q (pc + 1) ls (.inl (Int.tmod a b) :: st) sh d) : PX w y p l e R s m args below meth c Q pc ls (.inl b :: .inl a :: st) sh d := by
  intro ρ H locs lsr hG hF
  have h0 := hF.1
  simp only [okVs_cons] at h0
  have ha : in32 a := h0.2.1
  have hb : in32 b := h0.1
  refine lv_irem X.1 X.2.1 hd (fun q => hb0 ((i32_eq hb in0).mp q)) ?_
  have h := K ρ H locs lsr hG (hF.push (tmod_in32 ha) h0.2.2)
  rwa [List.map_cons, rV, ofInt_tmod32 ha hb] at h
theorem x_ineg {a : Int} (X : CX y p s m args meth c) (hd : decode (mCd y) pc = .ok (.ineg, 1)) (K : PX w y p l e R s m args below meth c Q (pc + 1) ls (.inl (wr (0 - a)) :: st) sh d) : PX w y p l e R s m args below meth c Q pc ls (.inl a :: st) sh d := by
  intro ρ H locs lsr hG hF
  have h0 := hF.1
  simp only [okVs_cons] at h0
  refine lv_ineg X.1 X.2.1 hd ?_
  have h := K ρ H locs lsr hG (hF.push (wr_in _) h0.2)
  rwa [List.map_cons, rV, ofInt_wr, Int32.ofInt_sub] at h
theorem x_iand {a b : Int} (X : CX y p s m args meth c) (hd : decode (mCd y) pc = .ok (.iand, 1)) (K : PX w y p l e R s m args below meth c Q (pc + 1) ls (.inl (Int32.ofInt a &&& Int32.ofInt b).toInt :: st) sh d) : PX w y p l e R s m args below meth c Q pc ls (.inl b :: .inl a :: st) sh d := by
  intro ρ H locs lsr hG hF
  have h0 := hF.1
  simp only [okVs_cons] at h0
  refine lv_iand X.1 X.2.1 hd ?_
  have h := K ρ H locs lsr hG (hF.push (in_toInt _) h0.2.2)
  rwa [List.map_cons, rV, Int32.ofInt_toInt] at h
theorem x_ior {a b : Int} (X : CX y p s m args meth c) (hd : decode (mCd y) pc = .ok (.ior, 1)) (K : PX w y p l e R s m args below meth c Q (pc + 1) ls (.inl (Int32.ofInt a ||| Int32.ofInt b).toInt :: st) sh d) : PX w y p l e R s m args below meth c Q pc ls (.inl b :: .inl a :: st) sh d := by
  intro ρ H locs lsr hG hF
  have h0 := hF.1
  simp only [okVs_cons] at h0
  refine lv_ior X.1 X.2.1 hd ?_
  have h := K ρ H locs lsr hG (hF.push (in_toInt _) h0.2.2)
  rwa [List.map_cons, rV, Int32.ofInt_toInt] at h
theorem x_ishl {a b : Int} (X : CX y p s m args meth c) (hd : decode (mCd y) pc = .ok (.ishl, 1)) (K : PX w y p l e R s m args below meth c Q (pc + 1) ls (.inl (Int32.ofInt a <<< (Int32.ofInt b &&& 31)).toInt :: st) sh d) : PX w y p l e R s m args below meth c Q pc ls (.inl b :: .inl a :: st) sh d := by
  intro ρ H locs lsr hG hF
  have h0 := hF.1
  simp only [okVs_cons] at h0
  refine lv_ishl X.1 X.2.1 hd ?_
  have h := K ρ H locs lsr hG (hF.push (in_toInt _) h0.2.2)
  rwa [List.map_cons, rV, Int32.ofInt_toInt] at h
theorem x_ishr {a b : Int} (X : CX y p s m args meth c) (hd : decode (mCd y) pc = .ok (.ishr, 1)) (K : PX w y p l e R s m args below meth c Q (pc + 1) ls (.inl (Int32.ofInt a >>> (Int32.ofInt b &&& 31)).toInt :: st) sh d) : PX w y p l e R s m args below meth c Q pc ls (.inl b :: .inl a :: st) sh d := by
  intro ρ H locs lsr hG hF
  have h0 := hF.1
  simp only [okVs_cons] at h0
  refine lv_ishr X.1 X.2.1 hd ?_
  have h := K ρ H locs lsr hG (hF.push (in_toInt _) h0.2.2)
  rwa [List.map_cons, rV, Int32.ofInt_toInt] at h
theorem x_ladd {a b : Int} (X : CX y p s m args meth c) (hd : decode (mCd y) pc = .ok (.ladd, 1)) (K : PX w y p l e R s m args below meth c Q (pc + 1) ls (vL (wrl (a + b)) :: st) sh d) : PX w y p l e R s m args below meth c Q pc ls (vL b :: vL a :: st) sh d := by
  intro ρ H locs lsr hG hF
  have h0 := hF.1
  simp only [okVs_cons] at h0
  refine lv_ladd X.1 X.2.1 hd ?_
  have h := K ρ H locs lsr hG (hF.push (wrl_in _) h0.2.2)
  rwa [List.map_cons, rV, ofInt_wrl, Int64.ofInt_add] at h
theorem x_land {a b : Int} (X : CX y p s m args meth c) (hd : decode (mCd y) pc = .ok (.land, 1)) (K : PX w y p l e R s m args below meth c Q (pc + 1) ls (vL (Int64.ofInt a &&& Int64.ofInt b).toInt :: st) sh d) : PX w y p l e R s m args below meth c Q pc ls (vL b :: vL a :: st) sh d := by
  intro ρ H locs lsr hG hF
  have h0 := hF.1
  simp only [okVs_cons] at h0
  refine lv_land X.1 X.2.1 hd ?_
  have h := K ρ H locs lsr hG (hF.push (in_toInt64 _) h0.2.2)
  rwa [List.map_cons, rV, Int64.ofInt_toInt] at h
theorem x_lor {a b : Int} (X : CX y p s m args meth c) (hd : decode (mCd y) pc = .ok (.lor, 1)) (K : PX w y p l e R s m args below meth c Q (pc + 1) ls (vL (Int64.ofInt a ||| Int64.ofInt b).toInt :: st) sh d) : PX w y p l e R s m args below meth c Q pc ls (vL b :: vL a :: st) sh d := by
  intro ρ H locs lsr hG hF
  have h0 := hF.1
  simp only [okVs_cons] at h0
  refine lv_lor X.1 X.2.1 hd ?_
  have h := K ρ H locs lsr hG (hF.push (in_toInt64 _) h0.2.2)
  rwa [List.map_cons, rV, Int64.ofInt_toInt] at h
theorem x_lshl {a b : Int} (X : CX y p s m args meth c) (hd : decode (mCd y) pc = .ok (.lshl, 1)) (K : PX w y p l e R s m args below meth c Q (pc + 1) ls (vL (Int64.ofInt a <<< ((Int32.ofInt b).toInt64 &&& 63)).toInt :: st) sh d) : PX w y p l e R s m args below meth c Q pc ls (.inl b :: vL a :: st) sh d := by
  intro ρ H locs lsr hG hF
  have h0 := hF.1
  simp only [okVs_cons] at h0
  refine lv_lshl X.1 X.2.1 hd rfl ?_
  have h := K ρ H locs lsr hG (hF.push (in_toInt64 _) h0.2.2)
  rwa [List.map_cons, rV, Int64.ofInt_toInt] at h
theorem x_lshr {a b : Int} (X : CX y p s m args meth c) (hd : decode (mCd y) pc = .ok (.lshr, 1)) (K : PX w y p l e R s m args below meth c Q (pc + 1) ls (vL (Int64.ofInt a >>> ((Int32.ofInt b).toInt64 &&& 63)).toInt :: st) sh d) : PX w y p l e R s m args below meth c Q pc ls (.inl b :: vL a :: st) sh d := by
  intro ρ H locs lsr hG hF
  have h0 := hF.1
  simp only [okVs_cons] at h0
  refine lv_lshr X.1 X.2.1 hd rfl ?_
  have h := K ρ H locs lsr hG (hF.push (in_toInt64 _) h0.2.2)
  rwa [List.map_cons, rV, Int64.ofInt_toInt] at h
theorem x_lushr {a b : Int} (X : CX y p s m args meth c) (hd : decode (mCd y) pc = .ok (.lushr, 1)) (K : PX w y p l e R s m args below meth c Q (pc + 1) ls (vL (((Int64.ofInt a).toUInt64 >>> ((Int32.ofInt b).toInt64.toUInt64 &&& Int64.toUInt64 63)).toInt64).toInt :: st) sh d) : PX w y p l e R s m args below meth c Q pc ls (.inl b :: vL a :: st) sh d := by
  intro ρ H locs lsr hG hF
  have h0 := hF.1
  simp only [okVs_cons] at h0
  refine lv_lushr X.1 X.2.1 hd rfl ?_
  have h := K ρ H locs lsr hG (hF.push (in_toInt64 _) h0.2.2)
  rwa [List.map_cons, rV, Int64.ofInt_toInt] at h
theorem x_lcmp {a b : Int} (X : CX y p s m args meth c) (hd : decode (mCd y) pc = .ok (.lcmp, 1)) (K : PX w y p l e R s m args below meth c Q (pc + 1) ls (.inl (lg_c a b) :: st) sh d) : PX w y p l e R s m args below meth c Q pc ls (vL b :: vL a :: st) sh d := by
  intro ρ H locs lsr hG hF
  have h0 := hF.1
  simp only [okVs_cons] at h0
  have ha : in64 a := h0.2.1
  have hb : in64 b := h0.1
  refine W.lcmp X.1 X.2.1 hd ?_
  have e : lg_cmp (Int64.ofInt a) (Int64.ofInt b) = Int32.ofInt (lg_c a b) := by
    unfold lg_cmp lg_c
    simp only [← Int64.toInt_inj, Int64.lt_iff_toInt_lt, toI64 ha, toI64 hb]
    repeat' split
    all_goals first | rfl | (exfalso; omega)
  have h := K ρ H locs lsr hG (hF.push (by unfold lg_c; split; exact in0; split <;> exact ⟨by decide, by decide⟩) h0.2.2)
  rw [e]
  exact h
theorem x_i2l {a : Int} (X : CX y p s m args meth c) (hd : decode (mCd y) pc = .ok (.i2l, 1)) (K : PX w y p l e R s m args below meth c Q (pc + 1) ls (vL a :: st) sh d) : PX w y p l e R s m args below meth c Q pc ls (.inl a :: st) sh d := by
  intro ρ H locs lsr hG hF
  have h0 := hF.1
  simp only [okVs_cons] at h0
  have ha : in32 a := h0.1
  refine lv_i2l X.1 X.2.1 hd (v := Int64.ofInt a) (by rw [← Int64.toInt_inj, Int32.toInt_toInt64, toI32 ha, toI64 (by unfold in32 at ha; unfold in64; omega)]) ?_
  exact K ρ H locs lsr hG (hF.push (by unfold in32 at ha; show in64 a; unfold in64; omega) h0.2)
theorem x_l2i {a : Int} (X : CX y p s m args meth c) (hd : decode (mCd y) pc = .ok (.l2i, 1)) (K : PX w y p l e R s m args below meth c Q (pc + 1) ls (.inl (wr a) :: st) sh d) : PX w y p l e R s m args below meth c Q pc ls (vL a :: st) sh d := by
  intro ρ H locs lsr hG hF
  have h0 := hF.1
  simp only [okVs_cons] at h0
  have ha : in64 a := h0.1
  refine lv_l2i X.1 X.2.1 hd (v := Int32.ofInt (wr a)) (by
    rw [ofInt_wr, ← Int32.toInt_inj, Int64.toInt_toInt32, toI64 ha, Int32.toInt_ofInt]) ?_
  exact K ρ H locs lsr hG (hF.push (wr_in _) h0.2)
theorem x_i2b {a : Int} (X : CX y p s m args meth c) (hd : decode (mCd y) pc = .ok (.i2b, 1)) (K : PX w y p l e R s m args below meth c Q (pc + 1) ls (.inl ((a + 128) % 256 - 128) :: st) sh d) : PX w y p l e R s m args below meth c Q pc ls (.inl a :: st) sh d := by
  intro ρ H locs lsr hG hF
  have h0 := hF.1
  simp only [okVs_cons] at h0
  have ha : in32 a := h0.1
  have hr : in32 ((a + 128) % 256 - 128) := by unfold in32; omega
  refine lv_i2b X.1 X.2.1 hd (v := Int32.ofInt ((a + 128) % 256 - 128)) (by
    rw [← Int32.toInt_inj, Int8.toInt_toInt32, Int32.toInt_toInt8, toI32 ha, toI32 hr, Int.bmod_def]
    omega) ?_
  exact K ρ H locs lsr hG (hF.push hr h0.2)
theorem x_i2s {a : Int} (X : CX y p s m args meth c) (hd : decode (mCd y) pc = .ok (.i2s, 1)) (K : PX w y p l e R s m args below meth c Q (pc + 1) ls (.inl ((a + 32768) % 65536 - 32768) :: st) sh d) : PX w y p l e R s m args below meth c Q pc ls (.inl a :: st) sh d := by
  intro ρ H locs lsr hG hF
  have h0 := hF.1
  simp only [okVs_cons] at h0
  have ha : in32 a := h0.1
  have hr : in32 ((a + 32768) % 65536 - 32768) := by unfold in32; omega
  refine lv_i2s X.1 X.2.1 hd (v := Int32.ofInt ((a + 32768) % 65536 - 32768)) (by
    rw [← Int32.toInt_inj, Int16.toInt_toInt32, Int32.toInt_toInt16, toI32 ha, toI32 hr, Int.bmod_def]
    omega) ?_
  exact K ρ H locs lsr hG (hF.push hr h0.2)
theorem i2c_eq {a : Int} (ha : in32 a) (hr : in32 (a % 65536)) : ((Int32.ofInt a).toUInt32 % 65536).toInt32 = Int32.ofInt (a % 65536) := by
  have h : ∀ z : Int, (Int32.ofInt z).toUInt32.toNat = (z % 4294967296).toNat := fun z => by
    show (BitVec.ofInt 32 z).toNat = _
    rw [BitVec.toNat_ofInt]
    rfl
  have e : (Int32.ofInt a).toUInt32 % 65536 = (Int32.ofInt (a % 65536)).toUInt32 := by
    rw [← UInt32.toNat_inj, UInt32.toNat_mod, h, h]
    have e : UInt32.toNat 65536 = 65536 := rfl
    rw [e]
    omega
  rw [e, Int32.toInt32_toUInt32]
theorem x_i2c {a : Int} (X : CX y p s m args meth c) (hd : decode (mCd y) pc = .ok (.i2c, 1)) (K : PX w y p l e R s m args below meth c Q (pc + 1) ls (.inl (a % 65536) :: st) sh d) : PX w y p l e R s m args below meth c Q pc ls (.inl a :: st) sh d := by
  intro ρ H locs lsr hG hF
  have h0 := hF.1
  simp only [okVs_cons] at h0
  have ha : in32 a := h0.1
  have hr : in32 (a % 65536) := by unfold in32; omega
  refine lv_i2c X.1 X.2.1 hd (v := Int32.ofInt (a % 65536)) (i2c_eq ha hr) ?_
  exact K ρ H locs lsr hG (hF.push hr h0.2)
theorem x_iconst {n : Int} (hn : in32 n) {L : Nat} {ins : Ins} (X : CX y p s m args meth c) (hd : decode (mCd y) pc = .ok (ins, L)) (hw : ∀ (H : Heap) (locs : List Loc) (cells slots : Nat) (lsr : Array Slot) (rest : List Value), W p l e R s m args below meth c H locs cells slots Q (F0 m (pc + L) lsr (.int (Int32.ofInt n) :: rest)) → W p l e R s m args below meth c H locs cells slots Q (F0 m pc lsr rest)) (K : PX w y p l e R s m args below meth c Q (pc + L) ls (.inl n :: st) sh d) : PX w y p l e R s m args below meth c Q pc ls st sh d := by
  intro ρ H locs lsr hG hF
  exact hw _ _ _ _ _ _ (K ρ H locs lsr hG (hF.push hn hF.1))
theorem x_lconst {n : Int} (hn : in64 n) {L : Nat} {ins : Ins} (X : CX y p s m args meth c) (hd : decode (mCd y) pc = .ok (ins, L)) (hw : ∀ (H : Heap) (locs : List Loc) (cells slots : Nat) (lsr : Array Slot) (rest : List Value), W p l e R s m args below meth c H locs cells slots Q (F0 m (pc + L) lsr (.long (Int64.ofInt n) :: rest)) → W p l e R s m args below meth c H locs cells slots Q (F0 m pc lsr rest)) (K : PX w y p l e R s m args below meth c Q (pc + L) ls (vL n :: st) sh d) : PX w y p l e R s m args below meth c Q pc ls st sh d := by
  intro ρ H locs lsr hG hF
  exact hw _ _ _ _ _ _ (K ρ H locs lsr hG (hF.push hn hF.1))
theorem x_dup_r {i : Int} {a : Nat} (X : CX y p s m args meth c) (hd : decode (mCd y) pc = .ok (.dup, 1)) (K : PX w y p l e R s m args below meth c Q (pc + 1) ls (vR a :: vR a :: st) sh d) : PX w y p l e R s m args below meth c Q pc ls (vR a :: st) sh d := by
  intro ρ H locs lsr hG hF
  have h0 := hF.1
  simp only [okVs_cons] at h0
  refine lv_dup X.1 X.2.1 hd (rV_cat (v := vR a)) ?_
  exact K ρ H locs lsr hG (hF.stk (okVs_cons.mpr ⟨h0.1, okVs_cons.mpr ⟨h0.1, h0.2⟩⟩))
theorem x_dup_i {i : Int} {a : Nat} (X : CX y p s m args meth c) (hd : decode (mCd y) pc = .ok (.dup, 1)) (K : PX w y p l e R s m args below meth c Q (pc + 1) ls (.inl i :: .inl i :: st) sh d) : PX w y p l e R s m args below meth c Q pc ls (.inl i :: st) sh d := by
  intro ρ H locs lsr hG hF
  have h0 := hF.1
  simp only [okVs_cons] at h0
  refine lv_dup X.1 X.2.1 hd rfl ?_
  exact K ρ H locs lsr hG (hF.stk (okVs_cons.mpr ⟨h0.1, okVs_cons.mpr ⟨h0.1, h0.2⟩⟩))
theorem x_dup2 {i : Int} {a : Nat} (X : CX y p s m args meth c) (hd : decode (mCd y) pc = .ok (.dup2, 1)) (K : PX w y p l e R s m args below meth c Q (pc + 1) ls (.inl i :: vR a :: .inl i :: vR a :: st) sh d) : PX w y p l e R s m args below meth c Q pc ls (.inl i :: vR a :: st) sh d := by
  intro ρ H locs lsr hG hF
  have h0 := hF.1
  simp only [okVs_cons] at h0
  refine lv_dup2_11 X.1 X.2.1 hd (rV_cat (v := vI i)) (rV_cat (v := vR a)) ?_
  exact K ρ H locs lsr hG (hF.stk (okVs_cons.mpr ⟨h0.1, okVs_cons.mpr ⟨h0.2.1, okVs_cons.mpr ⟨h0.1, okVs_cons.mpr ⟨h0.2.1, h0.2.2⟩⟩⟩⟩))
theorem x_dup_x1 {i : Int} {a : Nat} (X : CX y p s m args meth c) (hd : decode (mCd y) pc = .ok (.dup_x1, 1)) (K : PX w y p l e R s m args below meth c Q (pc + 1) ls (.inl i :: vR a :: .inl i :: st) sh d) : PX w y p l e R s m args below meth c Q pc ls (.inl i :: vR a :: st) sh d := by
  intro ρ H locs lsr hG hF
  have h0 := hF.1
  simp only [okVs_cons] at h0
  refine lv_dup_x1 X.1 X.2.1 hd (rV_cat (v := vI i)) (rV_cat (v := vR a)) ?_
  exact K ρ H locs lsr hG (hF.stk (okVs_cons.mpr ⟨h0.1, okVs_cons.mpr ⟨h0.2.1, okVs_cons.mpr ⟨h0.1, h0.2.2⟩⟩⟩))
theorem x_pop_i {i : Int} {a : Nat} (X : CX y p s m args meth c) (hd : decode (mCd y) pc = .ok (.pop, 1)) (K : PX w y p l e R s m args below meth c Q (pc + 1) ls (st) sh d) : PX w y p l e R s m args below meth c Q pc ls (.inl i :: st) sh d := by
  intro ρ H locs lsr hG hF
  have h0 := hF.1
  simp only [okVs_cons] at h0
  refine lv_pop X.1 X.2.1 hd rfl ?_
  exact K ρ H locs lsr hG (hF.stk (h0.2))
theorem x_pop_r {i : Int} {a : Nat} (X : CX y p s m args meth c) (hd : decode (mCd y) pc = .ok (.pop, 1)) (K : PX w y p l e R s m args below meth c Q (pc + 1) ls (st) sh d) : PX w y p l e R s m args below meth c Q pc ls (vR a :: st) sh d := by
  intro ρ H locs lsr hG hF
  have h0 := hF.1
  simp only [okVs_cons] at h0
  refine lv_pop X.1 X.2.1 hd (rV_cat (v := vR a)) ?_
  exact K ρ H locs lsr hG (hF.stk (h0.2))
theorem x_iload_n {i : Nat} {x : Int} {k : Fin 4} (hk : (k : Nat) = i) (hl : ls[i]? = some (.inl x)) (X : CX y p s m args meth c) (hd : decode (mCd y) pc = .ok (.iload_n k, 1)) (K : PX w y p l e R s m args below meth c Q (pc + 1) ls (.inl x :: st) sh d) : PX w y p l e R s m args below meth c Q pc ls st sh d := by
  intro ρ H locs lsr hG hF
  refine lv_iload_n X.1 X.2.1 hd hk (hF.2.2.1.at hl (by simp)) ?_
  exact K ρ H locs lsr hG (hF.push (hF.2.1 _ (List.mem_of_getElem? hl)) hF.1)
theorem x_iload {i : Nat} {x : Int} {k : Fin 4} (hl : ls[i]? = some (.inl x)) (X : CX y p s m args meth c) (hd : decode (mCd y) pc = .ok (.iload i, 2)) (K : PX w y p l e R s m args below meth c Q (pc + 2) ls (.inl x :: st) sh d) : PX w y p l e R s m args below meth c Q pc ls st sh d := by
  intro ρ H locs lsr hG hF
  refine lv_iload X.1 X.2.1 hd (hF.2.2.1.at hl (by simp)) ?_
  exact K ρ H locs lsr hG (hF.push (hF.2.1 _ (List.mem_of_getElem? hl)) hF.1)
theorem x_lload_n {i : Nat} {x : Int} {k : Fin 4} (hk : (k : Nat) = i) (hl : ls[i]? = some (vL x)) (X : CX y p s m args meth c) (hd : decode (mCd y) pc = .ok (.lload_n k, 1)) (K : PX w y p l e R s m args below meth c Q (pc + 1) ls (vL x :: st) sh d) : PX w y p l e R s m args below meth c Q pc ls st sh d := by
  intro ρ H locs lsr hG hF
  refine lv_lload_n X.1 X.2.1 hd hk (hF.2.2.1.at hl (by simp)) ?_
  exact K ρ H locs lsr hG (hF.push (hF.2.1 _ (List.mem_of_getElem? hl)) hF.1)
theorem x_lload {i : Nat} {x : Int} {k : Fin 4} (hl : ls[i]? = some (vL x)) (X : CX y p s m args meth c) (hd : decode (mCd y) pc = .ok (.lload i, 2)) (K : PX w y p l e R s m args below meth c Q (pc + 2) ls (vL x :: st) sh d) : PX w y p l e R s m args below meth c Q pc ls st sh d := by
  intro ρ H locs lsr hG hF
  refine lv_lload X.1 X.2.1 hd (hF.2.2.1.at hl (by simp)) ?_
  exact K ρ H locs lsr hG (hF.push (hF.2.1 _ (List.mem_of_getElem? hl)) hF.1)
theorem x_aload_n {i : Nat} {x : Nat} {k : Fin 4} (hk : (k : Nat) = i) (hl : ls[i]? = some (vR x)) (X : CX y p s m args meth c) (hd : decode (mCd y) pc = .ok (.aload_n k, 1)) (K : PX w y p l e R s m args below meth c Q (pc + 1) ls (vR x :: st) sh d) : PX w y p l e R s m args below meth c Q pc ls st sh d := by
  intro ρ H locs lsr hG hF
  have h1 := hF.2.2.1.at hl (by simp)
  have h2 := K ρ H locs lsr hG (hF.push (hF.2.1 _ (List.mem_of_getElem? hl)) hF.1)
  simp only [List.map_cons, rV, adV] at h1 h2
  split at h1
  · rename_i z
    rw [if_pos z] at h2
    exact lv_aload_nN X.1 X.2.1 hd hk h1 h2
  · rename_i z
    rw [if_neg z] at h2
    exact lv_aload_n X.1 X.2.1 hd hk h1 h2
theorem x_aload {i : Nat} {x : Nat} {k : Fin 4} (hl : ls[i]? = some (vR x)) (X : CX y p s m args meth c) (hd : decode (mCd y) pc = .ok (.aload i, 2)) (K : PX w y p l e R s m args below meth c Q (pc + 2) ls (vR x :: st) sh d) : PX w y p l e R s m args below meth c Q pc ls st sh d := by
  intro ρ H locs lsr hG hF
  have h1 := hF.2.2.1.at hl (by simp)
  have h2 := K ρ H locs lsr hG (hF.push (hF.2.1 _ (List.mem_of_getElem? hl)) hF.1)
  simp only [List.map_cons, rV, adV] at h1 h2
  split at h1
  · rename_i z
    rw [if_pos z] at h2
    exact lv_aloadN X.1 X.2.1 hd h1 h2
  · rename_i z
    rw [if_neg z] at h2
    exact lv_aload X.1 X.2.1 hd h1 h2
theorem x_istore_n {i : Nat} {x : Int} {k : Fin 4} (hk : (k : Nat) = i) (hi : i < mxN y) (X : CX y p s m args meth c) (hd : decode (mCd y) pc = .ok (.istore_n k, 1)) (K : PX w y p l e R s m args below meth c Q (pc + 1) (stL (lgOf y) ls i (.inl x)) st sh d) : PX w y p l e R s m args below meth c Q pc ls (.inl x :: st) sh d := by
  intro ρ H locs lsr hG hF
  have h0 := hF.1
  simp only [okVs_cons] at h0
  refine lv_istore_n X.1 X.2.1 hd hk hF.2.2.1.2 hi rfl (fun lsr' hl' => ?_)
  obtain ⟨q1, q2⟩ := hF.2.2.1.st1 (v := .inl x) hF.2.2.2 rfl hi hl'
  exact K ρ H locs lsr' hG ⟨h0.2, hF.2.1.st h0.1, q1, q2⟩
theorem x_istore {i : Nat} {x : Int} {k : Fin 4} (hi : i < mxN y) (X : CX y p s m args meth c) (hd : decode (mCd y) pc = .ok (.istore i, 2)) (K : PX w y p l e R s m args below meth c Q (pc + 2) (stL (lgOf y) ls i (.inl x)) st sh d) : PX w y p l e R s m args below meth c Q pc ls (.inl x :: st) sh d := by
  intro ρ H locs lsr hG hF
  have h0 := hF.1
  simp only [okVs_cons] at h0
  refine lv_istore X.1 X.2.1 hd hF.2.2.1.2 hi rfl (fun lsr' hl' => ?_)
  obtain ⟨q1, q2⟩ := hF.2.2.1.st1 (v := .inl x) hF.2.2.2 rfl hi hl'
  exact K ρ H locs lsr' hG ⟨h0.2, hF.2.1.st h0.1, q1, q2⟩
theorem x_astore_n {i : Nat} {x : Nat} {k : Fin 4} (hk : (k : Nat) = i) (hi : i < mxN y) (X : CX y p s m args meth c) (hd : decode (mCd y) pc = .ok (.astore_n k, 1)) (K : PX w y p l e R s m args below meth c Q (pc + 1) (stL (lgOf y) ls i (vR x)) st sh d) : PX w y p l e R s m args below meth c Q pc ls (vR x :: st) sh d := by
  intro ρ H locs lsr hG hF
  have h0 := hF.1
  simp only [okVs_cons] at h0
  have key : ∀ lsr' : Array Slot, lv_has lsr' (mxN y) ((i, rV ρ (vR x)) :: (lvl ρ ls).filter (fun q => !(q.1 == i) && !(q.1 + 1 == i && q.2.category == 2))) → W p l e R s m args below meth c H locs (sh.length - w.2.2.2.1) (slS sh - w.2.2.2.2.1) Q (F0 m (pc + 1) lsr' (st.map (rV ρ))) := by
    intro lsr' hl'
    obtain ⟨q1, q2⟩ := hF.2.2.1.st1 (v := vR x) hF.2.2.2 rfl hi hl'
    exact K ρ H locs lsr' hG ⟨h0.2, hF.2.1.st h0.1, q1, q2⟩
  simp only [List.map_cons, rV, adV] at key ⊢
  split at key
  · rename_i z
    rw [if_pos z]
    exact lv_astore_nN X.1 X.2.1 hd hk hF.2.2.1.2 hi rfl key
  · rename_i z
    rw [if_neg z]
    exact lv_astore_n X.1 X.2.1 hd hk hF.2.2.1.2 hi rfl key
theorem x_astore {i : Nat} {x : Nat} {k : Fin 4} (hi : i < mxN y) (X : CX y p s m args meth c) (hd : decode (mCd y) pc = .ok (.astore i, 2)) (K : PX w y p l e R s m args below meth c Q (pc + 2) (stL (lgOf y) ls i (vR x)) st sh d) : PX w y p l e R s m args below meth c Q pc ls (vR x :: st) sh d := by
  intro ρ H locs lsr hG hF
  have h0 := hF.1
  simp only [okVs_cons] at h0
  have key : ∀ lsr' : Array Slot, lv_has lsr' (mxN y) ((i, rV ρ (vR x)) :: (lvl ρ ls).filter (fun q => !(q.1 == i) && !(q.1 + 1 == i && q.2.category == 2))) → W p l e R s m args below meth c H locs (sh.length - w.2.2.2.1) (slS sh - w.2.2.2.2.1) Q (F0 m (pc + 2) lsr' (st.map (rV ρ))) := by
    intro lsr' hl'
    obtain ⟨q1, q2⟩ := hF.2.2.1.st1 (v := vR x) hF.2.2.2 rfl hi hl'
    exact K ρ H locs lsr' hG ⟨h0.2, hF.2.1.st h0.1, q1, q2⟩
  simp only [List.map_cons, rV, adV] at key ⊢
  split at key
  · rename_i z
    rw [if_pos z]
    exact lv_astoreN X.1 X.2.1 hd hF.2.2.1.2 hi rfl key
  · rename_i z
    rw [if_neg z]
    exact lv_astore X.1 X.2.1 hd hF.2.2.1.2 hi rfl key
theorem x_lstore_n {i : Nat} {x : Int} {k : Fin 4} (hk : (k : Nat) = i) (hi : i + 1 < mxN y) (hm : i ∈ lgOf y) (X : CX y p s m args meth c) (hd : decode (mCd y) pc = .ok (.lstore_n k, 1)) (K : PX w y p l e R s m args below meth c Q (pc + 1) ((stL (lgOf y) ls i (vL x)).set (i + 1) vU) st sh d) : PX w y p l e R s m args below meth c Q pc ls (vL x :: st) sh d := by
  intro ρ H locs lsr hG hF
  have h0 := hF.1
  simp only [okVs_cons] at h0
  refine lv_lstore_n X.1 X.2.1 hd hk hF.2.2.1.2 hi rfl (fun lsr' hl' => ?_)
  obtain ⟨q1, q2⟩ := hF.2.2.1.st2 hF.2.2.2 hm hi hl'
  refine K ρ H locs lsr' hG ⟨h0.2, fun v hv => ?_, q1, q2⟩
  rcases List.mem_or_eq_of_mem_set hv with q | q
  · exact hF.2.1.st h0.1 v q
  · rw [q]; trivial
theorem x_lstore {i : Nat} {x : Int} {k : Fin 4} (hi : i + 1 < mxN y) (hm : i ∈ lgOf y) (X : CX y p s m args meth c) (hd : decode (mCd y) pc = .ok (.lstore i, 2)) (K : PX w y p l e R s m args below meth c Q (pc + 2) ((stL (lgOf y) ls i (vL x)).set (i + 1) vU) st sh d) : PX w y p l e R s m args below meth c Q pc ls (vL x :: st) sh d := by
  intro ρ H locs lsr hG hF
  have h0 := hF.1
  simp only [okVs_cons] at h0
  refine lv_lstore X.1 X.2.1 hd hF.2.2.1.2 hi rfl (fun lsr' hl' => ?_)
  obtain ⟨q1, q2⟩ := hF.2.2.1.st2 hF.2.2.2 hm hi hl'
  refine K ρ H locs lsr' hG ⟨h0.2, fun v hv => ?_, q1, q2⟩
  rcases List.mem_or_eq_of_mem_set hv with q | q
  · exact hF.2.1.st h0.1 v q
  · rw [q]; trivial
theorem x_iinc {i : Nat} {n x : Int} (hl : ls[i]? = some (.inl x)) (X : CX y p s m args meth c) (hd : decode (mCd y) pc = .ok (.iinc i n, 3)) (K : PX w y p l e R s m args below meth c Q (pc + 3) (stL (lgOf y) ls i (.inl (wr (x + n)))) st sh d) : PX w y p l e R s m args below meth c Q pc ls st sh d := by
  intro ρ H locs lsr hG hF
  have hm : (i, rV ρ (vI x)) ∈ lvl ρ ls := lvl_mem.mpr ⟨_, hl, by simp, rfl⟩
  obtain ⟨k, hk⟩ := List.getElem?_of_mem hm
  have hi := hF.2.2.1.lt hl
  refine lv_iinc (v := Int32.ofInt (wr (x + n))) X.1 X.2.1 hd hF.2.2.1.2 hk (by rw [ofInt_wr, Int32.ofInt_add]) hi rfl (fun lsr' hl' => ?_)
  obtain ⟨q1, q2⟩ := hF.2.2.1.st1 (v := vI (wr (x + n))) hF.2.2.2 rfl hi hl'
  exact K ρ H locs lsr' hG ⟨hF.1, hF.2.1.st (v := vI (wr (x + n))) (wr_in _), q1, q2⟩
theorem x_goto {off : Int} {t : Nat} (ht : (pc : Int) + off = (t : Int)) (X : CX y p s m args meth c) (hd : decode (mCd y) pc = .ok (.goto off, 3)) (K : PX w y p l e R s m args below meth c Q t ls (st) sh d) : PX w y p l e R s m args below meth c Q pc ls (st) sh d := by
  intro ρ H locs lsr hG hF
  exact lv_goto X.1 X.2.1 hd ht (K ρ H locs lsr hG hF)
theorem x_icmp_eq {a b off : Int} {t : Nat} (ht : (pc : Int) + off = (t : Int)) (X : CX y p s m args meth c) (hd : decode (mCd y) pc = .ok (.if_icmp .eq off, 3)) (K1 : (a = b) → PX w y p l e R s m args below meth c Q t ls st sh d) (K2 : ¬ (a = b) → PX w y p l e R s m args below meth c Q (pc + 3) ls st sh d) : PX w y p l e R s m args below meth c Q pc ls (.inl b :: .inl a :: st) sh d := by
  intro ρ H locs lsr hG hF
  have h0 := hF.1
  simp only [okVs_cons] at h0
  have ha : in32 a := h0.2.1
  have hb : in32 b := h0.1
  have hi := i32_eq ha hb
  exact lv_icmp_eq X.1 X.2.1 hd ht (fun q => K1 (hi.mp q) ρ H locs lsr hG (hF.stk h0.2.2)) (fun q => K2 (fun z => q (hi.mpr z)) ρ H locs lsr hG (hF.stk h0.2.2))
theorem x_if_eq {a off : Int} {t : Nat} (ht : (pc : Int) + off = (t : Int)) (X : CX y p s m args meth c) (hd : decode (mCd y) pc = .ok (.ifCond .eq off, 3)) (K1 : (a = 0) → PX w y p l e R s m args below meth c Q t ls st sh d) (K2 : ¬ (a = 0) → PX w y p l e R s m args below meth c Q (pc + 3) ls st sh d) : PX w y p l e R s m args below meth c Q pc ls (.inl a :: st) sh d := by
  intro ρ H locs lsr hG hF
  have h0 := hF.1
  simp only [okVs_cons] at h0
  have ha : in32 a := h0.1
  have hb : in32 0 := in0
  have hi := i32_eq ha hb
  exact lv_if_eq X.1 X.2.1 hd ht (fun q => K1 (hi.mp q) ρ H locs lsr hG (hF.stk h0.2)) (fun q => K2 (fun z => q (hi.mpr z)) ρ H locs lsr hG (hF.stk h0.2))
theorem x_icmp_ne {a b off : Int} {t : Nat} (ht : (pc : Int) + off = (t : Int)) (X : CX y p s m args meth c) (hd : decode (mCd y) pc = .ok (.if_icmp .ne off, 3)) (K1 : (¬ a = b) → PX w y p l e R s m args below meth c Q t ls st sh d) (K2 : ¬ (¬ a = b) → PX w y p l e R s m args below meth c Q (pc + 3) ls st sh d) : PX w y p l e R s m args below meth c Q pc ls (.inl b :: .inl a :: st) sh d := by
  intro ρ H locs lsr hG hF
  have h0 := hF.1
  simp only [okVs_cons] at h0
  have ha : in32 a := h0.2.1
  have hb : in32 b := h0.1
  have hi := not_congr (i32_eq ha hb)
  exact lv_icmp_ne X.1 X.2.1 hd ht (fun q => K1 (hi.mp q) ρ H locs lsr hG (hF.stk h0.2.2)) (fun q => K2 (fun z => z ((i32_eq ha hb).mp q)) ρ H locs lsr hG (hF.stk h0.2.2))
theorem x_if_ne {a off : Int} {t : Nat} (ht : (pc : Int) + off = (t : Int)) (X : CX y p s m args meth c) (hd : decode (mCd y) pc = .ok (.ifCond .ne off, 3)) (K1 : (¬ a = 0) → PX w y p l e R s m args below meth c Q t ls st sh d) (K2 : ¬ (¬ a = 0) → PX w y p l e R s m args below meth c Q (pc + 3) ls st sh d) : PX w y p l e R s m args below meth c Q pc ls (.inl a :: st) sh d := by
  intro ρ H locs lsr hG hF
  have h0 := hF.1
  simp only [okVs_cons] at h0
  have ha : in32 a := h0.1
  have hb : in32 0 := in0
  have hi := not_congr (i32_eq ha hb)
  exact lv_if_ne X.1 X.2.1 hd ht (fun q => K1 (hi.mp q) ρ H locs lsr hG (hF.stk h0.2)) (fun q => K2 (fun z => z ((i32_eq ha hb).mp q)) ρ H locs lsr hG (hF.stk h0.2))
theorem x_icmp_lt {a b off : Int} {t : Nat} (ht : (pc : Int) + off = (t : Int)) (X : CX y p s m args meth c) (hd : decode (mCd y) pc = .ok (.if_icmp .lt off, 3)) (K1 : (a < b) → PX w y p l e R s m args below meth c Q t ls st sh d) (K2 : ¬ (a < b) → PX w y p l e R s m args below meth c Q (pc + 3) ls st sh d) : PX w y p l e R s m args below meth c Q pc ls (.inl b :: .inl a :: st) sh d := by
  intro ρ H locs lsr hG hF
  have h0 := hF.1
  simp only [okVs_cons] at h0
  have ha : in32 a := h0.2.1
  have hb : in32 b := h0.1
  have hi := i32_lt ha hb
  exact lv_icmp_lt X.1 X.2.1 hd ht (fun q => K1 (hi.mp q) ρ H locs lsr hG (hF.stk h0.2.2)) (fun q => K2 (fun z => q (hi.mpr z)) ρ H locs lsr hG (hF.stk h0.2.2))
theorem x_if_lt {a off : Int} {t : Nat} (ht : (pc : Int) + off = (t : Int)) (X : CX y p s m args meth c) (hd : decode (mCd y) pc = .ok (.ifCond .lt off, 3)) (K1 : (a < 0) → PX w y p l e R s m args below meth c Q t ls st sh d) (K2 : ¬ (a < 0) → PX w y p l e R s m args below meth c Q (pc + 3) ls st sh d) : PX w y p l e R s m args below meth c Q pc ls (.inl a :: st) sh d := by
  intro ρ H locs lsr hG hF
  have h0 := hF.1
  simp only [okVs_cons] at h0
  have ha : in32 a := h0.1
  have hb : in32 0 := in0
  have hi := i32_lt ha hb
  exact lv_if_lt X.1 X.2.1 hd ht (fun q => K1 (hi.mp q) ρ H locs lsr hG (hF.stk h0.2)) (fun q => K2 (fun z => q (hi.mpr z)) ρ H locs lsr hG (hF.stk h0.2))
theorem x_icmp_ge {a b off : Int} {t : Nat} (ht : (pc : Int) + off = (t : Int)) (X : CX y p s m args meth c) (hd : decode (mCd y) pc = .ok (.if_icmp .ge off, 3)) (K1 : (b ≤ a) → PX w y p l e R s m args below meth c Q t ls st sh d) (K2 : ¬ (b ≤ a) → PX w y p l e R s m args below meth c Q (pc + 3) ls st sh d) : PX w y p l e R s m args below meth c Q pc ls (.inl b :: .inl a :: st) sh d := by
  intro ρ H locs lsr hG hF
  have h0 := hF.1
  simp only [okVs_cons] at h0
  have ha : in32 a := h0.2.1
  have hb : in32 b := h0.1
  have hi := i32_le hb ha
  exact lv_icmp_ge X.1 X.2.1 hd ht (fun q => K1 (hi.mp q) ρ H locs lsr hG (hF.stk h0.2.2)) (fun q => K2 (fun z => q (hi.mpr z)) ρ H locs lsr hG (hF.stk h0.2.2))
theorem x_if_ge {a off : Int} {t : Nat} (ht : (pc : Int) + off = (t : Int)) (X : CX y p s m args meth c) (hd : decode (mCd y) pc = .ok (.ifCond .ge off, 3)) (K1 : (0 ≤ a) → PX w y p l e R s m args below meth c Q t ls st sh d) (K2 : ¬ (0 ≤ a) → PX w y p l e R s m args below meth c Q (pc + 3) ls st sh d) : PX w y p l e R s m args below meth c Q pc ls (.inl a :: st) sh d := by
  intro ρ H locs lsr hG hF
  have h0 := hF.1
  simp only [okVs_cons] at h0
  have ha : in32 a := h0.1
  have hb : in32 0 := in0
  have hi := i32_le hb ha
  exact lv_if_ge X.1 X.2.1 hd ht (fun q => K1 (hi.mp q) ρ H locs lsr hG (hF.stk h0.2)) (fun q => K2 (fun z => q (hi.mpr z)) ρ H locs lsr hG (hF.stk h0.2))
theorem x_icmp_gt {a b off : Int} {t : Nat} (ht : (pc : Int) + off = (t : Int)) (X : CX y p s m args meth c) (hd : decode (mCd y) pc = .ok (.if_icmp .gt off, 3)) (K1 : (b < a) → PX w y p l e R s m args below meth c Q t ls st sh d) (K2 : ¬ (b < a) → PX w y p l e R s m args below meth c Q (pc + 3) ls st sh d) : PX w y p l e R s m args below meth c Q pc ls (.inl b :: .inl a :: st) sh d := by
  intro ρ H locs lsr hG hF
  have h0 := hF.1
  simp only [okVs_cons] at h0
  have ha : in32 a := h0.2.1
  have hb : in32 b := h0.1
  have hi := i32_lt hb ha
  exact lv_icmp_gt X.1 X.2.1 hd ht (fun q => K1 (hi.mp q) ρ H locs lsr hG (hF.stk h0.2.2)) (fun q => K2 (fun z => q (hi.mpr z)) ρ H locs lsr hG (hF.stk h0.2.2))
theorem x_if_gt {a off : Int} {t : Nat} (ht : (pc : Int) + off = (t : Int)) (X : CX y p s m args meth c) (hd : decode (mCd y) pc = .ok (.ifCond .gt off, 3)) (K1 : (0 < a) → PX w y p l e R s m args below meth c Q t ls st sh d) (K2 : ¬ (0 < a) → PX w y p l e R s m args below meth c Q (pc + 3) ls st sh d) : PX w y p l e R s m args below meth c Q pc ls (.inl a :: st) sh d := by
  intro ρ H locs lsr hG hF
  have h0 := hF.1
  simp only [okVs_cons] at h0
  have ha : in32 a := h0.1
  have hb : in32 0 := in0
  have hi := i32_lt hb ha
  exact lv_if_gt X.1 X.2.1 hd ht (fun q => K1 (hi.mp q) ρ H locs lsr hG (hF.stk h0.2)) (fun q => K2 (fun z => q (hi.mpr z)) ρ H locs lsr hG (hF.stk h0.2))
theorem x_icmp_le {a b off : Int} {t : Nat} (ht : (pc : Int) + off = (t : Int)) (X : CX y p s m args meth c) (hd : decode (mCd y) pc = .ok (.if_icmp .le off, 3)) (K1 : (a ≤ b) → PX w y p l e R s m args below meth c Q t ls st sh d) (K2 : ¬ (a ≤ b) → PX w y p l e R s m args below meth c Q (pc + 3) ls st sh d) : PX w y p l e R s m args below meth c Q pc ls (.inl b :: .inl a :: st) sh d := by
  intro ρ H locs lsr hG hF
  have h0 := hF.1
  simp only [okVs_cons] at h0
  have ha : in32 a := h0.2.1
  have hb : in32 b := h0.1
  have hi := i32_le ha hb
  exact lv_icmp_le X.1 X.2.1 hd ht (fun q => K1 (hi.mp q) ρ H locs lsr hG (hF.stk h0.2.2)) (fun q => K2 (fun z => q (hi.mpr z)) ρ H locs lsr hG (hF.stk h0.2.2))
theorem x_if_le {a off : Int} {t : Nat} (ht : (pc : Int) + off = (t : Int)) (X : CX y p s m args meth c) (hd : decode (mCd y) pc = .ok (.ifCond .le off, 3)) (K1 : (a ≤ 0) → PX w y p l e R s m args below meth c Q t ls st sh d) (K2 : ¬ (a ≤ 0) → PX w y p l e R s m args below meth c Q (pc + 3) ls st sh d) : PX w y p l e R s m args below meth c Q pc ls (.inl a :: st) sh d := by
  intro ρ H locs lsr hG hF
  have h0 := hF.1
  simp only [okVs_cons] at h0
  have ha : in32 a := h0.1
  have hb : in32 0 := in0
  have hi := i32_le ha hb
  exact lv_if_le X.1 X.2.1 hd ht (fun q => K1 (hi.mp q) ρ H locs lsr hG (hF.stk h0.2)) (fun q => K2 (fun z => q (hi.mpr z)) ρ H locs lsr hG (hF.stk h0.2))
end SB
