/-! a call of a method of ours -/
def retV (y : Nat) (v : Value) : Option Value := match mRt y with
  | none => none
  | some _ => some v
def wOf (D : va_G) (cA : Nat → ClassId) (L : Nat) (d0 : Dat) (ρ : Nat → Nat) (sh : Shp) (d : Dat) (sz : Nat) : WP := (D, cA, va_A (wl ρ cA sh d) sz, sh.length, slS sh, L, ρ, d0)
def PreW (D : va_G) (cA : Nat → ClassId) (L : Nat) (d0 : Dat) (ρ : Nat → Nat) (sh : Shp) (d : Dat) (sz : Nat) (U : State) : Prop := U.heap.size = sz ∧ (10 ≤ sh.length ∧ sh.take 10 = sh0 L ∧ ∀ a, a < 10 → d a = d0 a) ∧ okSh sh ∧ okD sh d ∧ va_P D vwCl (wl ρ cA sh d) U.heap ∧ va_D (fun _ => True) (wl ρ cA sh d) ∧ EX (wOf D cA L d0 ρ sh d sz) U
def PostW (D : va_G) (cA : Nat → ClassId) (L : Nat) (d0 : Dat) (ρ : Nat → Nat) (sh : Shp) (d : Dat) (sz y : Nat) (Q : RT) (oc : Outcome) (t : State) : Prop := ∃ (r : V) (sh' : Shp) (d' : Dat) (ρ' : Nat → Nat), oc = .returned (retV y (rV ρ' r)) ∧ Q r sh' d' ∧ okV sh'.length r ∧ (sh'.take 10 = sh0 L ∧ (∀ a, a < 10 → d' a = d0 a) ∧ ∀ a, a < sh.length → ρ' a = ρ a) ∧ okSh sh' ∧ okD sh' d' ∧ va_P D vwCl (wl ρ' cA sh' d') t.heap ∧ va_D (va_A (wl ρ cA sh d) sz) (wl ρ' cA sh' d')
def wsU (y : Nat) : List Cond := Cond.code (mNm y) (mCd y) (mxN y) (mRt y) :: wsT
def rmK (k y : Nat) : Room := { frames := k + 8, cells := (mkN y).1, slots := (mkN y).2, locals := 64 * k + 664 }
def METS (k : Nat) (l : Launch) : Prop := ∀ (y : Nat), y < 212 → ∀ (as : List V) (sh : Shp) (d : Dat) (Q : RT), Cl k y as sh d Q → okVs sh.length as → (∀ v sh' d', Q v sh' d' → sh'.length = sh.length + (mkN y).1 ∧ slS sh' = slS sh + (mkN y).2) → ∀ (D : va_G) (cA : Nat → ClassId) (L : Nat) (d0 : Dat) (ρ : Nat → Nat) (sz : Nat),
  Met l (mNm y) (wsU y) (rmK k y) (va_Pc (as.map (rV ρ)) (PreW D cA L d0 ρ sh d sz)) (fun _ st oc t => PostW D cA L d0 ρ sh d sz y Q oc t ∧ va_F (va_A (wl ρ cA sh d) sz) st t) (mkN y).1 (mkN y).2 (va_A (wl ρ cA sh d) sz)
theorem EX.carry {w w' : WP} {s U : State} (h : EX w s) (e1 : w'.1 = w.1) (e2 : w'.2.1 = w.2.1) (e3 : w'.2.2.2.2.2.1 = w.2.2.2.2.2.1) (e4 : w'.2.2.2.2.2.2.2 = w.2.2.2.2.2.2.2) (e5 : ∀ a, a < 10 → w'.2.2.2.2.2.2.1 a = w.2.2.2.2.2.2.1 a) (hvm : s.vm.Alike U.vm) (hn : ∀ e ∈ callL, va_Nw (.methodLinkNest (clsName e.1) e.2.1 (mNm e.2.2.1) (clsName e.2.2.2.2.2)) s → va_Nw (.methodLinkNest (clsName e.1) e.2.1 (mNm e.2.2.1) (clsName e.2.2.2.2.2)) U)
    (hv : ∀ own k tx a, vk_R own k tx a s → vk_R own k tx a U) (hk : ∀ q, q < s.heap.size → ¬ w.2.2.1 q → U.heap[q]? = s.heap[q]?) (hA : ∀ q, w'.2.2.1 q → w.2.2.1 q) (hs : s.heap.size ≤ U.heap.size) (hA2 : ∀ q, U.heap.size ≤ q → w'.2.2.1 q) (h10 : 10 ≤ w'.2.2.2.1) : EX w' U := by
  obtain ⟨h1, ⟨h2, h3, h4, ⟨k1, ⟨aK, aV, k2, k3⟩, k4, k5, k6⟩⟩, h5, h6, ⟨xs, g1, g2, g3, g4⟩, h8, h9, -⟩ := h
  refine ⟨by rw [e1, e2]; exact va_K.moved hvm h1, ⟨va_AO.moved hvm h2, va_AO.moved hvm h3, va_AOA.moved hvm h4, ⟨fun e he => ?_, ⟨aK, aV, ((k2.moved hvm).kept hk).narrow hA, fun i hi => by rw [e5 (7 + i) (by omega)]; exact k3 i hi⟩, ?_, ((k5.moved hvm).kept hk).narrow hA, fun i hi j hj => by rw [e4]; exact k6 i hi j hj⟩⟩, fun e he h3 => hn e he (h5 e he h3), fun k k2 k6 => ?_, ?_, hA2, by rw [e3]; exact h9, h10⟩
  · obtain ⟨tx, ht⟩ := k1 e he
    have h79 : strL.all (fun e => Nat.blt e.2.2.1 10) = true := by decide +kernel
    have := Nat.blt_eq.mp (List.all_eq_true.mp h79 e he)
    exact ⟨tx, by rw [e5 _ this]; exact hv _ _ _ _ ht⟩
  · have q := k4.moved hvm
    obtain ⟨cf, kf, fi, f, a, cell, r1, r2, r3, r4, r5, r6, r7, r8⟩ := q
    have hl := (Array.getElem?_eq_some_iff.mp r5).1
    exact ⟨cf, kf, fi, f, a, cell, r1, r2, r3, r4, by rw [hk a hl r8]; exact r5, r6, r7, fun z => r8 (hA a z)⟩
  · obtain ⟨z1, z2⟩ := h6 k k2 k6
    rw [e4, e5 k (by omega)]
    refine ⟨?_, ?_⟩
    · have q := z1.moved hvm
      obtain ⟨cf, kf, fi, f, a, cell, r1, r2, r3, r4, r5, r6, r7, r8⟩ := q
      have hl := (Array.getElem?_eq_some_iff.mp r5).1
      exact ⟨cf, kf, fi, f, a, cell, r1, r2, r3, r4, by rw [hk a hl r8]; exact r5, r6, r7, fun z => r8 (hA a z)⟩
    · have q := z2.moved hvm
      obtain ⟨cell, r1, r2, r3, r4, r5, r6, r7⟩ := q
      have hl := (Array.getElem?_eq_some_iff.mp r1).1
      exact ⟨cell, by rw [hk _ hl r7]; exact r1, r2, r3, r4, r5, r6, fun z => r7 (hA _ z)⟩
  · rw [e3, e4, e5 1 (by omega)]
    refine ⟨xs, ?_, Nat.lt_of_lt_of_le g2 hs, fun z => g3 (hA _ z), g4⟩
    have q := va_X.moved hvm g1
    exact q.kept (hk _ g2 g3)
section SH
variable {w : WP} {y : Nat} {p : Program} {l : Launch} {e : Env} {R : Room} {s : State} {m : MethodId} {args : Array Value} {below : List Frame} {meth : Method} {c : Code} {Q : State → Prop} {pc : Nat} {ls st : List V} {sh : Shp} {d : Dat}
theorem va_callX {QX : Outcome → State → Prop} {A0 A1 : Nat → Prop} {H H0 : Heap} {locs : List Loc} {cells slots mc ms : Nat} {lsr : Array Slot} {st0 rest : List Value} {a : Array Value} {free : Addr → Prop}
    (hr : va_Run p l e R s m args below meth c H locs cells slots mc ms (F0 m pc lsr st0) rest ((fun _ st oc t => QX oc t ∧ va_F A1 st t : Array Value → State → Outcome → State → Prop) a) free) (hS : va_S A0 H0 H locs) (hA : ∀ q, q < H.size → A1 q → A0 q) (hf : ∀ q, free q → A0 q)
    (kk : ∀ (v : Option Value) (t : State) (H1 : Heap) (locs1 : List Loc), t.heap = H1 → QX (.returned v) t → (∀ q : Nat, q < H.size → ¬ A1 q → H1[q]? = H[q]?) → va_S A0 H0 H1 locs1 → W p l e R s m args below meth c H1 locs1 (cells + mc) (slots + ms) Q (F0 m (pc + 3) lsr (v.toList ++ rest))) : W p l e R s m args below meth c H locs cells slots Q (F0 m pc lsr st0) := by
  intro T hT X
  obtain ⟨v, st₀, t, T', L, h0, X', hL, e1, e2, ⟨hb, hz, hk⟩, st⟩ := hr T hT X
  rw [h0] at hz hk
  obtain ⟨t2, a1, b1⟩ := kk v t T'.heap (locs ++ L) e1.symm hb (fun q h1 h2 => by rw [e1]; exact hk q h1 h2)
    ⟨Nat.le_trans hS.1 (by rw [e1]; exact hz), fun q h1 h2 => by rw [e1, hk q (Nat.lt_of_lt_of_le h1 hS.1) (fun z => h2 (hA q (Nat.lt_of_lt_of_le h1 hS.1) z))]; exact hS.2.1 q h1 h2, fun q hq => by
      rcases List.mem_append.mp hq with h | h
      · exact hS.2.2 q h
      · exact hf _ (hL q h)⟩ T' rfl X'
  exact ⟨t2, st t2 a1, b1⟩
theorem call_at {e : Nat × Nat × Nat × Nat × Nat × Nat} (h : e ∈ callL) : callOK e = true := List.all_eq_true.mp call_ok e h
theorem call_v : callL.all (fun e => (match e.2.2.2.1 % 3 with
    | 1 => Nat.blt (mCl e.2.2.1) 12
    | 2 => decide (mRt e.2.2.1 = none)
    | _ => true)) = true := by decide +kernel
theorem mOK_at {n : Nat} (h : n < 212) : (Cond.initialized (clsName (mCl n)) ∈ wsT ∧ (mStt n = true → Cond.static (mNm n) ∈ wsT) ∧ (mStt n = false → Cond.instanceMethod (mNm n) ∈ wsT)) ∧ arN n = mPn n + (match mStt n with
    | true => 0
    | false => 1) ∧ (mNm n).cls = clsName (mCl n) ∧ (mIni n = true → (mNm n).name = "<init>") ∧ (rtN n = 0 ↔ mRt n = none) ∧ (parseMethodDescriptor (mNm n).desc).map (fun d => d.parameters.length) = some (mPn n) ∧ mxN n ≤ 45 := by
  have q := mok h
  unfold mOK at q
  split at q
  · rename_i e he
    simp only [Bool.and_eq_true, decide_eq_true_eq, Nat.ble_eq, beq_iff_eq] at q
    obtain ⟨q1, q2, q3, q4, q5, q6, q7, q8⟩ := q
    refine ⟨⟨hasW_mem q2, fun z => ?_, fun z => ?_⟩, q3, q4, fun z => ?_, ?_, q7, q8⟩
    · rw [z] at q1; exact hasW_mem q1
    · rw [z] at q1; exact hasW_mem q1
    · rw [z] at q5; simpa using q5
    · constructor
      · intro z; rw [z] at q6; simpa using q6.symm
      · intro z; rw [z] at q6; simpa using q6
  · cases q
theorem cls_ok (c : Nat) : clsName c ≠ "java/lang/invoke/MethodHandle" ∧ clsName c ≠ "java/lang/invoke/VarHandle" := by
  have h : ∀ c, c < 13 → clsName c ≠ "java/lang/invoke/MethodHandle" ∧ clsName c ≠ "java/lang/invoke/VarHandle" := by decide +kernel
  by_cases hc : c < 13
  · exact h c hc
  · unfold clsName
    split <;> first | (exfalso; omega) | exact ⟨by decide +kernel, by decide +kernel⟩
theorem sel_at {n : Nat} (h : mSel n = true) : Cond.selects (clsName (mCl n)) (mNm n) (mNm n) ∈ wsT := by
  unfold mSel at h
  split at h
  · exact hasW_mem h
  · cases h
theorem wsU_good {n : Nat} (h : n < 212) : ∀ w ∈ wsU n, w ∈ wsT := by
  intro w hw
  rcases List.mem_cons.mp hw with q | q
  · rw [q]; exact mcd h
  · exact q
theorem good_of {ws : List Cond} (h : ∀ w ∈ ws, w ∈ wsT) : GoodIn wsT ws := fun w hw => wsT_good w (h w hw)
set_option maxHeartbeats 4000000 in
theorem x_call {k n idx kd wi host : Nat} {as : List V} {Q' : RT} {ri : Ins} (HM : METS k l) (E : EX w s) (X : CX y p s m args meth c) (hm : (mCl y, idx, n, kd, wi, host) ∈ callL) (hd : decode (mCd y) pc = .ok (ri, 3))
    (hri : ri = (match kd % 3 with
      | 0 => .invokestatic idx
      | 1 => .invokevirtual idx
      | _ => .invokespecial idx)) (hkd : kd < 6) (hrecv : kd % 3 ≠ 0 → ∃ a t, as = vR a :: t ∧ 10 ≤ a ∧ (kd % 3 = 1 → knd sh a = mCl n)) (hlen : as.length = arN n) (hcat : catS st ≤ 8)
    (hRf : k + 9 ≤ R.frames ∧ 64 * k + 728 ≤ R.locals) (hcl : sh.length + (mkN n).1 ≤ w.2.2.2.1 + R.cells ∧ slS sh + (mkN n).2 ≤ w.2.2.2.2.1 + R.slots) (hC : Cl k n as sh d Q')
    (K : ∀ v sh' d', Q' v sh' d' → (sh'.length = sh.length + (mkN n).1 ∧ slS sh' = slS sh + (mkN n).2) ∧ PX w y p l e R s m args below meth c Q (pc + 3) ls (match rtN n with
      | 0 => st
      | _ => v :: st) sh' d') : PX w y p l e R s m args below meth c Q pc ls (as.reverse ++ st) sh d := by
  intro ρ H locs lsr hG hF
  have hco := call_at hm
  unfold callOK at hco
  rw [Bool.and_eq_true, Nat.blt_eq] at hco
  obtain ⟨hn, hco⟩ := hco
  have hn : n < 212 := hn
  dsimp only at hco
  obtain ⟨⟨hini, hst1, hst2⟩, har, hcls, hinit, hrt, hpar, hmx⟩ := mOK_at hn
  have has : okVs sh.length as := fun v hv => hF.1 v (List.mem_append_left _ (List.mem_reverse.mpr hv))
  have hst : okVs sh.length st := fun v hv => hF.1 v (List.mem_append_right _ hv)
  have hM := HM n hn as sh d Q' hC has (fun v sh' d' hq => (K v sh' d' hq).1) w.1 w.2.1 w.2.2.2.2.2.1 w.2.2.2.2.2.2.2 ρ H.size
  have hgl := hG.1.1
  have hgs := hG.1.2
  have hAin : ∀ q, va_A (wl ρ w.2.1 sh d) H.size q → w.2.2.1 q := by
    intro q hq
    rcases hq with ⟨k, e, hq⟩ | hq
    · exact hG.2.2.2.2.2.1.2 k _ hq
    · exact E.2.2.2.2.2.1 q (Nat.le_trans hG.2.2.2.2.2.2.1 hq)
  have hpre : ∀ U : State, U.heap = H → s.WarmedH U.vm → PreW w.1 w.2.1 w.2.2.2.2.2.1 w.2.2.2.2.2.2.2 ρ sh d H.size U := by
    intro U hU hW
    refine ⟨by rw [hU], ⟨by have := E.2.2.2.2.2.2.2; omega, hG.2.1.1, hG.2.1.2.1⟩, hG.2.2.1, hG.2.2.2.1, by rw [hU]; exact hG.2.2.2.2.1, hG.2.2.2.2.2.1.weaken (fun _ _ _ _ => trivial), ?_⟩
    refine E.carry rfl rfl rfl rfl (fun a ha => hG.2.1.2.2 a (by have := E.2.2.2.2.2.2.2; omega)) hW.alike (fun e _ hz => va_Nw.warmM hW hz) (fun _ _ _ _ hz => vk_R.warm hW hz) (fun q h1 h2 => by rw [hU]; exact hG.2.2.2.2.2.2.2.1 q h1 h2) (fun q z => hAin q z) (by rw [hU]; exact hG.2.2.2.2.2.2.1) (fun q hq => Or.inr (by rw [hU] at hq; exact hq)) ?_
    show 10 ≤ sh.length
    have := E.2.2.2.2.2.2.2
    omega
  have hblind : FrameBlind (va_Pc (as.map (rV ρ)) (PreW w.1 w.2.1 w.2.2.2.2.2.1 w.2.2.2.2.2.2.2 ρ sh d H.size)) := by
    intro a U g mk q
    obtain ⟨q0, q1, q2, q3, q4, q5, q6, q7⟩ := q
    refine ⟨q0, q1, q2, q3, q4, q5, q6, ?_⟩
    exact q7.carry rfl rfl rfl rfl (fun _ _ => rfl) (Vm.Alike.refl U.vm) (fun e _ hz => va_Nw.same rfl rfl hz) (fun _ _ _ _ hz => vk_R.same rfl hz) (fun q _ _ => rfl) (fun q h => h) (Nat.le_refl _) q7.2.2.2.2.2.1 q7.2.2.2.2.2.2.2
  have hwsU := wsU_good hn
  have hgood := good_of hwsU
  have hR2 : (rmK k n).frames + 1 ≤ R.frames ∧ 8 + (mxN n + 11) + (rmK k n).locals ≤ R.locals := ⟨hRf.1, by show 8 + (mxN n + 11) + (64 * k + 664) ≤ _; omega⟩
  have hcell : sh.length - w.2.2.2.1 + (mkN n).1 ≤ R.cells ∧ slS sh - w.2.2.2.2.1 + (mkN n).2 ≤ R.slots := by omega
  have hfix : CallFix p m c (mCd y) (mxN y) s args wsT (clsName (mCl y)) := ⟨X.1, X.2.1, X.2.2.1, X.2.2.2.1, X.2.2.2.2.1⟩
  have hdn : (mNm n).cls ≠ "java/lang/invoke/MethodHandle" ∧ (mNm n).cls ≠ "java/lang/invoke/VarHandle" ∧ (parseMethodDescriptor (mNm n).desc).map (fun d => d.parameters.length) = some (mPn n) := by
    rw [hcls]
    exact ⟨(cls_ok _).1, (cls_ok _).2, hpar⟩
  have hini2 : (Cond.initialized (mNm n).cls).before args s = true := by rw [hcls]; exact X.2.2.2.2.1 _ hini
  have hmap : (as.reverse ++ st).map (rV ρ) = (as.map (rV ρ)).reverse ++ st.map (rV ρ) := by rw [List.map_append, List.map_reverse]
  have hcs : ((st.map (rV ρ)).map fun v => v.category).sum ≤ 8 := by rw [catS_sum]; exact hcat
  rw [hmap]
  have hlast : ∀ (rest : List Value), va_Run p l e R s m args below meth c H locs (sh.length - w.2.2.2.1) (slS sh - w.2.2.2.2.1) (mkN n).1 (mkN n).2 (F0 m pc lsr rest) (st.map (rV ρ)) ((fun _ st oc t => PostW w.1 w.2.1 w.2.2.2.2.2.1 w.2.2.2.2.2.2.2 ρ sh d H.size n Q' oc t ∧ va_F (va_A (wl ρ w.2.1 sh d) H.size) st t : Array Value → State → Outcome → State → Prop) (as.map (rV ρ)).toArray) (va_A (wl ρ w.2.1 sh d) H.size) → W p l e R s m args below meth c H locs (sh.length - w.2.2.2.1) (slS sh - w.2.2.2.2.1) Q (F0 m pc lsr rest) := by
    intro rest hrun
    refine va_callX (a := (as.map (rV ρ)).toArray) hrun hG.2.2.2.2.2.2 (fun q _ h => hAin q h) hAin (fun v t H1 locs1 ht hP _ hS => ?_)
    obtain ⟨r, sh', d', ρ', hv, hq, hr, ⟨t1, t2, t3⟩, o1, o2, o3, o4⟩ := hP
    obtain ⟨⟨l1, l2⟩, hK⟩ := K r sh' d' hq
    rw [ht] at o3
    have hG1 : GW w s ρ' H1 locs1 sh' d' := ⟨⟨by omega, by omega⟩, ⟨t1, t2, fun a ha => by rw [t3 a (by omega)]; exact hG.2.1.2.2 a ha⟩, o1, o2, o3, o4.weaken (fun _ q _ h => hAin q.1 h), hS⟩
    have hv' : v = retV n (rV ρ' r) := by cases hv; rfl
    subst hv'
    have up : ∀ vs : List V, okVs sh.length vs → okVs sh'.length vs := by
      intro vs hvs z hz
      have hh := hvs z hz
      rcases z with x | x | a | u
      · exact hh
      · exact hh
      · exact Nat.lt_of_lt_of_le hh (by omega)
      · trivial
    have e1 : sh'.length - w.2.2.2.1 = sh.length - w.2.2.2.1 + (mkN n).1 := by omega
    have e2 : slS sh' - w.2.2.2.2.1 = slS sh - w.2.2.2.2.1 + (mkN n).2 := by omega
    unfold retV
    cases hrr : mRt n with
    | none =>
      rw [hrt.mpr hrr] at hK
      have hK : PX w y p l e R s m args below meth c Q (pc + 3) ls st sh' d' := hK
      have h := hK ρ' H1 locs1 lsr hG1 ⟨up _ hst, up _ hF.2.1, hF.2.2.1.agree t3 hF.2.1, hF.2.2.2⟩
      rw [rVs_agree t3 hst, e1, e2] at h
      exact h
    | some ty =>
      have hrt0 : rtN n ≠ 0 := fun z => by rw [hrt.mp z] at hrr; cases hrr
      have hK : PX w y p l e R s m args below meth c Q (pc + 3) ls (r :: st) sh' d' := by
        revert hK
        split
        · rename_i z; exact absurd z hrt0
        · exact id
      have h := hK ρ' H1 locs1 lsr hG1 ⟨okVs_cons.mpr ⟨hr, up _ hst⟩, up _ hF.2.1, hF.2.2.1.agree t3 hF.2.1, hF.2.2.2⟩
      rw [List.map_cons, rVs_agree t3 hst, e1, e2] at h
      exact h
  have hkd6 : kd = 0 ∨ kd = 1 ∨ kd = 2 ∨ kd = 3 ∨ kd = 4 ∨ kd = 5 := by omega
  rcases hkd6 with rfl | rfl | rfl | rfl | rfl | rfl
  · have hco : (hasW wi (.methodLink (clsName (mCl y)) idx (mNm n)) && mStt n) = true := hco
    rw [Bool.and_eq_true] at hco
    refine hlast _ (va_runS hfix hM (va_cwS (mPn n) X.2.2.2.2.1 (good_of ?_) rfl rfl rfl hdn hR2) ⟨hblind, fun U hU hW => ⟨rfl, hpre U hU hW⟩⟩ rfl ?_ hF.size rfl (lv_room hcs) (by rw [hri] at hd; exact hd) hcell)
    · intro z hz
      rcases List.mem_append.mp hz with q | q
      · simp only [List.mem_cons, List.not_mem_nil, or_false] at q
        rcases q with rfl | rfl | rfl
        · exact hasW_mem hco.1
        · exact hst1 hco.2
        · rw [hcls]; exact hini
      · exact hwsU z q
    · rw [List.length_map, hlen, har, hco.2]
      rfl
  · have hco : (hasW wi (.methodLink (clsName (mCl y)) idx (mNm n)) && (!mStt n && mSel n)) = true := hco
    rw [Bool.and_eq_true, Bool.and_eq_true, Bool.not_eq_true'] at hco
    obtain ⟨a, t, rfl, ha10, hka⟩ := hrecv (by decide)
    have hka := hka rfl
    have hc12 : mCl n < 12 := by simpa using List.all_eq_true.mp call_v _ hm
    obtain ⟨n0, rs, h1, h2, h3, h4, h10, hCC, hPa⟩ := cellA hG hka (by omega)
    rw [eE_obj hc12] at hPa
    have e0 : (vR a :: t).map (rV ρ) = .ref (ρ a) :: t.map (rV ρ) := by
      rw [List.map_cons, rV, adV_ref ha10]
    rw [e0] at hM hlast hblind ⊢
    have hstk : (Value.ref (ρ a) :: t.map (rV ρ)).reverse ++ st.map (rV ρ) = (t.map (rV ρ)).reverse ++ .ref (ρ a) :: st.map (rV ρ) := by simp
    have htl : (t.map (rV ρ)).length = mPn n := by
      rw [List.length_cons] at hlen
      rw [List.length_map]
      rw [har] at hlen
      simp only [hco.2.1] at hlen
      omega
    have hrc := va_recv E.1 hG.2.2.2.2.1 (clT hc12) hPa
    refine hlast _ (va_runV (b := ρ a) (As := t.map (rV ρ)) hfix hM (cwV (C := clsName (mCl n)) (mPn n) X.2.2.2.2.1 (good_of ?_) rfl rfl rfl ⟨hcls, hdn⟩ hR2) ⟨hblind, hrc, fun U hU hW => ⟨rfl, hpre U hU hW⟩⟩ rfl htl hF.size hstk (lv_room hcs) (by rw [hri] at hd; exact hd) hcell)
    intro z hz
    rcases List.mem_append.mp hz with q | q
    · simp only [List.mem_cons, List.not_mem_nil, or_false] at q
      rcases q with rfl | rfl | rfl | rfl
      · exact hasW_mem hco.1
      · exact hst2 hco.2.1
      · exact sel_at hco.2.2
      · exact hini
    · exact hwsU z q
  · have hco : (hasW wi (.methodLink (clsName (mCl y)) idx (mNm n)) && (!mStt n && mIni n)) = true := hco
    rw [Bool.and_eq_true, Bool.and_eq_true, Bool.not_eq_true'] at hco
    obtain ⟨a, t, rfl, ha10, -⟩ := hrecv (by decide)
    have hrn : mRt n = none := by simpa using List.all_eq_true.mp call_v _ hm
    have e0 : (vR a :: t).map (rV ρ) = .ref (ρ a) :: t.map (rV ρ) := by
      rw [List.map_cons, rV, adV_ref ha10]
    rw [e0] at hM hlast hblind ⊢
    have hstk : (Value.ref (ρ a) :: t.map (rV ρ)).reverse ++ st.map (rV ρ) = (t.map (rV ρ)).reverse ++ .ref (ρ a) :: st.map (rV ρ) := by simp
    have htl : (t.map (rV ρ)).length = mPn n := by
      rw [List.length_cons] at hlen
      rw [List.length_map]
      rw [har] at hlen
      simp only [hco.2.1] at hlen
      omega
    have hwn : wsU n = Cond.code (mNm n) (mCd n) (mxN n) none :: wsT := by
      unfold wsU
      rw [hrn]
    refine hlast _ (va_runI (b := ρ a) (As := t.map (rV ρ)) (bytes := mCd n) (maxL := mxN n) hfix hM (cwI (mPn n) X.2.2.2.2.1 hgood hwn rfl rfl hini2 (X.2.2.2.2.1 _ (hasW_mem hco.1)) (X.2.2.2.2.1 _ (hst2 hco.2.1)) (hinit hco.2.2) hdn hR2) ⟨hblind, fun U hU hW => ⟨rfl, hpre U hU hW⟩⟩ rfl htl hF.size hstk (lv_room hcs) (by rw [hri] at hd; exact hd) hcell)
  · have hco : (hasN wi (.methodLinkNest (clsName (mCl y)) idx (mNm n) (clsName host)) && mStt n) = true := hco
    have hnest : va_Nw (.methodLinkNest (clsName (mCl y)) idx (mNm n) (clsName host)) s := E.2.2.1 (mCl y, idx, n, 3, wi, host) hm (show 3 ≤ 3 by omega)
    rw [Bool.and_eq_true] at hco
    refine hlast _ (va_runSN (host := clsName host) hfix hM ⟨va_cnB (mPn n) X.2.2.2.2.1 hgood rfl rfl rfl hnest hini2 hdn hR2, X.2.2.2.2.1 _ (hst1 hco.2), trivial⟩ ⟨hblind, fun U hU hW => ⟨rfl, hpre U hU hW⟩⟩ rfl ?_ hF.size rfl (lv_room hcs) (by rw [hri] at hd; exact hd) hcell)
    rw [List.length_map, hlen, har, hco.2]
    rfl
  · have hco : (hasN wi (.methodLinkNest (clsName (mCl y)) idx (mNm n) (clsName host)) && (!mStt n && mSel n)) = true := hco
    have hnest : va_Nw (.methodLinkNest (clsName (mCl y)) idx (mNm n) (clsName host)) s := E.2.2.1 (mCl y, idx, n, 4, wi, host) hm (show 3 ≤ 4 by omega)
    rw [Bool.and_eq_true, Bool.and_eq_true, Bool.not_eq_true'] at hco
    obtain ⟨a, t, rfl, ha10, hka⟩ := hrecv (by decide)
    have hka := hka rfl
    have hc12 : mCl n < 12 := by simpa using List.all_eq_true.mp call_v _ hm
    obtain ⟨n0, rs, h1, h2, h3, h4, h10, hCC, hPa⟩ := cellA hG hka (by omega)
    rw [eE_obj hc12] at hPa
    have e0 : (vR a :: t).map (rV ρ) = .ref (ρ a) :: t.map (rV ρ) := by
      rw [List.map_cons, rV, adV_ref ha10]
    rw [e0] at hM hlast hblind ⊢
    have hstk : (Value.ref (ρ a) :: t.map (rV ρ)).reverse ++ st.map (rV ρ) = (t.map (rV ρ)).reverse ++ .ref (ρ a) :: st.map (rV ρ) := by simp
    have htl : (t.map (rV ρ)).length = mPn n := by
      rw [List.length_cons] at hlen
      rw [List.length_map]
      rw [har] at hlen
      simp only [hco.2.1] at hlen
      omega
    have hrc := va_recv E.1 hG.2.2.2.2.1 (clT hc12) hPa
    refine hlast _ (va_runVN (b := ρ a) (C := clsName (mCl n)) (host := clsName host) (As := t.map (rV ρ)) hfix hM ⟨va_cnB (mPn n) X.2.2.2.2.1 (good_of hwsU) rfl rfl rfl hnest hini2 hdn hR2, X.2.2.2.2.1 _ (hst2 hco.2.1), X.2.2.2.2.1 _ (sel_at hco.2.2)⟩ ⟨hblind, hrc, fun U hU hW => ⟨rfl, hpre U hU hW⟩⟩ rfl htl hF.size hstk (lv_room hcs) (by rw [hri] at hd; exact hd) hcell)
  · have hco : (hasN wi (.methodLinkNest (clsName (mCl y)) idx (mNm n) (clsName host)) && (!mStt n && mIni n)) = true := hco
    have hnest : va_Nw (.methodLinkNest (clsName (mCl y)) idx (mNm n) (clsName host)) s := E.2.2.1 (mCl y, idx, n, 5, wi, host) hm (show 3 ≤ 5 by omega)
    rw [Bool.and_eq_true, Bool.and_eq_true, Bool.not_eq_true'] at hco
    obtain ⟨a, t, rfl, ha10, -⟩ := hrecv (by decide)
    have hrn : mRt n = none := by simpa using List.all_eq_true.mp call_v _ hm
    have e0 : (vR a :: t).map (rV ρ) = .ref (ρ a) :: t.map (rV ρ) := by
      rw [List.map_cons, rV, adV_ref ha10]
    rw [e0] at hM hlast hblind ⊢
    have hstk : (Value.ref (ρ a) :: t.map (rV ρ)).reverse ++ st.map (rV ρ) = (t.map (rV ρ)).reverse ++ .ref (ρ a) :: st.map (rV ρ) := by simp
    have htl : (t.map (rV ρ)).length = mPn n := by
      rw [List.length_cons] at hlen
      rw [List.length_map]
      rw [har] at hlen
      simp only [hco.2.1] at hlen
      omega
    have hwn : wsU n = Cond.code (mNm n) (mCd n) (mxN n) none :: wsT := by
      unfold wsU
      rw [hrn]
    refine hlast _ (va_runIN (b := ρ a) (As := t.map (rV ρ)) (bytes := mCd n) (maxL := mxN n) (host := clsName host) hfix hM ⟨va_cnB (mPn n) X.2.2.2.2.1 hgood hwn rfl rfl hnest hini2 hdn hR2, hinit hco.2.2, X.2.2.2.2.1 _ (hst2 hco.2.1)⟩ ⟨hblind, fun U hU hW => ⟨rfl, hpre U hU hW⟩⟩ rfl htl hF.size hstk (lv_room hcs) (by rw [hri] at hd; exact hd) hcell)
end SH
