/-! calls of the machine's own; a call of a method of ours -/
section SG
variable {w : WP} {y : Nat} {p : Program} {l : Launch} {e : Env} {R : Room} {s : State} {m : MethodId} {args : Array Value} {below : List Frame} {meth : Method} {c : Code} {Q : State → Prop} {pc : Nat} {ls st : List V} {sh : Shp} {d : Dat}
theorem catS_sum {ρ : Nat → Nat} : ∀ st : List V, ((st.map (rV ρ)).map fun v => v.category).sum = catS st
  | [] => rfl
  | v :: st => by
    rw [List.map_cons, List.map_cons, List.sum_cons, catS_sum st, rV_cat]
    rfl
theorem FR.size {ρ : Nat → Nat} {lsr : Array Slot} (h : FR y ρ lsr ls st sh) : lsr.size = mxN y := h.2.2.1.2.1
theorem bi_at {e : Nat × Nat × Nat × Nat} (h : e ∈ biL) : Cond.methodLink (clsName e.1) e.2.1 (biNm e.2.2.1) ∈ wsT := hasW_mem (List.all_eq_true.mp bi_ok e h)
theorem x_oinit {idx wi a : Nat} (X : CX y p s m args meth c) (E : EX w s) (hm : (mCl y, idx, 0, wi) ∈ biL) (hd : decode (mCd y) pc = .ok (.invokespecial idx, 3)) (hc : catS st ≤ 8) (ha : 10 ≤ a) (hR : 1 ≤ R.frames ∧ 64 ≤ R.locals) (K : PX w y p l e R s m args below meth c Q (pc + 3) ls st sh d) : PX w y p l e R s m args below meth c Q pc ls (vR a :: st) sh d := by
  intro ρ H locs lsr hG hF
  have h0 := hF.1
  simp only [okVs_cons] at h0
  have ho := oi_ok
  simp only [Bool.and_eq_true] at ho
  show W p l e R s m args below meth c H locs _ _ Q (F0 m pc lsr (adV ρ a :: st.map (rV ρ)))
  rw [adV_ref ha]
  refine W.objInit X.1 X.2.1 X.2.2.2.1 (X.2.2.2.2.1 _ (bi_at hm)) (X.2.2.2.2.1 _ (hasW_mem ho.1)) (X.2.2.2.2.1 _ (hasW_mem ho.2)) rfl ?_ rfl hd hR.1 ?_ (K ρ H locs lsr hG (hF.stk h0.2))
  · rw [X.2.2.1]
    exact hF.size
  · rw [catS_sum]
    show 0 + catS st + 12 ≤ _
    omega
theorem x_max {idx wi : Nat} {a b : Int} (X : CX y p s m args meth c) (hm : (mCl y, idx, 2, wi) ∈ biL) (hd : decode (mCd y) pc = .ok (.invokestatic idx, 3)) (hc : catS st ≤ 8) (hR : 1 ≤ R.frames ∧ 64 ≤ R.locals) (hcl : sh.length ≤ w.2.2.2.1 + R.cells ∧ slS sh ≤ w.2.2.2.2.1 + R.slots) (K : PX w y p l e R s m args below meth c Q (pc + 3) ls (.inl (max a b) :: st) sh d) : PX w y p l e R s m args below meth c Q pc ls (.inl b :: .inl a :: st) sh d := by
  intro ρ H locs lsr hG hF
  have h0 := hF.1
  simp only [okVs_cons] at h0
  have ha : in32 a := h0.2.1
  have hb : in32 b := h0.1
  have hw := ma_max
  simp only [Bool.and_eq_true] at hw
  refine va_mmax X.1 X.2.1 (by rw [X.2.2.1]; exact hF.size.symm) X.2.2.2.1 (X.2.2.2.2.1 _ (bi_at hm)) (X.2.2.2.2.1 _ (hasW_mem hw.1)) (X.2.2.2.2.1 _ (hasW_mem wi_math)) (X.2.2.2.2.1 _ (hasW_mem hw.2)) hR.1 (by rw [catS_sum]; omega) (by omega) (by omega) hd ?_
  have e : (if Int32.ofInt a < Int32.ofInt b then Int32.ofInt b else Int32.ofInt a) = Int32.ofInt (max a b) := by
    simp only [i32_lt ha hb]
    split
    · rw [Int.max_eq_right (by omega)]
    · rw [Int.max_eq_left (by omega)]
  rw [e]
  exact K ρ H locs lsr hG (hF.push (by show in32 (max a b); unfold in32 at *; omega) h0.2.2)
theorem x_min {idx wi : Nat} {a b : Int} (X : CX y p s m args meth c) (hm : (mCl y, idx, 3, wi) ∈ biL) (hd : decode (mCd y) pc = .ok (.invokestatic idx, 3)) (hc : catS st ≤ 8) (hR : 1 ≤ R.frames ∧ 64 ≤ R.locals) (hcl : sh.length ≤ w.2.2.2.1 + R.cells ∧ slS sh ≤ w.2.2.2.2.1 + R.slots) (K : PX w y p l e R s m args below meth c Q (pc + 3) ls (.inl (min a b) :: st) sh d) : PX w y p l e R s m args below meth c Q pc ls (.inl b :: .inl a :: st) sh d := by
  intro ρ H locs lsr hG hF
  have h0 := hF.1
  simp only [okVs_cons] at h0
  have ha : in32 a := h0.2.1
  have hb : in32 b := h0.1
  have hw := ma_min
  simp only [Bool.and_eq_true] at hw
  refine va_mmin X.1 X.2.1 (by rw [X.2.2.1]; exact hF.size.symm) X.2.2.2.1 (X.2.2.2.2.1 _ (bi_at hm)) (X.2.2.2.2.1 _ (hasW_mem hw.1)) (X.2.2.2.2.1 _ (hasW_mem wi_math)) (X.2.2.2.2.1 _ (hasW_mem hw.2)) hR.1 (by rw [catS_sum]; omega) (by omega) (by omega) hd ?_
  have hK := K ρ H locs lsr hG (hF.push (by show in32 (min a b); unfold in32 at *; omega) h0.2.2)
  have e1 : (if Int32.ofInt b < Int32.ofInt a then Int32.ofInt b else Int32.ofInt a) = Int32.ofInt (min a b) := by
    simp only [i32_lt hb ha]
    split
    · rw [Int.min_eq_right (by omega)]
    · rw [Int.min_eq_left (by omega)]
  have e2 : (if Int32.ofInt a ≤ Int32.ofInt b then Int32.ofInt a else Int32.ofInt b) = Int32.ofInt (min a b) := by
    simp only [i32_le ha hb]
    split
    · rw [Int.min_eq_left (by omega)]
    · rw [Int.min_eq_right (by omega)]
  first | (rw [e1]; exact hK) | (rw [e2]; exact hK)
theorem x_abs {idx wi : Nat} {a : Int} (X : CX y p s m args meth c) (hm : (mCl y, idx, 4, wi) ∈ biL) (hd : decode (mCd y) pc = .ok (.invokestatic idx, 3)) (hc : catS st ≤ 8) (hR : 1 ≤ R.frames ∧ 64 ≤ R.locals) (hcl : sh.length ≤ w.2.2.2.1 + R.cells ∧ slS sh ≤ w.2.2.2.2.1 + R.slots) (K : PX w y p l e R s m args below meth c Q (pc + 3) ls (.inl (if 0 ≤ a then a else wr (0 - a)) :: st) sh d) : PX w y p l e R s m args below meth c Q pc ls (.inl a :: st) sh d := by
  intro ρ H locs lsr hG hF
  have h0 := hF.1
  simp only [okVs_cons] at h0
  have ha : in32 a := h0.1
  have hw := ma_abs
  simp only [Bool.and_eq_true] at hw
  refine va_mabs X.1 X.2.1 (by rw [X.2.2.1]; exact hF.size.symm) X.2.2.2.1 (X.2.2.2.2.1 _ (bi_at hm)) (X.2.2.2.2.1 _ (hasW_mem hw.1)) (X.2.2.2.2.1 _ (hasW_mem wi_math)) (X.2.2.2.2.1 _ (hasW_mem hw.2)) hR.1 (by rw [catS_sum]; omega) (by omega) (by omega) hd ?_
  have e : (if 0 ≤ Int32.ofInt a then Int32.ofInt a else 0 - Int32.ofInt a) = Int32.ofInt (if 0 ≤ a then a else wr (0 - a)) := by
    rw [show (0 : Int32) = Int32.ofInt 0 from rfl]
    simp only [i32_le in0 ha]
    split
    · rfl
    · rw [ofInt_wr, Int32.ofInt_sub]
  rw [e]
  exact K ρ H locs lsr hG (hF.push (by show in32 _; split; exact ha; exact wr_in _) h0.2)
theorem x_acopy {idx wi a b : Nat} {sp dp n : Int} (X : CX y p s m args meth c) (E : EX w s) (hm : (mCl y, idx, 1, wi) ∈ biL) (hd : decode (mCd y) pc = .ok (.invokestatic idx, 3)) (hc : catS st ≤ 8) (hR : 1 ≤ R.frames ∧ 64 ≤ R.locals) (hkk : knd sh a = knd sh b) (hk : knd sh b = 20 ∨ knd sh b = 21) (h1 : 0 ≤ sp) (h2 : 0 ≤ dp) (h3 : 0 ≤ n) (h4 : sp + n ≤ len sh a) (h5 : dp + n ≤ len sh b) (K : PX w y p l e R s m args below meth c Q (pc + 3) ls st sh (rset d b (cpy (d a) (d b) sp.toNat dp.toNat n.toNat))) : PX w y p l e R s m args below meth c Q pc ls (.inl n :: .inl dp :: vR b :: .inl sp :: vR a :: st) sh d := by
  intro ρ H locs lsr hG hF
  have h0 := hF.1
  simp only [okVs_cons] at h0
  obtain ⟨k, hkb⟩ : ∃ k, knd sh b = k := ⟨_, rfl⟩
  rw [hkb] at hkk hk
  obtain ⟨na, ra, a1, a2, a3, a4, a10, aC, aP⟩ := cellA hG hkk (by omega)
  obtain ⟨nb, rb, b1, b2, b3, b4, b10, bC, bP⟩ := cellA hG hkb (by omega)
  rw [eE_int hk] at aP bP
  have hw := ac_ok
  simp only [Bool.and_eq_true] at hw
  show W p l e R s m args below meth c H locs _ _ Q (F0 m pc lsr (.int (Int32.ofInt n) :: .int (Int32.ofInt dp) :: adV ρ b :: .int (Int32.ofInt sp) :: adV ρ a :: st.map (rV ρ)))
  rw [adV_ref a10, adV_ref b10]
  have cn := clampI h3 h0.1
  have cd := clampI h2 h0.2.1
  have cs := clampI h1 h0.2.2.2.1
  have neg : ∀ x : Int, 0 ≤ x → in32 x → ¬ Int32.ofInt x < 0 := fun x hx hi q => by
    rw [show (0 : Int32) = Int32.ofInt 0 from rfl, i32_lt hi in0] at q
    omega
  obtain ⟨t0, ty, ht, hp, hfit⟩ : ∃ (t0 : Nat) (ty : FieldType), (tysA w.2.1)[t0]? = some (w.2.1 k, ty) ∧ refKind ty = false ∧ ∀ x : Int, okd k x → fits ty (.int (Int32.ofInt x)) = true := by
    rcases hk with rfl | rfl
    · exact ⟨0, .int, rfl, rfl, fun _ _ => rfl⟩
    · refine ⟨1, .boolean, rfl, rfl, fun x hx => ?_⟩
      have hx : x = 0 ∨ x = 1 := hx
      rcases hx with rfl | rfl <;> rfl
  refine va_copyi (D := w.1) (cl := vwCl) (tys := tysA w.2.1) (ws := wl ρ w.2.1 sh d) (A := w.2.2.1) X.1 X.2.1 (by rw [X.2.2.1]; exact hF.size.symm) X.2.2.2.1 (X.2.2.2.2.1 _ (bi_at hm)) (X.2.2.2.2.1 _ (hasW_mem hw.1)) (X.2.2.2.2.1 _ (hasW_mem hw.2)) (X.2.2.2.2.1 _ (hasW_mem wi_sys)) E.1 hG.2.2.2.2.1 hG.2.2.2.2.2.1 hG.2.2.2.2.2.2 (a - 10) (b - 10) t0 t0 aP bP ht ht hp (neg _ h1 h0.2.2.2.1) (neg _ h2 h0.2.1) (neg _ h3 h0.1) (by rw [cn, cs]; omega) (by rw [cn, cd]; omega) (fun i _ => ?_) hR.1 ?_ hd (fun H1 locs1 hP hD hS => ?_)
  · apply hfit
    have := hG.2.2.2.1 a ((Int32.ofInt sp).toNatClampNeg + i)
    rwa [hkk] at this
  · rw [catS_sum]
    have : nativeFrameWords "java/lang/System" "arraycopy" 5 + 11 ≤ 56 := by decide +kernel
    omega
  · have eu : va_cpy (fun j => Int32.ofInt (d a j)) (fun j => Int32.ofInt (d b j)) sp.toNat dp.toNat n.toNat = fun j => Int32.ofInt (cpy (d a) (d b) sp.toNat dp.toNat n.toNat j) := by
      funext j
      unfold va_cpy cpy
      split <;> rfl
    rw [cn, cd, cs, eu, ← eE_int (ρ := ρ) (cA := w.2.1) (rs := rb) hk, wl_rset b1 b10] at hP hD
    refine K ρ H1 locs1 lsr (hG.data b10 (fun i => ?_) hP hD hS) (hF.stk h0.2.2.2.2.2)
    rw [hkb]
    unfold cpy
    split
    · have := hG.2.2.2.1 a (sp.toNat + (i - dp.toNat))
      rwa [hkk] at this
    · have := hG.2.2.2.1 b i
      rwa [hkb] at this
theorem swC_off {K : Int → Prop} {df x : Int} (hx : ∀ ps : List (Int × Int), True) : True := trivial
/-- a switch by places: the machine's offsets are the tables' places less the pc -/
theorem x_table {dflt lo hi df : Int} {offs : Array Int} {len0 : Nat} {ps : List (Int × Int)} {x : Int} (X : CX y p s m args meth c) (hd : decode (mCd y) pc = .ok (.tableswitch dflt lo hi offs, len0))
    (h0 : 0 ≤ df ∧ (pc : Int) + dflt = df) (hps : ps = (List.range offs.size).map (fun (i : Nat) => (lo + (i : Int), (pc : Int) + offs.getD i 0))) (hoff : ∀ q ∈ ps, 0 ≤ q.2) (hsz : (offs.size : Int) = hi - lo + 1) (hl : in32 lo ∧ in32 hi)
    (K : swC (fun t => PX w y p l e R s m args below meth c Q t.toNat ls st sh d) df x ps) : PX w y p l e R s m args below meth c Q pc ls (.inl x :: st) sh d := by
  intro ρ H locs lsr hG hF
  have hh := hF.1
  simp only [okVs_cons] at hh
  have hx : in32 x := hh.1
  have pick : ∀ (n i : Nat) (j : Nat), j < n → swC (fun t => PX w y p l e R s m args below meth c Q t.toNat ls st sh d) df x ((List.range' i n).map (fun (i : Nat) => (lo + (i : Int), (pc : Int) + offs.getD i 0))) → x = lo + ((i + j : Nat) : Int) → PX w y p l e R s m args below meth c Q ((pc : Int) + offs.getD (i + j) 0).toNat ls st sh d := by
    intro n
    induction n with
    | zero => intro i j hj; omega
    | succ n ih =>
      intro i j hj h he
      rw [List.range'_succ, List.map_cons] at h
      rcases Nat.eq_zero_or_pos j with rfl | hp
      · exact h.1 he
      · have := ih (i + 1) (j - 1) (by omega) (h.2 (by omega)) (by rw [he, show i + 1 + (j - 1) = i + j by omega])
        rwa [show i + 1 + (j - 1) = i + j by omega] at this
  have none : ∀ (n i : Nat), swC (fun t => PX w y p l e R s m args below meth c Q t.toNat ls st sh d) df x ((List.range' i n).map (fun (i : Nat) => (lo + (i : Int), (pc : Int) + offs.getD i 0))) → (∀ j, j < n → x ≠ lo + ((i + j : Nat) : Int)) → PX w y p l e R s m args below meth c Q df.toNat ls st sh d := by
    intro n
    induction n with
    | zero => intro i h _; exact h
    | succ n ih =>
      intro i h hn
      rw [List.range'_succ, List.map_cons] at h
      refine ih (i + 1) (h.2 (hn 0 (by omega))) (fun j hj => ?_)
      have := hn (j + 1) (by omega)
      rwa [show i + (j + 1) = i + 1 + j by omega] at this
  rw [hps, List.range_eq_range'] at K
  by_cases hc : x < lo ∨ hi < x
  · refine lv_tableOut X.1 X.2.1 hd (tgt := df.toNat) (by rw [toI32 hx]; exact hc) (by omega) ?_
    refine none _ _ K (fun j hj q => ?_) ρ H locs lsr hG (hF.stk hh.2)
    omega
  · have hi2 : (x - lo).toNat < offs.size := by omega
    have hk := pick _ 0 (x - lo).toNat hi2 K (by omega)
    rw [Nat.zero_add] at hk
    have hg : offs[(x - lo).toNat]? = some (offs.getD (x - lo).toNat 0) := by
      rw [Array.getD_eq_getD_getElem?, Array.getElem?_eq_getElem hi2]
      rfl
    have hnn : 0 ≤ (pc : Int) + offs.getD (x - lo).toNat 0 := by
      rw [hps] at hoff
      exact hoff _ (List.mem_map.mpr ⟨(x - lo).toNat, List.mem_range.mpr hi2, rfl⟩)
    refine lv_tableIn X.1 X.2.1 hd (tgt := ((pc : Int) + offs.getD (x - lo).toNat 0).toNat) (by rw [toI32 hx]; omega) (by rw [toI32 hx]; omega) (by rw [toI32 hx]; exact hg) (by omega) ?_
    exact hk ρ H locs lsr hG (hF.stk hh.2)
theorem x_lookup {dflt df : Int} {qs : Array (Int × Int)} {len0 : Nat} {ps : List (Int × Int)} {x : Int} (X : CX y p s m args meth c) (hd : decode (mCd y) pc = .ok (.lookupswitch dflt qs, len0))
    (hs : (qs.toList.zip (qs.toList.drop 1)).all (fun (a, next) => a.1 < next.1) = true) (h0 : 0 ≤ df ∧ (pc : Int) + dflt = df) (hps : ps = qs.toList.map (fun q => (q.1, (pc : Int) + q.2))) (hoff : ∀ q ∈ ps, 0 ≤ q.2)
    (K : swC (fun t => PX w y p l e R s m args below meth c Q t.toNat ls st sh d) df x ps) : PX w y p l e R s m args below meth c Q pc ls (.inl x :: st) sh d := by
  intro ρ H locs lsr hG hF
  have hh := hF.1
  simp only [okVs_cons] at hh
  have hx : in32 x := hh.1
  have key : ∀ (r : List (Int × Int)), (∀ q ∈ r.map (fun q => (q.1, (pc : Int) + q.2)), 0 ≤ q.2) → swC (fun t => PX w y p l e R s m args below meth c Q t.toNat ls st sh d) df x (r.map (fun q => (q.1, (pc : Int) + q.2))) → ∃ tgt : Nat, (pc : Int) + Op.lookupswitch.offset r dflt x = (tgt : Int) ∧ PX w y p l e R s m args below meth c Q tgt ls st sh d := by
    intro r
    induction r with
    | nil =>
      intro _ h
      exact ⟨df.toNat, by show (pc : Int) + dflt = _; omega, h⟩
    | cons q r ih =>
      intro ho h
      obtain ⟨v, o⟩ := q
      by_cases he : x = v
      · refine ⟨((pc : Int) + o).toNat, ?_, h.1 he⟩
        have h1 : Op.lookupswitch.offset ((v, o) :: r) dflt x = o := by
          unfold Op.lookupswitch.offset
          simp [he]
        rw [h1]
        have := ho (v, (pc : Int) + o) (by simp)
        show _ = _
        omega
      · obtain ⟨tgt, h1, h2⟩ := ih (fun q hq => ho q (by rw [List.map_cons]; exact List.mem_cons_of_mem _ hq)) (h.2 he)
        refine ⟨tgt, ?_, h2⟩
        have h3 : Op.lookupswitch.offset ((v, o) :: r) dflt x = Op.lookupswitch.offset r dflt x := by
          show (if v = x then o else Op.lookupswitch.offset r dflt x) = _
          rw [if_neg (fun q => he q.symm)]
        rw [h3]
        exact h1
  rw [hps] at K
  obtain ⟨tgt, h1, h2⟩ := key qs.toList (by rw [← hps]; exact hoff) K
  refine lv_lookup X.1 X.2.1 hd hs (by rw [toI32 hx]) h1 ?_
  exact h2 ρ H locs lsr hG (hF.stk hh.2)
end SG
