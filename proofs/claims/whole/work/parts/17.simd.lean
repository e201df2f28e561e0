/-! the heap's steps -/
section SD
variable {w : WP} {y : Nat} {p : Program} {l : Launch} {e : Env} {R : Room} {s : State} {m : MethodId} {args : Array Value} {below : List Frame} {meth : Method} {c : Code} {Q : State → Prop} {pc : Nat} {ls st : List V} {sh : Shp} {d : Dat}
theorem GW.data {ρ : Nat → Nat} {H H1 : Heap} {locs locs1 : List Loc} {a : Nat} {g : Nat → Int} (hG : GW w s ρ H locs sh d) (h10 : 10 ≤ a) (hok : ∀ i, okd (knd sh a) (g i)) (hP : va_P w.1 vwCl (wl ρ w.2.1 sh (rset d a g)) H1) (hD : va_D w.2.2.1 (wl ρ w.2.1 sh (rset d a g))) (hS : va_S w.2.2.1 s.heap H1 locs1) : GW w s ρ H1 locs1 sh (rset d a g) := by
  refine ⟨hG.1, ⟨hG.2.1.1, fun b hb => ?_, hG.2.1.2.2⟩, hG.2.2.1, fun b i => ?_, hP, hD, hS⟩
  · unfold rset
    rw [if_neg (by omega)]
    exact hG.2.1.2.1 b hb
  · unfold rset
    by_cases hb : b = a
    · rw [if_pos hb, hb]
      exact hok i
    · rw [if_neg hb]
      exact hG.2.2.2.1 b i
theorem okd_fset {k : Nat} {f : Nat → Int} {i : Nat} {v : Int} (h : ∀ j, okd k (f j)) (hv : okd k v) (j : Nat) : okd k (fset f i v j) := by
  unfold fset
  split
  · exact hv
  · exact h j
theorem cellA {ρ : Nat → Nat} {H : Heap} {locs : List Loc} (hG : GW w s ρ H locs sh d) {a k : Nat} (hk : knd sh a = k) (h26 : k < 26) : ∃ n rs, sh[a]? = some (k, n, rs) ∧ len sh a = n ∧ (∀ j, rfN sh a j = rs.getD j 0) ∧ a < sh.length ∧ 10 ≤ a ∧ okC sh.length (k, n, rs) ∧ (wl ρ w.2.1 sh d)[a - 10]? = some (ρ a, eE ρ w.2.1 (k, n, rs) (d a)) := by
  obtain ⟨n, rs, h1, h2, h3, h4⟩ := knd_at hk (by omega)
  have h10 := knd_high hG.2.1.1 hk (by omega) (by omega) (by omega)
  exact ⟨n, rs, h1, h2, h3, h4, h10, hG.2.2.1.1 _ (List.mem_of_getElem? h1), wl_at h1 h10⟩
theorem adV_ref {ρ : Nat → Nat} {a : Nat} (h : 10 ≤ a) : adV ρ a = .ref (ρ a) := if_neg (by omega)
theorem x_getfield {idx n wi a : Nat} (E : EX w s) (X : CX y p s m args meth c) (hm : (mCl y, idx, n, wi) ∈ fldL) (hd : decode (mCd y) pc = .ok (.getfield idx, 3)) (hk : knd sh a = n / 1000)
    (K2 : n % 10 = 2 → PX w y p l e R s m args below meth c Q (pc + 3) ls (vR (rfN sh a (n % 1000 / 10)) :: st) sh d) (K1 : n % 10 ≠ 2 → PX w y p l e R s m args below meth c Q (pc + 3) ls (vI (d a (n % 1000 / 10)) :: st) sh d) : PX w y p l e R s m args below meth c Q pc ls (vR a :: st) sh d := by
  intro ρ H locs lsr hG hF
  have hf := fld_at hm
  simp only [fldOK, Bool.and_eq_true, Nat.blt_eq, beq_iff_eq] at hf
  obtain ⟨hw, hc, hkk, hmk, -⟩ := hf
  obtain ⟨n0, rs, h1, h2, h3, h4, h10, hC, hPa⟩ := cellA hG hk (by omega)
  have hn : n0 = nfN (n / 1000) := hC.2.1 hc
  subst hn
  rw [eE_obj hc] at hPa
  have hst := (okVs_cons.mp hF.1).2
  show W p l e R s m args below meth c H locs _ _ Q (F0 m pc lsr (adV ρ a :: st.map (rV ρ)))
  rw [adV_ref h10]
  refine va_get (D := w.1) (cl := vwCl) (tys := tysA w.2.1) (ws := wl ρ w.2.1 sh d) (own := clsName (mCl y)) (ref := clsName (n / 1000)) (Ts := wsT) X.1 X.2.1 X.2.2.2.2.1 (inT hc) X.2.2.2.1 E.1 hG.2.2.2.2.1 (a - 10) hPa (clT hc) (n % 1000 / 10) hkk (X.2.2.2.2.1 _ (hasW_mem hw)) (fun _ h9 => by rw [← (fnm hc).2.2 _ hkk]; exact h9) (fvL_at hkk) hd ?_
  by_cases h2 : n % 10 = 2
  · rw [h2] at hmk
    rw [fv_ref hmk, ← h3]
    exact K2 h2 ρ H locs lsr hG (hF.push (by show rfN sh a _ < sh.length; rw [h3]; exact getD_mem hC.1 (by omega) _) hst)
  · rw [fv_int hmk h2]
    refine K1 h2 ρ H locs lsr hG (hF.push ?_ hst)
    have := hG.2.2.2.1 a (n % 1000 / 10)
    rw [hk] at this
    unfold okd at this
    rw [if_neg (by omega), if_neg (by omega)] at this
    exact this
theorem x_putnum {idx n wi a : Nat} {v : Int} (E : EX w s) (X : CX y p s m args meth c) (hm : (mCl y, idx, n, wi) ∈ fldL) (hd : decode (mCd y) pc = .ok (.putfield idx, 3)) (hk : knd sh a = n / 1000) (ht : n % 10 = 0 ∨ (n % 10 = 1 ∧ (v = 0 ∨ v = 1)))
    (K : PX w y p l e R s m args below meth c Q (pc + 3) ls st sh (ups d a (n % 1000 / 10) v)) : PX w y p l e R s m args below meth c Q pc ls (.inl v :: vR a :: st) sh d := by
  intro ρ H locs lsr hG hF
  have hf := fld_at hm
  simp only [fldOK, Bool.and_eq_true, Nat.blt_eq, beq_iff_eq] at hf
  obtain ⟨hw, hc, hkk, hmk, hfin⟩ := hf
  obtain ⟨n0, rs, h1, h2, h3, h4, h10, hC, hPa⟩ := cellA hG hk (by omega)
  have hn : n0 = nfN (n / 1000) := hC.2.1 hc
  subst hn
  rw [eE_obj hc] at hPa
  have h0 := hF.1
  simp only [okVs_cons] at h0
  show W p l e R s m args below meth c H locs _ _ Q (F0 m pc lsr (.int (Int32.ofInt v) :: adV ρ a :: st.map (rV ρ)))
  rw [adV_ref h10]
  have hty : fTy (n / 1000) (n % 1000 / 10) = .int ∧ n % 10 = 0 ∨ fTy (n / 1000) (n % 1000 / 10) = .boolean ∧ n % 10 = 1 := by
    rcases ht with q | ⟨q, -⟩
    · rw [q] at hmk
      left
      refine ⟨?_, q⟩
      revert hmk
      cases fTy (n / 1000) (n % 1000 / 10) <;> intro z <;> first | rfl | exact absurd z (by simp [mkT])
    · rw [q] at hmk
      right
      refine ⟨?_, q⟩
      revert hmk
      cases fTy (n / 1000) (n % 1000 / 10) <;> intro z <;> first | rfl | exact absurd z (by simp [mkT])
  have hty2 : fTy (n / 1000) (n % 1000 / 10) = .int ∨ fTy (n / 1000) (n % 1000 / 10) = .boolean := by
    rcases hty with q | q
    · exact Or.inl q.1
    · exact Or.inr q.1
  have hv01 : n % 10 = 1 → v = 0 ∨ v = 1 := fun q => by
    rcases ht with z | z
    · omega
    · exact z.2
  refine va_put (D := w.1) (cl := vwCl) (tys := tysA w.2.1) (ws := wl ρ w.2.1 sh d) (A := w.2.2.1) (own := clsName (mCl y)) (ref := clsName (n / 1000)) (Ts := wsT) (ty := fTy (n / 1000) (n % 1000 / 10)) X.1 X.2.1 X.2.2.2.2.1 (inT hc) (fTy (n / 1000)) (fnm hc).2.1 (fnm hc).1 X.2.2.2.1 E.1 hG.2.2.2.2.1 hG.2.2.2.2.2.1 hG.2.2.2.2.2.2 (a - 10) hPa (clT hc) (n % 1000 / 10) hkk (X.2.2.2.2.1 _ (hasW_mem hw)) (fun _ h9 => by rw [← (fnm hc).2.2 _ hkk]; exact h9) (by rw [hfin]; rcases hty with q | q <;> rw [q.2] <;> rfl) ((fnm hc).2.1 _ hkk) ?_ ?_ (by rw [fvL_len]; exact hkk) hd (fun H1 locs1 hP hD hS => ?_)
  · rcases hty with q | q
    · rw [q.1]; rfl
    · rw [q.1]
      rcases hv01 q.2 with z | z <;> rw [z] <;> rfl
  · rcases hty with q | q
    · rw [q.1]; rfl
    · rw [q.1]
      rcases hv01 q.2 with z | z <;> rw [z] <;> rfl
  · rw [fvL_seti hkk hty2, ← eE_obj (cA := w.2.1) hc, wl_rset h1 h10] at hP hD
    refine K ρ H1 locs1 lsr (hG.data h10 (fun i => okd_fset (fun j => hG.2.2.2.1 a j) ?_ i) hP hD hS) (hF.stk h0.2.2)
    rw [hk]
    unfold okd
    rw [if_neg (by omega), if_neg (by omega)]
    exact h0.1
theorem x_iaload20 {a : Nat} {i : Int} (E : EX w s) (X : CX y p s m args meth c) (hd : decode (mCd y) pc = .ok (.iaload, 1)) (hk : knd sh a = 20) (hi0 : 0 ≤ i) (hi1 : i < len sh a) (K : PX w y p l e R s m args below meth c Q (pc + 1) ls (vI (d a i.toNat) :: st) sh d) : PX w y p l e R s m args below meth c Q pc ls (.inl i :: vR a :: st) sh d := by
  intro ρ H locs lsr hG hF
  obtain ⟨n0, rs, h1, h2, h3, h4, h10, hC, hPa⟩ := cellA hG hk (by omega)
  rw [eE_int (Or.inl rfl)] at hPa
  have h0 := hF.1
  simp only [okVs_cons] at h0
  show W p l e R s m args below meth c H locs _ _ Q (F0 m pc lsr (.int (Int32.ofInt i) :: adV ρ a :: st.map (rV ρ)))
  rw [adV_ref h10]
  rw [h2] at hi1
  refine va_iald (D := w.1) (cl := vwCl) (tys := tysA w.2.1) (ws := wl ρ w.2.1 sh d) X.1 X.2.1 E.1 hG.2.2.2.2.1 (a - 10) 0 hPa rfl (vin_of hi0 hi1 h0.1) hd ?_
  rw [clampI hi0 h0.1]
  refine K ρ H locs lsr hG (hF.push ?_ h0.2.2)
  have := hG.2.2.2.1 a i.toNat
  rw [hk] at this
  exact this
theorem x_baload {a : Nat} {i : Int} (E : EX w s) (X : CX y p s m args meth c) (hd : decode (mCd y) pc = .ok (.baload, 1)) (hk : knd sh a = 21) (hi0 : 0 ≤ i) (hi1 : i < len sh a) (K : PX w y p l e R s m args below meth c Q (pc + 1) ls (vI (d a i.toNat) :: st) sh d) : PX w y p l e R s m args below meth c Q pc ls (.inl i :: vR a :: st) sh d := by
  intro ρ H locs lsr hG hF
  obtain ⟨n0, rs, h1, h2, h3, h4, h10, hC, hPa⟩ := cellA hG hk (by omega)
  rw [eE_int (Or.inr rfl)] at hPa
  have h0 := hF.1
  simp only [okVs_cons] at h0
  show W p l e R s m args below meth c H locs _ _ Q (F0 m pc lsr (.int (Int32.ofInt i) :: adV ρ a :: st.map (rV ρ)))
  rw [adV_ref h10]
  rw [h2] at hi1
  refine va_zald (D := w.1) (cl := vwCl) (tys := tysA w.2.1) (ws := wl ρ w.2.1 sh d) X.1 X.2.1 E.1 hG.2.2.2.2.1 (a - 10) 1 hPa rfl (vin_of hi0 hi1 h0.1) hd ?_
  rw [clampI hi0 h0.1]
  refine K ρ H locs lsr hG (hF.push ?_ h0.2.2)
  have : okd 21 (d a i.toNat) := by
    have := hG.2.2.2.1 a i.toNat
    rwa [hk] at this
  have this : d a i.toNat = 0 ∨ d a i.toNat = 1 := this
  show in32 _
  unfold in32
  omega
theorem x_laload {a : Nat} {i : Int} (E : EX w s) (X : CX y p s m args meth c) (hd : decode (mCd y) pc = .ok (.laload, 1)) (hk : knd sh a = 22) (hi0 : 0 ≤ i) (hi1 : i < len sh a) (K : PX w y p l e R s m args below meth c Q (pc + 1) ls (vL (d a i.toNat) :: st) sh d) : PX w y p l e R s m args below meth c Q pc ls (.inl i :: vR a :: st) sh d := by
  intro ρ H locs lsr hG hF
  obtain ⟨n0, rs, h1, h2, h3, h4, h10, hC, hPa⟩ := cellA hG hk (by omega)
  rw [eE_long] at hPa
  have h0 := hF.1
  simp only [okVs_cons] at h0
  show W p l e R s m args below meth c H locs _ _ Q (F0 m pc lsr (.int (Int32.ofInt i) :: adV ρ a :: st.map (rV ρ)))
  rw [adV_ref h10]
  rw [h2] at hi1
  refine va_lald (D := w.1) (cl := vwCl) (tys := tysA w.2.1) (ws := wl ρ w.2.1 sh d) X.1 X.2.1 E.1 hG.2.2.2.2.1 (a - 10) 2 hPa rfl (vin_of hi0 hi1 h0.1) hd ?_
  rw [clampI hi0 h0.1]
  refine K ρ H locs lsr hG (hF.push ?_ h0.2.2)
  have := hG.2.2.2.1 a i.toNat
  rw [hk] at this
  exact this
theorem x_aaload {a : Nat} {i : Int} (E : EX w s) (X : CX y p s m args meth c) (hd : decode (mCd y) pc = .ok (.aaload, 1)) (hk : ldQ (knd sh a) = true) (hi0 : 0 ≤ i) (hi1 : i < len sh a) (K : PX w y p l e R s m args below meth c Q (pc + 1) ls (vR (rfN sh a i.toNat) :: st) sh d) : PX w y p l e R s m args below meth c Q pc ls (.inl i :: vR a :: st) sh d := by
  intro ρ H locs lsr hG hF
  have hq : knd sh a = 23 ∨ knd sh a = 24 ∨ knd sh a = 25 := by
    unfold ldQ at hk
    simp only [Bool.or_eq_true, beq_iff_eq] at hk
    omega
  obtain ⟨n0, rs, h1, h2, h3, h4, h10, hC, hPa⟩ := cellA hG rfl (show knd sh a < 26 by omega)
  rw [eE_ref hk] at hPa
  have h0 := hF.1
  simp only [okVs_cons] at h0
  show W p l e R s m args below meth c H locs _ _ Q (F0 m pc lsr (.int (Int32.ofInt i) :: adV ρ a :: st.map (rV ρ)))
  rw [adV_ref h10]
  rw [h2] at hi1
  have hcell : H[ρ a]? = some (vp_cell (w.2.1 (knd sh a)) (n0, .inr (.inr (.inr (.inr fun j => adQ ρ (rs.getD j 0)))))) := hG.2.2.2.2.1 (a - 10) _ hPa
  have hty : ∃ ty : FieldType, ArrOfT s (w.2.1 (knd sh a)) ty ∧ ty.isReference = true := by
    rcases hq with q | q | q <;> rw [q]
    · exact ⟨_, (E.1.2 3 _ rfl).1, rfl⟩
    · exact ⟨_, (E.1.2 4 _ rfl).1, rfl⟩
    · exact ⟨_, (E.1.2 5 _ rfl).1, rfl⟩
  obtain ⟨ty, hA, hr⟩ := hty
  rw [vp_cell_q] at hcell
  have hin := vin_of hi0 hi1 h0.1
  have hcl := clampI hi0 h0.1
  refine W.aald (j := Int32.ofInt i) (v := adV ρ (rs.getD i.toNat 0)) X.1 X.2.1 hcell (hA n0 _) hr (by intro z; cases z) (by rw [arrV_size]; exact hin) (by rw [arrV_read _ _ (by rw [hcl]; omega), hcl, adV_adQ]) rfl rfl hd ?_
  rw [← h3]
  refine K ρ H locs lsr hG (hF.push ?_ h0.2.2)
  show rfN sh a _ < sh.length
  rw [h3]
  exact getD_mem hC.1 (by omega) _
theorem upd_fset {f : Nat → Int} {k : Nat} {v : Int} : upd (fun j => Int32.ofInt (f j)) k (Int32.ofInt v) = fun j => Int32.ofInt (fset f k v j) := by
  funext j
  unfold upd fset
  split <;> rfl
theorem x_iastore {a : Nat} {i v : Int} (E : EX w s) (X : CX y p s m args meth c) (hd : decode (mCd y) pc = .ok (.iastore, 1)) (hk : knd sh a = 20) (hi0 : 0 ≤ i) (hi1 : i < len sh a) (K : PX w y p l e R s m args below meth c Q (pc + 1) ls st sh (ups d a i.toNat v)) : PX w y p l e R s m args below meth c Q pc ls (.inl v :: .inl i :: vR a :: st) sh d := by
  intro ρ H locs lsr hG hF
  obtain ⟨n0, rs, h1, h2, h3, h4, h10, hC, hPa⟩ := cellA hG hk (by omega)
  rw [eE_int (Or.inl rfl)] at hPa
  have h0 := hF.1
  simp only [okVs_cons] at h0
  show W p l e R s m args below meth c H locs _ _ Q (F0 m pc lsr (.int (Int32.ofInt v) :: .int (Int32.ofInt i) :: adV ρ a :: st.map (rV ρ)))
  rw [adV_ref h10]
  rw [h2] at hi1
  refine va_iast (D := w.1) (cl := vwCl) (tys := tysA w.2.1) (ws := wl ρ w.2.1 sh d) (A := w.2.2.1) X.1 X.2.1 E.1 hG.2.2.2.2.1 hG.2.2.2.2.2.1 hG.2.2.2.2.2.2 (a - 10) 0 hPa rfl (vin_of hi0 hi1 h0.2.1) hd (fun H1 locs1 hP hD hS => ?_)
  rw [clampI hi0 h0.2.1, upd_fset, ← eE_int (ρ := ρ) (cA := w.2.1) (rs := rs) (Or.inl rfl), wl_rset h1 h10] at hP hD
  refine K ρ H1 locs1 lsr (hG.data h10 (fun j => okd_fset (fun j => hG.2.2.2.1 a j) ?_ j) hP hD hS) (hF.stk h0.2.2.2)
  rw [hk]
  exact h0.1
theorem x_bastore {a : Nat} {i v : Int} (E : EX w s) (X : CX y p s m args meth c) (hd : decode (mCd y) pc = .ok (.bastore, 1)) (hk : knd sh a = 21) (hi0 : 0 ≤ i) (hi1 : i < len sh a) (hv : v = 0 ∨ v = 1) (K : PX w y p l e R s m args below meth c Q (pc + 1) ls st sh (ups d a i.toNat v)) : PX w y p l e R s m args below meth c Q pc ls (.inl v :: .inl i :: vR a :: st) sh d := by
  intro ρ H locs lsr hG hF
  obtain ⟨n0, rs, h1, h2, h3, h4, h10, hC, hPa⟩ := cellA hG hk (by omega)
  rw [eE_int (Or.inr rfl)] at hPa
  have h0 := hF.1
  simp only [okVs_cons] at h0
  show W p l e R s m args below meth c H locs _ _ Q (F0 m pc lsr (.int (Int32.ofInt v) :: .int (Int32.ofInt i) :: adV ρ a :: st.map (rV ρ)))
  rw [adV_ref h10]
  rw [h2] at hi1
  have hnar : vp_nar .boolean (Int32.ofInt v) = Int32.ofInt v := by rcases hv with z | z <;> rw [z] <;> rfl
  refine va_zast (D := w.1) (cl := vwCl) (tys := tysA w.2.1) (ws := wl ρ w.2.1 sh d) (A := w.2.2.1) X.1 X.2.1 E.1 hG.2.2.2.2.1 hG.2.2.2.2.2.1 hG.2.2.2.2.2.2 (a - 10) 1 hPa rfl (vin_of hi0 hi1 h0.2.1) hd (fun H1 locs1 hP hD hS => ?_)
  rw [hnar, clampI hi0 h0.2.1, upd_fset, ← eE_int (ρ := ρ) (cA := w.2.1) (rs := rs) (Or.inr rfl), wl_rset h1 h10] at hP hD
  refine K ρ H1 locs1 lsr (hG.data h10 (fun j => okd_fset (fun j => hG.2.2.2.1 a j) ?_ j) hP hD hS) (hF.stk h0.2.2.2)
  rw [hk]
  exact hv
end SD
