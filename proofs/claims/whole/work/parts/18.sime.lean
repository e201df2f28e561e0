/-! the heap's steps: what is read alone, what is made, the machine's own calls -/
section SE
variable {w : WP} {y : Nat} {p : Program} {l : Launch} {e : Env} {R : Room} {s : State} {m : MethodId} {args : Array Value} {below : List Frame} {meth : Method} {c : Code} {Q : State → Prop} {pc : Nat} {ls st : List V} {sh : Shp} {d : Dat}
theorem x_lastore {a : Nat} {i v : Int} (E : EX w s) (X : CX y p s m args meth c) (hd : decode (mCd y) pc = .ok (.lastore, 1)) (hk : knd sh a = 22) (hi0 : 0 ≤ i) (hi1 : i < len sh a) (K : PX w y p l e R s m args below meth c Q (pc + 1) ls st sh (ups d a i.toNat v)) : PX w y p l e R s m args below meth c Q pc ls (vL v :: .inl i :: vR a :: st) sh d := by
  intro ρ H locs lsr hG hF
  obtain ⟨n0, rs, h1, h2, h3, h4, h10, hC, hPa⟩ := cellA hG hk (by omega)
  rw [eE_long] at hPa
  have h0 := hF.1
  simp only [okVs_cons] at h0
  show W p l e R s m args below meth c H locs _ _ Q (F0 m pc lsr (.long (Int64.ofInt v) :: .int (Int32.ofInt i) :: adV ρ a :: st.map (rV ρ)))
  rw [adV_ref h10]
  rw [h2] at hi1
  refine va_last (D := w.1) (cl := vwCl) (tys := tysA w.2.1) (ws := wl ρ w.2.1 sh d) (A := w.2.2.1) X.1 X.2.1 E.1 hG.2.2.2.2.1 hG.2.2.2.2.2.1 hG.2.2.2.2.2.2 (a - 10) 2 hPa rfl (vin_of hi0 hi1 h0.2.1) hd (fun H1 locs1 hP hD hS => ?_)
  have eu : vp_updL (fun j => Int64.ofInt (d a j)) i.toNat (Int64.ofInt v) = fun j => Int64.ofInt (fset (d a) i.toNat v j) := by
    funext j
    unfold vp_updL fset
    split <;> rfl
  rw [clampI hi0 h0.2.1, eu, ← eE_long (ρ := ρ) (cA := w.2.1) (rs := rs), wl_rset h1 h10] at hP hD
  refine K ρ H1 locs1 lsr (hG.data h10 (fun j => okd_fset (fun j => hG.2.2.2.1 a j) ?_ j) hP hD hS) (hF.stk h0.2.2.2)
  rw [hk]
  exact h0.1
/-- a new ref in a cell -/
theorem GW.refs {ρ : Nat → Nat} {H H1 : Heap} {locs locs1 : List Loc} {a k n v i : Nat} {rs : List Nat} (hG : GW w s ρ H locs sh d) (h1 : sh[a]? = some (k, n, rs)) (h10 : 10 ≤ a) (hv : v < sh.length) (hP : va_P w.1 vwCl (wl ρ w.2.1 (sh.set a (k, n, rs.set i v)) d) H1) (hD : va_D w.2.2.1 (wl ρ w.2.1 (sh.set a (k, n, rs.set i v)) d)) (hS : va_S w.2.2.1 s.heap H1 locs1) : GW w s ρ H1 locs1 (srf sh a i v) d ∧ (srf sh a i v).length = sh.length ∧ slS (srf sh a i v) = slS sh := by
  have e : srf sh a i v = sh.set a (k, n, rs.set i v) := by
    unfold srf
    rw [h1]
  have hl : (sh.set a (k, n, rs.set i v)).length = sh.length := List.length_set
  have hs : slS (sh.set a (k, n, rs.set i v)) = slS sh := slS_set h1 rfl
  rw [e]
  refine ⟨⟨⟨by rw [hl]; exact hG.1.1, by rw [hs]; exact hG.1.2⟩, ⟨by rw [List.take_set, hG.2.1.1, List.set_eq_of_length_le (by show 10 ≤ a; exact h10)], hG.2.1.2⟩, ⟨fun c hc => ?_, fun c hc => ?_⟩, fun b j => ?_, hP, hD, hS⟩, hl, hs⟩
  · rw [hl]
    rcases List.mem_or_eq_of_mem_set hc with q | q
    · exact hG.2.2.1.1 c q
    · have hC := hG.2.2.1.1 _ (List.mem_of_getElem? h1)
      rw [q]
      refine ⟨fun r hr => ?_, hC.2.1, fun z => by rw [List.length_set]; exact hC.2.2 z⟩
      rcases List.mem_or_eq_of_mem_set hr with z | z
      · exact hC.1 r z
      · rw [z]; exact hv
  · rw [List.drop_set] at hc
    split at hc
    · exact hG.2.2.1.2 c hc
    · rcases List.mem_or_eq_of_mem_set hc with q | q
      · exact hG.2.2.1.2 c q
      · rw [q]
        refine hG.2.2.1.2 (k, n, rs) (List.mem_of_getElem? (i := a - 10) ?_)
        rw [List.getElem?_drop, show 10 + (a - 10) = a by omega]
        exact h1
  · have hk : knd (sh.set a (k, n, rs.set i v)) b = knd sh b := by
      unfold knd
      rw [List.getElem?_set]
      by_cases hb : a = b
      · subst hb
        rw [if_pos rfl, if_pos (List.getElem?_eq_some_iff.mp h1).1, h1]
      · rw [if_neg hb]
    rw [hk]
    exact hG.2.2.2.1 b j
theorem FR.same {ρ : Nat → Nat} {lsr : Array Slot} {sh' : Shp} (h : FR y ρ lsr ls st sh) (hl : sh'.length = sh.length) : FR y ρ lsr ls st sh' := by
  unfold FR
  rw [hl]
  exact h
theorem x_putref {idx n wi a v : Nat} (E : EX w s) (X : CX y p s m args meth c) (hm : (mCl y, idx, n, wi) ∈ fldL) (hd : decode (mCd y) pc = .ok (.putfield idx, 3)) (hk : knd sh a = n / 1000) (ht : n % 10 = 2) (hi : mIni y = true) (ho : n / 1000 = mCl y) (hv0 : 10 ≤ v)
    (K : PX w y p l e R s m args below meth c Q (pc + 3) ls st (srf sh a (n % 1000 / 10) v) d) : PX w y p l e R s m args below meth c Q pc ls (vR v :: vR a :: st) sh d := by
  intro ρ H locs lsr hG hF
  have hf := fld_at hm
  simp only [fldOK, Bool.and_eq_true, Nat.blt_eq, beq_iff_eq] at hf
  obtain ⟨hw, hc, hkk, hmk, hfin⟩ := hf
  obtain ⟨n0, rs, h1, h2, h3, h4, h10, hC, hPa⟩ := cellA hG hk (by omega)
  have hn : n0 = nfN (n / 1000) := hC.2.1 hc
  have hrl : rs.length = n0 := hC.2.2 (Or.inl hc)
  subst hn
  rw [eE_obj hc] at hPa
  have h0 := hF.1
  simp only [okVs_cons] at h0
  rw [ht] at hmk
  show W p l e R s m args below meth c H locs _ _ Q (F0 m pc lsr (adV ρ v :: adV ρ a :: st.map (rV ρ)))
  rw [adV_ref h10]
  have hvr := adV_ref (ρ := ρ) hv0
  have hty : (∃ C, fTy (n / 1000) (n % 1000 / 10) = .object C) ∨ ∃ t, fTy (n / 1000) (n % 1000 / 10) = .array t := by
    revert hmk
    cases fTy (n / 1000) (n % 1000 / 10) <;> intro z <;> first | exact Or.inl ⟨_, rfl⟩ | exact Or.inr ⟨_, rfl⟩ | exact absurd z (by simp [mkT])
  refine va_putF (D := w.1) (cl := vwCl) (tys := tysA w.2.1) (ws := wl ρ w.2.1 sh d) (A := w.2.2.1) (own := clsName (mCl y)) (ref := clsName (n / 1000)) (Ts := wsT) (ty := fTy (n / 1000) (n % 1000 / 10)) X.1 X.2.1 X.2.2.2.2.1 (inT hc) (fTy (n / 1000)) (fnm hc).2.1 (fnm hc).1 X.2.2.2.1 E.1 hG.2.2.2.2.1 hG.2.2.2.2.2.1 hG.2.2.2.2.2.2 (a - 10) hPa (clT hc) (n % 1000 / 10) hkk (X.2.2.2.2.1 _ (hasW_mem hw)) (fun _ h9 => by rw [← (fnm hc).2.2 _ hkk]; exact h9) (by rw [hfin, ht]; rfl) (X.2.2.2.2.2.1 hi) (by rw [(fnm hc).2.2 _ hkk, ho]) ((fnm hc).2.1 _ hkk) ?_ ?_ (by rw [fvL_len]; exact hkk) hd (fun H1 locs1 hP hD hS => ?_)
  · rw [hvr]
    rcases hty with ⟨C, q⟩ | ⟨t, q⟩ <;> rw [q] <;> rfl
  · rw [hvr]
    rcases hty with ⟨C, q⟩ | ⟨t, q⟩ <;> rw [q] <;> rfl
  · rw [fvL_setr hkk hrl hmk, ← eE_obj (cA := w.2.1) hc, wl_sset h4 h10] at hP hD
    obtain ⟨g1, g2, g3⟩ := hG.refs h1 h10 h0.1 hP hD hS
    have hK := K ρ H1 locs1 lsr g1 ((hF.stk h0.2.2).same g2)
    rwa [g2, g3] at hK
theorem x_aastore {a v : Nat} {i : Int} (E : EX w s) (X : CX y p s m args meth c) (hd : decode (mCd y) pc = .ok (.aastore, 1)) (hk : (knd sh a = 23 ∧ knd sh v = 8) ∨ (knd sh a = 24 ∧ knd sh v = 1)) (hi0 : 0 ≤ i) (hi1 : i < len sh a)
    (K : PX w y p l e R s m args below meth c Q (pc + 1) ls st (srf sh a i.toNat v) d) : PX w y p l e R s m args below meth c Q pc ls (vR v :: .inl i :: vR a :: st) sh d := by
  intro ρ H locs lsr hG hF
  have key : ∀ (k kv ci : Nat) (r : vw_C), knd sh a = k → knd sh v = kv → k < 26 → kv < 12 → ldQ k = true → vwCl[kv]? = some r → (∃ t0 : Nat, (tysA w.2.1)[t0]? = some (w.2.1 k, FieldType.object r.1)) → W p l e R s m args below meth c H locs (sh.length - w.2.2.2.1) (slS sh - w.2.2.2.2.1) Q (F0 m pc lsr ((vR v :: .inl i :: vR a :: st).map (rV ρ))) := by
    intro k kv ci r hk hkv h26 h12 hq hr ht
    obtain ⟨t0, ht⟩ := ht
    obtain ⟨n0, rs, h1, h2, h3, h4, h10, hC, hPa⟩ := cellA hG hk h26
    obtain ⟨n1, rs1, v1, v2, v3, v4, v10, vC, vPa⟩ := cellA hG hkv (by omega)
    have hrl : rs.length = n0 := hC.2.2 (Or.inr (by
      unfold ldQ at hq
      simp only [Bool.or_eq_true, beq_iff_eq] at hq
      show 23 ≤ k ∧ k ≤ 25
      omega))
    rw [eE_ref hq] at hPa
    rw [eE_obj h12] at vPa
    have h0 := hF.1
    simp only [okVs_cons] at h0
    show W p l e R s m args below meth c H locs _ _ Q (F0 m pc lsr (adV ρ v :: .int (Int32.ofInt i) :: adV ρ a :: st.map (rV ρ)))
    rw [adV_ref h10, adV_ref v10]
    rw [h2] at hi1
    refine va_astq (D := w.1) (cl := vwCl) (tys := tysA w.2.1) (ws := wl ρ w.2.1 sh d) (A := w.2.2.1) (r := r) X.1 X.2.1 E.1 hG.2.2.2.2.1 hG.2.2.2.2.2.1 hG.2.2.2.2.2.2 (a - 10) t0 (v - 10) kv hPa ht vPa hr (vin_of hi0 hi1 h0.2.1) hd (fun H1 locs1 hP hD hS => ?_)
    have eu : va_up (fun j => adQ ρ (rs.getD j 0)) (Int32.ofInt i).toNatClampNeg (some (ρ v)) = fun j => adQ ρ ((rs.set i.toNat v).getD j 0) := by
      funext j
      rw [clampI hi0 h0.2.1]
      unfold va_up
      by_cases hj : j = i.toNat
      · rw [if_pos hj, hj, List.getD_eq_getElem?_getD, List.getElem?_set_self (by omega)]
        show some (ρ v) = adQ ρ v
        unfold adQ
        rw [if_neg (by omega)]
      · rw [if_neg hj, List.getD_eq_getElem?_getD (l := rs.set _ _), List.getElem?_set_ne (fun q => hj q.symm), ← List.getD_eq_getElem?_getD]
    rw [eu, ← eE_ref (ρ := ρ) (cA := w.2.1) (n := n0) (f := d a) hq, wl_sset h4 h10] at hP hD
    obtain ⟨g1, g2, g3⟩ := hG.refs h1 h10 h0.1 hP hD hS
    have hK := K ρ H1 locs1 lsr g1 ((hF.stk h0.2.2.2).same g2)
    rwa [g2, g3] at hK
  rcases hk with ⟨q1, q2⟩ | ⟨q1, q2⟩
  · exact key 23 8 0 _ q1 q2 (by omega) (by omega) rfl rfl ⟨3, rfl⟩
  · exact key 24 1 0 _ q1 q2 (by omega) (by omega) rfl rfl ⟨4, rfl⟩
/-- a cell of kind 30: the script, or a row of Kind's -/
theorem k30 {ρ : Nat → Nat} {H : Heap} {locs : List Loc} (hG : GW w s ρ H locs sh d) {a : Nat} (hk : knd sh a = 30) : a < 10 ∧ ((a = 1 ∧ len sh a = (w.2.2.2.2.2.1 : Int)) ∨ (2 ≤ a ∧ a ≤ 6 ∧ len sh a = 6)) := by
  obtain ⟨n0, rs, h1, h2, h3, h4⟩ := knd_at hk (by omega)
  have h10 : a < 10 := by
    rcases Nat.lt_or_ge a 10 with q | q
    · exact q
    · have := hG.2.2.1.2 (30, n0, rs) (List.mem_of_getElem? (i := a - 10) (by rw [List.getElem?_drop, show 10 + (a - 10) = a by omega]; exact h1))
      exact absurd this (by omega)
  have e := sh0_low hG.2.1.1 h10
  rw [h1] at e
  refine ⟨h10, ?_⟩
  rw [h2]
  match a, h10 with
  | 0, _ => cases e
  | 1, _ => cases e; exact Or.inl ⟨rfl, rfl⟩
  | 2, _ => cases e; exact Or.inr ⟨by omega, by omega, rfl⟩
  | 3, _ => cases e; exact Or.inr ⟨by omega, by omega, rfl⟩
  | 4, _ => cases e; exact Or.inr ⟨by omega, by omega, rfl⟩
  | 5, _ => cases e; exact Or.inr ⟨by omega, by omega, rfl⟩
  | 6, _ => cases e; exact Or.inr ⟨by omega, by omega, rfl⟩
  | 7, _ => cases e
  | 8, _ => cases e
  | 9, _ => cases e
theorem low_ref {ρ : Nat → Nat} {H : Heap} {locs : List Loc} (E : EX w s) (hG : GW w s ρ H locs sh d) {a : Nat} (ha : a < 10) (h1 : 1 ≤ a) : adV ρ a = .ref (w.2.2.2.2.2.2.1 a) := by
  unfold adV
  rw [if_neg (by omega), hG.2.1.2.2 a (by have := E.2.2.2.2.2.2.2; omega)]
theorem x_iaload30 {a : Nat} {i : Int} (E : EX w s) (X : CX y p s m args meth c) (hd : decode (mCd y) pc = .ok (.iaload, 1)) (hk : knd sh a = 30) (hi0 : 0 ≤ i) (hi1 : i < len sh a) (K : PX w y p l e R s m args below meth c Q (pc + 1) ls (vI (d a i.toNat) :: st) sh d) : PX w y p l e R s m args below meth c Q pc ls (.inl i :: vR a :: st) sh d := by
  intro ρ H locs lsr hG hF
  obtain ⟨h10, hc⟩ := k30 hG hk
  have h0 := hF.1
  simp only [okVs_cons] at h0
  have hin : in32 (d a i.toNat) := by
    have := hG.2.2.2.1 a i.toNat
    rw [hk] at this
    exact this
  have hK := K ρ H locs lsr hG (hF.push hin h0.2.2)
  have hda := hG.2.1.2.1 a h10
  show W p l e R s m args below meth c H locs _ _ Q (F0 m pc lsr (.int (Int32.ofInt i) :: adV ρ a :: st.map (rV ρ)))
  rcases hc with ⟨rfl, hl⟩ | ⟨h2, h6, hl⟩
  · rw [low_ref E hG h10 (by omega)]
    rw [hl] at hi1
    obtain ⟨xs, hX, hbl, hbA, hxs⟩ := E.2.2.2.2.1
    refine va_sld X.1 X.2.1 hX hbl hbA hG.2.2.2.2.2.2 (vin_of hi0 hi1 h0.1) hd ?_
    rw [clampI hi0 h0.1]
    have e : xs i.toNat = Int32.ofInt (d 1 i.toNat) := by rw [hda, hxs, Int32.ofInt_toInt]
    rw [e]
    exact hK
  · rw [low_ref E hG h10 (by omega)]
    rw [hl] at hi1
    refine va_ti X.1 X.2.1 (E.2.2.2.1 a h2 h6).2 hG.2.2.2.2.2.2 (vin_of hi0 hi1 h0.1) rfl hd ?_
    rw [clampI hi0 h0.1, ← hda]
    exact hK
theorem x_alen {a : Nat} (E : EX w s) (X : CX y p s m args meth c) (hd : decode (mCd y) pc = .ok (.arraylength, 1)) (hk : a = 1) (K : PX w y p l e R s m args below meth c Q (pc + 1) ls (vI (len sh a) :: st) sh d) : PX w y p l e R s m args below meth c Q pc ls (vR a :: st) sh d := by
  subst hk
  intro ρ H locs lsr hG hF
  have h0 := hF.1
  simp only [okVs_cons] at h0
  have hl : len sh 1 = (w.2.2.2.2.2.1 : Int) := by
    unfold len
    rw [sh0_low hG.2.1.1 (by omega)]
    rfl
  have hin : in32 (len sh 1) := by
    have := E.2.2.2.2.2.2.1
    rw [hl]
    unfold in32
    omega
  have hK := K ρ H locs lsr hG (hF.push hin h0.2)
  show W p l e R s m args below meth c H locs _ _ Q (F0 m pc lsr (adV ρ 1 :: st.map (rV ρ)))
  rw [low_ref E hG (by omega) (by omega)]
  obtain ⟨xs, hX, hbl, hbA, hxs⟩ := E.2.2.2.2.1
  refine va_slen X.1 X.2.1 hX hbl hbA hG.2.2.2.2.2.2 hd ?_
  rw [hl] at hK
  have e : nI w.2.2.2.2.2.1 = Int32.ofInt (w.2.2.2.2.2.1 : Int) := (Int32.ofInt_eq_ofNat).symm
  first | (rw [e]; exact hK) | exact hK
theorem x_getstatic {idx k wi : Nat} (E : EX w s) (X : CX y p s m args meth c) (hm : (mCl y, idx, k, wi) ∈ statL) (hk2 : 2 ≤ k) (hk6 : k ≤ 6) (hd : decode (mCd y) pc = .ok (.getstatic idx, 3)) (K : PX w y p l e R s m args below meth c Q (pc + 3) ls (vR k :: st) sh d) : PX w y p l e R s m args below meth c Q pc ls st sh d := by
  intro ρ H locs lsr hG hF
  have hw := List.all_eq_true.mp stat_ok _ hm
  have hK := K ρ H locs lsr hG (hF.push (show k < sh.length by have := hG.1.1; have := E.2.2.2.2.2.2.2; omega) hF.1)
  refine va_gets (ref := "DarkLand$Kind") X.1 X.2.1 (E.2.2.2.1 k hk2 hk6).1 hG.2.2.2.2.2.2 X.2.2.2.1 (X.2.2.2.2.1 _ (hasW_mem hw)) (fun _ h9 => h9) hd ?_
  rw [List.map_cons, rV, low_ref E hG (by omega) (by omega)] at hK
  exact hK
end SE
