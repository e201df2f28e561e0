/-! methods by depth: each call's contract out of the abstract run -/
theorem lgB_ok {lg : List Nat} : ∀ (vs : List V) (i0 : Nat), lgB lg i0 vs = true → ∀ (i : Nat) (x : Int), vs[i]? = some (vL x) → i0 + i ∈ lg
  | [], _, _, _, _, h => by cases h
  | v :: r, i0, hb, i, x, h => by
    have step : lgB lg (i0 + 1) r = true ∧ (∀ z, v = vL z → i0 ∈ lg) := by
      rcases v with a | a | a | a
      · exact ⟨hb, fun z q => by cases q⟩
      · have hb : (lg.contains i0 && lgB lg (i0 + 1) r) = true := hb
        rw [Bool.and_eq_true] at hb
        exact ⟨hb.2, fun _ _ => List.contains_iff_mem.mp hb.1⟩
      · exact ⟨hb, fun z q => by cases q⟩
      · exact ⟨hb, fun z q => by cases q⟩
    cases i with
    | zero => exact step.2 x (Option.some.inj h)
    | succ i =>
      have := lgB_ok r (i0 + 1) step.1 i x h
      rwa [show i0 + 1 + i = i0 + (i + 1) by omega] at this
theorem pad_len {ρ : Nat → Nat} : ∀ as : List V, (lg_sl (as.map (rV ρ))).length = (padL as).length
  | [] => rfl
  | v :: r => by
    have ih := pad_len (ρ := ρ) r
    have e : lg_sl ((v :: r).map (rV ρ)) = (if (rV ρ v).category = 2 then [.val (rV ρ v), .second] else [.val (rV ρ v)]) ++ lg_sl (r.map (rV ρ)) := by
      unfold lg_sl
      rw [List.map_cons, List.flatMap_cons]
    rw [e, List.length_append, ih, rV_cat]
    rcases v with x | x | a | u
    · show 1 + _ = (padL r).length + 1; omega
    · show 2 + _ = (padL r).length + 1 + 1; omega
    · show 1 + _ = (padL r).length + 1; omega
    · show 1 + _ = (padL r).length + 1; omega
theorem pad_args {ρ : Nat → Nat} : ∀ (as : List V) (i0 i : Nat) (v : V), (padL as)[i]? = some v → v ≠ vU → (i0 + i, rV ρ v) ∈ lv_args i0 (as.map (rV ρ))
  | [], _, _, _, h, _ => by cases h
  | u :: r, i0, i, v, h, hv => by
    have e : lv_args i0 ((u :: r).map (rV ρ)) = (i0, rV ρ u) :: lv_args (if (rV ρ u).category = 2 then i0 + 2 else i0 + 1) (r.map (rV ρ)) := rfl
    rw [e, rV_cat]
    have one : padL (u :: r) = u :: padL r → catV u = 1 → (i0 + i, rV ρ v) ∈ (i0, rV ρ u) :: lv_args (if catV u = 2 then i0 + 2 else i0 + 1) (r.map (rV ρ)) := by
      intro q1 q2
      rw [q1] at h
      rw [q2, if_neg (by omega)]
      cases i with
      | zero =>
        have h := Option.some.inj h
        rw [h]
        exact List.mem_cons_self
      | succ i =>
        refine List.mem_cons_of_mem _ ?_
        have := pad_args (ρ := ρ) r (i0 + 1) i v h hv
        rwa [show i0 + 1 + i = i0 + (i + 1) by omega] at this
    rcases u with x | x | a | z
    · exact one rfl rfl
    · have q1 : padL (Sum.inr (Sum.inl x) :: r) = vL x :: vU :: padL r := rfl
      rw [q1] at h
      rw [show catV (Sum.inr (Sum.inl x)) = 2 from rfl, if_pos rfl]
      match i, h with
      | 0, h =>
        have h := Option.some.inj h
        rw [← h]
        exact List.mem_cons_self
      | 1, h => exact absurd (Option.some.inj h).symm hv
      | i + 2, h =>
        refine List.mem_cons_of_mem _ ?_
        have := pad_args (ρ := ρ) r (i0 + 2) i v h hv
        rwa [show i0 + 2 + i = i0 + (i + 2) by omega] at this
    · exact one rfl rfl
    · exact one rfl rfl
theorem entL_LV {ρ : Nat → Nat} {n : Nat} {lg : List Nat} {as : List V} (h : argOK n lg as = true) : LV ρ n ((lg_sl (as.map (rV ρ)) ++ List.replicate (n - (lg_sl (as.map (rV ρ))).length) Slot.unset).toArray) (entL n as) ∧ lgOK lg (entL n as) := by
  unfold argOK at h
  rw [Bool.and_eq_true] at h
  have hl := Nat.le_of_ble_eq_true h.1
  have he := lv_entry (as.map (rV ρ)) (n := n) (by rw [pad_len]; exact hl)
  have key : ∀ (i : Nat) (v : V), (entL n as)[i]? = some v → v ≠ vU → (padL as)[i]? = some v := by
    intro i v hi hv
    unfold entL at hi
    rw [List.getElem?_append] at hi
    split at hi
    · exact hi
    · rw [List.getElem?_replicate] at hi
      split at hi
      · exact absurd (Option.some.inj hi).symm hv
      · cases hi
  refine ⟨⟨by unfold entL; rw [List.length_append, List.length_replicate]; omega, he.1, he.2.1, fun q hq => ?_⟩, fun i x hi => ?_⟩
  · obtain ⟨v, h1, h2, h3⟩ := lvl_mem.mp hq
    have := pad_args (ρ := ρ) as 0 q.1 v (key _ _ h1 h2) h2
    rw [Nat.zero_add] at this
    rw [show q = (q.1, rV ρ v) from Prod.ext rfl h3]
    exact he.2.2 _ this
  · have := lgB_ok (padL as) 0 h.2 i x (key i _ hi (by simp))
    rwa [Nat.zero_add] at this
theorem okVs_pad {n m : Nat} {as : List V} (h : okVs n as) : okVs n (entL m as) := by
  have key : ∀ as : List V, okVs n as → okVs n (padL as) := by
    intro as
    induction as with
    | nil => intro _ v hv; cases hv
    | cons u r ih =>
      intro h
      have hc := okVs_cons.mp h
      rcases u with x | x | a | z
      · exact okVs_cons.mpr ⟨hc.1, ih hc.2⟩
      · exact okVs_cons.mpr ⟨hc.1, okVs_cons.mpr ⟨trivial, ih hc.2⟩⟩
      · exact okVs_cons.mpr ⟨hc.1, ih hc.2⟩
      · exact okVs_cons.mpr ⟨hc.1, ih hc.2⟩
  intro v hv
  unfold entL at hv
  rcases List.mem_append.mp hv with q | q
  · exact key as h v q
  · rw [(List.mem_replicate.mp q).2]
    trivial
theorem plain_ok (c : Nat) : plainName (clsName c) = true := by
  have h : ∀ c, c < 13 → plainName (clsName c) = true := by decide +kernel
  by_cases hc : c < 13
  · exact h c hc
  · unfold clsName
    split <;> first | (exfalso; omega) | decide +kernel
set_option maxHeartbeats 4000000 in
theorem METS_succ {k : Nat} {l : Launch} (HJ : MJ l) (HM : METS k l) : METS (k + 1) l := by
  intro y hy as sh d Qr hC has halloc D cA L d0 ρ sz
  obtain ⟨hargs, hgo⟩ := (show argOK (mxN y) (lgOf y) as = true ∧ GoG GG (ClG GG k) y Qr 0 (entL (mxN y) as) [] sh d from hC)
  obtain ⟨⟨hini, hst1, hst2⟩, har, hcls, hinit, hrt, hpar, hmx⟩ := mOK_at hy
  have hplain : plainName (mNm y).cls = true := by
    rw [hcls]
    exact plain_ok _
  refine Met.ofW (cc := mCd y) (maxL := mxN y) (ret := mRt y) hplain rfl ?_
  intro p e s m args below meth c s₁ B hml hv
  obtain ⟨rfl, rfl, ⟨h10, ht10, hd0⟩, o1, o2, hP, hD, hE⟩ := hv
  have hts := atoms_spec (ws := wsU y) B.pre
  have hX : CX y p s m (as.map (rV ρ)).toArray meth c := ⟨B.exec, B.bytes, hml, by rw [← hcls]; exact findClass_of_methodNamed B.named, fun w hw => hts w (List.mem_cons_of_mem _ hw), fun hi => by rw [(name_of_methodNamed B.named B.method).1]; exact hinit hi, B.returns, B.notSynchronized⟩
  rw [lg_entry_eq]
  obtain ⟨hLV, hlg⟩ := entL_LV (ρ := ρ) hargs
  have hG : GW (wOf D cA L d0 ρ sh d s.heap.size) s ρ s.heap [] sh d := ⟨⟨Nat.le_refl _, Nat.le_refl _⟩, ⟨ht10, hd0, fun _ _ => rfl⟩, o1, o2, hP, hD.self, va_S.rf⟩
  have hF : FR y ρ ((lg_sl (as.map (rV ρ)) ++ List.replicate (mxN y - (lg_sl (as.map (rV ρ))).length) Slot.unset).toArray) (entL (mxN y) as) [] sh := ⟨fun v hv => (by cases hv), okVs_pad has, hLV, hlg⟩
  have hR : (rmK (k + 1) y).frames = k + 9 ∧ (rmK (k + 1) y).locals = 64 * k + 728 := ⟨rfl, by show 64 * (k + 1) + 664 = _; omega⟩
  have hend : ∀ (r : V) (sh' : Shp) (d' : Dat) (ρ' : Nat → Nat) (H : Heap) (locs : List Loc) (t : State), Qr r sh' d' → okV sh'.length r → GW (wOf D cA L d0 ρ sh d s.heap.size) s ρ' H locs sh' d' → t.heap = H → s.WarmedH t.vm → (PostW D cA L d0 ρ sh d s.heap.size y Qr (.returned (retV y (rV ρ' r))) t ∧ va_F (va_A (wl ρ cA sh d) s.heap.size) s t) := by
    intro r sh' d' ρ' H locs t hq hr hg ht hw
    refine ⟨⟨r, sh', d', ρ', rfl, hq, hr, ⟨hg.2.1.1, hg.2.1.2.1, hg.2.1.2.2⟩, hg.2.2.1, hg.2.2.2.1, by rw [ht]; exact hg.2.2.2.2.1, hg.2.2.2.2.2.1⟩, ?_⟩
    exact hg.2.2.2.2.2.2.F ht
  have key : PP (wOf D cA L d0 ρ sh d s.heap.size) y p l e (rmK (k + 1) y) s m (as.map (rV ρ)).toArray below meth c (MQ below (fun _ st oc t => PostW D cA L d0 ρ sh d s.heap.size y Qr oc t ∧ va_F (va_A (wl ρ cA sh d) s.heap.size) st t) (as.map (rV ρ)).toArray s (mkN y).1 (mkN y).2 (va_A (wl ρ cA sh d) s.heap.size)) 0 (entL (mxN y) as) [] sh d := by
    refine hgo _ (fun pc ls st sh2 d2 h => sim_step (k := k) HM HJ hE hX (by omega) ?_ h)
    intro pc ls sh2 d2
    have hbd : ∀ v, Qr v sh2 d2 → BD (wOf D cA L d0 ρ sh d s.heap.size) (rmK (k + 1) y) sh2 := fun v hq => by
      obtain ⟨q1, q2⟩ := halloc v sh2 d2 hq
      exact ⟨by rw [q1]; exact Nat.le_refl _, by rw [q2]; exact Nat.le_refl _⟩
    have hcs : ∀ v, Qr v sh2 d2 → sh2.length - sh.length = (mkN y).1 ∧ slS sh2 - slS sh = (mkN y).2 := fun v hq => by
      obtain ⟨q1, q2⟩ := halloc v sh2 d2 hq
      omega
    refine ⟨fun x hdec hty hq => ⟨hbd _ hq, fun ρ' H locs lsr hg hf => ?_⟩, fun x hdec hty hq => ⟨hbd _ hq, fun ρ' H locs lsr hg hf => ?_⟩, fun hdec hty hq => ⟨hbd _ hq, fun ρ' H locs lsr hg hf => ?_⟩⟩
    · obtain ⟨c1, c2⟩ := hcs _ hq
      show W p l e _ s m _ below meth c H locs (sh2.length - sh.length) (slS sh2 - slS sh) _ (F0 m pc lsr [.int (Int32.ofInt x)])
      rw [c1, c2]
      have hok := okVs_cons.mp hf.1
      rcases hty with hty | ⟨hty, hx⟩
      · refine W.iret hX.1 hX.2.1 (by rw [hX.2.2.2.2.2.2.1, hty]) (fun t ht hw => ?_) hg.2.2.2.2.2.2.2.2 hdec
        have := hend _ sh2 d2 ρ' H locs t hq hok.1 hg ht hw
        unfold retV at this
        rw [hty] at this
        exact this
      · refine W.zret (ty := .boolean) hX.1 hX.2.1 (by rw [hX.2.2.2.2.2.2.1, hty]) (by rcases hx with rfl | rfl <;> rfl) (fun t ht hw => ?_) hg.2.2.2.2.2.2.2.2 hdec
        have := hend _ sh2 d2 ρ' H locs t hq hok.1 hg ht hw
        unfold retV at this
        rw [hty] at this
        exact this
    · obtain ⟨c1, c2⟩ := hcs _ hq
      show W p l e _ s m _ below meth c H locs (sh2.length - sh.length) (slS sh2 - slS sh) _ (F0 m pc lsr [.long (Int64.ofInt x)])
      rw [c1, c2]
      have hok := okVs_cons.mp hf.1
      refine W.lret hX.1 hX.2.1 (by rw [hX.2.2.2.2.2.2.1, hty]) (fun t ht hw => ?_) hg.2.2.2.2.2.2.2.2 hdec
      have := hend _ sh2 d2 ρ' H locs t hq hok.1 hg ht hw
      unfold retV at this
      rw [hty] at this
      exact this
    · obtain ⟨c1, c2⟩ := hcs _ hq
      show W p l e _ s m _ below meth c H locs (sh2.length - sh.length) (slS sh2 - slS sh) _ (F0 m pc lsr [])
      rw [c1, c2]
      refine W.vret hX.1 hX.2.1 (by rw [hX.2.2.2.2.2.2.1, hty]) (fun t ht hw => ?_) hg.2.2.2.2.2.2.2.2 hdec
      have := hend vU sh2 d2 ρ' H locs t hq trivial hg ht hw
      unfold retV at this
      rw [hty] at this
      exact this
  have hW := key.2 ρ s.heap [] _ hG hF
  have z1 : sh.length - (wOf D cA L d0 ρ sh d s.heap.size).2.2.2.1 = 0 := Nat.sub_self _
  have z2 : slS sh - (wOf D cA L d0 ρ sh d s.heap.size).2.2.2.2.1 = 0 := Nat.sub_self _
  rw [z1, z2] at hW
  exact hW
theorem METS_all {l : Launch} (HJ : MJ l) : ∀ k, METS k l
  | 0 => fun y _ as sh d Q h => h.elim
  | k + 1 => METS_succ HJ (METS_all HJ k)
