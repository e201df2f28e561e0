/-! the evaluator is sound -/
def EvOK (E : EvT) : Prop := ∀ d y pc ls st sh dl v sh' dl', E d y pc ls st sh dl = some (v, sh', dl') → I1 sh → I1 sh' ∧ ∀ L r1 (R : RT), R v (shL L sh') (dOf r1 dl') → Go d y R pc ls st (shL L sh) (dOf r1 dl)
def StOK (d y : Nat) (ins : Ins) (nx : Nat) (ls st : List V) (sh : Shp) (dl : DL) (v : V) (sh' : Shp) (dl' : DL) : Prop := I1 sh' ∧ ∀ L r1 (R : RT), R v (shL L sh') (dOf r1 dl') → onP rtN mkN (ClG GG d) (stepO arN nfN (lgOf y) ins nx ls st (shL L sh) (dOf r1 dl)) (Go d y R) R
theorem evC_ok {E : EvT} (hE : EvOK E) {d n nx y : Nat} {ok : Bool} {ls st : List V} {sh : Shp} {dl : DL} {v : V} {sh' : Shp} {dl' : DL} (h : evC E d n nx y ok ls st sh dl = some (v, sh', dl')) (hI : I1 sh) :
    ok = true ∧ Nat.ble (arN n) st.length = true ∧ Nat.ble (catS (st.drop (arN n))) 8 = true ∧ I1 sh' ∧ ∀ L r1 (R : RT) (c : Prop), c → R v (shL L sh') (dOf r1 dl') → onP rtN mkN (ClG GG d) (oCall c n (st.take (arN n)).reverse nx ls (st.drop (arN n)) (shL L sh) (dOf r1 dl)) (Go d y R) R := by
  unfold evC at h
  split at h
  · cases h
  · rename_i d'
    split at h
    · rename_i hb
      rw [Bool.and_eq_true, Bool.and_eq_true, Bool.and_eq_true] at hb
      obtain ⟨h1, h2, h3, h4⟩ := hb
      split at h
      · rename_i r s2 l2 hr
        obtain ⟨i2, hg⟩ := hE _ _ _ _ _ _ _ _ _ _ hr hI
        split at h
        · rename_i hm
          obtain ⟨i3, hk⟩ := hE _ _ _ _ _ _ _ _ _ _ h i2
          refine ⟨h1, h2, h3, i3, fun L r1 R c hc hR => ⟨hc, ?_⟩⟩
          refine ⟨h4, hg L r1 _ ?_⟩
          have hk := hk L r1 R hR
          have hq : ∀ k, (match k with | 0 => st.drop (arN n) | _ => r :: st.drop (arN n)) = (match k with | 0 => st.drop (arN n) | _ + 1 => r :: st.drop (arN n)) := fun k => by cases k <;> rfl
          revert hm hk
          generalize mkN n = p
          generalize rtN n = rt
          obtain ⟨c1, s1⟩ := p
          intro hm hk
          have e1 : ∀ t : Shp, (shL L t).length = t.length := fun t => shL_length
          cases c1 with
          | zero =>
            have hm := of_decide_eq_true hm
            subst hm
            cases rt <;> exact ⟨rfl, hk⟩
          | succ c1 =>
            have hm := Bool.and_eq_true_iff.mp hm
            have q1 := Nat.eq_of_beq_eq_true hm.1
            have q2 := Nat.eq_of_beq_eq_true hm.2
            have q : (shL L s2).length = (shL L sh).length + (c1 + 1) ∧ slS (shL L s2) = slS (shL L sh) + s1 := ⟨by rw [e1, e1, q1], by rw [shL_slS i2, shL_slS hI, q2]; omega⟩
            cases rt <;> exact ⟨q, hk⟩
        · cases h
      · cases h
    · cases h
theorem dOf_fun {r1 : Nat → Int} {dl : DL} {a : Nat} (h : a ≠ 1) : dOf r1 dl a = gD dl a := by
  unfold dOf
  rw [if_neg h]
theorem dOf_multi {r1 : Nat → Int} {dl : DL} {n x b : Nat} (hl : dl.length = n) (h2 : 2 ≤ n) : dOf r1 (dl ++ ([] :: List.replicate x (List.replicate b 0))) = fun a => if n ≤ a then (fun _ => 0) else dOf r1 dl a := by
  funext a j
  have hz : ∀ r ∈ ([] :: List.replicate x (List.replicate b (0 : Int))), r.getD j 0 = 0 := by
    intro r hr
    rcases List.mem_cons.mp hr with q | q
    · subst q
      rfl
    · rw [(List.mem_replicate.mp q).2, List.getD_eq_getElem?_getD, List.getElem?_replicate]
      split <;> rfl
  by_cases ha : a = 1
  · rw [if_neg (by omega)]
    unfold dOf
    rw [if_pos ha, if_pos ha]
  · rw [dOf_at ha]
    unfold gD
    by_cases hn : n ≤ a
    · have e : (dl ++ ([] :: List.replicate x (List.replicate b (0 : Int)))).getD a [] = ((([] :: List.replicate x (List.replicate b (0 : Int)))[a - dl.length]?).getD []) := by
        rw [List.getD_eq_getElem?_getD, List.getElem?_append_right (by omega)]
      rw [if_pos hn, e]
      cases hq : ([] :: List.replicate x (List.replicate b (0 : Int)))[a - dl.length]? with
      | none => rfl
      | some r => exact hz r (List.mem_of_getElem? hq)
    · rw [if_neg hn, dOf_at ha]
      unfold gD
      have e : (dl ++ ([] :: List.replicate x (List.replicate b (0 : Int)))).getD a [] = dl.getD a [] := by
        rw [List.getD_eq_getElem?_getD, List.getElem?_append_left (by omega), ← List.getD_eq_getElem?_getD]
      rw [e]
theorem dOf_cpy {r1 : Nat → Int} {dl : DL} {a b sp dp k : Nat} {r : List Int} (hr : dl[b]? = some r) (ha : a ≠ 1) (hb : b ≠ 1) (hk : dp + k ≤ r.length) : dOf r1 (dl.set b ((List.range r.length).map (cpy (gD dl a) (gD dl b) sp dp k))) = rset (dOf r1 dl) b (cpy (dOf r1 dl a) (dOf r1 dl b) sp dp k) := by
  funext c j
  unfold rset
  rw [dOf_fun ha, dOf_fun hb]
  by_cases hc : c = b
  · subst hc
    rw [if_pos rfl, dOf_at hb]
    unfold gD
    rw [getD_set (List.getElem?_eq_some_iff.mp hr).1, if_pos rfl, List.getD_eq_getElem?_getD, List.getElem?_map]
    by_cases hj : j < r.length
    · rw [List.getElem?_range hj]
      rfl
    · rw [List.getElem?_eq_none (l := List.range r.length) (by rw [List.length_range]; omega)]
      unfold cpy
      rw [if_neg (by omega)]
      show (0 : Int) = (dl.getD c []).getD j 0
      rw [show dl.getD c [] = r by rw [List.getD_eq_getElem?_getD, hr]; rfl, List.getD_eq_getElem?_getD, List.getElem?_eq_none (l := r) (by omega)]
      rfl
  · rw [if_neg hc]
    by_cases h1 : c = 1
    · unfold dOf
      rw [if_pos h1, if_pos h1]
    · rw [dOf_at h1, dOf_at h1]
      unfold gD
      rw [getD_set (List.getElem?_eq_some_iff.mp hr).1, if_neg hc]
theorem I1_srf1 {sh : Shp} {a i v : Nat} (h : I1 sh) : I1 (srf sh a i v) := by
  by_cases ha : a = 1
  · subst ha
    unfold srf
    rw [show sh[1]? = _ from h]
    unfold I1
    dsimp only
    rw [List.getElem?_set_self (List.getElem?_eq_some_iff.mp h).1]
    rfl
  · exact I1_srf h ha
theorem shL_srf1 {L a i v : Nat} {sh : Shp} (h : I1 sh) : shL L (srf sh a i v) = srf (shL L sh) a i v := by
  by_cases ha : a = 1
  · subst ha
    unfold srf
    rw [show sh[1]? = _ from h, shL_1 h]
    unfold shL
    dsimp only
    rw [List.set_set, List.set_set]
    rfl
  · exact shL_srf ha
theorem ev_st {f : Nat} (ih : EvOK (ev f)) {d y : Nat} {ins : Ins} {nx : Nat} {ls st : List V} {sh : Shp} {dl : DL} {v : V} {sh' : Shp} {dl' : DL} {pc : Nat} (hop : opAt y pc = some (ins, nx)) (h : ev (f + 1) d y pc ls st sh dl = some (v, sh', dl')) (hI : I1 sh) : StOK d y ins nx ls st sh dl v sh' dl' := by
  unfold ev at h
  rw [hop] at h
  clear hop
  cases ins
  all_goals try (first | exact absurd h (by intro q; cases q))
  case iload i =>
    dsimp only at h
    split at h
    · rename_i x hx
      obtain ⟨i2, hk⟩ := ih _ _ _ _ _ _ _ _ _ _ h hI
      refine ⟨i2, fun L r1 R hR => ?_⟩
      unfold stepO
      dsimp only
      rw [hx]
      exact hk L r1 R hR
    · cases h
  case aload i =>
    dsimp only at h
    split at h
    · rename_i x hx
      obtain ⟨i2, hk⟩ := ih _ _ _ _ _ _ _ _ _ _ h hI
      refine ⟨i2, fun L r1 R hR => ?_⟩
      unfold stepO
      dsimp only
      rw [hx]
      exact hk L r1 R hR
    · cases h
  case iinc i n =>
    dsimp only at h
    split at h
    · rename_i x hx
      obtain ⟨i2, hk⟩ := ih _ _ _ _ _ _ _ _ _ _ h hI
      refine ⟨i2, fun L r1 R hR => ?_⟩
      unfold stepO
      dsimp only
      rw [hx]
      exact hk L r1 R hR
    · cases h
  case goto t => exact ih _ _ _ _ _ _ _ _ _ _ h hI
  case iconst i => exact ih _ _ _ _ _ _ _ _ _ _ h hI
  case jsr i => exact ih _ _ _ _ _ _ _ _ _ _ h hI
  case ldc i => exact ih _ _ _ _ _ _ _ _ _ _ h hI
  case ifCond c t =>
    dsimp only at h
    split at h
    · split at h
      · rename_i hb
        obtain ⟨i2, hk⟩ := ih _ _ _ _ _ _ _ _ _ _ h hI
        exact ⟨i2, fun L r1 R hR => ⟨fun _ => hk L r1 R hR, fun q => absurd (cmpB_ok.1 hb) q⟩⟩
      · rename_i hb
        obtain ⟨i2, hk⟩ := ih _ _ _ _ _ _ _ _ _ _ h hI
        exact ⟨i2, fun L r1 R hR => ⟨fun q => absurd q (cmpB_ok.2 hb), fun _ => hk L r1 R hR⟩⟩
    · cases h
  case if_icmp c t =>
    dsimp only at h
    split at h
    · split at h
      · rename_i hb
        obtain ⟨i2, hk⟩ := ih _ _ _ _ _ _ _ _ _ _ h hI
        exact ⟨i2, fun L r1 R hR => ⟨fun _ => hk L r1 R hR, fun q => absurd (cmpB_ok.1 hb) q⟩⟩
      · rename_i hb
        obtain ⟨i2, hk⟩ := ih _ _ _ _ _ _ _ _ _ _ h hI
        exact ⟨i2, fun L r1 R hR => ⟨fun q => absurd q (cmpB_ok.2 hb), fun _ => hk L r1 R hR⟩⟩
    · cases h
  case lookupswitch df ps =>
    dsimp only at h
    split at h
    · obtain ⟨i2, hk⟩ := ih _ _ _ _ _ _ _ _ _ _ h hI
      exact ⟨i2, fun L r1 R hR => swL_ok (hk L r1 R hR)⟩
    · cases h
  case getfield n =>
    dsimp only at h
    split at h
    · split at h
      · rename_i a st' _ hb
        rw [Bool.and_eq_true, Bool.not_eq_true'] at hb
        obtain ⟨i2, hk⟩ := ih _ _ _ _ _ _ _ _ _ _ h hI
        have ha : a ≠ 1 := fun q => by rw [q] at hb; exact absurd hb.2 (by decide)
        refine ⟨i2, fun L r1 R hR => ⟨(shL_knd hI).trans (Nat.eq_of_beq_eq_true hb.1), ?_⟩⟩
        rw [shL_rf hI, dOf_at ha]
        exact hk L r1 R hR
      · cases h
    · cases h
  case putfield n =>
    dsimp only at h
    unfold StOK stepO
    dsimp only
    generalize n % 10 = m at h ⊢
    split at h
    · split at h
      · split at h
        · rename_i v a st' _ hb
          rw [Bool.and_eq_true] at hb
          obtain ⟨i2, hk⟩ := ih _ _ _ _ _ _ _ _ _ _ h (I1_srf1 hI)
          refine ⟨i2, fun L r1 R hR => ⟨⟨(shL_knd hI).trans (Nat.eq_of_beq_eq_true hb.1), Nat.le_of_ble_eq_true hb.2⟩, ?_⟩⟩
          rw [← shL_srf1 hI]
          exact hk L r1 R hR
        · cases h
      · cases h
    · split at h
      · split at h
        · rename_i v a st' b2 o2 dl2 hb hu
          rw [Bool.and_eq_true, Bool.or_eq_true, decide_eq_true_eq, decide_eq_true_eq] at hb
          obtain ⟨i2, hk⟩ := ih _ _ _ _ _ _ _ _ _ _ h hI
          refine ⟨i2, fun L r1 R hR => ⟨⟨(shL_knd hI).trans (Nat.eq_of_beq_eq_true hb.1), hb.2⟩, ?_⟩⟩
          rw [← updD_ok hu]
          exact hk L r1 R hR
        · cases h
      · cases h
    · split
      · rename_i q _ 
        exact absurd rfl q
      · rename_i _ q
        exact absurd rfl q
      · split at h
        · split at h
          · rename_i v a st' b2 o2 dl2 hb hu
            obtain ⟨i2, hk⟩ := ih _ _ _ _ _ _ _ _ _ _ h hI
            refine ⟨i2, fun L r1 R hR => ⟨(shL_knd hI).trans (Nat.eq_of_beq_eq_true hb), ?_⟩⟩
            rw [← updD_ok hu]
            exact hk L r1 R hR
          · cases h
        · cases h
  case iaload =>
    dsimp only at h
    split at h
    · split at h
      · rename_i i a st' _ hb
        rw [Bool.and_eq_true, Bool.and_eq_true, Bool.not_eq_true'] at hb
        obtain ⟨i2, hk⟩ := ih _ _ _ _ _ _ _ _ _ _ h hI
        have ha : a ≠ 1 := fun q => by rw [q] at hb; exact absurd hb.2 (by decide)
        refine ⟨i2, fun L r1 R hR => ⟨⟨by rw [shL_knd hI]; exact hb.1.1, by rw [shL_len ha]; exact inB_ok hb.1.2⟩, ?_⟩⟩
        rw [dOf_at ha]
        exact hk L r1 R hR
      · cases h
    · cases h
  case aaload =>
    dsimp only at h
    split at h
    · split at h
      · rename_i i a st' _ hb
        rw [Bool.and_eq_true] at hb
        obtain ⟨i2, hk⟩ := ih _ _ _ _ _ _ _ _ _ _ h hI
        have ha : a ≠ 1 := not1 hI rfl (fun q => by rw [q] at hb; exact absurd hb.1 (by decide))
        refine ⟨i2, fun L r1 R hR => ⟨⟨by rw [shL_knd hI]; exact hb.1, by rw [shL_len ha]; exact inB_ok hb.2⟩, ?_⟩⟩
        rw [shL_rf hI]
        exact hk L r1 R hR
      · cases h
    · cases h
  case iastore =>
    dsimp only at h
    split at h
    · split at h
      · rename_i v i a st' b2 o2 dl2 hb hu
        rw [Bool.and_eq_true] at hb
        obtain ⟨i2, hk⟩ := ih _ _ _ _ _ _ _ _ _ _ h hI
        have hkn := Nat.eq_of_beq_eq_true hb.1
        have ha : a ≠ 1 := not1 hI hkn (by decide)
        refine ⟨i2, fun L r1 R hR => ⟨⟨by rw [shL_knd hI]; exact hkn, by rw [shL_len ha]; exact inB_ok hb.2⟩, ?_⟩⟩
        rw [← updD_ok hu]
        exact hk L r1 R hR
      · cases h
    · cases h
  case lastore =>
    dsimp only at h
    split at h
    · split at h
      · rename_i v i a st' b2 o2 dl2 hb hu
        rw [Bool.and_eq_true] at hb
        obtain ⟨i2, hk⟩ := ih _ _ _ _ _ _ _ _ _ _ h hI
        have hkn := Nat.eq_of_beq_eq_true hb.1
        have ha : a ≠ 1 := not1 hI hkn (by decide)
        refine ⟨i2, fun L r1 R hR => ⟨⟨by rw [shL_knd hI]; exact hkn, by rw [shL_len ha]; exact inB_ok hb.2⟩, ?_⟩⟩
        rw [← updD_ok hu]
        exact hk L r1 R hR
      · cases h
    · cases h
  case aastore =>
    dsimp only at h
    split at h
    · split at h
      · rename_i v i a st' _ hb
        rw [Bool.and_eq_true, Bool.or_eq_true, Bool.and_eq_true, Bool.and_eq_true] at hb
        have hq : (knd sh a = 23 ∧ knd sh v = 8) ∨ (knd sh a = 24 ∧ knd sh v = 1) := by
          rcases hb.1 with q | q
          · exact .inl ⟨Nat.eq_of_beq_eq_true q.1, Nat.eq_of_beq_eq_true q.2⟩
          · exact .inr ⟨Nat.eq_of_beq_eq_true q.1, Nat.eq_of_beq_eq_true q.2⟩
        have ha : a ≠ 1 := by
          rcases hq with q | q
          · exact not1 hI q.1 (by decide)
          · exact not1 hI q.1 (by decide)
        obtain ⟨i2, hk⟩ := ih _ _ _ _ _ _ _ _ _ _ h (I1_srf hI ha)
        refine ⟨i2, fun L r1 R hR => ⟨⟨by rw [shL_knd hI, shL_knd hI]; exact hq, by rw [shL_len ha]; exact inB_ok hb.2⟩, ?_⟩⟩
        rw [← shL_srf ha]
        exact hk L r1 R hR
      · cases h
    · cases h
  case new n =>
    dsimp only at h
    split at h
    · rename_i hb
      rw [Bool.and_eq_true] at hb
      obtain ⟨i2, hk⟩ := ih _ _ _ _ _ _ _ _ _ _ h (I1_app hI)
      refine ⟨i2, fun L r1 R hR => ?_⟩
      have := hk L r1 R hR
      rw [shL_app hI, dOf_new (Nat.eq_of_beq_eq_true hb.1) (Nat.le_of_ble_eq_true hb.2)] at this
      show Go d y R nx ls (vR (shL L sh).length :: st) (shL L sh ++ [(n, nfN n, List.replicate (nfN n) 0)]) (rset (dOf r1 dl) (shL L sh).length (fun _ => 0))
      rw [shL_length]
      exact this
    · cases h
  case anewarray n =>
    dsimp only at h
    split at h
    · split at h
      · rename_i x st' _ hb
        rw [Bool.and_eq_true, Bool.and_eq_true, Bool.and_eq_true, decide_eq_true_eq, decide_eq_true_eq] at hb
        obtain ⟨i2, hk⟩ := ih _ _ _ _ _ _ _ _ _ _ h (I1_app hI)
        refine ⟨i2, fun L r1 R hR => ⟨hb.1, ?_⟩⟩
        have := hk L r1 R hR
        rw [shL_app hI, dOf_new (Nat.eq_of_beq_eq_true hb.2.1) (Nat.le_of_ble_eq_true hb.2.2)] at this
        show Go d y R nx ls (vR (shL L sh).length :: st') (shL L sh ++ [(n, x.toNat, List.replicate x.toNat 0)]) (rset (dOf r1 dl) (shL L sh).length (fun _ => 0))
        rw [shL_length]
        exact this
      · cases h
    · cases h
  case ireturn =>
    dsimp only at h
    split at h
    · cases h
      exact ⟨hI, fun L r1 R hR => ⟨trivial, hR⟩⟩
    · cases h
  case freturn =>
    dsimp only at h
    split at h
    · split at h
      · rename_i hb
        rw [Bool.or_eq_true, decide_eq_true_eq, decide_eq_true_eq] at hb
        cases h
        exact ⟨hI, fun L r1 R hR => ⟨hb, hR⟩⟩
      · cases h
    · cases h
  case return_ =>
    dsimp only at h
    split at h
    · cases h
      exact ⟨hI, fun L r1 R hR => ⟨trivial, hR⟩⟩
    · cases h
  case istore i =>
    dsimp only at h
    split at h
    · exact ih _ _ _ _ _ _ _ _ _ _ h hI
    · cases h
  case iadd =>
    dsimp only at h
    split at h
    · exact ih _ _ _ _ _ _ _ _ _ _ h hI
    · cases h
  case isub =>
    dsimp only at h
    split at h
    · exact ih _ _ _ _ _ _ _ _ _ _ h hI
    · cases h
  case imul =>
    dsimp only at h
    split at h
    · exact ih _ _ _ _ _ _ _ _ _ _ h hI
    · cases h
  case i2c =>
    dsimp only at h
    split at h
    · exact ih _ _ _ _ _ _ _ _ _ _ h hI
    · cases h
  case dup_x1 =>
    dsimp only at h
    split at h
    · exact ih _ _ _ _ _ _ _ _ _ _ h hI
    · cases h
  case dup =>
    dsimp only at h
    split at h
    · exact ih _ _ _ _ _ _ _ _ _ _ h hI
    · exact ih _ _ _ _ _ _ _ _ _ _ h hI
    · cases h
  case pop =>
    dsimp only at h
    split at h
    · exact ih _ _ _ _ _ _ _ _ _ _ h hI
    · exact ih _ _ _ _ _ _ _ _ _ _ h hI
    · cases h
  case invokestatic n =>
    dsimp only at h
    obtain ⟨_, h1, h2, i2, hk⟩ := evC_ok ih h hI
    refine ⟨i2, fun L r1 R hR => ?_⟩
    unfold stepO
    dsimp only
    rw [h1, h2]
    exact hk L r1 R _ trivial hR
  case invokespecial n =>
    dsimp only at h
    obtain ⟨h0, h1, h2, i2, hk⟩ := evC_ok ih h hI
    refine ⟨i2, fun L r1 R hR => ?_⟩
    unfold stepO
    dsimp only
    rw [h1, h2]
    dsimp only
    split at h0
    · rename_i hq
      have hk := hk L r1 R _ (Nat.le_of_ble_eq_true h0) hR
      rw [hq] at hk ⊢
      exact hk
    · cases h0
  case invokeinterface n k =>
    dsimp only at h
    obtain ⟨h0, h1, h2, i2, hk⟩ := evC_ok ih h hI
    refine ⟨i2, fun L r1 R hR => ?_⟩
    unfold stepO
    dsimp only
    rw [h1, h2]
    dsimp only
    split at h0
    · rename_i a _ hq
      have hk := hk L r1 R (knd (shL L sh) a = k) ((shL_knd hI).trans (Nat.eq_of_beq_eq_true h0)) hR
      rw [hq] at hk ⊢
      exact hk
    · cases h0
  case multianewarray n1 n2 =>
    dsimp only at h
    split at h
    · split at h
      · rename_i b x st' _ hb
        rw [Bool.and_eq_true, Bool.and_eq_true, Bool.and_eq_true] at hb
        have q1 := inB_ok hb.1.1
        have q2 := inB_ok hb.1.2
        obtain ⟨i2, hk⟩ := ih _ _ _ _ _ _ _ _ _ _ h (I1_app hI)
        refine ⟨i2, fun L r1 R hR => ⟨by omega, ?_⟩⟩
        have := hk L r1 R hR
        rw [shL_app hI, dOf_multi (Nat.eq_of_beq_eq_true hb.2.1) (Nat.le_of_ble_eq_true hb.2.2)] at this
        show Go d y R nx ls (vR (shL L sh).length :: st') (shL L sh ++ ((25, x.toNat, List.range' ((shL L sh).length + 1) x.toNat) :: List.replicate x.toNat (20, b.toNat, List.replicate b.toNat 0))) (fun a => if (shL L sh).length ≤ a then (fun _ => 0) else dOf r1 dl a)
        rw [shL_length]
        exact this
      · cases h
    · cases h
  case invokedynamic n =>
    dsimp only at h
    split at h
    · split at h
      · split at h
        · rename_i a st' _ hb
          rw [Bool.and_eq_true] at hb
          obtain ⟨i2, hk⟩ := ih _ _ _ _ _ _ _ _ _ _ h hI
          exact ⟨i2, fun L r1 R hR => ⟨⟨hb.1, Nat.le_of_ble_eq_true hb.2⟩, hk L r1 R hR⟩⟩
        · cases h
      · cases h
    · split at h
      · split at h
        · split at h
          · rename_i k dp b sp a st' _ _ r hb hr _ hq
            simp only [Bool.and_eq_true, Bool.or_eq_true, decide_eq_true_eq] at hb
            obtain ⟨⟨h8, hab, hkb⟩, ⟨z1, z2, z3⟩, z4, z5⟩ := hb
            have hq := of_decide_eq_true hq
            have hab := Nat.eq_of_beq_eq_true hab
            have hkb : knd sh b = 20 ∨ knd sh b = 21 := by
              rcases hkb with q | q
              · exact .inl (Nat.eq_of_beq_eq_true q)
              · exact .inr (Nat.eq_of_beq_eq_true q)
            have hb1 : b ≠ 1 := by
              rcases hkb with q | q
              · exact not1 hI q (by decide)
              · exact not1 hI q (by decide)
            have ha1 : a ≠ 1 := by
              rcases hkb with q | q
              · exact not1 hI (hab.trans q) (by decide)
              · exact not1 hI (hab.trans q) (by decide)
            obtain ⟨i2, hk⟩ := ih _ _ _ _ _ _ _ _ _ _ h hI
            refine ⟨i2, fun L r1 R hR => ⟨⟨h8, by rw [shL_knd hI, shL_knd hI]; exact hab, by rw [shL_knd hI]; exact hkb, z1, z2, z3, by rw [shL_len ha1]; exact z4, by rw [shL_len hb1]; exact z5⟩, ?_⟩⟩
            have := hk L r1 R hR
            rw [dOf_cpy hr ha1 hb1 (by omega)] at this
            exact this
          · cases h
        · cases h
      · cases h
    · split at h
      · split at h
        · rename_i i a st' _ hb
          rw [Bool.and_eq_true, Bool.and_eq_true, Bool.and_eq_true, Bool.not_eq_true'] at hb
          obtain ⟨h8, hk1, hb1, hb2⟩ := hb
          have ha : a ≠ 1 := fun q => by rw [q] at hb2; exact absurd hb2 (by decide)
          obtain ⟨i2, hk⟩ := ih _ _ _ _ _ _ _ _ _ _ h hI
          refine ⟨i2, fun L r1 R hR => ⟨⟨h8, (shL_knd hI).trans (Nat.eq_of_beq_eq_true hk1), by rw [shL_len ha]; exact inB_ok hb1⟩, ?_⟩⟩
          rw [dOf_at ha]
          exact hk L r1 R hR
        · cases h
      · cases h
    · split at h
      · split at h
        · rename_i a st' _ hb
          rw [Bool.and_eq_true] at hb
          have hkn := Nat.eq_of_beq_eq_true hb.2
          have ha : a ≠ 1 := not1 hI hkn (by decide)
          obtain ⟨i2, hk⟩ := ih _ _ _ _ _ _ _ _ _ _ h hI
          refine ⟨i2, fun L r1 R hR => ⟨⟨hb.1, (shL_knd hI).trans hkn⟩, ?_⟩⟩
          rw [shL_len ha]
          exact hk L r1 R hR
        · cases h
      · cases h
    · split at h
      · split at h
        · rename_i x a st' _ hb
          rw [Bool.and_eq_true, Bool.and_eq_true, Bool.not_eq_true'] at hb
          have hkn := Nat.eq_of_beq_eq_true hb.2.1
          have ha : a ≠ 1 := not1 hI hkn (by decide)
          obtain ⟨i2, hk⟩ := ih _ _ _ _ _ _ _ _ _ _ h hI
          refine ⟨i2, fun L r1 R hR => ⟨⟨hb.1, (shL_knd hI).trans hkn⟩, ?_⟩⟩
          rw [shL_len ha, dOf_fun ha]
          exact hk L r1 R hR
        · cases h
      · cases h
    · cases h
theorem ev_ok : ∀ f, EvOK (ev f)
  | 0 => by
    intro d y pc ls st sh dl v sh' dl' h
    cases h
  | f + 1 => by
    intro d y pc ls st sh dl v sh' dl' h hI
    cases hop : opAt y pc with
    | none =>
      unfold ev at h
      rw [hop] at h
      cases h
    | some q =>
      obtain ⟨ins, nx⟩ := q
      obtain ⟨i2, hk⟩ := ev_st (ev_ok f) hop h hI
      exact ⟨i2, fun L r1 R hR => (Go_at hop).mpr (hk L r1 R hR)⟩
