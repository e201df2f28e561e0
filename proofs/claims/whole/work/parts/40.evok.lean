/-! the evaluator is sound -/
def EvOK (E : EvT) : Prop := ∀ d y pc ls st sh dl v sh' dl', E d y pc ls st sh dl = some (v, sh', dl') → I1 sh → I1 sh' ∧ ∀ L r1 (R : RT), R v (shL L sh') (dOf r1 dl') → Go d y R pc ls st (shL L sh) (dOf r1 dl)
def StOK (d y : Nat) (ins : Ins) (nx : Nat) (ls st : List V) (sh : Shp) (dl : DL) (v : V) (sh' : Shp) (dl' : DL) : Prop := I1 sh' ∧ ∀ L r1 (R : RT), R v (shL L sh') (dOf r1 dl') → onP rtN mkN (ClG GG d) (stepO arN nfN (lgOf y) ins nx ls st (shL L sh) (dOf r1 dl)) (Go d y R) R
theorem evC_ok {E : EvT} (hE : EvOK E) {d n nx y : Nat} {ok : Bool} {ls st : List V} {sh : Shp} {dl : DL} {v : V} {sh' : Shp} {dl' : DL} (h : evC E d n nx y ok ls st sh dl = some (v, sh', dl')) (hI : I1 sh) :
    ok = true ∧ Nat.ble (arN n) st.length = true ∧ Nat.ble (catS (st.drop (arN n))) 8 = true ∧ I1 sh' ∧ ∀ L r1 (R : RT) (c : Prop), c → R v (shL L sh') (dOf r1 dl') → onP rtN mkN (ClG GG d) (oCall c n (st.take (arN n)).reverse nx ls (st.drop (arN n)) (shL L sh) (dOf r1 dl)) (Go d y R) R := by
  unfold evC at h
  split at h
  · cases h
  · rename_i d'
    split at h
    · rename_i hb
      rw [Bool.and_eq_true, Bool.and_eq_true, Bool.and_eq_true] at hb
      obtain ⟨h1, h2, h3, h4⟩ := hb
      split at h
      · rename_i r s2 l2 hr
        obtain ⟨i2, hg⟩ := hE _ _ _ _ _ _ _ _ _ _ hr hI
        split at h
        · rename_i hm
          obtain ⟨i3, hk⟩ := hE _ _ _ _ _ _ _ _ _ _ h i2
          refine ⟨h1, h2, h3, i3, fun L r1 R c hc hR => ⟨hc, ?_⟩⟩
          refine ⟨h4, hg L r1 _ ?_⟩
          have hk := hk L r1 R hR
          have hq : ∀ k, (match k with | 0 => st.drop (arN n) | _ => r :: st.drop (arN n)) = (match k with | 0 => st.drop (arN n) | _ + 1 => r :: st.drop (arN n)) := fun k => by cases k <;> rfl
          revert hm hk
          generalize mkN n = p
          generalize rtN n = rt
          obtain ⟨c1, s1⟩ := p
          intro hm hk
          have e1 : ∀ t : Shp, (shL L t).length = t.length := fun t => shL_length
          cases c1 with
          | zero =>
            have hm := of_decide_eq_true hm
            subst hm
            cases rt <;> exact ⟨rfl, hk⟩
          | succ c1 =>
            have hm := Bool.and_eq_true_iff.mp hm
            have q1 := Nat.eq_of_beq_eq_true hm.1
            have q2 := Nat.eq_of_beq_eq_true hm.2
            have q : (shL L s2).length = (shL L sh).length + (c1 + 1) ∧ slS (shL L s2) = slS (shL L sh) + s1 := ⟨by rw [e1, e1, q1], by rw [shL_slS i2, shL_slS hI, q2]; omega⟩
            cases rt <;> exact ⟨q, hk⟩
        · cases h
      · cases h
    · cases h
