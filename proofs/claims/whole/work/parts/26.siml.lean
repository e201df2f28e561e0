/-! a row of rows -/
section SL
variable {w : WP} {y : Nat} {p : Program} {l : Launch} {e : Env} {R : Room} {s : State} {m : MethodId} {args : Array Value} {below : List Frame} {meth : Method} {c : Code} {Q : State → Prop} {pc : Nat} {ls st : List V} {sh : Shp} {d : Dat} {nx ln : Nat} {ri : Ins} {C : CT} {Rt : RT}
theorem x_multi {xv yv : Int} (E : EX w s) (X : CX y p s m args meth c) (hy : mCl y = 9) (hd : decode (mCd y) pc = .ok (.multianewarray 18 2, 4)) (hx0 : 0 ≤ xv) (hx1 : xv ≤ 100) (hy0 : 0 ≤ yv) (hy1 : yv ≤ 5000)
    (hbd : BD w R (sh ++ ((25, xv.toNat, List.range' (sh.length + 1) xv.toNat) :: List.replicate xv.toNat (20, yv.toNat, List.replicate yv.toNat 0))))
    (K : PX w y p l e R s m args below meth c Q (pc + 4) ls (vR sh.length :: st) (sh ++ ((25, xv.toNat, List.range' (sh.length + 1) xv.toNat) :: List.replicate xv.toNat (20, yv.toNat, List.replicate yv.toNat 0))) (fun a => if sh.length ≤ a then (fun _ => 0) else d a)) : PX w y p l e R s m args below meth c Q pc ls (.inl yv :: .inl xv :: st) sh d := by
  intro ρ H locs lsr hG hF
  have h0 := hF.1
  simp only [okVs_cons] at h0
  have hgl := hG.1.1
  have hgs := hG.1.2
  have h10 : 10 ≤ sh.length := by have := E.2.2.2.2.2.2.2; omega
  have es : slS (sh ++ ((25, xv.toNat, List.range' (sh.length + 1) xv.toNat) :: List.replicate xv.toNat (20, yv.toNat, List.replicate yv.toNat 0))) = slS sh + xv.toNat + xv.toNat * yv.toNat := by
    rw [slS_app]
    simp [slS, Nat.add_assoc]
  have el : (sh ++ ((25, xv.toNat, List.range' (sh.length + 1) xv.toNat) :: List.replicate xv.toNat (20, yv.toNat, List.replicate yv.toNat 0))).length = sh.length + 1 + xv.toNat := by
    simp
    omega
  unfold BD at hbd
  rw [es, el] at hbd
  have neg : ∀ x : Int, 0 ≤ x → in32 x → ¬ Int32.ofInt x < 0 := fun x hx hi q => by
    rw [show (0 : Int32) = Int32.ofInt 0 from rfl, i32_lt hi in0] at q
    omega
  have hP0 : va_P w.1 vwCl (wl ρ w.2.1 sh d ++ va_pl [] (fun _ => (.inr (0, []) : va_E))) H := by
    show va_P w.1 vwCl (wl ρ w.2.1 sh d ++ []) H
    rw [List.append_nil]
    exact hG.2.2.2.2.1
  have hD0 : va_D w.2.2.1 (wl ρ w.2.1 sh d ++ va_pl [] (fun _ => (.inr (0, []) : va_E))) := by
    show va_D w.2.2.1 (wl ρ w.2.1 sh d ++ [])
    rw [List.append_nil]
    exact hG.2.2.2.2.2.1
  have hown : s.vm.findClass "DarkLand$Texts" = some m.cls := by
    have := X.2.2.2.1
    rw [hy] at this
    exact this
  have hcn := clampI hx0 h0.2.1
  have hck := clampI hy0 h0.1
  refine va_mna (D := w.1) (cl := vwCl) (tys := tysA w.2.1) (X := wl ρ w.2.1 sh d) (L := []) (f := fun _ => .inr (0, [])) (A := w.2.2.1) (ty := .int) (cy := w.2.1 20) (N' := xv.toNat) (K' := yv.toNat) (z := (yv.toNat, .inl (fun _ => 0))) X.1 X.2.1 hown (X.2.2.2.2.1 _ (hasW_mem mw)) E.2.1.2.2.1 (X.2.2.2.2.1 _ (hasW_mem aw_int)) (E.1.2 0 _ rfl).2 E.1 hP0 hD0 hG.2.2.2.2.2.2 E.2.2.2.2.2.1 (neg _ hx0 h0.2.1) (neg _ hy0 h0.1) hcn hck (by omega) (by show yv.toNat * 4 ≤ _; omega) (by omega) rfl rfl (by omega) (by omega) (fun c => ?_) hd (fun q r cA' H1 hinj hnl hK1 hP hD hS => ?_)
  · exact arrV_new c yv.toNat _
  · have hcA := tys_one (t0 := 5) hK1 rfl E.1
    subst hcA
    obtain ⟨ρ', hρ⟩ : ∃ ρ' : Nat → Nat, ρ' = fun a => if a < sh.length then ρ a else if a = sh.length then q else r (a - sh.length - 1) := ⟨_, rfl⟩
    have hlt : ∀ a, a < sh.length → ρ' a = ρ a := fun a ha => by rw [hρ]; exact if_pos ha
    have hat : ρ' sh.length = q := by rw [hρ]; dsimp only; rw [if_neg (by omega), if_pos rfl]
    have hgt : ∀ i, ρ' (sh.length + 1 + i) = r i := fun i => by rw [hρ]; dsimp only; rw [if_neg (by omega), if_neg (by omega), show sh.length + 1 + i - sh.length - 1 = i by omega]
    have ew : (wl ρ w.2.1 sh d ++ [(q, (.inl (w.2.1 25, xv.toNat, .inr (.inr (.inr (.inr (fun i => if i < xv.toNat then some (r i) else none))))) : va_E))]) ++ va_pl ([] ++ (List.range xv.toNat).map r) (vr_up (fun _ => (.inr (0, []) : va_E)) ((List.range xv.toNat).map r) (.inl (w.2.1 20, (yv.toNat, .inl (fun _ => 0))))) = wl ρ' w.2.1 (sh ++ ((25, xv.toNat, List.range' (sh.length + 1) xv.toNat) :: List.replicate xv.toNat (20, yv.toNat, List.replicate yv.toNat 0))) (fun a => if sh.length ≤ a then (fun _ => 0) else d a) := by
      apply List.ext_getElem?
      intro i
      rw [wl_get]
      rcases Nat.lt_trichotomy i (sh.length - 10) with hi | hi | hi
      · rw [List.getElem?_append_left (by rw [List.length_append, wl_len]; omega), List.getElem?_append_left (by rw [wl_len]; omega), wl_get, List.getElem?_append_left (by omega), hlt _ (by omega), if_neg (by omega)]
        cases hc : sh[10 + i]? with
        | none => rfl
        | some z => rw [Option.map_some, Option.map_some, eE_agree hlt (by omega) (hG.2.2.1.1 z (List.mem_of_getElem? hc)).1]
      · subst hi
        rw [List.getElem?_append_left (by rw [List.length_append, wl_len]; simp), List.getElem?_append_right (by rw [wl_len]; omega), wl_len, Nat.sub_self, show 10 + (sh.length - 10) = sh.length by omega, List.getElem?_append_right (Nat.le_refl _), Nat.sub_self, hat, if_pos (Nat.le_refl _)]
        have ef : (fun i => if i < xv.toNat then some (r i) else none) = fun j => adQ ρ' ((List.range' (sh.length + 1) xv.toNat).getD j 0) := by
          funext j
          by_cases hj : j < xv.toNat
          · rw [if_pos hj, List.getD_eq_getElem?_getD, List.getElem?_range' hj]
            show _ = adQ ρ' (sh.length + 1 + 1 * j)
            unfold adQ
            rw [if_neg (by omega), Nat.one_mul, hgt]
          · rw [if_neg hj, List.getD_eq_getElem?_getD, List.getElem?_eq_none (by simp; omega)]
            rfl
        have eo : (.inl (w.2.1 25, xv.toNat, .inr (.inr (.inr (.inr (fun i => if i < xv.toNat then some (r i) else none))))) : va_E) = eE ρ' w.2.1 (25, xv.toNat, List.range' (sh.length + 1) xv.toNat) (fun _ => 0) := by
          rw [eE_ref rfl, ef]
        rw [eo]
        rfl
      · rw [List.getElem?_append_right (by rw [List.length_append, wl_len]; simp; omega), List.length_append, wl_len]
        show ((([] ++ (List.range xv.toNat).map r).map _)[i - (sh.length - 10 + 1)]?) = _
        rw [List.nil_append, List.getElem?_map, List.getElem?_map, List.getElem?_append_right (by omega)]
        obtain ⟨j, hj⟩ : ∃ j, i = sh.length - 10 + 1 + j := ⟨i - (sh.length - 10 + 1), by omega⟩
        subst hj
        rw [show sh.length - 10 + 1 + j - (sh.length - 10 + 1) = j by omega, show 10 + (sh.length - 10 + 1 + j) = sh.length + 1 + j by omega, show sh.length + 1 + j - sh.length = j + 1 by omega, List.getElem?_cons_succ, hgt, if_pos (by omega), List.getElem?_replicate]
        by_cases hj : j < xv.toNat
        · rw [List.getElem?_range hj, if_pos hj]
          show some (r j, vr_up _ _ _ (r j)) = some _
          rw [vr_up_in (List.mem_map.mpr ⟨j, List.mem_range.mpr hj, rfl⟩)]
          rfl
        · rw [List.getElem?_eq_none (by simp; omega), if_neg hj]
          rfl
    rw [ew] at hP hD
    have hkn : ∀ a, sh.length ≤ a → knd (sh ++ ((25, xv.toNat, List.range' (sh.length + 1) xv.toNat) :: List.replicate xv.toNat (20, yv.toNat, List.replicate yv.toNat 0))) a = 25 ∨ knd (sh ++ ((25, xv.toNat, List.range' (sh.length + 1) xv.toNat) :: List.replicate xv.toNat (20, yv.toNat, List.replicate yv.toNat 0))) a = 20 ∨ knd (sh ++ ((25, xv.toNat, List.range' (sh.length + 1) xv.toNat) :: List.replicate xv.toNat (20, yv.toNat, List.replicate yv.toNat 0))) a = 99 := by
      intro a ha
      unfold knd
      rw [List.getElem?_append_right ha]
      cases hj : a - sh.length with
      | zero => exact Or.inl rfl
      | succ j =>
        rw [List.getElem?_cons_succ, List.getElem?_replicate]
        split
        · rename_i h
          split at h
          · cases h; exact Or.inr (Or.inl rfl)
          · cases h
        · exact Or.inr (Or.inr rfl)
    have g : GW w s ρ' H1 locs (sh ++ ((25, xv.toNat, List.range' (sh.length + 1) xv.toNat) :: List.replicate xv.toNat (20, yv.toNat, List.replicate yv.toNat 0))) (fun a => if sh.length ≤ a then (fun _ => 0) else d a) := by
      refine ⟨⟨by rw [el]; omega, by rw [es]; omega⟩, ⟨?_, fun a ha => ?_, fun a ha => ?_⟩, ⟨fun z hz => ?_, fun z hz => ?_⟩, fun a i => ?_, hP, hD, hS⟩
      · rw [List.take_append_of_le_length h10]
        exact hG.2.1.1
      · dsimp only
        rw [if_neg (by omega)]
        exact hG.2.1.2.1 a ha
      · rw [hlt a (by omega)]
        exact hG.2.1.2.2 a ha
      · rw [el]
        rcases List.mem_append.mp hz with q | q
        · exact okC_up (hG.2.2.1.1 z q) (by omega)
        · rcases List.mem_cons.mp q with q | q
          · rw [q]
            refine ⟨fun r hr => ?_, fun q => absurd q (by show ¬ 25 < 12; omega), fun _ => by simp⟩
            have := List.mem_range'_1.mp hr
            omega
          · rw [(List.mem_replicate.mp q).2]
            refine ⟨fun r hr => by rw [(List.mem_replicate.mp hr).2]; omega, fun q => absurd q (by show ¬ 20 < 12; omega), fun _ => by simp⟩
      · rw [List.drop_append_of_le_length h10] at hz
        rcases List.mem_append.mp hz with q | q
        · exact hG.2.2.1.2 z q
        · rcases List.mem_cons.mp q with q | q
          · rw [q]; show 25 < 26; omega
          · rw [(List.mem_replicate.mp q).2]; show 20 < 26; omega
      · dsimp only
        by_cases ha : sh.length ≤ a
        · rw [if_pos ha]
          rcases hkn a ha with q | q | q <;> rw [q] <;> exact in0
        · rw [if_neg ha]
          have hk : knd (sh ++ ((25, xv.toNat, List.range' (sh.length + 1) xv.toNat) :: List.replicate xv.toNat (20, yv.toNat, List.replicate yv.toNat 0))) a = knd sh a := by
            unfold knd
            rw [List.getElem?_append_left (by omega)]
          rw [hk]
          exact hG.2.2.2.1 a i
    have hK := K ρ' H1 locs lsr g (hF.newρ hlt (by omega) (show sh.length < _ by omega) h0.2.2)
    rw [el, es, List.map_cons, rV, adV, if_neg (by omega), hat, rVs_agree hlt h0.2.2] at hK
    rw [show sh.length + 1 + xv.toNat - w.2.2.2.1 = sh.length - w.2.2.2.1 + 1 + xv.toNat by omega, show slS sh + xv.toNat + xv.toNat * yv.toNat - w.2.2.2.2.1 = slS sh - w.2.2.2.2.1 + xv.toNat + xv.toNat * yv.toNat by omega] at hK
    exact hK
theorem z_multi {i0 j0 : Nat} (E : EX w s) (X : CX y p s m args meth c) (hd : decode (mCd y) pc = .ok (ri, ln)) (hnx : nx = pc + ln) (hr : relI y pc ri ln (.multianewarray i0 j0) = true) (h : onP rtN mkN C (stepO arN nfN (lgOf y) (.multianewarray i0 j0) nx ls st sh d) (PP w y p l e R s m args below meth c Q) Rt) : PP w y p l e R s m args below meth c Q pc ls st sh d := by
  have hr : (dI ri (.multianewarray 18 2) && (Nat.beq ln 4 && Nat.beq (mCl y) 9)) = true := hr
  rw [Bool.and_eq_true, Bool.and_eq_true] at hr
  have a1 := dI_one hr.1; have a2 := Nat.eq_of_beq_eq_true hr.2.1; subst a1; subst a2; subst hnx
  simp only [stepO] at h
  split at h
  · exact ⟨h.2.1.app, x_multi E X (Nat.eq_of_beq_eq_true hr.2.2) hd h.1.1 h.1.2.1 h.1.2.2.1 h.1.2.2.2 h.2.1 h.2.2⟩
  · exact h.elim
end SL
