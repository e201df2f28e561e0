/-! calls, ends, the whole step; methods by depth -/
section SM
variable {w : WP} {y : Nat} {p : Program} {l : Launch} {e : Env} {R : Room} {s : State} {m : MethodId} {args : Array Value} {below : List Frame} {meth : Method} {c : Code} {Q : State → Prop} {pc : Nat} {ls st : List V} {sh : Shp} {d : Dat} {nx ln : Nat} {ri : Ins} {Rt : RT}
theorem z_call {k n idx kd wi host : Nat} (HM : METS k l) (E : EX w s) (X : CX y p s m args meth c) (hm : (mCl y, idx, n, kd, wi, host) ∈ callL) (hd : decode (mCd y) pc = .ok (ri, 3))
    (hri : ri = (match kd % 3 with
      | 0 => .invokestatic idx
      | 1 => .invokevirtual idx
      | _ => .invokespecial idx)) (hkd : kd < 6) (hrecv : sh.take 10 = sh0 w.2.2.2.2.2.1 → kd % 3 ≠ 0 → ∃ a t, (st.take (arN n)).reverse = vR a :: t ∧ 10 ≤ a ∧ (kd % 3 = 1 → knd sh a = mCl n)) (hl : Nat.ble (arN n) st.length = true) (hcat : Nat.ble (catS (st.drop (arN n))) 8 = true)
    (hRf : k + 9 ≤ R.frames ∧ 64 * k + 728 ≤ R.locals) (h : ClG GG k n (st.take (arN n)).reverse sh d (match mkN n with
    | (0, _) => match rtN n with
      | 0 => fun _ sh' d' => sh' = sh ∧ PP w y p l e R s m args below meth c Q (pc + 3) ls (st.drop (arN n)) sh d'
      | _ => fun r sh' d' => sh' = sh ∧ PP w y p l e R s m args below meth c Q (pc + 3) ls (r :: st.drop (arN n)) sh d'
    | (c1, s1) => match rtN n with
      | 0 => fun _ sh' d' => (sh'.length = sh.length + c1 ∧ slS sh' = slS sh + s1) ∧ PP w y p l e R s m args below meth c Q (pc + 3) ls (st.drop (arN n)) sh' d'
      | _ => fun r sh' d' => (sh'.length = sh.length + c1 ∧ slS sh' = slS sh + s1) ∧ PP w y p l e R s m args below meth c Q (pc + 3) ls (r :: st.drop (arN n)) sh' d')) : PP w y p l e R s m args below meth c Q pc ls st sh d := by
  have hz := mk0 (n := n)
  have KL : ∀ v sh' d', (match mkN n with
    | (0, _) => match rtN n with
      | 0 => fun _ sh' d' => sh' = sh ∧ PP w y p l e R s m args below meth c Q (pc + 3) ls (st.drop (arN n)) sh d'
      | _ => fun r sh' d' => sh' = sh ∧ PP w y p l e R s m args below meth c Q (pc + 3) ls (r :: st.drop (arN n)) sh d'
    | (c1, s1) => match rtN n with
      | 0 => fun _ sh' d' => (sh'.length = sh.length + c1 ∧ slS sh' = slS sh + s1) ∧ PP w y p l e R s m args below meth c Q (pc + 3) ls (st.drop (arN n)) sh' d'
      | _ => fun r sh' d' => (sh'.length = sh.length + c1 ∧ slS sh' = slS sh + s1) ∧ PP w y p l e R s m args below meth c Q (pc + 3) ls (r :: st.drop (arN n)) sh' d' : RT) v sh' d' → (sh'.length = sh.length + (mkN n).1 ∧ slS sh' = slS sh + (mkN n).2) ∧ PP w y p l e R s m args below meth c Q (pc + 3) ls (match rtN n with
      | 0 => st.drop (arN n)
      | _ => v :: st.drop (arN n)) sh' d' := by
    intro v sh' d'
    revert hz
    generalize mkN n = q
    generalize rtN n = r
    obtain ⟨c1, s1⟩ := q
    intro hz
    cases c1 with
    | zero =>
      have hz : s1 = 0 := hz rfl
      subst hz
      cases r with
      | zero => exact fun ⟨q1, q2⟩ => ⟨⟨by rw [q1]; rfl, by rw [q1]; rfl⟩, by rw [q1]; exact q2⟩
      | succ r => exact fun ⟨q1, q2⟩ => ⟨⟨by rw [q1]; rfl, by rw [q1]; rfl⟩, by rw [q1]; exact q2⟩
    | succ c1 =>
      cases r with
      | zero => exact fun q => q
      | succ r => exact fun q => q
  obtain ⟨v0, sh0', d0', q0⟩ := ClG_ex k _ _ _ _ _ h
  obtain ⟨⟨l1, l2⟩, hb, -⟩ := KL _ _ _ q0
  unfold BD at hb
  have hlen : (st.take (arN n)).reverse.length = arN n := by
    have := Nat.le_of_ble_eq_true hl
    rw [List.length_reverse, List.length_take]
    omega
  refine ⟨by unfold BD; omega, fun ρ H locs lsr hG hF => ?_⟩
  have hx := x_call (st := st.drop (arN n)) HM E X hm hd hri hkd (hrecv hG.2.1.1) hlen (Nat.le_of_ble_eq_true hcat) hRf (by omega) h (fun v sh' d' q => ⟨(KL v sh' d' q).1, (KL v sh' d' q).2.2⟩)
  rw [List.reverse_reverse, List.take_append_drop] at hx
  exact hx ρ H locs lsr hG hF
theorem vrt12 {n kc : Nat} (hr : relI y pc ri ln (.invokeinterface n kc) = true) : kc < 12 := by
  have hr : (callL.any (fun e => (Nat.beq e.1 (mCl y) && Nat.beq e.2.2.1 n) && ((Nat.beq (e.2.2.2.1 % 3) 1 && Nat.blt e.2.2.2.1 6) && (dI ri (.invokevirtual e.2.1) && Nat.beq ln 3))) && Nat.beq kc (mCl n)) = true := hr
  rw [Bool.and_eq_true] at hr
  obtain ⟨hr, hkc⟩ := hr
  rw [Nat.eq_of_beq_eq_true hkc]
  simp only [Bool.and_eq_true, List.any_eq_true] at hr
  obtain ⟨⟨e1, e2, e3, e4, e5, e6⟩, hm, ⟨c1, c2⟩, ⟨k1, k2⟩, q1, q2⟩ := hr
  have c2 := Nat.eq_of_beq_eq_true c2
  have k1 := Nat.eq_of_beq_eq_true k1
  dsimp only at c2 k1
  subst c2
  have hv := List.all_eq_true.mp call_v _ hm
  dsimp only at hv
  rw [k1] at hv
  exact Nat.blt_eq.mp hv
theorem z_stt {k n : Nat} (HM : METS k l) (hRf : k + 9 ≤ R.frames ∧ 64 * k + 728 ≤ R.locals) (E : EX w s) (X : CX y p s m args meth c) (hd : decode (mCd y) pc = .ok (ri, ln)) (hnx : nx = pc + ln) (hr : relI y pc ri ln (.invokestatic n) = true) (h : onP rtN mkN (ClG GG k) (stepO arN nfN (lgOf y) (.invokestatic n) nx ls st sh d) (PP w y p l e R s m args below meth c Q) Rt) : PP w y p l e R s m args below meth c Q pc ls st sh d := by
  have hr : callL.any (fun e => (Nat.beq e.1 (mCl y) && Nat.beq e.2.2.1 n) && ((Nat.beq (e.2.2.2.1 % 3) 0 && Nat.blt e.2.2.2.1 6) && (dI ri (.invokestatic e.2.1) && Nat.beq ln 3))) = true := hr
  simp only [Bool.and_eq_true, List.any_eq_true] at hr
  obtain ⟨⟨e1, e2, e3, e4, e5, e6⟩, hm, ⟨c1, c2⟩, ⟨k1, k2⟩, q1, q2⟩ := hr
  have c1 := Nat.eq_of_beq_eq_true c1
  have c2 := Nat.eq_of_beq_eq_true c2
  have k1 := Nat.eq_of_beq_eq_true k1
  have k2 := Nat.blt_eq.mp k2
  dsimp only at c1 c2 k1 k2 q1
  have a1 := dI_one q1; have a2 := Nat.eq_of_beq_eq_true q2; subst a1; subst a2; subst c2
  rw [c1] at hm
  subst hnx
  simp only [stepO] at h
  split at h
  · rename_i hl
    split at h
    · rename_i hcat
      exact z_call HM E X hm hd (by rw [k1]; rfl) k2 (fun _ q => absurd k1 q) hl hcat hRf h.2
    · exact h.elim
  · exact h.elim
theorem z_spc {k n : Nat} (HM : METS k l) (hRf : k + 9 ≤ R.frames ∧ 64 * k + 728 ≤ R.locals) (E : EX w s) (X : CX y p s m args meth c) (hd : decode (mCd y) pc = .ok (ri, ln)) (hnx : nx = pc + ln) (hr : relI y pc ri ln (.invokespecial n) = true) (h : onP rtN mkN (ClG GG k) (stepO arN nfN (lgOf y) (.invokespecial n) nx ls st sh d) (PP w y p l e R s m args below meth c Q) Rt) : PP w y p l e R s m args below meth c Q pc ls st sh d := by
  have hr : callL.any (fun e => (Nat.beq e.1 (mCl y) && Nat.beq e.2.2.1 n) && ((Nat.beq (e.2.2.2.1 % 3) 2 && Nat.blt e.2.2.2.1 6) && (dI ri (.invokespecial e.2.1) && Nat.beq ln 3))) = true := hr
  simp only [Bool.and_eq_true, List.any_eq_true] at hr
  obtain ⟨⟨e1, e2, e3, e4, e5, e6⟩, hm, ⟨c1, c2⟩, ⟨k1, k2⟩, q1, q2⟩ := hr
  have c1 := Nat.eq_of_beq_eq_true c1
  have c2 := Nat.eq_of_beq_eq_true c2
  have k1 := Nat.eq_of_beq_eq_true k1
  have k2 := Nat.blt_eq.mp k2
  dsimp only at c1 c2 k1 k2 q1
  have a1 := dI_one q1; have a2 := Nat.eq_of_beq_eq_true q2; subst a1; subst a2; subst c2
  rw [c1] at hm
  subst hnx
  simp only [stepO] at h
  split at h
  · rename_i hl
    split at h
    · rename_i hcat
      split at h
      · rename_i a t0 hrev
        exact z_call HM E X hm hd (by rw [k1]; rfl) k2 (fun ht _ => ⟨a, t0, hrev, h.1, fun q => by omega⟩) hl hcat hRf h.2
      · exact h.elim
    · exact h.elim
  · exact h.elim
theorem z_vrt {k n : Nat} {kc : Nat} (HM : METS k l) (hRf : k + 9 ≤ R.frames ∧ 64 * k + 728 ≤ R.locals) (E : EX w s) (X : CX y p s m args meth c) (hd : decode (mCd y) pc = .ok (ri, ln)) (hnx : nx = pc + ln) (hr : relI y pc ri ln (.invokeinterface n kc) = true) (h : onP rtN mkN (ClG GG k) (stepO arN nfN (lgOf y) (.invokeinterface n kc) nx ls st sh d) (PP w y p l e R s m args below meth c Q) Rt) : PP w y p l e R s m args below meth c Q pc ls st sh d := by
  have hr0 := hr
  have hr : (callL.any (fun e => (Nat.beq e.1 (mCl y) && Nat.beq e.2.2.1 n) && ((Nat.beq (e.2.2.2.1 % 3) 1 && Nat.blt e.2.2.2.1 6) && (dI ri (.invokevirtual e.2.1) && Nat.beq ln 3))) && Nat.beq kc (mCl n)) = true := hr
  have h12 := vrt12 (ri := ri) (ln := ln) (pc := pc) hr0
  rw [Bool.and_eq_true] at hr
  obtain ⟨hr, hkc⟩ := hr
  have hkc := Nat.eq_of_beq_eq_true hkc
  simp only [Bool.and_eq_true, List.any_eq_true] at hr
  obtain ⟨⟨e1, e2, e3, e4, e5, e6⟩, hm, ⟨c1, c2⟩, ⟨k1, k2⟩, q1, q2⟩ := hr
  have c1 := Nat.eq_of_beq_eq_true c1
  have c2 := Nat.eq_of_beq_eq_true c2
  have k1 := Nat.eq_of_beq_eq_true k1
  have k2 := Nat.blt_eq.mp k2
  dsimp only at c1 c2 k1 k2 q1
  have a1 := dI_one q1; have a2 := Nat.eq_of_beq_eq_true q2; subst a1; subst a2; subst c2
  rw [c1] at hm
  subst hnx
  simp only [stepO] at h
  split at h
  · rename_i hl
    split at h
    · rename_i hcat
      split at h
      · rename_i a t0 hrev
        exact z_call HM E X hm hd (by rw [k1]; rfl) k2 (fun ht _ => ⟨a, t0, hrev, knd_high ht h.1 (by omega) (by omega) (by omega), fun _ => h.1.trans hkc⟩) hl hcat hRf h.2
      · exact h.elim
    · exact h.elim
  · exact h.elim
def RetH (w : WP) (y : Nat) (p : Program) (l : Launch) (e : Env) (R : Room) (s : State) (m : MethodId) (args : Array Value) (below : List Frame) (meth : Method) (c : Code) (Q : State → Prop) (Rt : RT) : Prop := ∀ (pc : Nat) (ls : List V) (sh : Shp) (d : Dat),
  (∀ x, decode (mCd y) pc = .ok (.ireturn, 1) → (mRt y = some .int ∨ (mRt y = some .boolean ∧ (x = 0 ∨ x = 1))) → Rt (vI x) sh d → PP w y p l e R s m args below meth c Q pc ls [vI x] sh d) ∧
  (∀ x, decode (mCd y) pc = .ok (.lreturn, 1) → mRt y = some .long → Rt (vL x) sh d → PP w y p l e R s m args below meth c Q pc ls [vL x] sh d) ∧
  (decode (mCd y) pc = .ok (.return_, 1) → mRt y = none → Rt vU sh d → PP w y p l e R s m args below meth c Q pc ls [] sh d)
theorem idxO_congr {f g : Nat → Int} {n : Nat} {x : Int} (h : ∀ i, i < n → f i = g i) : idxO f n x = idxO g n x := by
  unfold idxO
  have e : (List.range n).find? (fun i => f i == x) = (List.range n).find? (fun i => g i == x) := by
    have key : ∀ l : List Nat, (∀ i ∈ l, i < n) → l.find? (fun i => f i == x) = l.find? (fun i => g i == x) := by
      intro l
      induction l with
      | nil => intro _; rfl
      | cons a l ih =>
        intro hl
        rw [List.find?_cons, List.find?_cons, h a (hl a List.mem_cons_self), ih (fun i hi => hl i (List.mem_cons_of_mem _ hi))]
    exact key _ (fun i hi => List.mem_range.mp hi)
  rw [e]
theorem idxO_in {f : Nat → Int} {n : Nat} {x : Int} (hn : n < 1000) : in32 (idxO f n x) := by
  unfold idxO
  split
  · rename_i i hi
    have := List.mem_range.mp (List.mem_of_find?_eq_some hi)
    unfold in32
    omega
  · exact ⟨by decide, by decide⟩
theorem lenS_lt {i : Nat} (h : i < 3) : lenS.getD i 0 < 1000 := by
  match i, h with
  | 0, _ => decide
  | 1, _ => decide
  | 2, _ => decide
theorem bpar {b n : Nat} (h : (parseMethodDescriptor (biNm b).desc).map (fun d => d.parameters.length) = some n) {tl : List Int} (ht : tl.length = n) : (parseMethodDescriptor (biNm b).desc).map (fun d => d.parameters.length) = some tl.length := by rw [ht]; exact h
theorem z_bi {b : Nat} (HJ : MJ l) (hRf : 9 ≤ R.frames ∧ 728 ≤ R.locals) (E : EX w s) (X : CX y p s m args meth c) (hd : decode (mCd y) pc = .ok (ri, ln)) (hnx : nx = pc + ln) (hr : relI y pc ri ln (.invokedynamic b) = true) {C : CT} (h : onP rtN mkN C (stepO arN nfN (lgOf y) (.invokedynamic b) nx ls st sh d) (PP w y p l e R s m args below meth c Q) Rt) : PP w y p l e R s m args below meth c Q pc ls st sh d := by
  have hr : biL.any (fun e => (Nat.beq e.1 (mCl y) && Nat.beq e.2.2.1 b) && (Nat.beq ln 3 && dI ri (match (generalizing := false) b with
    | 0 => .invokespecial e.2.1
    | 5 => .invokevirtual e.2.1
    | 6 => .invokevirtual e.2.1
    | 7 => .invokevirtual e.2.1
    | _ => .invokestatic e.2.1))) = true := hr
  simp only [Bool.and_eq_true, List.any_eq_true] at hr
  obtain ⟨⟨e1, e2, e3, e4⟩, hm, ⟨c1, c2⟩, q2, q1⟩ := hr
  replace c1 := Nat.eq_of_beq_eq_true c1
  replace c2 := Nat.eq_of_beq_eq_true c2
  replace q1 := dI_one q1
  replace q2 := Nat.eq_of_beq_eq_true q2
  dsimp only at c1 c2 q1
  subst q2; subst c2; subst hnx
  rw [c1] at hm
  have hR : 1 ≤ R.frames ∧ 64 ≤ R.locals := by omega
  match e3, hm, q1, h with
  | 0, hm, q1, h =>
    simp only [stepO] at h
    split at h
    · have q1 : ri = .invokespecial e2 := q1
      subst q1
      exact ⟨h.2.1, x_oinit X E hm hd (Nat.le_of_ble_eq_true h.1.1) h.1.2 hR h.2.2⟩
    · exact h.elim
  | 1, hm, q1, h =>
    simp only [stepO] at h
    split at h
    · have q1 : ri = .invokestatic e2 := q1
      subst q1
      obtain ⟨h1, h2, h3, h4, h5, h6, h7, h8⟩ := h.1
      exact ⟨h.2.1, x_acopy X E hm hd (Nat.le_of_ble_eq_true h1) hR h2 h3 h4 h5 h6 h7 h8 h.2.2⟩
    · exact h.elim
  | 2, hm, q1, h =>
    simp only [stepO] at h
    split at h
    · have q1 : ri = .invokestatic e2 := q1
      subst q1
      exact ⟨h.2.1, x_max X hm hd (Nat.le_of_ble_eq_true h.1) hR h.2.1 h.2.2⟩
    · exact h.elim
  | 3, hm, q1, h =>
    simp only [stepO] at h
    split at h
    · have q1 : ri = .invokestatic e2 := q1
      subst q1
      exact ⟨h.2.1, x_min X hm hd (Nat.le_of_ble_eq_true h.1) hR h.2.1 h.2.2⟩
    · exact h.elim
  | 4, hm, q1, h =>
    simp only [stepO] at h
    split at h
    · have q1 : ri = .invokestatic e2 := q1
      subst q1
      exact ⟨h.2.1, x_abs X hm hd (Nat.le_of_ble_eq_true h.1) hR h.2.1 h.2.2⟩
    · exact h.elim
  | 5, hm, q1, h =>
    simp only [stepO] at h
    split at h
    · rename_i i a st2 _
      have q1 : ri = .invokevirtual e2 := q1
      subst q1
      refine ⟨h.2.1, fun ρ H locs lsr hG hF => ?_⟩
      obtain ⟨i0, hi0, rfl, hl⟩ := k31 hG h.1.2.1
      have hi1 := h.1.2.2.2
      have hin := h.1.2.2.1
      rw [hl] at hi1
      have hk : i.toNat < lenS.getD i0 0 := by omega
      have hdat : d (7 + i0) i.toNat = bS i0 i.toNat := by
        rw [hG.2.1.2.1 _ (by omega)]
        exact E.2.1.2.2.2.2.2.2.2 i0 hi0 _ hk
      have hK := h.2.2
      rw [show (vI (d (7 + i0) i.toNat) : V) = .inl (bS i0 i.toNat) by rw [hdat]] at hK
      exact x_jcall (tl := [i]) E X (Or.inl rfl) hi0 hm hd (Nat.le_of_ble_eq_true h.1.1) hRf h.2.1 (bpar (n := 1) (by decide +kernel) rfl) (in_toInt _) (fun adK adV => by
        have := (HJ adK adV i0 hi0).1 i.toNat hk
        rw [show ((i.toNat : Nat) : Int) = i by omega] at this
        exact this) hK ρ H locs lsr hG hF
    · exact h.elim
  | 6, hm, q1, h =>
    simp only [stepO] at h
    split at h
    · rename_i a st2 _
      have q1 : ri = .invokevirtual e2 := q1
      subst q1
      refine ⟨h.2.1, fun ρ H locs lsr hG hF => ?_⟩
      obtain ⟨i0, hi0, rfl, hl⟩ := k31 hG h.1.2
      have hK := h.2.2
      rw [hl] at hK
      have hlt := lenS_lt hi0
      exact x_jcall (tl := []) E X (Or.inr (Or.inl rfl)) hi0 hm hd (Nat.le_of_ble_eq_true h.1.1) hRf h.2.1 (by decide +kernel) (by unfold in32; omega) (fun adK adV => (HJ adK adV i0 hi0).2.1) hK ρ H locs lsr hG hF
    · exact h.elim
  | 7, hm, q1, h =>
    simp only [stepO] at h
    split at h
    · rename_i x a st2 _
      have q1 : ri = .invokevirtual e2 := q1
      subst q1
      refine ⟨h.2.1, fun ρ H locs lsr hG hF => ?_⟩
      obtain ⟨i0, hi0, rfl, hl⟩ := k31 hG h.1.2
      have hK := h.2.2
      have hx : in32 x := (okVs_cons.mp hF.1).1
      have hlt := lenS_lt hi0
      have e0 : idxO (d (7 + i0)) (len sh (7 + i0)).toNat x = idxO (bS i0) (lenS.getD i0 0) x := by
        rw [hl, show ((lenS.getD i0 0 : Nat) : Int).toNat = lenS.getD i0 0 by omega]
        refine idxO_congr (fun j hj => ?_)
        rw [hG.2.1.2.1 _ (by omega)]
        exact E.2.1.2.2.2.2.2.2.2 i0 hi0 _ hj
      rw [e0] at hK
      exact x_jcall (tl := [x]) E X (Or.inr (Or.inr rfl)) hi0 hm hd (Nat.le_of_ble_eq_true h.1.1) hRf h.2.1 (bpar (n := 1) (by decide +kernel) rfl) (idxO_in hlt) (fun adK adV => (HJ adK adV i0 hi0).2.2 x hx) hK ρ H locs lsr hG hF
    · exact h.elim
  | n + 8, _, _, h => exact h.elim
theorem sim_step {k : Nat} (HM : METS k l) (HJ : MJ l) (E : EX w s) (X : CX y p s m args meth c) (hRf : k + 9 ≤ R.frames ∧ 64 * k + 728 ≤ R.locals) (hRet : RetH w y p l e R s m args below meth c Q Rt) 
    (h : StepAt GG (ClG GG k) y (PP w y p l e R s m args below meth c Q) Rt pc ls st sh d) : PP w y p l e R s m args below meth c Q pc ls st sh d := by
  unfold StepAt at h
  split at h
  · rename_i ins nx hop
    obtain ⟨ri, ln, hd, hnx0, hr⟩ := chk_of hop
    have h : onP rtN mkN (ClG GG k) (stepO arN nfN (lgOf y) ins nx ls st sh d) (PP w y p l e R s m args below meth c Q) Rt := h
    by_cases hg : ∃ t, ins = .goto t
    · obtain ⟨t, rfl⟩ := hg
      exact z_goto E X hd hr h
    have hnx : nx = pc + ln := hnx0.resolve_right hg
    clear hnx0 hop
    cases ins
    case iload _ => exact z_iload E X hd hnx hr h
    case lload _ => exact z_lload E X hd hnx hr h
    case aload _ => exact z_aload E X hd hnx hr h
    case istore _ => exact z_istore E X hd hnx hr h
    case astore _ => exact z_astore E X hd hnx hr h
    case lstore _ => exact z_lstore E X hd hnx hr h
    case iinc _ _ => exact z_iinc E X hd hnx hr h
    case iconst _ => exact z_iconst E X hd hnx hr h
    case jsr _ => exact z_jsr E X hd hnx hr h
    case ldc _ => exact z_ldc E X hd hnx hr h
    case iadd => exact z_iadd E X hd hnx hr h
    case isub => exact z_isub E X hd hnx hr h
    case imul => exact z_imul E X hd hnx hr h
    case iand => exact z_iand E X hd hnx hr h
    case ior => exact z_ior E X hd hnx hr h
    case ishl => exact z_ishl E X hd hnx hr h
    case ishr => exact z_ishr E X hd hnx hr h
    case ladd => exact z_ladd E X hd hnx hr h
    case land => exact z_land E X hd hnx hr h
    case lor => exact z_lor E X hd hnx hr h
    case lshl => exact z_lshl E X hd hnx hr h
    case lshr => exact z_lshr E X hd hnx hr h
    case lushr => exact z_lushr E X hd hnx hr h
    case lcmp => exact z_lcmp E X hd hnx hr h
    case idiv => exact z_idiv E X hd hnx hr h
    case irem => exact z_irem E X hd hnx hr h
    case ineg => exact z_ineg E X hd hnx hr h
    case i2l => exact z_i2l E X hd hnx hr h
    case l2i => exact z_l2i E X hd hnx hr h
    case i2b => exact z_i2b E X hd hnx hr h
    case i2s => exact z_i2s E X hd hnx hr h
    case i2c => exact z_i2c E X hd hnx hr h
    case dup2 => exact z_dup2 E X hd hnx hr h
    case dup_x1 => exact z_dup_x1 E X hd hnx hr h
    case dup => exact z_dup E X hd hnx hr h
    case pop => exact z_pop E X hd hnx hr h
    case iaload => exact z_iaload E X hd hnx hr h
    case baload => exact z_baload E X hd hnx hr h
    case laload => exact z_laload E X hd hnx hr h
    case aaload => exact z_aaload E X hd hnx hr h
    case iastore => exact z_iastore E X hd hnx hr h
    case bastore => exact z_bastore E X hd hnx hr h
    case lastore => exact z_lastore E X hd hnx hr h
    case aastore => exact z_aastore E X hd hnx hr h
    case if_icmp => exact z_if_icmp E X hd hnx hr h
    case ifCond => exact z_ifCond E X hd hnx hr h
    case lookupswitch => exact z_switch E X hd hnx hr h
    case getfield => exact z_getfield E X hd hnx hr h
    case putfield => exact z_putfield E X hd hnx hr h
    case arraylength => exact z_alen E X hd hnx hr h
    case new => exact z_new E X hd hnx hr h
    case anewarray => exact z_anewarray E X hd hnx hr h
    case multianewarray => exact z_multi E X hd hnx hr h
    case invokestatic => exact z_stt HM hRf E X hd hnx hr h
    case invokespecial => exact z_spc HM hRf E X hd hnx hr h
    case invokeinterface n kc => exact z_vrt HM hRf E X hd hnx hr h
    case invokedynamic => exact z_bi HJ (by omega) E X hd hnx hr h
    case goto => exact absurd ⟨_, rfl⟩ hg
    case ireturn =>
      have hr : (dI ri .ireturn && (Nat.beq ln 1 && decide (mRt y = some .int))) = true := hr
      rw [Bool.and_eq_true, Bool.and_eq_true, decide_eq_true_eq] at hr
      have a1 := dI_one hr.1; have a2 := Nat.eq_of_beq_eq_true hr.2.1; subst a1; subst a2
      simp only [stepO] at h
      split at h
      · exact (hRet pc ls sh d).1 _ hd (Or.inl hr.2.2) h.2
      · exact h.elim
    case freturn =>
      have hr : (dI ri .ireturn && (Nat.beq ln 1 && decide (mRt y = some .boolean))) = true := hr
      rw [Bool.and_eq_true, Bool.and_eq_true, decide_eq_true_eq] at hr
      have a1 := dI_one hr.1; have a2 := Nat.eq_of_beq_eq_true hr.2.1; subst a1; subst a2
      simp only [stepO] at h
      split at h
      · exact (hRet pc ls sh d).1 _ hd (Or.inr ⟨hr.2.2, h.1⟩) h.2
      · exact h.elim
    case lreturn =>
      have hr : (dI ri .lreturn && (Nat.beq ln 1 && decide (mRt y = some .long))) = true := hr
      rw [Bool.and_eq_true, Bool.and_eq_true, decide_eq_true_eq] at hr
      have a1 := dI_one hr.1; have a2 := Nat.eq_of_beq_eq_true hr.2.1; subst a1; subst a2
      simp only [stepO] at h
      split at h
      · exact (hRet pc ls sh d).2.1 _ hd hr.2.2 h.2
      · exact h.elim
    case return_ =>
      have hr : (dI ri .return_ && (Nat.beq ln 1 && decide (mRt y = none))) = true := hr
      rw [Bool.and_eq_true, Bool.and_eq_true, decide_eq_true_eq] at hr
      have a1 := dI_one hr.1; have a2 := Nat.eq_of_beq_eq_true hr.2.1; subst a1; subst a2
      simp only [stepO] at h
      split at h
      · exact (hRet pc ls sh d).2.2 hd hr.2.2 h.2
      · exact h.elim
    all_goals exact h.elim
  · exact h.elim
end SM
