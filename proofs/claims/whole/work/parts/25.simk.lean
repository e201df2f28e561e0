/-! the heap's ops and the calls, whatever the op -/
theorem mkT_le {t : Nat} {ty : FieldType} (h : mkT t ty = true) : t = 0 ∨ t = 1 ∨ t = 2 := by
  unfold mkT at h
  split at h <;> simp_all
theorem mk0 {n : Nat} (h : (mkN n).1 = 0) : (mkN n).2 = 0 := by
  unfold mkN at h ⊢
  split at h <;> first | rfl | exact absurd h (by decide)
def exC (C : CT) : Prop := ∀ n as sh d (Q : RT), C n as sh d Q → ∃ v sh d, Q v sh d
theorem swC_ex {P : Prop} {df x : Int} : ∀ {ps : List (Int × Int)}, swC (fun _ => P) df x ps → P
  | [], h => h
  | (v, _) :: ps, h => by
    by_cases q : x = v
    · exact h.1 q
    · exact swC_ex (h.2 q)
theorem onP_ex {rt : Nat → Nat} {mk : Nat → Nat × Nat} {C : CT} (hC : exC C) {o : Out} {R : RT} (h : onP rt mk C o (fun _ _ _ _ _ => ∃ v sh d, R v sh d) R) : ∃ v sh d, R v sh d := by
  rcases o with ⟨pc, ls, st, sh, d⟩ | ⟨c, pc, ls, st, sh, d⟩ | ⟨c, ⟨pc, ls, st, sh, d⟩, ⟨pc2, ls2, st2, sh2, d2⟩⟩ | ⟨x, ps, df, ls, st, sh, d⟩ | ⟨c, v, sh, d⟩ | ⟨c0, n, as, nx, ls, st, sh, d⟩ | u
  · exact h
  · exact h.2
  · by_cases q : c
    · exact h.1 q
    · exact h.2 q
  · exact swC_ex h
  · exact ⟨v, sh, d, h.2⟩
  · obtain ⟨v, sh', d', q⟩ := hC _ _ _ _ _ h.2
    revert q
    generalize mk n = p
    generalize rt n = r
    obtain ⟨c, s⟩ := p
    cases c <;> cases r <;> exact fun q => q.2
  · exact h.elim
theorem ClG_ex {G : Prg} : ∀ k, exC (ClG G k)
  | 0 => fun _ _ _ _ _ h => h.elim
  | k + 1 => fun y as sh d Q h => h.2 (fun _ _ _ _ _ => ∃ v sh d, Q v sh d) (fun pc ls st sh d q => by
    unfold StepAt at q
    split at q
    · exact onP_ex (ClG_ex k) q
    · exact q.elim)
section SK
variable {w : WP} {y : Nat} {p : Program} {l : Launch} {e : Env} {R : Room} {s : State} {m : MethodId} {args : Array Value} {below : List Frame} {meth : Method} {c : Code} {Q : State → Prop} {pc : Nat} {ls st : List V} {sh : Shp} {d : Dat} {nx ln : Nat} {ri : Ins} {C : CT} {Rt : RT}
theorem BD.app {t : Shp} (h : BD w R (sh ++ t)) : BD w R sh := by
  unfold BD at *
  rw [slS_app, List.length_append] at h
  omega
theorem BD.of_srf {a k v : Nat} (h : BD w R (srf sh a k v)) : BD w R sh := by
  unfold srf at h
  split at h
  · rename_i c hc
    unfold BD at *
    have e : slS (List.set sh a (c.fst, c.snd.fst, c.snd.snd.set k v)) = slS sh := slS_set hc rfl
    rwa [List.length_set, e] at h
  · exact h
theorem z_getfield {n : Nat} (E : EX w s) (X : CX y p s m args meth c) (hd : decode (mCd y) pc = .ok (ri, ln)) (hnx : nx = pc + ln) (hr : relI y pc ri ln (.getfield n) = true) (h : onP rtN mkN C (stepO arN nfN (lgOf y) (.getfield n) nx ls st sh d) (PP w y p l e R s m args below meth c Q) Rt) : PP w y p l e R s m args below meth c Q pc ls st sh d := by
  have hr : fldL.any (fun e => (Nat.beq e.1 (mCl y) && Nat.beq e.2.2.1 n) && (dI ri (.getfield e.2.1) && Nat.beq ln 3)) = true := hr
  simp only [Bool.and_eq_true, List.any_eq_true] at hr
  obtain ⟨⟨e1, e2, e3, e4⟩, hm, ⟨c1, c2⟩, q1, q2⟩ := hr
  have c1 := Nat.eq_of_beq_eq_true c1
  have c2 := Nat.eq_of_beq_eq_true c2
  dsimp only at c1 c2 q1
  have a1 := dI_one q1; have a2 := Nat.eq_of_beq_eq_true q2; subst a1; subst a2; subst c2
  rw [c1] at hm
  subst hnx
  simp only [stepO] at h
  split at h
  · rename_i a st2
    refine ⟨h.2.1, x_getfield E X hm hd h.1 (fun q => ?_) (fun q => ?_)⟩
    · have := h.2.2
      rw [q] at this
      exact this
    · have := h.2.2
      revert this
      split
      · rename_i z; exact absurd z q
      · exact id
  · exact h.elim
theorem z_putfield {n : Nat} (E : EX w s) (X : CX y p s m args meth c) (hd : decode (mCd y) pc = .ok (ri, ln)) (hnx : nx = pc + ln) (hr : relI y pc ri ln (.putfield n) = true) (h : onP rtN mkN C (stepO arN nfN (lgOf y) (.putfield n) nx ls st sh d) (PP w y p l e R s m args below meth c Q) Rt) : PP w y p l e R s m args below meth c Q pc ls st sh d := by
  have hr : (fldL.any (fun e => (Nat.beq e.1 (mCl y) && Nat.beq e.2.2.1 n) && (dI ri (.putfield e.2.1) && Nat.beq ln 3)) && (!Nat.beq (n % 10) 2 || (mIni y && Nat.beq (n / 1000) (mCl y)))) = true := hr
  rw [Bool.and_eq_true] at hr
  obtain ⟨hr, hi⟩ := hr
  simp only [Bool.and_eq_true, List.any_eq_true] at hr
  obtain ⟨⟨e1, e2, e3, e4⟩, hm, ⟨c1, c2⟩, q1, q2⟩ := hr
  have c1 := Nat.eq_of_beq_eq_true c1
  have c2 := Nat.eq_of_beq_eq_true c2
  dsimp only at c1 c2 q1
  have a1 := dI_one q1; have a2 := Nat.eq_of_beq_eq_true q2; subst a1; subst a2; subst c2
  rw [c1] at hm
  subst hnx
  have hf := fld_at hm
  simp only [fldOK, Bool.and_eq_true] at hf
  have ht := mkT_le hf.2.2.2.1
  simp only [stepO] at h
  split at h
  · rename_i h2
    split at h
    · rename_i v a st2
      rw [h2] at hi
      have hi : (mIni y && Nat.beq (e3 / 1000) (mCl y)) = true := by simpa using hi
      rw [Bool.and_eq_true] at hi
      exact ⟨h.2.1.of_srf, x_putref E X hm hd h.1.1 h2 hi.1 (Nat.eq_of_beq_eq_true hi.2) h.1.2 h.2.2⟩
    · exact h.elim
  · rename_i h1
    split at h
    · exact ⟨h.2.1, x_putnum E X hm hd h.1.1 (Or.inr ⟨h1, h.1.2⟩) h.2.2⟩
    · exact h.elim
  · rename_i n2 n1
    split at h
    · refine ⟨h.2.1, x_putnum E X hm hd h.1 (Or.inl ?_) h.2.2⟩
      rcases ht with q | q | q
      · exact q
      · exact absurd q n1
      · exact absurd q n2
    · exact h.elim
theorem z_iaload (E : EX w s) (X : CX y p s m args meth c) (hd : decode (mCd y) pc = .ok (ri, ln)) (hnx : nx = pc + ln) (hr : relI y pc ri ln .iaload = true) (h : onP rtN mkN C (stepO arN nfN (lgOf y) .iaload nx ls st sh d) (PP w y p l e R s m args below meth c Q) Rt) : PP w y p l e R s m args below meth c Q pc ls st sh d := by
  obtain ⟨rfl, rfl⟩ := dI_ok (show (dI ri .iaload && Nat.beq ln 1) = true from hr)
  subst hnx
  simp only [stepO] at h
  split at h
  · rename_i i a st2
    have hk := h.1.1
    unfold ldI at hk
    rw [Bool.or_eq_true, beq_iff_eq, beq_iff_eq] at hk
    rcases hk with q | q
    · exact ⟨h.2.1, x_iaload20 E X hd q h.1.2.1 h.1.2.2 h.2.2⟩
    · exact ⟨h.2.1, x_iaload30 E X hd q h.1.2.1 h.1.2.2 h.2.2⟩
  · exact h.elim
theorem z_baload (E : EX w s) (X : CX y p s m args meth c) (hd : decode (mCd y) pc = .ok (ri, ln)) (hnx : nx = pc + ln) (hr : relI y pc ri ln .baload = true) (h : onP rtN mkN C (stepO arN nfN (lgOf y) .baload nx ls st sh d) (PP w y p l e R s m args below meth c Q) Rt) : PP w y p l e R s m args below meth c Q pc ls st sh d := by
  obtain ⟨rfl, rfl⟩ := dI_ok (show (dI ri .baload && Nat.beq ln 1) = true from hr)
  subst hnx
  simp only [stepO] at h
  split at h
  · exact ⟨h.2.1, x_baload E X hd h.1.1 h.1.2.1 h.1.2.2 h.2.2⟩
  · exact h.elim
theorem z_laload (E : EX w s) (X : CX y p s m args meth c) (hd : decode (mCd y) pc = .ok (ri, ln)) (hnx : nx = pc + ln) (hr : relI y pc ri ln .laload = true) (h : onP rtN mkN C (stepO arN nfN (lgOf y) .laload nx ls st sh d) (PP w y p l e R s m args below meth c Q) Rt) : PP w y p l e R s m args below meth c Q pc ls st sh d := by
  obtain ⟨rfl, rfl⟩ := dI_ok (show (dI ri .laload && Nat.beq ln 1) = true from hr)
  subst hnx
  simp only [stepO] at h
  split at h
  · exact ⟨h.2.1, x_laload E X hd h.1.1 h.1.2.1 h.1.2.2 h.2.2⟩
  · exact h.elim
theorem z_aaload (E : EX w s) (X : CX y p s m args meth c) (hd : decode (mCd y) pc = .ok (ri, ln)) (hnx : nx = pc + ln) (hr : relI y pc ri ln .aaload = true) (h : onP rtN mkN C (stepO arN nfN (lgOf y) .aaload nx ls st sh d) (PP w y p l e R s m args below meth c Q) Rt) : PP w y p l e R s m args below meth c Q pc ls st sh d := by
  obtain ⟨rfl, rfl⟩ := dI_ok (show (dI ri .aaload && Nat.beq ln 1) = true from hr)
  subst hnx
  simp only [stepO] at h
  split at h
  · exact ⟨h.2.1, x_aaload E X hd h.1.1 h.1.2.1 h.1.2.2 h.2.2⟩
  · exact h.elim
theorem z_iastore (E : EX w s) (X : CX y p s m args meth c) (hd : decode (mCd y) pc = .ok (ri, ln)) (hnx : nx = pc + ln) (hr : relI y pc ri ln .iastore = true) (h : onP rtN mkN C (stepO arN nfN (lgOf y) .iastore nx ls st sh d) (PP w y p l e R s m args below meth c Q) Rt) : PP w y p l e R s m args below meth c Q pc ls st sh d := by
  obtain ⟨rfl, rfl⟩ := dI_ok (show (dI ri .iastore && Nat.beq ln 1) = true from hr)
  subst hnx
  simp only [stepO] at h
  split at h
  · exact ⟨h.2.1, x_iastore E X hd h.1.1 h.1.2.1 h.1.2.2 h.2.2⟩
  · exact h.elim
theorem z_bastore (E : EX w s) (X : CX y p s m args meth c) (hd : decode (mCd y) pc = .ok (ri, ln)) (hnx : nx = pc + ln) (hr : relI y pc ri ln .bastore = true) (h : onP rtN mkN C (stepO arN nfN (lgOf y) .bastore nx ls st sh d) (PP w y p l e R s m args below meth c Q) Rt) : PP w y p l e R s m args below meth c Q pc ls st sh d := by
  obtain ⟨rfl, rfl⟩ := dI_ok (show (dI ri .bastore && Nat.beq ln 1) = true from hr)
  subst hnx
  simp only [stepO] at h
  split at h
  · exact ⟨h.2.1, x_bastore E X hd h.1.1 h.1.2.1 h.1.2.2.1 h.1.2.2.2 h.2.2⟩
  · exact h.elim
theorem z_lastore (E : EX w s) (X : CX y p s m args meth c) (hd : decode (mCd y) pc = .ok (ri, ln)) (hnx : nx = pc + ln) (hr : relI y pc ri ln .lastore = true) (h : onP rtN mkN C (stepO arN nfN (lgOf y) .lastore nx ls st sh d) (PP w y p l e R s m args below meth c Q) Rt) : PP w y p l e R s m args below meth c Q pc ls st sh d := by
  obtain ⟨rfl, rfl⟩ := dI_ok (show (dI ri .lastore && Nat.beq ln 1) = true from hr)
  subst hnx
  simp only [stepO] at h
  split at h
  · exact ⟨h.2.1, x_lastore E X hd h.1.1 h.1.2.1 h.1.2.2 h.2.2⟩
  · exact h.elim
theorem z_aastore (E : EX w s) (X : CX y p s m args meth c) (hd : decode (mCd y) pc = .ok (ri, ln)) (hnx : nx = pc + ln) (hr : relI y pc ri ln .aastore = true) (h : onP rtN mkN C (stepO arN nfN (lgOf y) .aastore nx ls st sh d) (PP w y p l e R s m args below meth c Q) Rt) : PP w y p l e R s m args below meth c Q pc ls st sh d := by
  obtain ⟨rfl, rfl⟩ := dI_ok (show (dI ri .aastore && Nat.beq ln 1) = true from hr)
  subst hnx
  simp only [stepO] at h
  split at h
  · exact ⟨h.2.1.of_srf, x_aastore E X hd h.1.1 h.1.2.1 h.1.2.2 h.2.2⟩
  · exact h.elim
theorem z_alen (E : EX w s) (X : CX y p s m args meth c) (hd : decode (mCd y) pc = .ok (ri, ln)) (hnx : nx = pc + ln) (hr : relI y pc ri ln .arraylength = true) (h : onP rtN mkN C (stepO arN nfN (lgOf y) .arraylength nx ls st sh d) (PP w y p l e R s m args below meth c Q) Rt) : PP w y p l e R s m args below meth c Q pc ls st sh d := by
  obtain ⟨rfl, rfl⟩ := dI_ok (show (dI ri .arraylength && Nat.beq ln 1) = true from hr)
  subst hnx
  simp only [stepO] at h
  split at h
  · exact ⟨h.2.1, x_alen E X hd h.1 h.2.2⟩
  · exact h.elim
theorem z_new {n : Nat} (E : EX w s) (X : CX y p s m args meth c) (hd : decode (mCd y) pc = .ok (ri, ln)) (hnx : nx = pc + ln) (hr : relI y pc ri ln (.new n) = true) (h : onP rtN mkN C (stepO arN nfN (lgOf y) (.new n) nx ls st sh d) (PP w y p l e R s m args below meth c Q) Rt) : PP w y p l e R s m args below meth c Q pc ls st sh d := by
  have hr : newL.any (fun e => (Nat.beq e.1 (mCl y) && Nat.beq e.2.2.1 n) && (dI ri (.new e.2.1) && Nat.beq ln 3)) = true := hr
  simp only [Bool.and_eq_true, List.any_eq_true] at hr
  obtain ⟨⟨e1, e2, e3, e4⟩, hm, ⟨c1, c2⟩, q1, q2⟩ := hr
  have c1 := Nat.eq_of_beq_eq_true c1
  have c2 := Nat.eq_of_beq_eq_true c2
  dsimp only at c1 c2 q1
  have a1 := dI_one q1; have a2 := Nat.eq_of_beq_eq_true q2; subst a1; subst a2; subst c2
  rw [c1] at hm
  subst hnx
  have hb := h.1
  have hb1 := hb.1
  rw [List.length_append] at hb1
  exact ⟨hb.app, x_new E X hm hd hb1 hb.2 h.2⟩
theorem z_anewarray {n : Nat} (E : EX w s) (X : CX y p s m args meth c) (hd : decode (mCd y) pc = .ok (ri, ln)) (hnx : nx = pc + ln) (hr : relI y pc ri ln (.anewarray n) = true) (h : onP rtN mkN C (stepO arN nfN (lgOf y) (.anewarray n) nx ls st sh d) (PP w y p l e R s m args below meth c Q) Rt) : PP w y p l e R s m args below meth c Q pc ls st sh d := by
  have hr : ((Nat.beq n 20 && (dI ri (.newarray .int) && Nat.beq ln 2)) || ((Nat.beq n 21 && (dI ri (.newarray .boolean) && Nat.beq ln 2)) || ((Nat.beq n 22 && (dI ri (.newarray .long) && Nat.beq ln 2)) || ((Nat.beq n 23 || Nat.beq n 24) && arrL.any (fun e => (Nat.beq e.1 (mCl y) && Nat.beq e.2.2.1 n) && (dI ri (.anewarray e.2.1) && Nat.beq ln 3)))))) = true := hr
  simp only [Bool.and_eq_true, Bool.or_eq_true, List.any_eq_true] at hr
  subst hnx
  simp only [stepO] at h
  split at h
  · rename_i x st2
    have hb := h.2.1
    have hb1 := hb.1
    rw [List.length_append] at hb1
    refine ⟨hb.app, ?_⟩
    rcases hr with ⟨q, q1, q2⟩ | ⟨q, q1, q2⟩ | ⟨q, q1, q2⟩ | ⟨hq, ⟨e1, e2, e3, e4⟩, hm, ⟨c1, c2⟩, q1, q2⟩
    · have a0 := Nat.eq_of_beq_eq_true q; have a1 := dI_one q1; have a2 := Nat.eq_of_beq_eq_true q2; subst a0; subst a1; subst a2
      exact x_newarr (t0 := 0) E X rfl (Or.inl ⟨rfl, rfl⟩) aw_int rfl hd h.1.1 h.1.2 hb1 hb.2 h.2.2
    · have a0 := Nat.eq_of_beq_eq_true q; have a1 := dI_one q1; have a2 := Nat.eq_of_beq_eq_true q2; subst a0; subst a1; subst a2
      exact x_newarr (t0 := 1) E X rfl (Or.inr (Or.inl ⟨rfl, rfl⟩)) aw_boolean rfl hd h.1.1 h.1.2 hb1 hb.2 h.2.2
    · have a0 := Nat.eq_of_beq_eq_true q; have a1 := dI_one q1; have a2 := Nat.eq_of_beq_eq_true q2; subst a0; subst a1; subst a2
      exact x_newarr (k := 22) (ty := .long) (t0 := 2) E X rfl (Or.inr (Or.inr ⟨rfl, rfl⟩)) aw_long rfl hd h.1.1 h.1.2 hb1 hb.2 h.2.2
    · have c1 := Nat.eq_of_beq_eq_true c1
      have c2 := Nat.eq_of_beq_eq_true c2
      have hw := List.all_eq_true.mp arr_ok _ hm
      dsimp only at c1 c2 q1 hw
      have a1 := dI_one q1; have a2 := Nat.eq_of_beq_eq_true q2; subst a1; subst a2; subst c2
      rw [c1] at hw
      rcases hq with q | q
      · have a0 := Nat.eq_of_beq_eq_true q; subst a0
        exact x_anewarr (t0 := 3) E X (Or.inl rfl) E.2.1.1 hw rfl hd h.1.1 h.1.2 hb1 hb.2 h.2.2
      · have a0 := Nat.eq_of_beq_eq_true q; subst a0
        exact x_anewarr (t0 := 4) E X (Or.inr rfl) E.2.1.2.1 hw rfl hd h.1.1 h.1.2 hb1 hb.2 h.2.2
  · exact h.elim
theorem z_switch {df : Int} {ps : Array (Int × Int)} (E : EX w s) (X : CX y p s m args meth c) (hd : decode (mCd y) pc = .ok (ri, ln)) (hnx : nx = pc + ln) (hr : relI y pc ri ln (.lookupswitch df ps) = true) (h : onP rtN mkN C (stepO arN nfN (lgOf y) (.lookupswitch df ps) nx ls st sh d) (PP w y p l e R s m args below meth c Q) Rt) : PP w y p l e R s m args below meth c Q pc ls st sh d := by
  have hr : (ps.toList.all (fun q => decide (0 ≤ q.2)) && (decide (0 ≤ df) && (match (generalizing := false) ri with
    | .tableswitch dflt lo hi offs => decide ((pc : Int) + dflt = df) && (decide (ps.toList = (List.range offs.size).map (fun (i : Nat) => (lo + (i : Int), (pc : Int) + offs.getD i 0))) && decide ((offs.size : Int) = hi - lo + 1 ∧ in32b lo = true ∧ in32b hi = true))
    | .lookupswitch dflt qs => decide ((pc : Int) + dflt = df) && (decide (ps.toList = qs.toList.map (fun q => (q.1, (pc : Int) + q.2))) && (qs.toList.zip (qs.toList.drop 1)).all (fun (a, next) => a.1 < next.1))
    | _ => false))) = true := hr
  rw [Bool.and_eq_true, Bool.and_eq_true, List.all_eq_true, decide_eq_true_eq] at hr
  obtain ⟨ho, hdf, hr⟩ := hr
  have ho : ∀ q ∈ ps.toList, 0 ≤ q.2 := fun q hq => of_decide_eq_true (ho q hq)
  simp only [stepO] at h
  split at h
  · rename_i x st2
    have hbd : BD w R sh := swC_ex (swC_mono (fun _ z => z.1) _ h)
    refine ⟨hbd, ?_⟩
    have hK := swC_mono (K' := fun t => PX w y p l e R s m args below meth c Q t.toNat ls st2 sh d) (fun _ z => z.2) _ h
    split at hr
    · rename_i dflt lo hi offs
      rw [Bool.and_eq_true, Bool.and_eq_true, decide_eq_true_eq, decide_eq_true_eq, decide_eq_true_eq] at hr
      have i32 : ∀ z : Int, in32b z = true → in32 z := fun z hz => by
        unfold in32b at hz
        rw [Bool.and_eq_true, decide_eq_true_eq, decide_eq_true_eq] at hz
        exact hz
      exact x_table X hd ⟨hdf, hr.1⟩ hr.2.1 ho hr.2.2.1 ⟨i32 _ hr.2.2.2.1, i32 _ hr.2.2.2.2⟩ hK
    · rename_i dflt qs
      rw [Bool.and_eq_true, Bool.and_eq_true, decide_eq_true_eq, decide_eq_true_eq] at hr
      exact x_lookup X hd hr.2.2 ⟨hdf, hr.1⟩ hr.2.1 ho hK
    · cases hr
  · exact h.elim
end SK
