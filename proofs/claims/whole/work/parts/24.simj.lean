/-! one step of the abstract machine is one of the real one, whatever the op -/
def BD (w : WP) (R : Room) (sh : Shp) : Prop := sh.length ≤ w.2.2.2.1 + R.cells ∧ slS sh ≤ w.2.2.2.2.1 + R.slots
def PP (w : WP) (y : Nat) (p : Program) (l : Launch) (e : Env) (R : Room) (s : State) (m : MethodId) (args : Array Value) (below : List Frame) (meth : Method) (c : Code) (Q : State → Prop) : KK := fun pc ls st sh d => BD w R sh ∧ PX w y p l e R s m args below meth c Q pc ls st sh d
theorem dI_ok {ri i : Ins} {ln n : Nat} (h : (dI ri i && Nat.beq ln n) = true) : ri = i ∧ ln = n := by
  rw [Bool.and_eq_true] at h
  exact ⟨of_decide_eq_true h.1, Nat.eq_of_beq_eq_true h.2⟩
theorem dI_one {ri i : Ins} (h : dI ri i = true) : ri = i := of_decide_eq_true h
theorem fin4 {i : Nat} (h : Nat.blt i 4 = true) : ((Fin.ofNat 4 i : Fin 4) : Nat) = i := by
  have := Nat.blt_eq.mp h
  show i % 4 = i
  omega
theorem bip {v : Int} (h : -128 ≤ v ∧ v ≤ 127) : (Int8.ofInt v).toInt32 = Int32.ofInt v := by
  rw [← Int32.toInt_inj, Int8.toInt_toInt32, toI32 (by unfold in32; omega), Int8.toInt_ofInt]
  have e : Int8.size = 256 := rfl
  rw [e, Int.bmod_def]
  omega
theorem sip {v : Int} (h : -32768 ≤ v ∧ v ≤ 32767) : (Int16.ofInt v).toInt32 = Int32.ofInt v := by
  rw [← Int32.toInt_inj, Int16.toInt_toInt32, toI32 (by unfold in32; omega), Int16.toInt_ofInt]
  have e : Int16.size = 65536 := rfl
  rw [e, Int.bmod_def]
  omega
section SJ
variable {w : WP} {y : Nat} {p : Program} {l : Launch} {e : Env} {R : Room} {s : State} {m : MethodId} {args : Array Value} {below : List Frame} {meth : Method} {c : Code} {Q : State → Prop} {pc : Nat} {ls st : List V} {sh : Shp} {d : Dat} {nx ln : Nat} {ri : Ins} {C : CT} {Rt : RT}
theorem z_iadd (E : EX w s) (X : CX y p s m args meth c) (hd : decode (mCd y) pc = .ok (ri, ln)) (hnx : nx = pc + ln) (hr : relI y pc ri ln (.iadd) = true) (h : onP rtN mkN C (stepO arN nfN (lgOf y) (.iadd) nx ls st sh d) (PP w y p l e R s m args below meth c Q) Rt) : PP w y p l e R s m args below meth c Q pc ls st sh d := by
  obtain ⟨rfl, rfl⟩ := dI_ok (show (dI ri (.iadd) && Nat.beq ln 1) = true from hr)
  subst hnx
  simp only [stepO] at h
  split at h
  · rename_i b a st2
    exact ⟨h.1, x_iadd X hd h.2⟩
  · exact h.elim
theorem z_isub (E : EX w s) (X : CX y p s m args meth c) (hd : decode (mCd y) pc = .ok (ri, ln)) (hnx : nx = pc + ln) (hr : relI y pc ri ln (.isub) = true) (h : onP rtN mkN C (stepO arN nfN (lgOf y) (.isub) nx ls st sh d) (PP w y p l e R s m args below meth c Q) Rt) : PP w y p l e R s m args below meth c Q pc ls st sh d := by
  obtain ⟨rfl, rfl⟩ := dI_ok (show (dI ri (.isub) && Nat.beq ln 1) = true from hr)
  subst hnx
  simp only [stepO] at h
  split at h
  · rename_i b a st2
    exact ⟨h.1, x_isub X hd h.2⟩
  · exact h.elim
theorem z_imul (E : EX w s) (X : CX y p s m args meth c) (hd : decode (mCd y) pc = .ok (ri, ln)) (hnx : nx = pc + ln) (hr : relI y pc ri ln (.imul) = true) (h : onP rtN mkN C (stepO arN nfN (lgOf y) (.imul) nx ls st sh d) (PP w y p l e R s m args below meth c Q) Rt) : PP w y p l e R s m args below meth c Q pc ls st sh d := by
  obtain ⟨rfl, rfl⟩ := dI_ok (show (dI ri (.imul) && Nat.beq ln 1) = true from hr)
  subst hnx
  simp only [stepO] at h
  split at h
  · rename_i b a st2
    exact ⟨h.1, x_imul X hd h.2⟩
  · exact h.elim
theorem z_iand (E : EX w s) (X : CX y p s m args meth c) (hd : decode (mCd y) pc = .ok (ri, ln)) (hnx : nx = pc + ln) (hr : relI y pc ri ln (.iand) = true) (h : onP rtN mkN C (stepO arN nfN (lgOf y) (.iand) nx ls st sh d) (PP w y p l e R s m args below meth c Q) Rt) : PP w y p l e R s m args below meth c Q pc ls st sh d := by
  obtain ⟨rfl, rfl⟩ := dI_ok (show (dI ri (.iand) && Nat.beq ln 1) = true from hr)
  subst hnx
  simp only [stepO] at h
  split at h
  · rename_i b a st2
    exact ⟨h.1, x_iand X hd h.2⟩
  · exact h.elim
theorem z_ior (E : EX w s) (X : CX y p s m args meth c) (hd : decode (mCd y) pc = .ok (ri, ln)) (hnx : nx = pc + ln) (hr : relI y pc ri ln (.ior) = true) (h : onP rtN mkN C (stepO arN nfN (lgOf y) (.ior) nx ls st sh d) (PP w y p l e R s m args below meth c Q) Rt) : PP w y p l e R s m args below meth c Q pc ls st sh d := by
  obtain ⟨rfl, rfl⟩ := dI_ok (show (dI ri (.ior) && Nat.beq ln 1) = true from hr)
  subst hnx
  simp only [stepO] at h
  split at h
  · rename_i b a st2
    exact ⟨h.1, x_ior X hd h.2⟩
  · exact h.elim
theorem z_ishl (E : EX w s) (X : CX y p s m args meth c) (hd : decode (mCd y) pc = .ok (ri, ln)) (hnx : nx = pc + ln) (hr : relI y pc ri ln (.ishl) = true) (h : onP rtN mkN C (stepO arN nfN (lgOf y) (.ishl) nx ls st sh d) (PP w y p l e R s m args below meth c Q) Rt) : PP w y p l e R s m args below meth c Q pc ls st sh d := by
  obtain ⟨rfl, rfl⟩ := dI_ok (show (dI ri (.ishl) && Nat.beq ln 1) = true from hr)
  subst hnx
  simp only [stepO] at h
  split at h
  · rename_i b a st2
    exact ⟨h.1, x_ishl X hd h.2⟩
  · exact h.elim
theorem z_ishr (E : EX w s) (X : CX y p s m args meth c) (hd : decode (mCd y) pc = .ok (ri, ln)) (hnx : nx = pc + ln) (hr : relI y pc ri ln (.ishr) = true) (h : onP rtN mkN C (stepO arN nfN (lgOf y) (.ishr) nx ls st sh d) (PP w y p l e R s m args below meth c Q) Rt) : PP w y p l e R s m args below meth c Q pc ls st sh d := by
  obtain ⟨rfl, rfl⟩ := dI_ok (show (dI ri (.ishr) && Nat.beq ln 1) = true from hr)
  subst hnx
  simp only [stepO] at h
  split at h
  · rename_i b a st2
    exact ⟨h.1, x_ishr X hd h.2⟩
  · exact h.elim
theorem z_ladd (E : EX w s) (X : CX y p s m args meth c) (hd : decode (mCd y) pc = .ok (ri, ln)) (hnx : nx = pc + ln) (hr : relI y pc ri ln (.ladd) = true) (h : onP rtN mkN C (stepO arN nfN (lgOf y) (.ladd) nx ls st sh d) (PP w y p l e R s m args below meth c Q) Rt) : PP w y p l e R s m args below meth c Q pc ls st sh d := by
  obtain ⟨rfl, rfl⟩ := dI_ok (show (dI ri (.ladd) && Nat.beq ln 1) = true from hr)
  subst hnx
  simp only [stepO] at h
  split at h
  · rename_i b a st2
    exact ⟨h.1, x_ladd X hd h.2⟩
  · exact h.elim
theorem z_land (E : EX w s) (X : CX y p s m args meth c) (hd : decode (mCd y) pc = .ok (ri, ln)) (hnx : nx = pc + ln) (hr : relI y pc ri ln (.land) = true) (h : onP rtN mkN C (stepO arN nfN (lgOf y) (.land) nx ls st sh d) (PP w y p l e R s m args below meth c Q) Rt) : PP w y p l e R s m args below meth c Q pc ls st sh d := by
  obtain ⟨rfl, rfl⟩ := dI_ok (show (dI ri (.land) && Nat.beq ln 1) = true from hr)
  subst hnx
  simp only [stepO] at h
  split at h
  · rename_i b a st2
    exact ⟨h.1, x_land X hd h.2⟩
  · exact h.elim
theorem z_lor (E : EX w s) (X : CX y p s m args meth c) (hd : decode (mCd y) pc = .ok (ri, ln)) (hnx : nx = pc + ln) (hr : relI y pc ri ln (.lor) = true) (h : onP rtN mkN C (stepO arN nfN (lgOf y) (.lor) nx ls st sh d) (PP w y p l e R s m args below meth c Q) Rt) : PP w y p l e R s m args below meth c Q pc ls st sh d := by
  obtain ⟨rfl, rfl⟩ := dI_ok (show (dI ri (.lor) && Nat.beq ln 1) = true from hr)
  subst hnx
  simp only [stepO] at h
  split at h
  · rename_i b a st2
    exact ⟨h.1, x_lor X hd h.2⟩
  · exact h.elim
theorem z_lshl (E : EX w s) (X : CX y p s m args meth c) (hd : decode (mCd y) pc = .ok (ri, ln)) (hnx : nx = pc + ln) (hr : relI y pc ri ln (.lshl) = true) (h : onP rtN mkN C (stepO arN nfN (lgOf y) (.lshl) nx ls st sh d) (PP w y p l e R s m args below meth c Q) Rt) : PP w y p l e R s m args below meth c Q pc ls st sh d := by
  obtain ⟨rfl, rfl⟩ := dI_ok (show (dI ri (.lshl) && Nat.beq ln 1) = true from hr)
  subst hnx
  simp only [stepO] at h
  split at h
  · rename_i b a st2
    exact ⟨h.1, x_lshl X hd h.2⟩
  · exact h.elim
theorem z_lshr (E : EX w s) (X : CX y p s m args meth c) (hd : decode (mCd y) pc = .ok (ri, ln)) (hnx : nx = pc + ln) (hr : relI y pc ri ln (.lshr) = true) (h : onP rtN mkN C (stepO arN nfN (lgOf y) (.lshr) nx ls st sh d) (PP w y p l e R s m args below meth c Q) Rt) : PP w y p l e R s m args below meth c Q pc ls st sh d := by
  obtain ⟨rfl, rfl⟩ := dI_ok (show (dI ri (.lshr) && Nat.beq ln 1) = true from hr)
  subst hnx
  simp only [stepO] at h
  split at h
  · rename_i b a st2
    exact ⟨h.1, x_lshr X hd h.2⟩
  · exact h.elim
theorem z_lushr (E : EX w s) (X : CX y p s m args meth c) (hd : decode (mCd y) pc = .ok (ri, ln)) (hnx : nx = pc + ln) (hr : relI y pc ri ln (.lushr) = true) (h : onP rtN mkN C (stepO arN nfN (lgOf y) (.lushr) nx ls st sh d) (PP w y p l e R s m args below meth c Q) Rt) : PP w y p l e R s m args below meth c Q pc ls st sh d := by
  obtain ⟨rfl, rfl⟩ := dI_ok (show (dI ri (.lushr) && Nat.beq ln 1) = true from hr)
  subst hnx
  simp only [stepO] at h
  split at h
  · rename_i b a st2
    exact ⟨h.1, x_lushr X hd h.2⟩
  · exact h.elim
theorem z_lcmp (E : EX w s) (X : CX y p s m args meth c) (hd : decode (mCd y) pc = .ok (ri, ln)) (hnx : nx = pc + ln) (hr : relI y pc ri ln (.lcmp) = true) (h : onP rtN mkN C (stepO arN nfN (lgOf y) (.lcmp) nx ls st sh d) (PP w y p l e R s m args below meth c Q) Rt) : PP w y p l e R s m args below meth c Q pc ls st sh d := by
  obtain ⟨rfl, rfl⟩ := dI_ok (show (dI ri (.lcmp) && Nat.beq ln 1) = true from hr)
  subst hnx
  simp only [stepO] at h
  split at h
  · rename_i b a st2
    exact ⟨h.1, x_lcmp X hd h.2⟩
  · exact h.elim
theorem z_idiv (E : EX w s) (X : CX y p s m args meth c) (hd : decode (mCd y) pc = .ok (ri, ln)) (hnx : nx = pc + ln) (hr : relI y pc ri ln (.idiv) = true) (h : onP rtN mkN C (stepO arN nfN (lgOf y) (.idiv) nx ls st sh d) (PP w y p l e R s m args below meth c Q) Rt) : PP w y p l e R s m args below meth c Q pc ls st sh d := by
  obtain ⟨rfl, rfl⟩ := dI_ok (show (dI ri (.idiv) && Nat.beq ln 1) = true from hr)
  subst hnx
  simp only [stepO] at h
  split at h
  · rename_i b a st2
    exact ⟨h.2.1, x_idiv h.1 X hd h.2.2⟩
  · exact h.elim
theorem z_irem (E : EX w s) (X : CX y p s m args meth c) (hd : decode (mCd y) pc = .ok (ri, ln)) (hnx : nx = pc + ln) (hr : relI y pc ri ln (.irem) = true) (h : onP rtN mkN C (stepO arN nfN (lgOf y) (.irem) nx ls st sh d) (PP w y p l e R s m args below meth c Q) Rt) : PP w y p l e R s m args below meth c Q pc ls st sh d := by
  obtain ⟨rfl, rfl⟩ := dI_ok (show (dI ri (.irem) && Nat.beq ln 1) = true from hr)
  subst hnx
  simp only [stepO] at h
  split at h
  · rename_i b a st2
    exact ⟨h.2.1, x_irem h.1 X hd h.2.2⟩
  · exact h.elim
theorem z_ineg (E : EX w s) (X : CX y p s m args meth c) (hd : decode (mCd y) pc = .ok (ri, ln)) (hnx : nx = pc + ln) (hr : relI y pc ri ln (.ineg) = true) (h : onP rtN mkN C (stepO arN nfN (lgOf y) (.ineg) nx ls st sh d) (PP w y p l e R s m args below meth c Q) Rt) : PP w y p l e R s m args below meth c Q pc ls st sh d := by
  obtain ⟨rfl, rfl⟩ := dI_ok (show (dI ri (.ineg) && Nat.beq ln 1) = true from hr)
  subst hnx
  simp only [stepO] at h
  split at h
  · rename_i a st2
    exact ⟨h.1, x_ineg X hd h.2⟩
  · exact h.elim
theorem z_i2l (E : EX w s) (X : CX y p s m args meth c) (hd : decode (mCd y) pc = .ok (ri, ln)) (hnx : nx = pc + ln) (hr : relI y pc ri ln (.i2l) = true) (h : onP rtN mkN C (stepO arN nfN (lgOf y) (.i2l) nx ls st sh d) (PP w y p l e R s m args below meth c Q) Rt) : PP w y p l e R s m args below meth c Q pc ls st sh d := by
  obtain ⟨rfl, rfl⟩ := dI_ok (show (dI ri (.i2l) && Nat.beq ln 1) = true from hr)
  subst hnx
  simp only [stepO] at h
  split at h
  · rename_i a st2
    exact ⟨h.1, x_i2l X hd h.2⟩
  · exact h.elim
theorem z_l2i (E : EX w s) (X : CX y p s m args meth c) (hd : decode (mCd y) pc = .ok (ri, ln)) (hnx : nx = pc + ln) (hr : relI y pc ri ln (.l2i) = true) (h : onP rtN mkN C (stepO arN nfN (lgOf y) (.l2i) nx ls st sh d) (PP w y p l e R s m args below meth c Q) Rt) : PP w y p l e R s m args below meth c Q pc ls st sh d := by
  obtain ⟨rfl, rfl⟩ := dI_ok (show (dI ri (.l2i) && Nat.beq ln 1) = true from hr)
  subst hnx
  simp only [stepO] at h
  split at h
  · rename_i a st2
    exact ⟨h.1, x_l2i X hd h.2⟩
  · exact h.elim
theorem z_i2b (E : EX w s) (X : CX y p s m args meth c) (hd : decode (mCd y) pc = .ok (ri, ln)) (hnx : nx = pc + ln) (hr : relI y pc ri ln (.i2b) = true) (h : onP rtN mkN C (stepO arN nfN (lgOf y) (.i2b) nx ls st sh d) (PP w y p l e R s m args below meth c Q) Rt) : PP w y p l e R s m args below meth c Q pc ls st sh d := by
  obtain ⟨rfl, rfl⟩ := dI_ok (show (dI ri (.i2b) && Nat.beq ln 1) = true from hr)
  subst hnx
  simp only [stepO] at h
  split at h
  · rename_i a st2
    exact ⟨h.1, x_i2b X hd h.2⟩
  · exact h.elim
theorem z_i2s (E : EX w s) (X : CX y p s m args meth c) (hd : decode (mCd y) pc = .ok (ri, ln)) (hnx : nx = pc + ln) (hr : relI y pc ri ln (.i2s) = true) (h : onP rtN mkN C (stepO arN nfN (lgOf y) (.i2s) nx ls st sh d) (PP w y p l e R s m args below meth c Q) Rt) : PP w y p l e R s m args below meth c Q pc ls st sh d := by
  obtain ⟨rfl, rfl⟩ := dI_ok (show (dI ri (.i2s) && Nat.beq ln 1) = true from hr)
  subst hnx
  simp only [stepO] at h
  split at h
  · rename_i a st2
    exact ⟨h.1, x_i2s X hd h.2⟩
  · exact h.elim
theorem z_i2c (E : EX w s) (X : CX y p s m args meth c) (hd : decode (mCd y) pc = .ok (ri, ln)) (hnx : nx = pc + ln) (hr : relI y pc ri ln (.i2c) = true) (h : onP rtN mkN C (stepO arN nfN (lgOf y) (.i2c) nx ls st sh d) (PP w y p l e R s m args below meth c Q) Rt) : PP w y p l e R s m args below meth c Q pc ls st sh d := by
  obtain ⟨rfl, rfl⟩ := dI_ok (show (dI ri (.i2c) && Nat.beq ln 1) = true from hr)
  subst hnx
  simp only [stepO] at h
  split at h
  · rename_i a st2
    exact ⟨h.1, x_i2c X hd h.2⟩
  · exact h.elim
theorem z_dup2 (E : EX w s) (X : CX y p s m args meth c) (hd : decode (mCd y) pc = .ok (ri, ln)) (hnx : nx = pc + ln) (hr : relI y pc ri ln (.dup2) = true) (h : onP rtN mkN C (stepO arN nfN (lgOf y) (.dup2) nx ls st sh d) (PP w y p l e R s m args below meth c Q) Rt) : PP w y p l e R s m args below meth c Q pc ls st sh d := by
  obtain ⟨rfl, rfl⟩ := dI_ok (show (dI ri (.dup2) && Nat.beq ln 1) = true from hr)
  subst hnx
  simp only [stepO] at h
  split at h
  · rename_i i a st2
    exact ⟨h.1, x_dup2 X hd h.2⟩
  · exact h.elim
theorem z_dup_x1 (E : EX w s) (X : CX y p s m args meth c) (hd : decode (mCd y) pc = .ok (ri, ln)) (hnx : nx = pc + ln) (hr : relI y pc ri ln (.dup_x1) = true) (h : onP rtN mkN C (stepO arN nfN (lgOf y) (.dup_x1) nx ls st sh d) (PP w y p l e R s m args below meth c Q) Rt) : PP w y p l e R s m args below meth c Q pc ls st sh d := by
  obtain ⟨rfl, rfl⟩ := dI_ok (show (dI ri (.dup_x1) && Nat.beq ln 1) = true from hr)
  subst hnx
  simp only [stepO] at h
  split at h
  · rename_i i a st2
    exact ⟨h.1, x_dup_x1 X hd h.2⟩
  · exact h.elim
theorem z_dup (E : EX w s) (X : CX y p s m args meth c) (hd : decode (mCd y) pc = .ok (ri, ln)) (hnx : nx = pc + ln) (hr : relI y pc ri ln (.dup) = true) (h : onP rtN mkN C (stepO arN nfN (lgOf y) (.dup) nx ls st sh d) (PP w y p l e R s m args below meth c Q) Rt) : PP w y p l e R s m args below meth c Q pc ls st sh d := by
  obtain ⟨rfl, rfl⟩ := dI_ok (show (dI ri (.dup) && Nat.beq ln 1) = true from hr)
  subst hnx
  simp only [stepO] at h
  split at h
  · rename_i a st2
    exact ⟨h.1, x_dup_r (i := 0) X hd h.2⟩
  · rename_i a st2
    exact ⟨h.1, x_dup_i (a := 0) X hd h.2⟩
  · exact h.elim
theorem z_pop (E : EX w s) (X : CX y p s m args meth c) (hd : decode (mCd y) pc = .ok (ri, ln)) (hnx : nx = pc + ln) (hr : relI y pc ri ln (.pop) = true) (h : onP rtN mkN C (stepO arN nfN (lgOf y) (.pop) nx ls st sh d) (PP w y p l e R s m args below meth c Q) Rt) : PP w y p l e R s m args below meth c Q pc ls st sh d := by
  obtain ⟨rfl, rfl⟩ := dI_ok (show (dI ri (.pop) && Nat.beq ln 1) = true from hr)
  subst hnx
  simp only [stepO] at h
  split at h
  · rename_i a st2
    exact ⟨h.1, x_pop_i (a := 0) X hd h.2⟩
  · rename_i a st2
    exact ⟨h.1, x_pop_r (i := 0) X hd h.2⟩
  · exact h.elim
theorem z_iload {i : Nat} (E : EX w s) (X : CX y p s m args meth c) (hd : decode (mCd y) pc = .ok (ri, ln)) (hnx : nx = pc + ln) (hr : relI y pc ri ln (.iload i) = true) (h : onP rtN mkN C (stepO arN nfN (lgOf y) (.iload i) nx ls st sh d) (PP w y p l e R s m args below meth c Q) Rt) : PP w y p l e R s m args below meth c Q pc ls st sh d := by
  simp only [stepO] at h
  split at h
  · rename_i x hl
    have hr : ((dI ri (.iload i) && Nat.beq ln 2) || (dI ri (.iload_n (Fin.ofNat 4 i)) && (Nat.beq ln 1 && Nat.blt i 4))) = true := hr
    rw [Bool.or_eq_true] at hr
    rcases hr with q | q
    · obtain ⟨rfl, rfl⟩ := dI_ok q
      subst hnx
      exact ⟨h.1, x_iload (k := 0) hl X hd h.2⟩
    · rw [Bool.and_eq_true, Bool.and_eq_true] at q
      have e1 := dI_one q.1
      have e2 := Nat.eq_of_beq_eq_true q.2.1
      subst e1; subst e2; subst hnx
      exact ⟨h.1, x_iload_n (fin4 q.2.2) hl X hd h.2⟩
  · exact h.elim
theorem z_lload {i : Nat} (E : EX w s) (X : CX y p s m args meth c) (hd : decode (mCd y) pc = .ok (ri, ln)) (hnx : nx = pc + ln) (hr : relI y pc ri ln (.lload i) = true) (h : onP rtN mkN C (stepO arN nfN (lgOf y) (.lload i) nx ls st sh d) (PP w y p l e R s m args below meth c Q) Rt) : PP w y p l e R s m args below meth c Q pc ls st sh d := by
  simp only [stepO] at h
  split at h
  · rename_i x hl
    have hr : ((dI ri (.lload i) && Nat.beq ln 2) || (dI ri (.lload_n (Fin.ofNat 4 i)) && (Nat.beq ln 1 && Nat.blt i 4))) = true := hr
    rw [Bool.or_eq_true] at hr
    rcases hr with q | q
    · obtain ⟨rfl, rfl⟩ := dI_ok q
      subst hnx
      exact ⟨h.1, x_lload (k := 0) hl X hd h.2⟩
    · rw [Bool.and_eq_true, Bool.and_eq_true] at q
      have e1 := dI_one q.1
      have e2 := Nat.eq_of_beq_eq_true q.2.1
      subst e1; subst e2; subst hnx
      exact ⟨h.1, x_lload_n (fin4 q.2.2) hl X hd h.2⟩
  · exact h.elim
theorem z_aload {i : Nat} (E : EX w s) (X : CX y p s m args meth c) (hd : decode (mCd y) pc = .ok (ri, ln)) (hnx : nx = pc + ln) (hr : relI y pc ri ln (.aload i) = true) (h : onP rtN mkN C (stepO arN nfN (lgOf y) (.aload i) nx ls st sh d) (PP w y p l e R s m args below meth c Q) Rt) : PP w y p l e R s m args below meth c Q pc ls st sh d := by
  simp only [stepO] at h
  split at h
  · rename_i x hl
    have hr : ((dI ri (.aload i) && Nat.beq ln 2) || (dI ri (.aload_n (Fin.ofNat 4 i)) && (Nat.beq ln 1 && Nat.blt i 4))) = true := hr
    rw [Bool.or_eq_true] at hr
    rcases hr with q | q
    · obtain ⟨rfl, rfl⟩ := dI_ok q
      subst hnx
      exact ⟨h.1, x_aload (k := 0) hl X hd h.2⟩
    · rw [Bool.and_eq_true, Bool.and_eq_true] at q
      have e1 := dI_one q.1
      have e2 := Nat.eq_of_beq_eq_true q.2.1
      subst e1; subst e2; subst hnx
      exact ⟨h.1, x_aload_n (fin4 q.2.2) hl X hd h.2⟩
  · exact h.elim
theorem z_istore {i : Nat} (E : EX w s) (X : CX y p s m args meth c) (hd : decode (mCd y) pc = .ok (ri, ln)) (hnx : nx = pc + ln) (hr : relI y pc ri ln (.istore i) = true) (h : onP rtN mkN C (stepO arN nfN (lgOf y) (.istore i) nx ls st sh d) (PP w y p l e R s m args below meth c Q) Rt) : PP w y p l e R s m args below meth c Q pc ls st sh d := by
  have hr : (Nat.blt i (mxN y) && ((dI ri (.istore i) && Nat.beq ln 2) || (dI ri (.istore_n (Fin.ofNat 4 i)) && (Nat.beq ln 1 && Nat.blt i 4)))) = true := hr
  rw [Bool.and_eq_true, Bool.or_eq_true] at hr
  obtain ⟨hb, hr⟩ := hr
  simp only [stepO] at h
  split at h
  · rename_i x st2
    rcases hr with q | q
    · obtain ⟨rfl, rfl⟩ := dI_ok q
      subst hnx
      exact ⟨h.1, x_istore (k := 0) (Nat.blt_eq.mp hb) X hd h.2⟩
    · rw [Bool.and_eq_true, Bool.and_eq_true] at q
      have e1 := dI_one q.1
      have e2 := Nat.eq_of_beq_eq_true q.2.1
      subst e1; subst e2; subst hnx
      exact ⟨h.1, x_istore_n (fin4 q.2.2) (Nat.blt_eq.mp hb) X hd h.2⟩
  · exact h.elim
theorem z_astore {i : Nat} (E : EX w s) (X : CX y p s m args meth c) (hd : decode (mCd y) pc = .ok (ri, ln)) (hnx : nx = pc + ln) (hr : relI y pc ri ln (.astore i) = true) (h : onP rtN mkN C (stepO arN nfN (lgOf y) (.astore i) nx ls st sh d) (PP w y p l e R s m args below meth c Q) Rt) : PP w y p l e R s m args below meth c Q pc ls st sh d := by
  have hr : (Nat.blt i (mxN y) && ((dI ri (.astore i) && Nat.beq ln 2) || (dI ri (.astore_n (Fin.ofNat 4 i)) && (Nat.beq ln 1 && Nat.blt i 4)))) = true := hr
  rw [Bool.and_eq_true, Bool.or_eq_true] at hr
  obtain ⟨hb, hr⟩ := hr
  simp only [stepO] at h
  split at h
  · rename_i x st2
    rcases hr with q | q
    · obtain ⟨rfl, rfl⟩ := dI_ok q
      subst hnx
      exact ⟨h.1, x_astore (k := 0) (Nat.blt_eq.mp hb) X hd h.2⟩
    · rw [Bool.and_eq_true, Bool.and_eq_true] at q
      have e1 := dI_one q.1
      have e2 := Nat.eq_of_beq_eq_true q.2.1
      subst e1; subst e2; subst hnx
      exact ⟨h.1, x_astore_n (fin4 q.2.2) (Nat.blt_eq.mp hb) X hd h.2⟩
  · exact h.elim
theorem z_lstore {i : Nat} (E : EX w s) (X : CX y p s m args meth c) (hd : decode (mCd y) pc = .ok (ri, ln)) (hnx : nx = pc + ln) (hr : relI y pc ri ln (.lstore i) = true) (h : onP rtN mkN C (stepO arN nfN (lgOf y) (.lstore i) nx ls st sh d) (PP w y p l e R s m args below meth c Q) Rt) : PP w y p l e R s m args below meth c Q pc ls st sh d := by
  have hr : ((Nat.blt (i + 1) (mxN y) && (lgOf y).contains i) && ((dI ri (.lstore i) && Nat.beq ln 2) || (dI ri (.lstore_n (Fin.ofNat 4 i)) && (Nat.beq ln 1 && Nat.blt i 4)))) = true := hr
  rw [Bool.and_eq_true, Bool.or_eq_true] at hr
  obtain ⟨hb, hr⟩ := hr
  rw [Bool.and_eq_true] at hb
  simp only [stepO] at h
  split at h
  · rename_i x st2
    rcases hr with q | q
    · obtain ⟨rfl, rfl⟩ := dI_ok q
      subst hnx
      exact ⟨h.1, x_lstore (k := 0) (Nat.blt_eq.mp hb.1) (List.contains_iff_mem.mp hb.2) X hd h.2⟩
    · rw [Bool.and_eq_true, Bool.and_eq_true] at q
      have e1 := dI_one q.1
      have e2 := Nat.eq_of_beq_eq_true q.2.1
      subst e1; subst e2; subst hnx
      exact ⟨h.1, x_lstore_n (fin4 q.2.2) (Nat.blt_eq.mp hb.1) (List.contains_iff_mem.mp hb.2) X hd h.2⟩
  · exact h.elim
theorem z_iinc {i : Nat} {v : Int} (E : EX w s) (X : CX y p s m args meth c) (hd : decode (mCd y) pc = .ok (ri, ln)) (hnx : nx = pc + ln) (hr : relI y pc ri ln (.iinc i v) = true) (h : onP rtN mkN C (stepO arN nfN (lgOf y) (.iinc i v) nx ls st sh d) (PP w y p l e R s m args below meth c Q) Rt) : PP w y p l e R s m args below meth c Q pc ls st sh d := by
  obtain ⟨rfl, rfl⟩ := dI_ok (show (dI ri (.iinc i v) && Nat.beq ln 3) = true from hr)
  subst hnx
  simp only [stepO] at h
  split at h
  · rename_i x hl
    exact ⟨h.1, x_iinc hl X hd h.2⟩
  · exact h.elim
theorem z_iconst {v : Int} (E : EX w s) (X : CX y p s m args meth c) (hd : decode (mCd y) pc = .ok (ri, ln)) (hnx : nx = pc + ln) (hr : relI y pc ri ln (.iconst v) = true) (h : onP rtN mkN C (stepO arN nfN (lgOf y) (.iconst v) nx ls st sh d) (PP w y p l e R s m args below meth c Q) Rt) : PP w y p l e R s m args below meth c Q pc ls st sh d := by
  have hr : (decide (-2147483648 ≤ v ∧ v ≤ 2147483647) && ((dI ri (.iconst v) && Nat.beq ln 1) || ((dI ri (.bipush v) && (Nat.beq ln 2 && decide (-128 ≤ v ∧ v ≤ 127))) || ((dI ri (.sipush v) && (Nat.beq ln 3 && decide (-32768 ≤ v ∧ v ≤ 32767))) || conL.any (fun e => (Nat.beq e.1 (mCl y) && decide (e.2.2.1 = v)) && ((dI ri (.ldc e.2.1) && Nat.beq ln 2) || (dI ri (.ldc_w e.2.1) && Nat.beq ln 3))))))) = true := hr
  simp only [Bool.and_eq_true, Bool.or_eq_true, decide_eq_true_eq, List.any_eq_true] at hr
  obtain ⟨hv, hr⟩ := hr
  have hin : in32 v := hv
  subst hnx
  refine ⟨h.1, ?_⟩
  have h2 := h.2
  rcases hr with ⟨q1, q2⟩ | ⟨q1, q2, q3⟩ | ⟨q1, q2, q3⟩ | ⟨⟨e1, e2, e3, e4⟩, hm, ⟨c1, c2⟩, q⟩
  · have a1 := dI_one q1; have a2 := Nat.eq_of_beq_eq_true q2; subst a1; subst a2
    exact x_iconst hin X hd (fun H locs cells slots lsr rest hK => lv_iconst X.1 X.2.1 hd rfl hK) h2
  · have a1 := dI_one q1; have a2 := Nat.eq_of_beq_eq_true q2; subst a1; subst a2
    exact x_iconst hin X hd (fun H locs cells slots lsr rest hK => lv_bipush X.1 X.2.1 hd (bip q3) hK) h2
  · have a1 := dI_one q1; have a2 := Nat.eq_of_beq_eq_true q2; subst a1; subst a2
    exact x_iconst hin X hd (fun H locs cells slots lsr rest hK => lv_sipush X.1 X.2.1 hd (sip q3) hK) h2
  · have hw := hasW_mem (List.all_eq_true.mp con_ok _ hm)
    dsimp only at hw c1 c2 q
    have c1 := Nat.eq_of_beq_eq_true c1
    subst c2
    rw [c1] at hw
    rcases q with ⟨q1, q2⟩ | ⟨q1, q2⟩
    · have a1 := dI_one q1; have a2 := Nat.eq_of_beq_eq_true q2; subst a1; subst a2
      exact x_iconst hin X hd (fun H locs cells slots lsr rest hK => lv_ldc X.1 X.2.1 X.2.2.2.1 (X.2.2.2.2.1 _ hw) hd hK) h2
    · have a1 := dI_one q1; have a2 := Nat.eq_of_beq_eq_true q2; subst a1; subst a2
      exact x_iconst hin X hd (fun H locs cells slots lsr rest hK => lv_ldcw X.1 X.2.1 X.2.2.2.1 (X.2.2.2.2.1 _ hw) hd hK) h2
theorem z_jsr {v : Int} (E : EX w s) (X : CX y p s m args meth c) (hd : decode (mCd y) pc = .ok (ri, ln)) (hnx : nx = pc + ln) (hr : relI y pc ri ln (.jsr v) = true) (h : onP rtN mkN C (stepO arN nfN (lgOf y) (.jsr v) nx ls st sh d) (PP w y p l e R s m args below meth c Q) Rt) : PP w y p l e R s m args below meth c Q pc ls st sh d := by
  have hr : (decide (-9223372036854775808 ≤ v ∧ v ≤ 9223372036854775807) && ((dI ri (.lconst 0) && (Nat.beq ln 1 && decide (v = 0))) || ((dI ri (.lconst 1) && (Nat.beq ln 1 && decide (v = 1))) || lconL.any (fun e => (Nat.beq e.1 (mCl y) && decide (e.2.2.1 = v)) && (dI ri (.ldc2_w e.2.1) && Nat.beq ln 3))))) = true := hr
  simp only [Bool.and_eq_true, Bool.or_eq_true, decide_eq_true_eq, List.any_eq_true] at hr
  obtain ⟨hv, hr⟩ := hr
  have hin : in64 v := hv
  subst hnx
  refine ⟨h.1, ?_⟩
  have h2 := h.2
  rcases hr with ⟨q1, q2, q3⟩ | ⟨q1, q2, q3⟩ | ⟨⟨e1, e2, e3, e4⟩, hm, ⟨c1, c2⟩, q1, q2⟩
  · have a1 := dI_one q1; have a2 := Nat.eq_of_beq_eq_true q2; subst a1; subst a2; subst q3
    exact x_lconst hin X hd (fun H locs cells slots lsr rest hK => lv_lconst X.1 X.2.1 hd rfl hK) h2
  · have a1 := dI_one q1; have a2 := Nat.eq_of_beq_eq_true q2; subst a1; subst a2; subst q3
    exact x_lconst hin X hd (fun H locs cells slots lsr rest hK => lv_lconst X.1 X.2.1 hd rfl hK) h2
  · have hw := hasW_mem (List.all_eq_true.mp lcon_ok _ hm)
    dsimp only at hw c1 c2 q1 q2
    have c1 := Nat.eq_of_beq_eq_true c1
    subst c2
    rw [c1] at hw
    have a1 := dI_one q1; have a2 := Nat.eq_of_beq_eq_true q2; subst a1; subst a2
    exact x_lconst hin X hd (fun H locs cells slots lsr rest hK => lv_ldc2 X.1 X.2.1 X.2.2.2.1 (X.2.2.2.2.1 _ hw) hd hK) h2
theorem z_ldc {a : Nat} (E : EX w s) (X : CX y p s m args meth c) (hd : decode (mCd y) pc = .ok (ri, ln)) (hnx : nx = pc + ln) (hr : relI y pc ri ln (.ldc a) = true) (h : onP rtN mkN C (stepO arN nfN (lgOf y) (.ldc a) nx ls st sh d) (PP w y p l e R s m args below meth c Q) Rt) : PP w y p l e R s m args below meth c Q pc ls st sh d := by
  have hr : (statL.any (fun e => (Nat.beq e.1 (mCl y) && (Nat.beq e.2.2.1 a && (Nat.ble 2 a && Nat.ble a 6))) && (dI ri (.getstatic e.2.1) && Nat.beq ln 3)) || strL.any (fun e => (Nat.beq e.1 (mCl y) && (Nat.beq e.2.2.1 a && (Nat.ble 7 a && Nat.ble a 9))) && (dI ri (.ldc e.2.1) && Nat.beq ln 2))) = true := hr
  simp only [Bool.and_eq_true, Bool.or_eq_true, List.any_eq_true, Nat.ble_eq] at hr
  subst hnx
  refine ⟨h.1, ?_⟩
  have h2 := h.2
  rcases hr with ⟨⟨e1, e2, e3, e4⟩, hm, ⟨c1, c2, c3, c4⟩, q1, q2⟩ | ⟨⟨e1, e2, e3, e4⟩, hm, ⟨c1, c2, c3, c4⟩, q1, q2⟩
  · have c1 := Nat.eq_of_beq_eq_true c1; have c2 := Nat.eq_of_beq_eq_true c2
    dsimp only at c1 c2 q1
    have a1 := dI_one q1; have a2 := Nat.eq_of_beq_eq_true q2; subst a1; subst a2; subst c2
    rw [c1] at hm
    exact x_getstatic E X hm c3 c4 hd h2
  · have c1 := Nat.eq_of_beq_eq_true c1; have c2 := Nat.eq_of_beq_eq_true c2
    dsimp only at c1 c2 q1
    have a1 := dI_one q1; have a2 := Nat.eq_of_beq_eq_true q2; subst a1; subst a2; subst c2
    rw [c1] at hm
    exact x_ldcS E X hm c3 c4 hd h2
theorem z_goto {t : Int} (E : EX w s) (X : CX y p s m args meth c) (hd : decode (mCd y) pc = .ok (ri, ln)) (hr : relI y pc ri ln (.goto t) = true) (h : onP rtN mkN C (stepO arN nfN (lgOf y) (.goto t) nx ls st sh d) (PP w y p l e R s m args below meth c Q) Rt) : PP w y p l e R s m args below meth c Q pc ls st sh d := by
  have hr : (dI ri (.goto (t - (pc : Int))) && (Nat.beq ln 3 && decide (0 ≤ t))) = true := hr
  simp only [Bool.and_eq_true, decide_eq_true_eq] at hr
  have a1 := dI_one hr.1; have a2 := Nat.eq_of_beq_eq_true hr.2.1; subst a1; subst a2
  exact ⟨h.1, x_goto (t := t.toNat) (by omega) X hd h.2⟩
theorem z_if_icmp {cd : Jvm.ClassFile.Cond} {t : Int} (E : EX w s) (X : CX y p s m args meth c) (hd : decode (mCd y) pc = .ok (ri, ln)) (hnx : nx = pc + ln) (hr : relI y pc ri ln (.if_icmp cd t) = true) (h : onP rtN mkN C (stepO arN nfN (lgOf y) (.if_icmp cd t) nx ls st sh d) (PP w y p l e R s m args below meth c Q) Rt) : PP w y p l e R s m args below meth c Q pc ls st sh d := by
  have hr : (dI ri (.if_icmp cd (t - (pc : Int))) && (Nat.beq ln 3 && decide (0 ≤ t))) = true := hr
  simp only [Bool.and_eq_true, decide_eq_true_eq] at hr
  have a1 := dI_one hr.1; have a2 := Nat.eq_of_beq_eq_true hr.2.1; subst a1; subst a2
  subst hnx
  simp only [stepO] at h
  split at h
  · rename_i yv xv st2
    refine ⟨?_, ?_⟩
    · by_cases q : cmpI cd xv yv
      · exact (h.1 q).1
      · exact (h.2 q).1
    · cases cd
      · exact x_icmp_eq (t := t.toNat) (by omega) X hd (fun q => (h.1 q).2) (fun q => (h.2 q).2)
      · exact x_icmp_ne (t := t.toNat) (by omega) X hd (fun q => (h.1 q).2) (fun q => (h.2 q).2)
      · exact x_icmp_lt (t := t.toNat) (by omega) X hd (fun q => (h.1 q).2) (fun q => (h.2 q).2)
      · exact x_icmp_ge (t := t.toNat) (by omega) X hd (fun q => (h.1 q).2) (fun q => (h.2 q).2)
      · exact x_icmp_gt (t := t.toNat) (by omega) X hd (fun q => (h.1 q).2) (fun q => (h.2 q).2)
      · exact x_icmp_le (t := t.toNat) (by omega) X hd (fun q => (h.1 q).2) (fun q => (h.2 q).2)
  · exact h.elim
theorem z_ifCond {cd : Jvm.ClassFile.Cond} {t : Int} (E : EX w s) (X : CX y p s m args meth c) (hd : decode (mCd y) pc = .ok (ri, ln)) (hnx : nx = pc + ln) (hr : relI y pc ri ln (.ifCond cd t) = true) (h : onP rtN mkN C (stepO arN nfN (lgOf y) (.ifCond cd t) nx ls st sh d) (PP w y p l e R s m args below meth c Q) Rt) : PP w y p l e R s m args below meth c Q pc ls st sh d := by
  have hr : (dI ri (.ifCond cd (t - (pc : Int))) && (Nat.beq ln 3 && decide (0 ≤ t))) = true := hr
  simp only [Bool.and_eq_true, decide_eq_true_eq] at hr
  have a1 := dI_one hr.1; have a2 := Nat.eq_of_beq_eq_true hr.2.1; subst a1; subst a2
  subst hnx
  simp only [stepO] at h
  split at h
  · rename_i xv st2
    refine ⟨?_, ?_⟩
    · by_cases q : cmpI cd xv 0
      · exact (h.1 q).1
      · exact (h.2 q).1
    · cases cd
      · exact x_if_eq (t := t.toNat) (by omega) X hd (fun q => (h.1 q).2) (fun q => (h.2 q).2)
      · exact x_if_ne (t := t.toNat) (by omega) X hd (fun q => (h.1 q).2) (fun q => (h.2 q).2)
      · exact x_if_lt (t := t.toNat) (by omega) X hd (fun q => (h.1 q).2) (fun q => (h.2 q).2)
      · exact x_if_ge (t := t.toNat) (by omega) X hd (fun q => (h.1 q).2) (fun q => (h.2 q).2)
      · exact x_if_gt (t := t.toNat) (by omega) X hd (fun q => (h.1 q).2) (fun q => (h.2 q).2)
      · exact x_if_le (t := t.toNat) (by omega) X hd (fun q => (h.1 q).2) (fun q => (h.2 q).2)
  · exact h.elim
end SJ
