/-! what holds between the law's calls (printed by gen21.py) -/
theorem q5_3 {m : Bool} {e d0 d : Dat} {P : Row} (h : RL m 52 e d0 d P) : ∀ i, i < 14 → d 55 i = P (56 + i) := rl_3 h
theorem q5_4 {m : Bool} {e d0 d : Dat} {P : Row} (h : RL m 52 e d0 d P) : ∀ i, i < 14 → d 56 i = P i := rl_4 h
theorem q5_5 {m : Bool} {e d0 d : Dat} {P : Row} (h : RL m 52 e d0 d P) : ∀ i, i < 14 → d 57 i = P (14 + i) := rl_5 h
theorem q5_6 {m : Bool} {e d0 d : Dat} {P : Row} (h : RL m 52 e d0 d P) : ∀ i, i < 14 → d 58 i = P (28 + i) := rl_6 h
theorem q5_7 {m : Bool} {e d0 d : Dat} {P : Row} (h : RL m 52 e d0 d P) : ∀ i, i < 14 → d 59 i = P (42 + i) := rl_7 h
theorem q5_8 {m : Bool} {e d0 d : Dat} {P : Row} (h : RL m 52 e d0 d P) : ∀ i, i < 1792 → d 60 i = P (286 + i) := rl_8 h
theorem q5_10 {m : Bool} {e d0 d : Dat} {P : Row} (h : RL m 52 e d0 d P) : ∀ i, i < 8 → d 62 i = P (104 + i) := rl_10 h
theorem q5_11 {m : Bool} {e d0 d : Dat} {P : Row} (h : RL m 52 e d0 d P) : ∀ i, i < 8 → d 63 i = P (112 + i) := rl_11 h
theorem q5_12 {m : Bool} {e d0 d : Dat} {P : Row} (h : RL m 52 e d0 d P) : ∀ i, i < 8 → d 64 i = P (120 + i) := rl_12 h
theorem q5_13 {m : Bool} {e d0 d : Dat} {P : Row} (h : RL m 52 e d0 d P) : ∀ i, i < 8 → d 65 i = P (128 + i) := rl_13 h
theorem q5_15 {m : Bool} {e d0 d : Dat} {P : Row} (h : RL m 52 e d0 d P) : ∀ i, i < 12 → d 67 i = P (136 + i) := rl_15 h
theorem q5_17 {m : Bool} {e d0 d : Dat} {P : Row} (h : RL m 52 e d0 d P) : ∀ i, i < 12 → d 69 i = P (148 + i) := rl_17 h
theorem q5_18 {m : Bool} {e d0 d : Dat} {P : Row} (h : RL m 52 e d0 d P) : ∀ i, i < 12 → d 70 i = P (160 + i) := rl_18 h
theorem q5_21 {m : Bool} {e d0 d : Dat} {P : Row} (h : RL m 52 e d0 d P) : ∀ i, i < 4 → d 73 i = P (196 + i) := rl_21 h
theorem q5_22 {m : Bool} {e d0 d : Dat} {P : Row} (h : RL m 52 e d0 d P) : ∀ i, i < 4 → d 74 i = P (200 + i) := rl_22 h
theorem q5_23 {m : Bool} {e d0 d : Dat} {P : Row} (h : RL m 52 e d0 d P) : ∀ i, i < 4 → d 75 i = P (204 + i) := rl_23 h
theorem q5_24 {m : Bool} {e d0 d : Dat} {P : Row} (h : RL m 52 e d0 d P) : ∀ i, i < 20 → d 76 i = P (84 + i) := rl_24 h
theorem q5_25 {m : Bool} {e d0 d : Dat} {P : Row} (h : RL m 52 e d0 d P) : ∀ i, i < 16 → d 77 i = P (208 + i) := rl_25 h
theorem q5_2 {m : Bool} {e d0 d : Dat} {P : Row} (h : RL m 52 e d0 d P) : ∀ i, i < (e 241 1).toNat → d 54 i = P (70 + i) := rl_2 h
theorem q5_2b {m : Bool} {e d0 d : Dat} {P : Row} (h : RL m 52 e d0 d P) : ∀ i, (e 241 1).toNat ≤ i → i < 14 → d 54 i = (i : Int) := rl_2b h
theorem q5_16 {m : Bool} {e d0 d : Dat} {P : Row} (h : RL m 52 e d0 d P) : ∀ i, i < 12 → d 68 i = (if P (2078 + i) = 1 then P (172 + i) else 0) := rl_16 h
theorem q5_19 {m : Bool} {e d0 d : Dat} {P : Row} (h : RL m 52 e d0 d P) : ∀ i, i < (e 241 13).toNat → d 71 i = P (2090 + i) := rl_19 h
theorem q5_19b {m : Bool} {e d0 d : Dat} {P : Row} (h : RL m 52 e d0 d P) : ∀ i, (e 241 13).toNat ≤ i → i < 12 → d 71 i = 60 := rl_19b h
theorem q5_m {m : Bool} {e d0 d : Dat} {P : Row} (h : RL m 52 e d0 d P) : d 52 14 = P 285 := rl_m h
theorem q5_f {m : Bool} {e d0 d : Dat} {P : Row} (h : RL m 52 e d0 d P) : d 52 15 = P 224 := rl_f h
theorem q5_26 {e d0 d : Dat} {P : Row} (h : RL true 52 e d0 d P) : ∀ i, i < 20 → d 78 i = P (225 + i) := rl_26 h rfl
theorem q5_27 {e d0 d : Dat} {P : Row} (h : RL true 52 e d0 d P) : ∀ i, i < 20 → d 79 i = P (245 + i) := rl_27 h rfl
theorem q5_28 {e d0 d : Dat} {P : Row} (h : RL true 52 e d0 d P) : ∀ i, i < 20 → d 80 i = P (265 + i) := rl_28 h rfl
def E0 : Dat := dOf (fun _ => 0) dlE
def XS (d : Dat) : Prop :=
  (d 8 = E0 8 ∧ d 9 = E0 9 ∧ d 276 = E0 276) ∧
  ((0 ≤ d 36 1 ∧ d 36 1 ≤ 160) ∧ d 241 35 = d 36 1 ∧ ∀ i : Nat, (i : Int) < d 36 1 → d 37 i = d 267 i ∧ 0 ≤ d 37 i ∧ d 37 i ≤ 255) ∧
  (∀ s, s < 4 → d (233 + 2 * s) 0 = d 271 s ∧ d (233 + 2 * s) 1 = d 272 s ∧ (-1 ≤ d 271 s ∧ d 271 s ≤ 2) ∧ (0 ≤ d 272 s ∧ d 272 s ≤ 40) ∧ (d 271 s = -1 → d 272 s = 0) ∧ ∀ i, i < 40 → d (234 + 2 * s) i = d 273 (40 * s + i)) ∧
  (d 241 32 = d 81 11 ∧ (0 ≤ d 81 11 ∧ d 81 11 ≤ 4) ∧ ∀ i : Nat, i < 4 → (i : Int) < d 81 11 → d 86 i = d 266 i)
theorem XS_cg {d d' : Dat} (h : XS d) (f : ∀ a, (a = 8 ∨ a = 9 ∨ a = 36 ∨ a = 37 ∨ a = 81 ∨ a = 86 ∨ (233 ≤ a ∧ a ≤ 241) ∨ a = 266 ∨ a = 267 ∨ a = 271 ∨ a = 272 ∨ a = 273 ∨ a = 276) → d' a = d a) : XS d' := by
  unfold XS at h ⊢
  rw [f 8 (by omega), f 9 (by omega), f 276 (by omega), f 36 (by omega), f 241 (by omega), f 37 (by omega), f 267 (by omega), f 81 (by omega), f 86 (by omega), f 266 (by omega), f 271 (by omega), f 272 (by omega), f 273 (by omega)]
  refine ⟨h.1, h.2.1, fun s hs => ?_, h.2.2.2⟩
  rw [f (233 + 2 * s) (by omega), f (234 + 2 * s) (by omega)]
  exact h.2.2.1 s hs
/-- what holds between calls: s = the script, e = the facts, P = the reference's row -/
def HE (s : Row) (e : Dat) (P : Row) (d : Dat) : Prop := d 1 = s ∧ d 242 = P ∧ FC d e ∧ FM d e ∧ WE e ∧ RL true 52 e d d P ∧ NI e P ∧ P 224 ≤ 14 * P 285 ∧ OK d e ∧ ZF e P ∧ XS d
def HV (s : Row) (d : Dat) : Prop := ∃ e P, HE s e P d
theorem OM_of {d e : Dat} (h : OK d e) : OM e := fun t ht => by
  obtain ⟨n, hn⟩ := h t ht
  exact ⟨n, hn.1⟩
theorem fr_of {m : Bool} {e d d1 : Dat} {Q : Row} (h : RL m 52 e d d1 Q) {a : Nat} (ha : (a < 52 ∨ 80 < a) ∧ ¬ a = 38 ∧ ¬ a = 47) : d1 a = d a := rl_fr h a (by omega) ha.2.1 ha.2.2
theorem FC_cg {d d' e : Dat} (h : FC d e) (f : ∀ a, a < 52 → ¬ a = 1 → ¬ a = 38 → ¬ a = 47 → d' a = d a) : FC d' e := by
  unfold FC at h ⊢
  simp (disch := omega) only [f]
  exact h
theorem FM_cg {d d' e : Dat} (h : FM d e) (f : ∀ a, 241 ≤ a → ¬ a = 242 → a < 270 → d' a = d a) : FM d' e := by
  unfold FM at h ⊢
  simp (disch := omega) only [f]
  exact h
theorem OK_cg {d d' e : Dat} (h : OK d e) (f : ∀ a, 40 ≤ a → a < 47 → d' a = d a) (hE : WE e) : OK d' e := by
  have n1 := we_t hE
  intro t ht
  obtain ⟨n, hn⟩ := h t ht
  refine ⟨n, ?_⟩
  unfold TY at hn ⊢
  rw [f 46 (by omega) (by omega), f (40 + t) (by omega) (by omega)]
  exact hn
theorem RL_cg {m : Bool} {e d0 d d' : Dat} {P : Row} (h : RL m 52 e d0 d P) (f : ∀ a, 52 ≤ a → a ≤ 80 → d' a = d a) : RL m 52 e d' d' P := by
  unfold RL at h ⊢
  simp (disch := omega) only [f]
  exact ⟨h.1, fun a _ _ _ => trivial, h.2.2⟩
theorem HE_land {s : Row} {e d d1 : Dat} {P Q x : Row} (h : HE s e P d) (hR : RL true 52 e d d1 Q) (hI : NI e Q) (h0 : Q 224 ≤ 14 * Q 285) (hZ : ZF e Q) : HE s e Q (rset (rset d1 278 x) 242 Q) := by
  obtain ⟨h1, h2, h3, h4, h5, h6, h7, h8, h9, h10, h11⟩ := h
  have f : ∀ a, ¬ a = 242 → ¬ a = 278 → rset (rset d1 278 x) 242 Q a = d1 a := fun a ha hb => by
    rw [rs_ne ha, rs_ne hb]
  refine ⟨?_, rs_eq, FC_cg h3 (fun a ha h1 h2 h3 => ?_), FM_cg h4 (fun a ha hb hc => ?_), h5, RL_cg hR (fun a ha hb => f a (by omega) (by omega)), hI, h0, OK_cg h9 (fun a ha hb => ?_) h5, hZ, XS_cg h11 (fun a ha => ?_)⟩
  · rw [f 1 (by omega) (by omega), fr_of hR (by omega)]
    exact h1
  · rw [f a (by omega) (by omega), fr_of hR (by omega)]
  · rw [f a (by omega) (by omega), fr_of hR (by omega)]
  · rw [f a (by omega) (by omega), fr_of hR (by omega)]
  · rw [f a (by omega) (by omega), fr_of hR (by omega)]
def Ok2 (L k x m : Nat) (args : List V) (s : Row) (d : Dat) : Prop := Cl k x (vR 10 :: args) (SH L) d (fun v sh d1 => sh = SH L ∧ d1 1 = s ∧ (∃ n, v = vI n) ∧ Cl k m (vR 241 :: args) (SH L) d1 (fun v2 sh2 d2 => sh2 = SH L ∧ v2 = v ∧ HV s d2))
def OkL (L k x m : Nat) (args : List V) (s : Row) (d : Dat) : Prop := Cl k x (vR 10 :: args) (SH L) d (fun v sh d1 => sh = SH L ∧ d1 1 = s ∧ (∃ n, v = vL n) ∧ Cl k m (vR 241 :: args) (SH L) d1 (fun v2 sh2 d2 => sh2 = SH L ∧ v2 = v ∧ HV s d2))
theorem HE_rs {s : Row} {e d : Dat} {P : Row} (h : HE s e P d) : rset d 242 P = d := by
  rw [← h.2.1]
  exact rs_self
theorem HE_rs2 {s : Row} {e d : Dat} {P : Row} (h : HE s e P d) : rset (rset d 278 (d 278)) 242 P = d := by
  rw [rs_self]
  exact HE_rs h
theorem rs_278 {d : Dat} {P : Row} : rset (rset d 278 (d 278)) 242 P = rset d 242 P := by
  rw [rs_self]
/-- both tell alike, nothing changes -/
theorem ok_tell {L k x m : Nat} {args : List V} {s : Row} {e d : Dat} {P : Row} {n : Int} (h : HE s e P d) (hx : ∀ R : RT, Cl k x (vR 10 :: args) (SH L) d R ↔ R (vI n) (SH L) d) (hm : ∀ R : RT, Cl k m (vR 241 :: args) (SH L) (rset d 242 P) R ↔ R (vI n) (SH L) (rset d 242 P)) : Ok2 L k x m args s d := by
  have hm := fun R => hm R
  rw [HE_rs h] at hm
  exact (hx _).mpr ⟨rfl, h.1, ⟨_, rfl⟩, (hm _).mpr ⟨rfl, rfl, e, P, h⟩⟩
theorem ok_tellL {L k x m : Nat} {args : List V} {s : Row} {e d : Dat} {P : Row} {n : Int} (h : HE s e P d) (hx : ∀ R : RT, Cl k x (vR 10 :: args) (SH L) d R ↔ R (vL n) (SH L) d) (hm : ∀ R : RT, Cl k m (vR 241 :: args) (SH L) (rset d 242 P) R ↔ R (vL n) (SH L) (rset d 242 P)) : OkL L k x m args s d := by
  have hm := fun R => hm R
  rw [HE_rs h] at hm
  exact (hx _).mpr ⟨rfl, h.1, ⟨_, rfl⟩, (hm _).mpr ⟨rfl, rfl, e, P, h⟩⟩
