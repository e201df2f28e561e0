/-! what a land does in its minutes: functions of one row (as the reference lays it) and of the facts -/
abbrev Row : Type := Nat → Int
def iterN {α : Type} (f : Nat → α → α) : Nat → α → α
  | 0, s => s
  | n + 1, s => f n (iterN f n s)
def wsm (s : Int) (f : Nat → Int) : Nat → Int
  | 0 => s
  | n + 1 => wr (wsm s f n + f n)
def anyN (p : Nat → Bool) : Nat → Bool
  | 0 => false
  | n + 1 => anyN p n || p n
def rampS (k : Int) : Int := if k = 1 then 30 else if k = 3 then 50 else if k = 4 then 5 else if k = 5 then 1 else 10
def needS (k m : Int) : Int := wr (wr (wr (m.tdiv 20) + 1) * (if k = 2 ∨ 4 ≤ k then 2 else 1))
def warmsS (k off : Int) : Int :=
  if k = 4 then (if 30 < off then 25 else 10) else if k = 5 then (if 30 < off then 140 else 25) else if k = 1 ∨ k = 3 then 1 else if (k = 2 ∨ 4 ≤ k) ∧ 30 < off then 20 else 5
def soakS (k : Int) : Int := if k = 3 then 30 else 10
def coldS (P : Row) (l : Nat) : Bool := if P (2078 + l) = 1 then decide (P (184 + l) = 1) else decide (30 ≤ P (2090 + l))
def hotS (P : Row) (l : Nat) : Int := if coldS P l = true then wr (200 - wr (10 * (if P (2078 + l) = 1 then P (172 + l) else 0))) else 100
def drawS (e : Dat) (P : Row) (l : Nat) : Int := wr ((wr (e 253 l * (if hotS P l < 100 then 100 else hotS P l))).tdiv 100)
abbrev onIn (e : Dat) (P : Row) (i : Int) (k : Nat) : Prop := P (104 + k) = 2 ∧ P (70 + (e 249 k).toNat) = i
def weightS (e : Dat) (P : Row) (i : Int) : Int := wsm 0 (fun k => if onIn e P i k then e 251 k else 0) ((e 241 8).toNat)
def outS (e : Dat) (P : Row) (i : Int) : Int := wsm 0 (fun k => if onIn e P i k then P (112 + k) else 0) ((e 241 8).toNat)
def demS (e : Dat) (P : Row) (i : Int) : Int := wsm (wsm 0 (fun l => if P (136 + l) = 1 ∧ P (70 + (e 252 l).toNat) = i then drawS e P l else 0) ((e 241 13).toNat)) (fun k => if P (104 + k) = 1 ∧ P (70 + (e 249 k).toNat) = i then needS (e 248 k) (e 250 k) else 0) ((e 241 8).toNat)
def servB (e : Dat) (P : Row) (l : Nat) : Bool := decide (e 247 l = 0) || anyN (fun c => decide (P (204 + c) = 0 ∧ (P (196 + c) = e 244 l ∨ P (196 + c) = e 245 l))) ((e 241 17).toNat)
def apartS (a b : Int) : Int := if a < b then wr (b - a) else wr (a - b)
def mayC (e : Dat) (P : Row) (l : Nat) : Bool :=
  decide (¬ P (84 + l) = 1) && servB e P l && decide (P (56 + (e 244 l).toNat) = 1 ∨ P (56 + (e 245 l).toNat) = 1) && decide (¬ (P (56 + (e 244 l).toNat) = 1 ∧ P (56 + (e 245 l).toNat) = 1) ∨ P (70 + (e 244 l).toNat) = P (70 + (e 245 l).toNat) ∨ apartS (P ((e 244 l).toNat)) (P ((e 245 l).toNat)) ≤ 3)
def evenS (e : Dat) (P : Row) (a b s : Int) : Row := iterN (fun n P => fset P n (if P (70 + n) = a ∨ P (70 + n) = b then s else P n)) ((e 241 1).toNat) P
def meanS (e : Dat) (P : Row) (l : Nat) : Int := wr ((wr (wr (P ((e 244 l).toNat) * weightS e P (P (70 + (e 244 l).toNat))) + wr (P ((e 245 l).toNat) * weightS e P (P (70 + (e 245 l).toNat))))).tdiv (wr (weightS e P (P (70 + (e 244 l).toNat)) + weightS e P (P (70 + (e 245 l).toNat)))))
def closesS (e : Dat) (P : Row) (l : Nat) : Row := fset (if P (70 + (e 244 l).toNat) = P (70 + (e 245 l).toNat) then P else evenS e P (P (70 + (e 244 l).toNat)) (P (70 + (e 245 l).toNat)) (meanS e P l)) (84 + l) 1
def offS (P : Row) (k : Nat) (f : Int) : Row := fset (fset (fset (fset P (104 + k) 0) (112 + k) 0) (120 + k) 0) (128 + k) f
def joinS (n : Nat) (a b : Int) (s : Row) : Row := fun i => if i < n ∧ a ≠ b ∧ s i = (if a < b then b else a) then (if a < b then a else b) else s i
def islS (e : Dat) (P : Row) (m : Nat) : Row := iterN (fun l s => if P (84 + l) = 1 then joinS ((e 241 1).toNat) (s ((e 244 l).toNat)) (s ((e 245 l).toNat)) s else s) m (fun i => (i : Int))
def litS (e : Dat) (P : Row) (s : Row) (n : Nat) : Int := iterN (fun k v => if P (104 + k) = 2 ∧ s ((e 249 k).toNat) = s n then 1 else v) ((e 241 8).toNat) 0
def marksS (e : Dat) (P : Row) : Row := fun i => if 70 ≤ i ∧ i < 70 + (e 241 1).toNat then islS e P ((e 241 3).toNat) (i - 70) else if 56 ≤ i ∧ i < 56 + (e 241 1).toNat then litS e P (islS e P ((e 241 3).toNat)) (i - 56) else P i
def canS (e : Dat) (P : Row) (q : Int) (o : Nat) : Bool :=
  if q = 0 then mayC e P o else if q = 1 then decide (P (84 + o) = 1) && servB e P o else if q = 2 then decide (P (104 + o) = 0) && decide ((e 248 o = 1 ∨ e 248 o = 3) ∨ P (56 + (e 249 o).toNat) = 1) else if q = 3 then decide (¬ P (104 + o) = 0) else if q = 4 then decide (P (136 + o) = 0) else decide (P (136 + o) = 1)
def actS (e : Dat) (P : Row) (q : Int) (o : Nat) : Row :=
  if q = 0 then closesS e P o else if q = 1 then fset P (84 + o) 0 else if q = 2 then fset (fset P (104 + o) 1) (120 + o) 0 else if q = 3 then offS P o (P 285) else fset P (136 + o) (wr (5 - q))
def doesS (e : Dat) (P : Row) (q : Int) (o : Nat) : Row := marksS e (actS e P q o)
def crewS (c : Nat) (P : Row) : Row := if P (204 + c) ≤ 0 then P else fset (fset P (204 + c) (wr (P (204 + c) - 1))) (196 + c) (if wr (P (204 + c) - 1) = 0 then P (200 + c) else P (196 + c))
def wasS (e : Dat) (P : Row) (r m w : Int) : Int := P (286 + 4 * (14 * (m.toNat % 32) + (e 255 r.toNat).toNat) + w.toNat)
def seenS (e : Dat) (P : Row) (r m w : Int) : Int := if m < 0 then 0 else iterN (fun f v => if e 261 f = r ∧ e 262 f = m ∧ e 263 f = w ∧ e 265 f = 0 then e 264 f else v) ((e 241 26).toNat) (wasS e P r m w)
def namedS (e : Dat) (P : Row) (r c : Int) : Int := if c = 0 then P 285 else if c = 5 then P 224 else seenS e P r (wr (wr (P 285 - 1) - e 256 r.toNat)) (wr (c - 1))
def twoS (c a b : Int) : Int := if c = 11 then (if ¬ a = 0 ∨ ¬ b = 0 then 1 else 0) else if c = 12 then (if ¬ a = 0 ∧ ¬ b = 0 then 1 else 0) else if c = 14 then (if a < b then 1 else 0) else if c = 15 then (if a = b then 1 else 0) else if c = 16 then wr (a + b) else if c = 17 then wr (a - b) else wr (a * b)
def evT (e : Dat) (P : Row) (r c : Int) (s : List Int) : List Int :=
  if 100000 ≤ c ∨ c ≤ 5 then (if c ≤ 5 then namedS e P r c else wr (c - 100000)) :: s else if c = 13 then (if s.headD 0 = 0 then 1 else 0) :: s.tail else if c = 19 then wr (0 - s.headD 0) :: s.tail else twoS c (s.tail.headD 0) (s.headD 0) :: s.tail.tail
def worthS (e : Dat) (P : Row) (t r : Int) : Int := (iterN (fun k s => evT e P r (e 268 (200 * t.toNat + k)) s) (e 269 (4 * t.toNat + 1)).toNat []).headD 0
def ordS (e : Dat) (k : Nat) (P : Row) : Row := if P (208 + k) = 0 ∧ ¬ worthS e P (e 258 k) (e 257 k) = 0 ∧ canS e P (e 259 k) (e 260 k).toNat = true then fset (doesS e P (e 259 k) (e 260 k).toNat) (208 + k) 1 else P
def warm1 (e : Dat) (k : Nat) (P : Row) : Row :=
  if P (104 + k) = 1 then (if ¬ (e 248 k = 1 ∨ e 248 k = 3) ∧ P (56 + (e 249 k).toNat) = 0 then fset (fset P (104 + k) 0) (120 + k) 0 else if warmsS (e 248 k) (wr (P 285 - P (128 + k))) ≤ wr (P (120 + k) + 1) then fset (fset (fset P (120 + k) (wr (P (120 + k) + 1))) (104 + k) 2) (112 + k) 0 else fset P (120 + k) (wr (P (120 + k) + 1))) else P
def lackS (e : Dat) (P : Row) (i q : Int) (k : Nat) : Int := wr (P (112 + k) + (if rampS (e 248 k) < wr (q - outS e P i) then rampS (e 248 k) else if wr (q - outS e P i) < wr (0 - rampS (e 248 k)) then wr (0 - rampS (e 248 k)) else wr (q - outS e P i)))
def clampS (o m : Int) : Int := if o < 0 then 0 else if m < o then m else o
def ramp1 (e : Dat) (i q : Int) (k : Nat) (P : Row) : Row := if onIn e P i k then fset P (112 + k) (clampS (lackS e P i q k) (e 250 k)) else P
def spareS (e : Dat) (P : Row) (i : Int) : Int := wsm 0 (fun k => if onIn e P i k then wr (e 250 k - P (112 + k)) else 0) ((e 241 8).toNat)
def voltS (e : Dat) (P : Row) (i q : Int) : Int := wsm (wsm (wr (0 - wr (q.tdiv 10))) (fun k => if onIn e P i k then - soakS (e 248 k) else 0) ((e 241 8).toNat)) (fun l => if P (84 + l) = 1 ∧ P (70 + (e 244 l).toNat) = i then e 246 l else 0) ((e 241 3).toNat)
def swing0 (e : Dat) (P : Row) (i q : Int) : Int := wr (P i.toNat + wr ((wr (wr (outS e P i - q) * 10)).tdiv (weightS e P i)))
def swingS (e : Dat) (P : Row) (i q : Int) : Int := wr (swing0 e P i q - wr ((swing0 e P i q).tdiv 4))
def whyS (s v : Int) : Int := if s < -20 then 1 else if 20 < s then 2 else if 50 < v then 3 else 0
def setS (e : Dat) (i s v p : Int) (P : Row) : Row := iterN (fun n P => if P (70 + n) = i then fset (fset (fset P n s) (14 + n) v) (28 + n) p else P) ((e 241 1).toNat) P
def noteS (P : Row) (i w : Int) : Row := if P 224 < 20 then fset (fset (fset P (225 + (P 224).toNat) (P 285)) (245 + (P 224).toNat) i) (265 + (P 224).toNat) w else P
def offsS (e : Dat) (i : Int) (P : Row) : Row := iterN (fun k P => if P (70 + (e 249 k).toNat) = i ∧ ¬ P (104 + k) = 0 then offS P k (P 285) else P) ((e 241 8).toNat) P
def partS (e : Dat) (i : Int) (P : Row) : Row := iterN (fun l P => fset P (84 + l) (if P (70 + (e 244 l).toNat) = i then 0 else P (84 + l))) ((e 241 3).toNat) P
def fallS (e : Dat) (P : Row) (i w : Int) : Row := partS e i (offsS e i (fset (noteS P i w) 224 (wr (P 224 + 1))))
def rampsS (e : Dat) (P : Row) (i q : Int) : Row := iterN (ramp1 e i q) ((e 241 8).toNat) P
def folS (e : Dat) (P : Row) (i : Int) : Row :=
  let q := demS e P i
  let P1 := rampsS e P i q
  let P2 := setS e i (swingS e P1 i q) (voltS e P1 i q) (spareS e P1 i) P1
  if 0 < whyS (swingS e P1 i q) (voltS e P1 i q) then fallS e P2 i (whyS (swingS e P1 i q) (voltS e P1 i q)) else P2
def fol1 (e : Dat) (n : Nat) (P : Row) : Row := if P (70 + n) = (n : Int) ∧ P (56 + n) = 1 then folS e P n else P
def srv1 (e : Dat) (l : Nat) (P : Row) : Row :=
  if P (136 + l) = 1 ∧ P (56 + (e 252 l).toNat) = 1 then
    fset (fset (fset (fset (if P (2078 + l) = 0 then fset (fset P (184 + l) (if 30 ≤ P (2090 + l) then 1 else 0)) (172 + l) 0 else P) (172 + l) (wr ((if P (2078 + l) = 0 then 0 else P (172 + l)) + 1))) (148 + l) (wr (P (148 + l) + 1))) (2090 + l) 0) (2078 + l) 1
  else fset (fset (fset P (160 + l) (wr (P (160 + l) + 1))) (2090 + l) (wr (P (2090 + l) + 1))) (2078 + l) 0
def keep0 (n : Nat) (P : Row) : Row := if P (56 + n) = 1 then fset P (42 + n) (wr (P (42 + n) + 1)) else fset (fset (fset (fset P (42 + n) 0) n 0) (14 + n) 0) (28 + n) 0
def keep1 (n : Nat) (P : Row) : Row :=
  let Q := keep0 n P
  let a := 286 + 4 * (14 * ((P 285).toNat % 32) + n)
  fset (fset (fset (fset Q a (Q (56 + n))) (a + 1) (Q n)) (a + 2) (Q (14 + n))) (a + 3) (Q (42 + n))
def minA (e : Dat) (P : Row) : Row := marksS e (iterN (warm1 e) ((e 241 8).toNat) (iterN (ordS e) ((e 241 21).toNat) (iterN crewS ((e 241 17).toNat) P)))
def minB (e : Dat) (P : Row) : Row := iterN keep1 ((e 241 1).toNat) (iterN (srv1 e) ((e 241 13).toNat) (marksS e (iterN (fol1 e) ((e 241 1).toNat) (minA e P))))
def minS (e : Dat) (P : Row) : Row := fset (minB e P) 285 (wr (minB e P 285 + 1))
/-! loops -/
theorem loop_up {α : Type} {G : Nat → α → Prop} {f : Nat → α → α} (I : Nat → α → Prop) (n : Nat) (hs : ∀ i, i < n → ∀ s, I i s → (I (i + 1) (f i s) → G (i + 1) (f i s)) → G i s) {s : α} (h0 : I 0 s) (hn : I n (iterN f n s) → G n (iterN f n s)) : G 0 s := by
  have key : ∀ j m, m + j = n → I m (iterN f m s) → G m (iterN f m s) := by
    intro j
    induction j with
    | zero =>
      intro m hm
      have : m = n := by omega
      subst this
      exact hn
    | succ j ih =>
      intro m hm hI
      exact hs m (by omega) _ hI (ih (m + 1) (by omega))
  exact key n 0 (by omega) h0
theorem loop_u {α : Type} {G : Nat → α → Prop} {f : Nat → α → α} (n : Nat) (hs : ∀ i, i < n → ∀ s, G (i + 1) (f i s) → G i s) {s : α} (hn : G n (iterN f n s)) : G 0 s :=
  loop_up (fun _ _ => True) n (fun i hi s _ h => hs i hi s (h trivial)) trivial (fun _ => hn)
theorem any_of {p : Nat → Bool} {i : Nat} (h : p i = true) : ∀ n, i < n → anyN p n = true
  | n + 1, hi => by
    show (anyN p n || p n) = true
    by_cases q : i = n
    · subst q
      rw [h, Bool.or_true]
    · rw [any_of h n (by omega), Bool.true_or]
theorem iter_inv {α : Type} {f : Nat → α → α} (I : Nat → α → Prop) (n : Nat) (hs : ∀ i, i < n → ∀ s, I i s → I (i + 1) (f i s)) {s : α} (h0 : I 0 s) : I n (iterN f n s) := by
  induction n with
  | zero => exact h0
  | succ m ih => exact hs m (by omega) _ (ih (fun i hi => hs i (by omega)))
theorem wsm_iter {s : Int} {f : Nat → Int} : ∀ n, iterN (fun k v => wr (v + f k)) n s = wsm s f n
  | 0 => rfl
  | n + 1 => by
    show wr (iterN (fun k v => wr (v + f k)) n s + f n) = wr (wsm s f n + f n)
    rw [wsm_iter n]
theorem any_iter {p : Nat → Bool} {q : Bool} : ∀ n, iterN (fun k v => v || p k) n q = (q || anyN p n)
  | 0 => (Bool.or_false q).symm
  | n + 1 => by
    show (iterN (fun k v => v || p k) n q || p n) = (q || (anyN p n || p n))
    rw [any_iter n, Bool.or_assoc]
/-! reads and writes -/
theorem fs_eq {f : Row} {i : Nat} {v : Int} : fset f i v i = v := if_pos rfl
theorem fs_ne {f : Row} {i j : Nat} {v : Int} (h : ¬ j = i) : fset f i v j = f j := if_neg h
theorem fs_rd {f : Row} {i j : Nat} {v : Int} : fset f i v j = if j = i then v else f j := rfl
theorem rs_eq {d : Dat} {a : Nat} {f : Row} : rset d a f a = f := if_pos rfl
theorem rs_ne {d : Dat} {a c : Nat} {f : Row} (h : ¬ c = a) : rset d a f c = d c := if_neg h
theorem ups_ne {d : Dat} {a c i : Nat} {v : Int} (h : ¬ c = a) : ups d a i v c = d c := if_neg h
theorem ups_same {d : Dat} {a i : Nat} {v : Int} : ups d a i v a = fset (d a) i v := if_pos rfl
theorem rs_rs {d : Dat} {a : Nat} {f g : Row} : rset (rset d a f) a g = rset d a g := by
  funext c
  unfold rset
  by_cases h : c = a
  · rw [if_pos h, if_pos h]
  · rw [if_neg h, if_neg h, if_neg h]
theorem ups_rs {d : Dat} {a i : Nat} {f : Row} {v : Int} : ups (rset d a f) a i v = rset d a (fset f i v) := by
  unfold ups
  rw [rs_eq, rs_rs]
theorem rs_self {d : Dat} {a : Nat} : rset d a (d a) = d := by
  funext c
  unfold rset
  by_cases h : c = a
  · rw [if_pos h, h]
  · rw [if_neg h]
theorem rs_swap {d : Dat} {a c : Nat} {f g : Row} (h : ¬ a = c) : rset (rset d a f) c g = rset (rset d c g) a f := by
  funext x
  unfold rset
  grind
/-! numbers -/
theorem wr_lo (x : Int) : -2147483648 ≤ wr x ∧ wr x ≤ 2147483647 := by
  unfold wr
  omega
theorem wr_wr {x : Int} : wr (wr x) = wr x := wr_of (wr_lo x)
theorem wr_al {x y : Int} : wr (wr x + y) = wr (x + y) := by
  unfold wr
  omega
theorem wr_ar {x y : Int} : wr (x + wr y) = wr (x + y) := by
  unfold wr
  omega
theorem wr_sl {x y : Int} : wr (wr x - y) = wr (x - y) := by
  unfold wr
  omega
theorem wr_sr {x y : Int} : wr (x - wr y) = wr (x - y) := by
  unfold wr
  omega
theorem wr_inc {i : Nat} (h : i < 100000) : wr ((i : Int) + 1) = ((i + 1 : Nat) : Int) := by
  rw [wr_of (by omega)]
  omega
theorem wr_ix {c x : Int} (h : 0 ≤ c ∧ c ≤ 5000 ∧ 0 ≤ x ∧ x < 5000) : wr (c + x) = c + x := wr_of (by omega)
theorem tn_ix {c : Nat} {x : Int} (h : 0 ≤ x) : ((c : Int) + x).toNat = c + x.toNat := by omega
theorem wsm_wr {s : Int} {f : Nat → Int} (h : wr s = s) : ∀ n, wr (wsm s f n) = wsm s f n
  | 0 => h
  | _ + 1 => wr_wr
theorem wsm_0 {s : Int} {f : Nat → Int} {n : Nat} : wsm s f (n + 1) = wr (wsm s f n + f n) := rfl
theorem wsm_cg {s : Int} {f g : Nat → Int} : ∀ n, (∀ k, k < n → f k = g k) → wsm s f n = wsm s g n
  | 0, _ => rfl
  | n + 1, h => by rw [wsm_0, wsm_0, wsm_cg n (fun k hk => h k (by omega)), h n (by omega)]
theorem any_cg {p q : Nat → Bool} : ∀ n, (∀ k, k < n → p k = q k) → anyN p n = anyN q n
  | 0, _ => rfl
  | n + 1, h => by
    show (anyN p n || p n) = (anyN q n || q n)
    rw [any_cg n (fun k hk => h k (by omega)), h n (by omega)]
theorem iter_cg {α : Type} {f g : Nat → α → α} {s : α} : ∀ n, (∀ k, k < n → ∀ s, f k s = g k s) → iterN f n s = iterN g n s
  | 0, _ => rfl
  | n + 1, h => by
    show f n (iterN f n s) = g n (iterN g n s)
    rw [iter_cg n (fun k hk => h k (by omega)), h n (by omega)]
/-! a call comes to one end -/
def detC (C : CT) : Prop := ∀ n as sh d (Q1 Q2 : RT), C n as sh d Q1 → C n as sh d Q2 → ∃ v sh' d', Q1 v sh' d' ∧ Q2 v sh' d'
theorem swC_det {K1 K2 : Int → Prop} {E : Prop} (h : ∀ t, K1 t → K2 t → E) {df x : Int} : ∀ ps, swC K1 df x ps → swC K2 df x ps → E
  | [], a, b => h _ a b
  | (v, _) :: ps, a, b => by
    by_cases q : x = v
    · exact h _ (a.1 q) (b.1 q)
    · exact swC_det h ps (a.2 q) (b.2 q)
theorem onP_det {rt : Nat → Nat} {mk : Nat → Nat × Nat} {C : CT} (hD : detC C) {o : Out} {K1 K2 : KK} {R1 R2 : RT} {E : Prop} (hK : ∀ pc ls st sh d, K1 pc ls st sh d → K2 pc ls st sh d → E) (hR : ∀ v sh d, R1 v sh d → R2 v sh d → E) (a : onP rt mk C o K1 R1) (b : onP rt mk C o K2 R2) : E := by
  rcases o with ⟨pc, ls, st, sh, d⟩ | ⟨c, pc, ls, st, sh, d⟩ | ⟨c, ⟨pc, ls, st, sh, d⟩, ⟨pc2, ls2, st2, sh2, d2⟩⟩ | ⟨x, ps, df, ls, st, sh, d⟩ | ⟨c, v, sh, d⟩ | ⟨c0, n, as, nx, ls, st, sh, d⟩ | u
  · exact hK _ _ _ _ _ a b
  · exact hK _ _ _ _ _ a.2 b.2
  · by_cases q : c
    · exact hK _ _ _ _ _ (a.1 q) (b.1 q)
    · exact hK _ _ _ _ _ (a.2 q) (b.2 q)
  · exact swC_det (fun t p q => hK _ _ _ _ _ p q) ps a b
  · exact hR _ _ _ a.2 b.2
  · obtain ⟨v, s, d', q1, q2⟩ := hD _ _ _ _ _ _ a.2 b.2
    revert q1 q2
    generalize mk n = p
    generalize rt n = r
    obtain ⟨c, s⟩ := p
    cases c <;> cases r <;> exact fun q1 q2 => hK _ _ _ _ _ q1.2 q2.2
  · exact a.elim
theorem GoG_det {G : Prg} {C : CT} (hC : monoC C) (hD : detC C) {y : Nat} {R1 R2 : RT} {pc : Nat} {ls st : List V} {sh : Shp} {d : Dat} (h1 : GoG G C y R1 pc ls st sh d) (h2 : GoG G C y R2 pc ls st sh d) : ∃ v s d', R1 v s d' ∧ R2 v s d' := by
  refine h1 (fun pc ls st sh d => GoG G C y R2 pc ls st sh d → ∃ v s d', R1 v s d' ∧ R2 v s d') ?_ h2
  intro pc ls st sh d hs h3
  have h4 := (GoG_iff hC).1 h3
  unfold StepAt at hs h4
  split at hs
  · rename_i e
    rw [e] at h4
    exact onP_det hD (fun _ _ _ _ _ p q => p q) (fun v s d p q => ⟨v, s, d, p, q⟩) hs h4
  · exact hs.elim
theorem ClG_det {G : Prg} : ∀ k, detC (ClG G k)
  | 0 => fun _ _ _ _ _ _ h _ => h.elim
  | k + 1 => fun _ _ _ _ _ _ h1 h2 => GoG_det (ClG_mono k) (ClG_det k) h1.2 h2.2
theorem det_iff {k y : Nat} {as : List V} {sh s : Shp} {d d' : Dat} {v : V} (h : ∀ R : RT, R v s d' → Cl k y as sh d R) {R : RT} : Cl k y as sh d R ↔ R v s d' := by
  refine ⟨fun q => ?_, h R⟩
  obtain ⟨v1, s1, d1, q1, q2⟩ := ClG_det k _ _ _ _ _ _ q (h (fun a b c => a = v ∧ b = s ∧ c = d') ⟨rfl, rfl, rfl⟩)
  obtain ⟨e1, e2, e3⟩ := q2
  rw [e1, e2, e3] at q1
  exact q1
theorem cat_n : catS [] = 0 := rfl
theorem cat_i {x : Int} {r : List V} : catS (vI x :: r) = 1 + catS r := rfl
theorem cat_r {x : Nat} {r : List V} : catS (vR x :: r) = 1 + catS r := rfl
theorem cat_l {x : Int} {r : List V} : catS (vL x :: r) = 2 + catS r := rfl
theorem ld20 : ldI 20 = true := rfl
theorem ld30 : ldI 30 = true := rfl
