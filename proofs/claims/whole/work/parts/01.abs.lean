/-! An abstract machine over numbers: what the class's code does, without the real heap. -/
abbrev V : Type := Int ⊕ Int ⊕ Nat ⊕ Unit
abbrev vI (x : Int) : V := .inl x
abbrev vL (x : Int) : V := .inr (.inl x)
abbrev vR (x : Nat) : V := .inr (.inr (.inl x))
abbrev vU : V := .inr (.inr (.inr ()))
abbrev Shp : Type := List (Nat × Nat × List Nat)
abbrev Dat : Type := Nat → Nat → Int
abbrev Ins : Type := Jvm.ClassFile.Instr
abbrev St5 : Type := Nat × List V × List V × Shp × Dat
abbrev KK : Type := Nat → List V → List V → Shp → Dat → Prop
abbrev RT : Type := V → Shp → Dat → Prop
abbrev CT : Type := Nat → List V → Shp → Dat → RT → Prop
def knd (sh : Shp) (a : Nat) : Nat := match sh[a]? with
  | some c => c.1
  | none => 99
def len (sh : Shp) (a : Nat) : Int := match sh[a]? with
  | some c => (c.2.1 : Int)
  | none => 0
def rfN (sh : Shp) (a k : Nat) : Nat := match sh[a]? with
  | some c => c.2.2.getD k 0
  | none => 0
def idxO (f : Nat → Int) (n : Nat) (x : Int) : Int := match (List.range n).find? (fun i => f i == x) with
  | some i => (i : Int)
  | none => -1
def fset (f : Nat → Int) (i : Nat) (v : Int) : Nat → Int := fun j => if j = i then v else f j
def rset (d : Dat) (a : Nat) (f : Nat → Int) : Dat := fun b => if b = a then f else d b
def ups (d : Dat) (a i : Nat) (v : Int) : Dat := rset d a (fset (d a) i v)
def srf (sh : Shp) (a k v : Nat) : Shp := match sh[a]? with
  | some c => sh.set a (c.1, c.2.1, c.2.2.set k v)
  | none => sh
def cpy (f g : Nat → Int) (sp dp n : Nat) : Nat → Int := fun k => if dp ≤ k ∧ k < dp + n then f (sp + (k - dp)) else g k
def slS (sh : Shp) : Nat := (sh.map (fun c => c.2.1)).sum
def wr (x : Int) : Int := (x + 2147483648) % 4294967296 - 2147483648
def wrl (x : Int) : Int := (x + 9223372036854775808) % 18446744073709551616 - 9223372036854775808
def catV : V → Nat
  | .inr (.inl _) => 2
  | _ => 1
def catS : List V → Nat
  | [] => 0
  | v :: r => catV v + catS r
def padL : List V → List V
  | [] => []
  | .inr (.inl x) :: r => vL x :: vU :: padL r
  | v :: r => v :: padL r
def cmpI (c : Jvm.ClassFile.Cond) (x y : Int) : Prop := match c with
  | .eq => x = y
  | .ne => ¬ x = y
  | .lt => x < y
  | .ge => y ≤ x
  | .gt => y < x
  | .le => x ≤ y
def lg_c (x y : Int) : Int := if x = y then 0 else if x < y then -1 else 1
def ldI (k : Nat) : Bool := k == 20 || k == 30
def ldQ (k : Nat) : Bool := k == 23 || k == 24 || k == 25
def isN (k n : Nat) : Bool := k == n
def kill : V → V
  | .inr (.inl _) => vU
  | v => v
/-- a store into local i: a long that begins one place ahead dies (looked at only where the method has one there) -/
def stL (lg : List Nat) (ls : List V) (i : Nat) (v : V) : List V := match lg.contains (i - 1) && Nat.blt 0 i with
  | true => (ls.set (i - 1) (kill (ls.getD (i - 1) vU))).set i v
  | false => ls.set i v
/-- what a step comes to: on; on if; a branch; a switch; an end; a call; stuck -/
abbrev Out : Type := St5 ⊕ (Prop × St5) ⊕ (Prop × St5 × St5) ⊕ (Int × List (Int × Int) × Int × List V × List V × Shp × Dat) ⊕ (Prop × V × Shp × Dat) ⊕ (Prop × Nat × List V × Nat × List V × List V × Shp × Dat) ⊕ Unit
def oGo (s : St5) : Out := .inl s
def oIf (c : Prop) (s : St5) : Out := .inr (.inl (c, s))
def oBr (c : Prop) (s t : St5) : Out := .inr (.inr (.inl (c, s, t)))
def oSw (x : Int) (ps : List (Int × Int)) (df : Int) (ls st : List V) (sh : Shp) (d : Dat) : Out := .inr (.inr (.inr (.inl (x, ps, df, ls, st, sh, d))))
def oRet (c : Prop) (v : V) (sh : Shp) (d : Dat) : Out := .inr (.inr (.inr (.inr (.inl (c, v, sh, d)))))
def oCall (c : Prop) (n : Nat) (as : List V) (nx : Nat) (ls st : List V) (sh : Shp) (d : Dat) : Out := .inr (.inr (.inr (.inr (.inr (.inl (c, n, as, nx, ls, st, sh, d))))))
def oNo : Out := .inr (.inr (.inr (.inr (.inr (.inr ())))))
/-- ar: how many a call takes off the stack; nf: how many fields a class has -/
def stepO (ar nf : Nat → Nat) (lg : List Nat) (ins : Ins) (nx : Nat) (ls st : List V) (sh : Shp) (d : Dat) : Out :=
  match ins with
  | .iload i => match ls[i]? with
    | some (.inl x) => oGo (nx, ls, .inl x :: st, sh, d)
    | _ => oNo
  | .lload i => match ls[i]? with
    | some (.inr (.inl x)) => oGo (nx, ls, vL x :: st, sh, d)
    | _ => oNo
  | .aload i => match ls[i]? with
    | some (.inr (.inr (.inl x))) => oGo (nx, ls, vR x :: st, sh, d)
    | _ => oNo
  | .istore i => match st with
    | .inl x :: st' => oGo (nx, stL lg ls i (.inl x), st', sh, d)
    | _ => oNo
  | .astore i => match st with
    | .inr (.inr (.inl x)) :: st' => oGo (nx, stL lg ls i (vR x), st', sh, d)
    | _ => oNo
  | .lstore i => match st with
    | .inr (.inl x) :: st' => oGo (nx, (stL lg ls i (vL x)).set (i + 1) vU, st', sh, d)
    | _ => oNo
  | .iinc i n => match ls[i]? with
    | some (.inl x) => oGo (nx, stL lg ls i (.inl (wr (x + n))), st, sh, d)
    | _ => oNo
  | .iconst v => oGo (nx, ls, .inl v :: st, sh, d)
  | .jsr v => oGo (nx, ls, vL v :: st, sh, d)
  | .ldc a => oGo (nx, ls, vR a :: st, sh, d)
  | .iadd => match st with
    | .inl b :: .inl a :: st' => oGo (nx, ls, .inl (wr (a + b)) :: st', sh, d)
    | _ => oNo
  | .isub => match st with
    | .inl b :: .inl a :: st' => oGo (nx, ls, .inl (wr (a - b)) :: st', sh, d)
    | _ => oNo
  | .imul => match st with
    | .inl b :: .inl a :: st' => oGo (nx, ls, .inl (wr (a * b)) :: st', sh, d)
    | _ => oNo
  | .idiv => match st with
    | .inl b :: .inl a :: st' => oIf (b ≠ 0) (nx, ls, .inl (wr (a.tdiv b)) :: st', sh, d)
    | _ => oNo
  | .irem => match st with
    | .inl b :: .inl a :: st' => oIf (b ≠ 0) (nx, ls, .inl (a.tmod b) :: st', sh, d)
    | _ => oNo
  | .ineg => match st with
    | .inl a :: st' => oGo (nx, ls, .inl (wr (0 - a)) :: st', sh, d)
    | _ => oNo
  | .iand => match st with
    | .inl b :: .inl a :: st' => oGo (nx, ls, .inl (Int32.ofInt a &&& Int32.ofInt b).toInt :: st', sh, d)
    | _ => oNo
  | .ior => match st with
    | .inl b :: .inl a :: st' => oGo (nx, ls, .inl (Int32.ofInt a ||| Int32.ofInt b).toInt :: st', sh, d)
    | _ => oNo
  | .ishl => match st with
    | .inl b :: .inl a :: st' => oGo (nx, ls, .inl (Int32.ofInt a <<< (Int32.ofInt b &&& 31)).toInt :: st', sh, d)
    | _ => oNo
  | .ishr => match st with
    | .inl b :: .inl a :: st' => oGo (nx, ls, .inl (Int32.ofInt a >>> (Int32.ofInt b &&& 31)).toInt :: st', sh, d)
    | _ => oNo
  | .ladd => match st with
    | .inr (.inl b) :: .inr (.inl a) :: st' => oGo (nx, ls, vL (wrl (a + b)) :: st', sh, d)
    | _ => oNo
  | .land => match st with
    | .inr (.inl b) :: .inr (.inl a) :: st' => oGo (nx, ls, vL (Int64.ofInt a &&& Int64.ofInt b).toInt :: st', sh, d)
    | _ => oNo
  | .lor => match st with
    | .inr (.inl b) :: .inr (.inl a) :: st' => oGo (nx, ls, vL (Int64.ofInt a ||| Int64.ofInt b).toInt :: st', sh, d)
    | _ => oNo
  | .lshl => match st with
    | .inl b :: .inr (.inl a) :: st' => oGo (nx, ls, vL (Int64.ofInt a <<< ((Int32.ofInt b).toInt64 &&& 63)).toInt :: st', sh, d)
    | _ => oNo
  | .lshr => match st with
    | .inl b :: .inr (.inl a) :: st' => oGo (nx, ls, vL (Int64.ofInt a >>> ((Int32.ofInt b).toInt64 &&& 63)).toInt :: st', sh, d)
    | _ => oNo
  | .lushr => match st with
    | .inl b :: .inr (.inl a) :: st' => oGo (nx, ls, vL (((Int64.ofInt a).toUInt64 >>> ((Int32.ofInt b).toInt64.toUInt64 &&& Int64.toUInt64 63)).toInt64).toInt :: st', sh, d)
    | _ => oNo
  | .lcmp => match st with
    | .inr (.inl b) :: .inr (.inl a) :: st' => oGo (nx, ls, .inl (lg_c a b) :: st', sh, d)
    | _ => oNo
  | .i2l => match st with
    | .inl a :: st' => oGo (nx, ls, vL a :: st', sh, d)
    | _ => oNo
  | .l2i => match st with
    | .inr (.inl a) :: st' => oGo (nx, ls, .inl (wr a) :: st', sh, d)
    | _ => oNo
  | .i2b => match st with
    | .inl a :: st' => oGo (nx, ls, .inl ((a + 128) % 256 - 128) :: st', sh, d)
    | _ => oNo
  | .i2s => match st with
    | .inl a :: st' => oGo (nx, ls, .inl ((a + 32768) % 65536 - 32768) :: st', sh, d)
    | _ => oNo
  | .i2c => match st with
    | .inl a :: st' => oGo (nx, ls, .inl (a % 65536) :: st', sh, d)
    | _ => oNo
  | .dup => match st with
    | .inr (.inr (.inl a)) :: st' => oGo (nx, ls, vR a :: vR a :: st', sh, d)
    | .inl a :: st' => oGo (nx, ls, .inl a :: .inl a :: st', sh, d)
    | _ => oNo
  | .dup2 => match st with
    | .inl i :: .inr (.inr (.inl a)) :: st' => oGo (nx, ls, .inl i :: vR a :: .inl i :: vR a :: st', sh, d)
    | _ => oNo
  | .dup_x1 => match st with
    | .inl i :: .inr (.inr (.inl a)) :: st' => oGo (nx, ls, .inl i :: vR a :: .inl i :: st', sh, d)
    | _ => oNo
  | .pop => match st with
    | .inl _ :: st' => oGo (nx, ls, st', sh, d)
    | .inr (.inr (.inl _)) :: st' => oGo (nx, ls, st', sh, d)
    | _ => oNo
  | .goto t => oGo (t.toNat, ls, st, sh, d)
  | .ifCond c t => match st with
    | .inl x :: st' => oBr (cmpI c x 0) (t.toNat, ls, st', sh, d) (nx, ls, st', sh, d)
    | _ => oNo
  | .if_icmp c t => match st with
    | .inl y :: .inl x :: st' => oBr (cmpI c x y) (t.toNat, ls, st', sh, d) (nx, ls, st', sh, d)
    | _ => oNo
  | .lookupswitch df ps => match st with
    | .inl x :: st' => oSw x ps.toList df ls st' sh d
    | _ => oNo
  | .getfield n => match st with
    | .inr (.inr (.inl a)) :: st' => oIf (knd sh a = n / 1000) (nx, ls, (match n % 10 with
      | 2 => vR (rfN sh a (n % 1000 / 10))
      | _ => vI (d a (n % 1000 / 10))) :: st', sh, d)
    | _ => oNo
  | .putfield n => match n % 10 with
    | 2 => match st with
      | .inr (.inr (.inl v)) :: .inr (.inr (.inl a)) :: st' => oIf (knd sh a = n / 1000 ∧ 10 ≤ v) (nx, ls, st', srf sh a (n % 1000 / 10) v, d)
      | _ => oNo
    | 1 => match st with
      | .inl v :: .inr (.inr (.inl a)) :: st' => oIf (knd sh a = n / 1000 ∧ (v = 0 ∨ v = 1)) (nx, ls, st', sh, ups d a (n % 1000 / 10) v)
      | _ => oNo
    | _ => match st with
      | .inl v :: .inr (.inr (.inl a)) :: st' => oIf (knd sh a = n / 1000) (nx, ls, st', sh, ups d a (n % 1000 / 10) v)
      | _ => oNo
  | .iaload => match st with
    | .inl i :: .inr (.inr (.inl a)) :: st' => oIf (ldI (knd sh a) = true ∧ 0 ≤ i ∧ i < len sh a) (nx, ls, vI (d a i.toNat) :: st', sh, d)
    | _ => oNo
  | .baload => match st with
    | .inl i :: .inr (.inr (.inl a)) :: st' => oIf (knd sh a = 21 ∧ 0 ≤ i ∧ i < len sh a) (nx, ls, vI (d a i.toNat) :: st', sh, d)
    | _ => oNo
  | .laload => match st with
    | .inl i :: .inr (.inr (.inl a)) :: st' => oIf (knd sh a = 22 ∧ 0 ≤ i ∧ i < len sh a) (nx, ls, vL (d a i.toNat) :: st', sh, d)
    | _ => oNo
  | .aaload => match st with
    | .inl i :: .inr (.inr (.inl a)) :: st' => oIf (ldQ (knd sh a) = true ∧ 0 ≤ i ∧ i < len sh a) (nx, ls, vR (rfN sh a i.toNat) :: st', sh, d)
    | _ => oNo
  | .iastore => match st with
    | .inl v :: .inl i :: .inr (.inr (.inl a)) :: st' => oIf (knd sh a = 20 ∧ 0 ≤ i ∧ i < len sh a) (nx, ls, st', sh, ups d a i.toNat v)
    | _ => oNo
  | .bastore => match st with
    | .inl v :: .inl i :: .inr (.inr (.inl a)) :: st' => oIf (knd sh a = 21 ∧ 0 ≤ i ∧ i < len sh a ∧ (v = 0 ∨ v = 1)) (nx, ls, st', sh, ups d a i.toNat v)
    | _ => oNo
  | .lastore => match st with
    | .inr (.inl v) :: .inl i :: .inr (.inr (.inl a)) :: st' => oIf (knd sh a = 22 ∧ 0 ≤ i ∧ i < len sh a) (nx, ls, st', sh, ups d a i.toNat v)
    | _ => oNo
  | .aastore => match st with
    | .inr (.inr (.inl v)) :: .inl i :: .inr (.inr (.inl a)) :: st' => oIf (((knd sh a = 23 ∧ knd sh v = 8) ∨ (knd sh a = 24 ∧ knd sh v = 1)) ∧ 0 ≤ i ∧ i < len sh a) (nx, ls, st', srf sh a i.toNat v, d)
    | _ => oNo
  | .arraylength => match st with
    | .inr (.inr (.inl a)) :: st' => oIf (a = 1) (nx, ls, vI (len sh a) :: st', sh, d)
    | _ => oNo
  | .new n => oGo (nx, ls, vR sh.length :: st, sh ++ [(n, nf n, List.replicate (nf n) 0)], rset d sh.length (fun _ => 0))
  | .anewarray n => match st with
    | .inl x :: st' => oIf (0 ≤ x ∧ x ≤ 5000) (nx, ls, vR sh.length :: st', sh ++ [(n, x.toNat, List.replicate x.toNat 0)], rset d sh.length (fun _ => 0))
    | _ => oNo
  | .multianewarray _ _ => match st with
    | .inl y :: .inl x :: st' => oIf (0 ≤ x ∧ x ≤ 100 ∧ 0 ≤ y ∧ y ≤ 5000) (nx, ls, vR sh.length :: st', sh ++ ((25, x.toNat, List.range' (sh.length + 1) x.toNat) :: List.replicate x.toNat (20, y.toNat, List.replicate y.toNat 0)), fun a => if sh.length ≤ a then (fun _ => 0) else d a)
    | _ => oNo
  | .ireturn => match st with
    | [.inl x] => oRet True (.inl x) sh d
    | _ => oNo
  | .freturn => match st with
    | [.inl x] => oRet (x = 0 ∨ x = 1) (.inl x) sh d
    | _ => oNo
  | .lreturn => match st with
    | [.inr (.inl x)] => oRet True (vL x) sh d
    | _ => oNo
  | .return_ => match st with
    | [] => oRet True vU sh d
    | _ => oNo
  | .invokestatic n => match Nat.ble (ar n) st.length with
    | true => match Nat.ble (catS (st.drop (ar n))) 8 with
      | true => oCall True n (st.take (ar n)).reverse nx ls (st.drop (ar n)) sh d
      | false => oNo
    | false => oNo
  | .invokespecial n => match Nat.ble (ar n) st.length with
    | true => match Nat.ble (catS (st.drop (ar n))) 8 with
      | true => match (st.take (ar n)).reverse with
        | .inr (.inr (.inl a)) :: _ => oCall (10 ≤ a) n (st.take (ar n)).reverse nx ls (st.drop (ar n)) sh d
        | _ => oNo
      | false => oNo
    | false => oNo
  | .invokeinterface n k => match Nat.ble (ar n) st.length with
    | true => match Nat.ble (catS (st.drop (ar n))) 8 with
      | true => match (st.take (ar n)).reverse with
        | .inr (.inr (.inl a)) :: _ => oCall (knd sh a = k) n (st.take (ar n)).reverse nx ls (st.drop (ar n)) sh d
        | _ => oNo
      | false => oNo
    | false => oNo
  | .invokedynamic n => match n with
    | 0 => match st with
      | .inr (.inr (.inl a)) :: st' => oIf (Nat.ble (catS st') 8 = true ∧ 10 ≤ a) (nx, ls, st', sh, d)
      | _ => oNo
    | 1 => match st with
      | .inl k :: .inl dp :: .inr (.inr (.inl b)) :: .inl sp :: .inr (.inr (.inl a)) :: st' => oIf (Nat.ble (catS st') 8 = true ∧ knd sh a = knd sh b ∧ (knd sh b = 20 ∨ knd sh b = 21) ∧ 0 ≤ sp ∧ 0 ≤ dp ∧ 0 ≤ k ∧ sp + k ≤ len sh a ∧ dp + k ≤ len sh b) (nx, ls, st', sh, rset d b (cpy (d a) (d b) sp.toNat dp.toNat k.toNat))
      | _ => oNo
    | 2 => match st with
      | .inl y :: .inl x :: st' => oIf (Nat.ble (catS st') 8 = true) (nx, ls, .inl (max x y) :: st', sh, d)
      | _ => oNo
    | 3 => match st with
      | .inl y :: .inl x :: st' => oIf (Nat.ble (catS st') 8 = true) (nx, ls, .inl (min x y) :: st', sh, d)
      | _ => oNo
    | 4 => match st with
      | .inl x :: st' => oIf (Nat.ble (catS st') 8 = true) (nx, ls, .inl (if 0 ≤ x then x else wr (0 - x)) :: st', sh, d)
      | _ => oNo
    | 5 => match st with
      | .inl i :: .inr (.inr (.inl a)) :: st' => oIf (Nat.ble (catS st') 8 = true ∧ knd sh a = 31 ∧ 0 ≤ i ∧ i < len sh a) (nx, ls, vI (d a i.toNat) :: st', sh, d)
      | _ => oNo
    | 6 => match st with
      | .inr (.inr (.inl a)) :: st' => oIf (Nat.ble (catS st') 8 = true ∧ knd sh a = 31) (nx, ls, vI (len sh a) :: st', sh, d)
      | _ => oNo
    | 7 => match st with
      | .inl x :: .inr (.inr (.inl a)) :: st' => oIf (Nat.ble (catS st') 8 = true ∧ knd sh a = 31) (nx, ls, vI (idxO (d a) (len sh a).toNat x) :: st', sh, d)
      | _ => oNo
    | _ => oNo
  | _ => oNo
def swC (K : Int → Prop) (df x : Int) : List (Int × Int) → Prop
  | [] => K df
  | (v, t) :: ps => (x = v → K t) ∧ (¬ x = v → swC K df x ps)
/-- rt n: what a call leaves (0 nothing, else a value); mk n: cells and slots that a call makes -/
def onP (rt : Nat → Nat) (mk : Nat → Nat × Nat) (C : CT) (o : Out) (K : KK) (R : RT) : Prop := match o with
  | .inl (pc, ls, st, sh, d) => K pc ls st sh d
  | .inr (.inl (c, pc, ls, st, sh, d)) => c ∧ K pc ls st sh d
  | .inr (.inr (.inl (c, (pc, ls, st, sh, d), (pc2, ls2, st2, sh2, d2)))) => (c → K pc ls st sh d) ∧ (¬ c → K pc2 ls2 st2 sh2 d2)
  | .inr (.inr (.inr (.inl (x, ps, df, ls, st, sh, d)))) => swC (fun t => K t.toNat ls st sh d) df x ps
  | .inr (.inr (.inr (.inr (.inl (c, v, sh, d))))) => c ∧ R v sh d
  | .inr (.inr (.inr (.inr (.inr (.inl (c0, n, as, nx, ls, st, sh, d)))))) => c0 ∧ C n as sh d (match mk n with
    | (0, _) => match rt n with
      | 0 => fun _ sh' d' => sh' = sh ∧ K nx ls st sh d'
      | _ => fun r sh' d' => sh' = sh ∧ K nx ls (r :: st) sh d'
    | (c, s) => match rt n with
      | 0 => fun _ sh' d' => (sh'.length = sh.length + c ∧ slS sh' = slS sh + s) ∧ K nx ls st sh' d'
      | _ => fun r sh' d' => (sh'.length = sh.length + c ∧ slS sh' = slS sh + s) ∧ K nx ls (r :: st) sh' d')
  | .inr (.inr (.inr (.inr (.inr (.inr _))))) => False
def monoC (C : CT) : Prop := ∀ n as sh d (Q Q' : RT), (∀ v sh d, Q v sh d → Q' v sh d) → C n as sh d Q → C n as sh d Q'
theorem swC_mono {K K' : Int → Prop} (h : ∀ t, K t → K' t) {df x : Int} : ∀ ps, swC K df x ps → swC K' df x ps
  | [], q => h _ q
  | (_, _) :: ps, q => ⟨fun e => h _ (q.1 e), fun e => swC_mono h ps (q.2 e)⟩
theorem onP_mono {rt : Nat → Nat} {mk : Nat → Nat × Nat} {C : CT} (hC : monoC C) {o : Out} {K K' : KK} {R R' : RT} (hK : ∀ pc ls st sh d, K pc ls st sh d → K' pc ls st sh d) (hR : ∀ v sh d, R v sh d → R' v sh d) (h : onP rt mk C o K R) : onP rt mk C o K' R' := by
  rcases o with ⟨pc, ls, st, sh, d⟩ | ⟨c, pc, ls, st, sh, d⟩ | ⟨c, ⟨pc, ls, st, sh, d⟩, ⟨pc2, ls2, st2, sh2, d2⟩⟩ | ⟨x, ps, df, ls, st, sh, d⟩ | ⟨c, v, sh, d⟩ | ⟨c0, n, as, nx, ls, st, sh, d⟩ | u
  · exact hK _ _ _ _ _ h
  · exact ⟨h.1, hK _ _ _ _ _ h.2⟩
  · exact ⟨fun e => hK _ _ _ _ _ (h.1 e), fun e => hK _ _ _ _ _ (h.2 e)⟩
  · exact swC_mono (fun t q => hK _ _ _ _ _ q) ps h
  · exact ⟨h.1, hR _ _ _ h.2⟩
  · refine ⟨h.1, hC _ _ _ _ _ _ (fun v sh d => ?_) h.2⟩
    generalize mk n = p
    generalize rt n = r
    obtain ⟨c, s⟩ := p
    cases c <;> cases r <;> exact fun q => ⟨q.1, hK _ _ _ _ _ q.2⟩
  · exact h
/-- what a program is: the ops of a method, its longs' places, and the tables of calls -/
abbrev Prg : Type := (Nat → Nat → Option (Ins × Nat)) × (Nat → List Nat) × (Nat → Nat) × (Nat → Nat) × (Nat → Nat) × (Nat → Nat × Nat) × (Nat → Nat)
def StepAt (G : Prg) (C : CT) (y : Nat) (K : KK) (R : RT) : KK := fun pc ls st sh d => match G.1 y pc with
  | some (ins, nx) => onP G.2.2.2.2.1 G.2.2.2.2.2.1 C (stepO G.2.2.1 G.2.2.2.1 (G.2.1 y) ins nx ls st sh d) K R
  | none => False
theorem StepAt_mono {G : Prg} {C : CT} (hC : monoC C) {y : Nat} {K K' : KK} {R R' : RT} (hK : ∀ pc ls st sh d, K pc ls st sh d → K' pc ls st sh d) (hR : ∀ v sh d, R v sh d → R' v sh d) {pc : Nat} {ls st : List V} {sh : Shp} {d : Dat} (h : StepAt G C y K R pc ls st sh d) : StepAt G C y K' R' pc ls st sh d := by
  unfold StepAt at h ⊢
  split
  · rename_i e
    rw [e] at h
    exact onP_mono hC hK hR h
  · rename_i e
    rw [e] at h
    exact h
/-- it comes to an end with R: the least K that the steps carry -/
def GoG (G : Prg) (C : CT) (y : Nat) (R : RT) (pc : Nat) (ls st : List V) (sh : Shp) (d : Dat) : Prop :=
  ∀ P : KK, (∀ pc ls st sh d, StepAt G C y P R pc ls st sh d → P pc ls st sh d) → P pc ls st sh d
theorem GoG_fold {G : Prg} {C : CT} (hC : monoC C) {y : Nat} {R : RT} {pc : Nat} {ls st : List V} {sh : Shp} {d : Dat} (h : StepAt G C y (GoG G C y R) R pc ls st sh d) : GoG G C y R pc ls st sh d := by
  intro P hP
  exact hP _ _ _ _ _ (StepAt_mono hC (fun pc ls st sh d q => q P hP) (fun _ _ _ q => q) h)
theorem GoG_iff {G : Prg} {C : CT} (hC : monoC C) {y : Nat} {R : RT} {pc : Nat} {ls st : List V} {sh : Shp} {d : Dat} : GoG G C y R pc ls st sh d ↔ StepAt G C y (GoG G C y R) R pc ls st sh d :=
  ⟨fun h => h (StepAt G C y (GoG G C y R) R) (fun _ _ _ _ _ q => StepAt_mono hC (fun _ _ _ _ _ z => GoG_fold hC z) (fun _ _ _ z => z) q), GoG_fold hC⟩
theorem GoG_mono {G : Prg} {C : CT} (hC : monoC C) {y : Nat} {R R' : RT} (hR : ∀ v sh d, R v sh d → R' v sh d) {pc : Nat} {ls st : List V} {sh : Shp} {d : Dat} (h : GoG G C y R pc ls st sh d) : GoG G C y R' pc ls st sh d :=
  h _ (fun _ _ _ _ _ q => GoG_fold hC (StepAt_mono hC (fun _ _ _ _ _ z => z) hR q))
/-- the locals at a method's entry -/
def entL (n : Nat) (as : List V) : List V := padL as ++ List.replicate (n - (padL as).length) vU
def lgB (lg : List Nat) : Nat → List V → Bool
  | _, [] => true
  | i, .inr (.inl _) :: r => lg.contains i && lgB lg (i + 1) r
  | i, _ :: r => lgB lg (i + 1) r
def argOK (n : Nat) (lg : List Nat) (as : List V) : Bool := Nat.ble (padL as).length n && lgB lg 0 (padL as)
def ClG (G : Prg) : Nat → CT
  | 0 => fun _ _ _ _ _ => False
  | k + 1 => fun y as sh d Q => argOK (G.2.2.2.2.2.2 y) (G.2.1 y) as = true ∧ GoG G (ClG G k) y Q 0 (entL (G.2.2.2.2.2.2 y) as) [] sh d
theorem ClG_mono {G : Prg} : ∀ k, monoC (ClG G k)
  | 0 => fun _ _ _ _ _ _ _ h => h
  | k + 1 => fun _ _ _ _ _ _ hQ h => ⟨h.1, GoG_mono (ClG_mono k) hQ h.2⟩
theorem onP_C {rt : Nat → Nat} {mk : Nat → Nat × Nat} {C C' : CT} (hC : ∀ n as sh d Q, C n as sh d Q → C' n as sh d Q) {o : Out} {K : KK} {R : RT} (h : onP rt mk C o K R) : onP rt mk C' o K R := by
  rcases o with ⟨pc, ls, st, sh, d⟩ | ⟨c, pc, ls, st, sh, d⟩ | ⟨c, ⟨pc, ls, st, sh, d⟩, ⟨pc2, ls2, st2, sh2, d2⟩⟩ | ⟨x, ps, df, ls, st, sh, d⟩ | ⟨c, v, sh, d⟩ | ⟨c0, n, as, nx, ls, st, sh, d⟩ | u
  · exact h
  · exact h
  · exact h
  · exact h
  · exact h
  · exact ⟨h.1, hC _ _ _ _ _ h.2⟩
  · exact h
theorem StepAt_C {G : Prg} {C C' : CT} (hC : ∀ n as sh d Q, C n as sh d Q → C' n as sh d Q) {y : Nat} {K : KK} {R : RT} {pc : Nat} {ls st : List V} {sh : Shp} {d : Dat} (h : StepAt G C y K R pc ls st sh d) : StepAt G C' y K R pc ls st sh d := by
  unfold StepAt at h ⊢
  split
  · rename_i e
    rw [e] at h
    exact onP_C hC h
  · rename_i e
    rw [e] at h
    exact h
theorem GoG_C {G : Prg} {C C' : CT} (hC : ∀ n as sh d Q, C n as sh d Q → C' n as sh d Q) {y : Nat} {R : RT} {pc : Nat} {ls st : List V} {sh : Shp} {d : Dat} (h : GoG G C y R pc ls st sh d) : GoG G C' y R pc ls st sh d :=
  fun P hP => h P (fun _ _ _ _ _ q => hP _ _ _ _ _ (StepAt_C hC q))
theorem ClG_up {G : Prg} : ∀ k n as sh d Q, ClG G k n as sh d Q → ClG G (k + 1) n as sh d Q
  | 0, _, _, _, _, _, h => h.elim
  | k + 1, _, _, _, _, _, h => ⟨h.1, GoG_C (ClG_up k) h.2⟩
theorem ClG_le {G : Prg} {k k' : Nat} (h : k ≤ k') {n : Nat} {as : List V} {sh : Shp} {d : Dat} {Q : RT} (q : ClG G k n as sh d Q) : ClG G k' n as sh d Q := by
  induction h with
  | refl => exact q
  | step _ ih => exact ClG_up _ _ _ _ _ _ ih
