/-! THE CLAIM OUT OF ONE WALK OF THE LAW'S BODY. Your part is whole_start (and what it stands on); all else here is the same for every law, but numbers. -/
def R_law : String := "DarkLandLaw"
def lw_P (b : Addr) (xs : List Int32) (args : Array Value) (s : State) : Prop := args = #[.ref b] ∧ s.IntsAt b xs ∧ xs.length ≤ 3072 ∧ (Jvm.Cond.and given_1 narrow_1).before args s = true
def lw_Q (_ : Array Value) (s : State) (o : Outcome) (t : State) : Prop := o = .returned (some (.int 1)) ∧ Framed s o t [] 600000 7302250
def lw_Z (below : List Frame) (a : Array Value) (s : State) : State → Prop := fun t => ∃ o, t.status = .running ∧ Ended t below o ∧ lw_Q a s o t
/-- the law's own end, with 1 on the stack, nothing written that was there before, its room as the claim has it -/
theorem lw_ret {p : Program} {l : Launch} {e : Env} {s : State} {m : MethodId} {below : List Frame} {meth : Method} {c : Code} {b : Nat} (hx : p.tables.exec = Jvm.exec) (hb : c.code = code) (hr : meth.sig.returnType = ret) (hlocks : meth.locks = false) {pc : Nat} {H : Heap} {ls : Array Slot} (hdg : decode code pc = .ok (.ireturn, 1)) : W p l e room_1 s m #[Value.ref b] below meth c H [] 600000 7302250 (lw_Z below #[Value.ref b] s) (F0 m pc ls [.int 1]) := by
  intro T hT X
  obtain ⟨fs, hret, hrun, hended, hW, hframe⟩ := X.leave (v := some (.int 1)) (hlocks := hlocks) (fun h => by rw [hr] at h; cases h)
  have hmeth' : T.vm.method? m = some meth := X.method'
  refine ⟨T.setFrames fs, ?_, .returned (some (.int 1)), hrun, hended, rfl, ⟨_, rfl⟩, hW, hframe⟩
  jvm_step X.here [X.here.top, hx, hb, hdg, hmeth', hr, ret, narrow_b1]
  (try refine ⟨rfl, ?_⟩); (try refine ⟨rfl, ?_⟩)
  first | (intro acts; rw [hret _ acts rfl rfl rfl]) | rw [hret _ _ rfl rfl rfl]
  exact Steps.refl _
/-- what holds at the law's entry: the machine, the code, the tables' words (any of lw_tbl by 'hts w (by decide +kernel)'), the script of L ints xs at the cell b, what the Statement gives of the start (any of its parts by flat_of_before) -/
def lw_At (p : Program) (s : State) (m : MethodId) (meth : Method) (c : Code) (b L : Nat) (xs : Nat → Int32) : Prop :=
  p.tables.exec = Jvm.exec ∧ c.code = code ∧ meth.sig.returnType = ret ∧ c.maxLocals = 4 ∧ s.vm.findClass R_law = some m.cls ∧ (∀ w ∈ lw_tbl, w.before #[Value.ref b] s = true) ∧ va_X b L xs s s.heap ∧ b < s.heap.size ∧ meth.locks = false ∧ (Jvm.Cond.and given_1 narrow_1).before #[Value.ref b] s = true
/-! the law out of its abstract run -/
def RtL : RT := fun v sh _ => v = vI 1 ∧ sh.length ≤ 100000 ∧ slS sh ≤ 1000000
theorem cls_known {s : State} {b : Nat} (hts : ∀ w ∈ lw_tbl, w.before #[Value.ref b] s = true) : ∃ (dC : Nat → ClassId) (dI : Nat → Nat → Nat), ∀ (k : Nat) (q : vw_C), vwCl[k]? = some q → u_Kn s q.1 q.2.1 q.2.2 (dC k) (dI k) := by
  obtain ⟨c0, i0, h0⟩ := u_known (C := clsName 0) (T := fTab 0) (N := nfN 0) (n := 17) hts (fun w hw => wsT_tbl w (inT (by omega) w hw)) (hts _ (lawW (i := 100) (by decide +kernel)))
  obtain ⟨c1, i1, h1⟩ := u_known (C := clsName 1) (T := fTab 1) (N := nfN 1) (n := 16) hts (fun w hw => wsT_tbl w (inT (by omega) w hw)) (hts _ (lawW (i := 327) (by decide +kernel)))
  obtain ⟨c2, i2, h2⟩ := u_known (C := clsName 2) (T := fTab 2) (N := nfN 2) (n := 6) hts (fun w hw => wsT_tbl w (inT (by omega) w hw)) (hts _ (lawW (i := 399) (by decide +kernel)))
  obtain ⟨c3, i3, h3⟩ := u_known (C := clsName 3) (T := fTab 3) (N := nfN 3) (n := 7) hts (fun w hw => wsT_tbl w (inT (by omega) w hw)) (hts _ (lawW (i := 333) (by decide +kernel)))
  obtain ⟨c4, i4, h4⟩ := u_known (C := clsName 4) (T := fTab 4) (N := nfN 4) (n := 13) hts (fun w hw => wsT_tbl w (inT (by omega) w hw)) (hts _ (lawW (i := 492) (by decide +kernel)))
  obtain ⟨c5, i5, h5⟩ := u_known (C := clsName 5) (T := fTab 5) (N := nfN 5) (n := 4) hts (fun w hw => wsT_tbl w (inT (by omega) w hw)) (hts _ (lawW (i := 372) (by decide +kernel)))
  obtain ⟨c6, i6, h6⟩ := u_known (C := clsName 6) (T := fTab 6) (N := nfN 6) (n := 7) hts (fun w hw => wsT_tbl w (inT (by omega) w hw)) (hts _ (lawW (i := 268) (by decide +kernel)))
  obtain ⟨c7, i7, h7⟩ := u_known (C := clsName 7) (T := fTab 7) (N := nfN 7) (n := 14) hts (fun w hw => wsT_tbl w (inT (by omega) w hw)) (hts _ (lawW (i := 192) (by decide +kernel)))
  obtain ⟨c8, i8, h8⟩ := u_known (C := clsName 8) (T := fTab 8) (N := nfN 8) (n := 3) hts (fun w hw => wsT_tbl w (inT (by omega) w hw)) (hts _ (lawW (i := 546) (by decide +kernel)))
  obtain ⟨c9, i9, h9⟩ := u_known (C := clsName 9) (T := fTab 9) (N := nfN 9) (n := 8) hts (fun w hw => wsT_tbl w (inT (by omega) w hw)) (hts _ (lawW (i := 260) (by decide +kernel)))
  obtain ⟨c10, i10, h10⟩ := u_known (C := clsName 10) (T := fTab 10) (N := nfN 10) (n := 6) hts (fun w hw => wsT_tbl w (inT (by omega) w hw)) (hts _ (lawW (i := 92) (by decide +kernel)))
  obtain ⟨c11, i11, h11⟩ := u_known (C := clsName 11) (T := fTab 11) (N := nfN 11) (n := 55) hts (fun w hw => wsT_tbl w (inT (by omega) w hw)) (hts _ (lawW (i := 1187) (by decide +kernel)))
  refine ⟨fun k => match k with
    | 0 => c0
    | 1 => c1
    | 2 => c2
    | 3 => c3
    | 4 => c4
    | 5 => c5
    | 6 => c6
    | 7 => c7
    | 8 => c8
    | 9 => c9
    | 10 => c10
    | _ => c11, fun k => match k with
    | 0 => i0
    | 1 => i1
    | 2 => i2
    | 3 => i3
    | 4 => i4
    | 5 => i5
    | 6 => i6
    | 7 => i7
    | 8 => i8
    | 9 => i9
    | 10 => i10
    | _ => i11, fun k q hq => ?_⟩
  match k, hq with
  | 0, hq => cases hq; exact h0
  | 1, hq => cases hq; exact h1
  | 2, hq => cases hq; exact h2
  | 3, hq => cases hq; exact h3
  | 4, hq => cases hq; exact h4
  | 5, hq => cases hq; exact h5
  | 6, hq => cases hq; exact h6
  | 7, hq => cases hq; exact h7
  | 8, hq => cases hq; exact h8
  | 9, hq => cases hq; exact h9
  | 10, hq => cases hq; exact h10
  | 11, hq => cases hq; exact h11
  | k + 12, hq => exact absurd hq (by simp [vwCl])
theorem knd_sh0 {L a : Nat} : knd (sh0 L) a = 99 ∨ knd (sh0 L) a = 30 ∨ knd (sh0 L) a = 31 := by
  rcases Nat.lt_or_ge a 10 with q | q
  · match a, q with
    | 0, _ => exact Or.inl rfl
    | 1, _ => exact Or.inr (Or.inl rfl)
    | 2, _ => exact Or.inr (Or.inl rfl)
    | 3, _ => exact Or.inr (Or.inl rfl)
    | 4, _ => exact Or.inr (Or.inl rfl)
    | 5, _ => exact Or.inr (Or.inl rfl)
    | 6, _ => exact Or.inr (Or.inl rfl)
    | 7, _ => exact Or.inr (Or.inr rfl)
    | 8, _ => exact Or.inr (Or.inr rfl)
    | 9, _ => exact Or.inr (Or.inr rfl)
  · left
    unfold knd
    rw [List.getElem?_eq_none q]
set_option maxHeartbeats 4000000 in
theorem law_sim {p : Program} {e : Env} {s : State} {m : MethodId} {below : List Frame} {meth : Method} {c : Code} (l : Launch) {b L : Nat} {xs : Nat → Int32} (hL : L ≤ 3072) (C0 : lw_At p s m meth c b L xs) (HJ : MJ l) {k : Nat} (hk : k ≤ 1200) (hgo : Go k 212 RtL 0 [vR 1, vU, vU, vU] [] (sh0 L) (dS xs)) : W p l e room_1 s m #[Value.ref b] below meth c s.heap [] 0 0 (lw_Z below #[Value.ref b] s) (entryFrame m ([Value.ref b] : List Value).toArray 4) := by
  obtain ⟨hx, hb, hr, hml, hown, hts, hX, hbl, hlocks, hgv⟩ := id C0
  obtain ⟨dC, dI, hKc⟩ := cls_known hts
  obtain ⟨a1, a2, a3⟩ := st_ao hts
  obtain ⟨z0, y0, y0'⟩ := arr_at (hts _ (wsT_tbl _ (hasW_mem aw_int))) (fun C h => by cases h)
  obtain ⟨z1, y1, y1'⟩ := arr_at (hts _ (wsT_tbl _ (hasW_mem aw_boolean))) (fun C h => by cases h)
  obtain ⟨z2, y2, y2'⟩ := arr_at (hts _ (wsT_tbl _ (hasW_mem aw_long))) (fun C h => by cases h)
  obtain ⟨z3, y3, y3'⟩ := arr_ao a1
  obtain ⟨z4, y4, y4'⟩ := arr_ao a2
  obtain ⟨z5, y5, y5'⟩ := arr_ai a3
  obtain ⟨t2, v2, w2⟩ := st_2 hgv hts
  obtain ⟨t3, v3, w3⟩ := st_3 hgv hts
  obtain ⟨t4, v4, w4⟩ := st_4 hgv hts
  obtain ⟨t5, v5, w5⟩ := st_5 hgv hts
  obtain ⟨t6, v6, w6⟩ := st_6 hgv hts
  obtain ⟨adK, adW, kS, kE⟩ := st_str hgv
  obtain ⟨hcs, hpf⟩ := st_cs hgv hts
  obtain ⟨cA, e0, e1, e2, e3, e4, e5⟩ : ∃ cA : Nat → ClassId, cA 20 = z0 ∧ cA 21 = z1 ∧ cA 22 = z2 ∧ cA 23 = z3 ∧ cA 24 = z4 ∧ cA 25 = z5 := ⟨fun k => if k = 20 then z0 else if k = 21 then z1 else if k = 22 then z2 else if k = 23 then z3 else if k = 24 then z4 else z5, rfl, rfl, rfl, rfl, rfl, rfl⟩
  obtain ⟨ρ0, r1, r2, r3, r4, r5, r6, r7⟩ : ∃ ρ0 : Nat → Nat, ρ0 1 = b ∧ ρ0 2 = t2 ∧ ρ0 3 = t3 ∧ ρ0 4 = t4 ∧ ρ0 5 = t5 ∧ ρ0 6 = t6 ∧ ∀ i, i < 3 → ρ0 (7 + i) = adK i := ⟨fun k => if k = 1 then b else if k = 2 then t2 else if k = 3 then t3 else if k = 4 then t4 else if k = 5 then t5 else if k = 6 then t6 else adK (k - 7), rfl, rfl, rfl, rfl, rfl, rfl, fun i hi => by
    dsimp only
    rw [if_neg (by omega), if_neg (by omega), if_neg (by omega), if_neg (by omega), if_neg (by omega), if_neg (by omega), show 7 + i - 7 = i by omega]⟩
  let w : WP := ((dC, dI), cA, AL s, 10, slS (sh0 L), L, ρ0, dS xs)
  have hE : EX w s := by
    refine ⟨⟨hKc, fun k q hq => ?_⟩, ⟨a1, a2, a3, ⟨fun e he => ?_, ⟨adK, adW, kS, fun i hi => ?_⟩, hcs, hpf, fun i hi j hj => ?_⟩⟩, fun e he h3 => ?_, fun k k2 k6 => ?_, ⟨xs, by show va_X (ρ0 1) _ _ _ _; rw [r1]; exact hX, by show ρ0 1 < _; rw [r1]; exact hbl, by show ¬ AL s (ρ0 1); rw [r1]; exact AL_not b hbl, fun j => rfl⟩, fun q hq => hq, by show L < _; omega, Nat.le_refl _⟩
    · match k, hq with
      | 0, hq => cases hq; exact ⟨by show ArrOfT s (cA 20) _; rw [e0]; exact y0, by show va_RA s (cA 20) _; rw [e0]; exact y0'⟩
      | 1, hq => cases hq; exact ⟨by show ArrOfT s (cA 21) _; rw [e1]; exact y1, by show va_RA s (cA 21) _; rw [e1]; exact y1'⟩
      | 2, hq => cases hq; exact ⟨by show ArrOfT s (cA 22) _; rw [e2]; exact y2, by show va_RA s (cA 22) _; rw [e2]; exact y2'⟩
      | 3, hq => cases hq; exact ⟨by show ArrOfT s (cA 23) _; rw [e3]; exact y3, by show va_RA s (cA 23) _; rw [e3]; exact y3'⟩
      | 4, hq => cases hq; exact ⟨by show ArrOfT s (cA 24) _; rw [e4]; exact y4, by show va_RA s (cA 24) _; rw [e4]; exact y4'⟩
      | 5, hq => cases hq; exact ⟨by show ArrOfT s (cA 25) _; rw [e5]; exact y5, by show va_RA s (cA 25) _; rw [e5]; exact y5'⟩
      | k + 6, hq => exact absurd hq (by simp [tysA])
    · have hw := List.all_eq_true.mp strW e he
      simp only [Bool.and_eq_true, decide_eq_true_eq, Nat.ble_eq, Nat.blt_eq] at hw
      obtain ⟨⟨⟨q1, q2⟩, q3⟩, q4⟩ := hw
      refine ⟨_, vk_R.of (hts _ (lawW q1)) ?_⟩
      rw [← q2, kE (e.2.2.1 - 7) (by omega)]
      obtain ⟨i, hi⟩ : ∃ i, e.2.2.1 = 7 + i := ⟨e.2.2.1 - 7, by omega⟩
      rw [hi, show 7 + i - 7 = i by omega]
      show _ = some (Value.ref (ρ0 (7 + i)))
      rw [r7 i (by omega)]
    · exact r7 i hi
    · show dS xs (7 + i) j = bS i j
      unfold dS
      rw [if_neg (by omega), if_neg (by omega), if_pos (by omega), show 7 + i - 7 = i by omega]
    · have hw := List.all_eq_true.mp nestW e he
      rw [Bool.or_eq_true, decide_eq_true_eq, decide_eq_true_eq] at hw
      rcases hw with q | q
      · omega
      · exact va_Nw.of rfl (hts _ (lawW q))
    · have hd : ∀ k, 2 ≤ k → k ≤ 6 → dS xs k = stV k := fun k h2 h6 => by
        funext j
        unfold dS
        rw [if_neg (by omega), if_pos (by omega)]
      have k26 : k = 2 ∨ k = 3 ∨ k = 4 ∨ k = 5 ∨ k = 6 := by omega
      show va_Z "DarkLand$Kind" (stNm k) "[I" (.ref (ρ0 k)) (AL s) s s.heap ∧ va_T .int (ρ0 k) 6 (fun j => .int (Int32.ofInt (dS xs k j))) (AL s) s s.heap
      rw [hd k k2 k6]
      rcases k26 with rfl | rfl | rfl | rfl | rfl
      · rw [r2]; exact ⟨v2, w2⟩
      · rw [r3]; exact ⟨v3, w3⟩
      · rw [r4]; exact ⟨v4, w4⟩
      · rw [r5]; exact ⟨v5, w5⟩
      · rw [r6]; exact ⟨v6, w6⟩
  have hXc : CX 212 p s m #[Value.ref b] meth c := ⟨hx, hb, hml, hown, fun w hw => hts w (wsT_tbl w hw), fun h => (by cases h), hr, hlocks⟩
  have hargs : argOK (mxN 212) (lgOf 212) [vR 1] = true := rfl
  obtain ⟨hLV, hlg⟩ := entL_LV (ρ := ρ0) hargs
  have hG : GW w s ρ0 s.heap [] (sh0 L) (dS xs) := by
    refine ⟨⟨Nat.le_refl _, Nat.le_refl _⟩, ⟨rfl, fun _ _ => rfl, fun _ _ => rfl⟩, ⟨fun z hz => ?_, fun z hz => (by cases hz)⟩, fun a i => ?_, fun k q h => ?_, ⟨fun i j p q h => ?_, fun k q h => ?_⟩, va_S.rf⟩
    · have hz : z.2.2 = [] ∧ ¬ z.1 < 12 ∧ ¬ (23 ≤ z.1 ∧ z.1 ≤ 25) := by
        simp only [sh0, List.mem_cons, List.not_mem_nil, or_false] at hz
        rcases hz with rfl | rfl | rfl | rfl | rfl | rfl | rfl | rfl | rfl | rfl <;> exact ⟨rfl, by dsimp only; omega, by dsimp only; omega⟩
      exact ⟨fun r hr => (by rw [hz.1] at hr; cases hr), fun q => absurd q hz.2.1, fun q => absurd q (fun q => q.elim hz.2.1 hz.2.2)⟩
    · have := dS_in xs a i
      rcases knd_sh0 (L := L) (a := a) with q | q | q <;> rw [q] <;> exact this
    · exact absurd h (by show ¬ ([] : va_W)[k]? = some q; simp)
    · exact absurd h (by show ¬ ([] : va_W)[i]? = some p; simp)
    · exact absurd h (by show ¬ ([] : va_W)[k]? = some q; simp)
  have hF : FR 212 ρ0 ((lg_sl ([vR 1].map (rV ρ0)) ++ List.replicate (mxN 212 - (lg_sl ([vR 1].map (rV ρ0))).length) Slot.unset).toArray) (entL (mxN 212) [vR 1]) [] (sh0 L) := by
    refine ⟨fun v hv => (by cases hv), okVs_pad (fun v hv => ?_), hLV, hlg⟩
    rw [List.mem_singleton.mp hv]
    show 1 < 10
    omega
  have hRet : RetH w 212 p l e room_1 s m #[Value.ref b] below meth c (lw_Z below #[Value.ref b] s) RtL := by
    intro pc ls sh2 d2
    refine ⟨fun x hdec hty hq => ?_, fun x hdec hty hq => absurd hty (by decide), fun hdec hty hq => absurd hty (by decide)⟩
    obtain ⟨h1, h2, h3⟩ := hq
    have hx1 : x = 1 := by cases h1; rfl
    subst hx1
    have hb0 : BD w room_1 sh2 := ⟨by show sh2.length ≤ 10 + 600000; omega, by show slS sh2 ≤ slS (sh0 L) + 7302250; omega⟩
    refine ⟨hb0, fun ρ' H locs lsr hg hf => ?_⟩
    refine va_forget (fun q hq => hg.2.2.2.2.2.2.2.2 q hq) ?_
    refine W.widen (k := 600000) (n := 7302250) (by show sh2.length - 10 ≤ _; omega) (by show slS sh2 - _ ≤ _; omega) ?_
    exact lw_ret hx hb hr hlocks hdec
  have key : PP w 212 p l e room_1 s m #[Value.ref b] below meth c (lw_Z below #[Value.ref b] s) 0 [vR 1, vU, vU, vU] [] (sh0 L) (dS xs) := hgo _ (fun pc ls st sh2 d2 h => sim_step (k := k) (METS_all HJ k) HJ hE hXc ⟨by show k + 9 ≤ 2048; omega, by show 64 * k + 728 ≤ 84000; omega⟩ hRet h)
  have hW := key.2 ρ0 s.heap [] _ hG hF
  rw [lg_entry_eq]
  have q1 : (sh0 L).length - w.2.2.2.1 = 0 := Nat.sub_self _
  have q2 : slS (sh0 L) - w.2.2.2.2.1 = 0 := Nat.sub_self _
  have e9 : [vR 1].map (rV ρ0) = [Value.ref b] := by
    show [adV ρ0 1] = _
    unfold adV
    rw [if_neg (by omega), r1]
  rw [q1, q2, e9] at hW
  exact hW
