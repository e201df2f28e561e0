/-! bits and bytes; feed (rows of the kit's laws/BITS.to-paste: wb_ ..; expanded by gen18.py) -/
theorem wb_tb (n : Nat) : (lN n).toBitVec = BitVec.ofNat 64 n := rfl
theorem wb_inj {a b : Int64} (h : a.toBitVec = b.toBitVec) : a = b := Int64.toBitVec_inj.mp h
theorem wb_tn {n : Nat} (h : n < 2 ^ 64) : (lN n).toBitVec.toNat = n := by rw [wb_tb, BitVec.toNat_ofNat, Nat.mod_eq_of_lt h]
theorem wb_c : ∀ k, k < 64 → ((nI k).toInt64 &&& 63) = lN k := by decide +kernel
theorem wb_cu : ∀ k, k < 64 → ((nI k).toInt64.toUInt64 &&& Int64.toUInt64 63) = UInt64.ofNat k := by decide +kernel
theorem wb_sm : ∀ k, k < 64 → (BitVec.ofNat 64 k).smod 64 = BitVec.ofNat 64 k := by decide +kernel
theorem wb_shr {n k : Nat} (hn : n < 2 ^ 64) (hk : k < 64) : ((lN n).toUInt64 >>> ((nI k).toInt64.toUInt64 &&& Int64.toUInt64 63)).toInt64 = lN (n / 2 ^ k) := by
  rw [wb_cu k hk]
  apply wb_inj
  apply BitVec.eq_of_toNat_eq
  show ((lN n).toUInt64 >>> UInt64.ofNat k).toNat = (BitVec.ofNat 64 _).toNat
  have h1 : (UInt64.ofNat k).toNat = k := by
    show (BitVec.ofNat 64 k).toNat = k
    rw [BitVec.toNat_ofNat, Nat.mod_eq_of_lt (by omega)]
  have h2 : (lN n).toUInt64.toNat = n := wb_tn hn
  rw [UInt64.toNat_shiftRight, h1, h2, Nat.mod_eq_of_lt hk, Nat.shiftRight_eq_div_pow, BitVec.toNat_ofNat, Nat.mod_eq_of_lt (Nat.lt_of_le_of_lt (Nat.div_le_self _ _) hn)]
theorem wb_shl (n : Nat) {k : Nat} (hk : k < 64) : lN n <<< ((nI k).toInt64 &&& 63) = lN (n * 2 ^ k) := by
  rw [wb_c k hk]
  apply wb_inj
  rw [Int64.toBitVec_shiftLeft, wb_tb, wb_tb, wb_tb, wb_sm k hk]
  apply BitVec.eq_of_toNat_eq
  rw [BitVec.shiftLeft_eq', BitVec.toNat_shiftLeft, BitVec.toNat_ofNat, BitVec.toNat_ofNat, BitVec.toNat_ofNat, Nat.mod_eq_of_lt (show k < 2 ^ 64 by omega), Nat.shiftLeft_eq, Nat.mul_mod, Nat.mod_mod, ← Nat.mul_mod]
theorem u_tn {n : Nat} (h : n < 2 ^ 64) : (UInt64.ofNat n).toNat = n := Nat.mod_eq_of_lt h
theorem g_or {k p a b : Nat} (hp : 2 ^ k = p) (ha : a < p) (h : b * p + a < 2 ^ 64) : lN (b * p) ||| lN a = lN (b * p + a) := by
  subst hp
  have h1 : b * 2 ^ k ||| a = b * 2 ^ k + a := by rw [← Nat.shiftLeft_eq, Nat.shiftLeft_add_eq_or_of_lt ha]
  have h3 : UInt64.ofNat (b * 2 ^ k) ||| UInt64.ofNat a = UInt64.ofNat (b * 2 ^ k + a) := UInt64.toNat_inj.mp (by rw [UInt64.toNat_or, u_tn (by omega), u_tn (by omega), u_tn h, h1])
  have h2 := congrArg UInt64.toInt64 h3
  exact h2
theorem p64 : ((2 ^ 64 : Nat) : Int) = 18446744073709551616 := by decide
theorem p32 : ((2 ^ 32 : Nat) : Int) = 4294967296 := by decide
theorem i64_n (w : Int) : Int64.ofInt w = lN (w % 18446744073709551616).toNat := by
  apply wb_inj
  apply BitVec.eq_of_toNat_eq
  rw [wb_tb, BitVec.toNat_ofNat]
  show (BitVec.ofInt 64 w).toNat = _
  rw [BitVec.toNat_ofInt, p64, Nat.mod_eq_of_lt (by omega)]
theorem i32_n (w : Int) : Int32.ofInt w = nI (w % 4294967296).toNat := by
  apply Int32.toBitVec_inj.mp
  apply BitVec.eq_of_toNat_eq
  show (BitVec.ofInt 32 w).toNat = (BitVec.ofNat 32 _).toNat
  rw [BitVec.toNat_ofNat, BitVec.toNat_ofInt, p32, Nat.mod_eq_of_lt (by omega)]
theorem lN_iz {n : Nat} (h : n < 2 ^ 64) : (lN n).toInt = if n < 9223372036854775808 then (n : Int) else (n : Int) - 18446744073709551616 := by
  show (lN n).toBitVec.toInt = _
  rw [BitVec.toInt_eq_toNat_cond, wb_tn h]
  by_cases c : n < 9223372036854775808
  · rw [if_pos (by omega), if_pos c]
  · rw [if_neg (by omega), if_neg c, p64]
theorem nI_i {n : Nat} (h : n < 2147483648) : (nI n).toInt = (n : Int) := by
  show (BitVec.ofNat 32 n).toInt = _
  rw [BitVec.toInt_eq_toNat_cond, BitVec.toNat_ofNat, Nat.mod_eq_of_lt (by omega), if_pos (by omega)]
theorem nI_a {a b : Nat} (ha : a < 2 ^ 32) (hb : b < 2 ^ 32) : nI a &&& nI b = nI (a &&& b) := by
  apply Int32.toBitVec_inj.mp
  rw [Int32.toBitVec_and]
  apply BitVec.eq_of_toNat_eq
  show (BitVec.ofNat 32 a &&& BitVec.ofNat 32 b).toNat = (BitVec.ofNat 32 (a &&& b)).toNat
  rw [BitVec.toNat_and, BitVec.toNat_ofNat, BitVec.toNat_ofNat, BitVec.toNat_ofNat, Nat.mod_eq_of_lt ha, Nat.mod_eq_of_lt hb, Nat.mod_eq_of_lt (Nat.and_lt_two_pow _ hb)]
theorem lN_a {a b : Nat} (ha : a < 2 ^ 64) (hb : b < 2 ^ 64) : lN a &&& lN b = lN (a &&& b) := by
  apply wb_inj
  rw [Int64.toBitVec_and, wb_tb, wb_tb, wb_tb]
  apply BitVec.eq_of_toNat_eq
  rw [BitVec.toNat_and, BitVec.toNat_ofNat, BitVec.toNat_ofNat, BitVec.toNat_ofNat, Nat.mod_eq_of_lt ha, Nat.mod_eq_of_lt hb, Nat.mod_eq_of_lt (Nat.and_lt_two_pow _ hb)]
theorem an_32 {z : Int} {m : Nat} (hm : m < 31) : (Int32.ofInt z &&& Int32.ofInt ((2 ^ m - 1 : Nat) : Int)).toInt = z % ((2 ^ m : Nat) : Int) := by
  have hp : (2 ^ m : Nat) ∣ 2 ^ 32 := Nat.pow_dvd_pow 2 (by omega)
  have h1 : 1 ≤ (2 ^ m : Nat) := Nat.one_le_two_pow
  have h2 : (2 ^ m : Nat) ≤ 2 ^ 30 := Nat.pow_le_pow_right (by decide) (by omega)
  have e1 : Int32.ofInt ((2 ^ m - 1 : Nat) : Int) = nI (2 ^ m - 1) := by
    rw [i32_n]
    congr 1
    omega
  rw [e1, i32_n z, nI_a (by omega) (by omega), Nat.and_two_pow_sub_one_eq_mod, nI_i (by
    have := Nat.mod_lt (z % 4294967296).toNat (show 2 ^ m > 0 by omega)
    omega)]
  obtain ⟨q, hq⟩ := hp
  have e2 : (((z % 4294967296).toNat : Nat) : Int) = z % 4294967296 := by omega
  rw [Int.natCast_emod, e2]
  refine Int.emod_emod_of_dvd z ⟨(q : Int), ?_⟩
  rw [← Int.natCast_mul, ← hq]
  rfl
theorem an_255 {z : Int} : (Int32.ofInt z &&& Int32.ofInt 255).toInt = z % 256 := an_32 (m := 8) (by decide)
theorem an_63 {z : Int} : (Int32.ofInt z &&& Int32.ofInt 63).toInt = z % 64 := an_32 (m := 6) (by decide)
theorem al_255 {z : Int} : (Int64.ofInt z &&& Int64.ofInt 255).toInt = z % 256 := by
  have e1 : Int64.ofInt 255 = lN (2 ^ 8 - 1) := by decide
  rw [e1, i64_n z, lN_a (by omega) (by omega), Nat.and_two_pow_sub_one_eq_mod, lN_iz (by omega), if_pos (by omega)]
  omega
def byS (w : Int) (i : Nat) : Int := (((w % 18446744073709551616).toNat / 2 ^ (8 * i) % 256 : Nat) : Int)
theorem by_b {w : Int} {i : Nat} : 0 ≤ byS w i ∧ byS w i ≤ 255 := by
  unfold byS
  omega
theorem n8_i : ∀ i : Nat, i < 8 → Int32.ofInt (wr (8 * (i : Int))) = nI (8 * i) := by decide
theorem p8_i : ∀ i : Nat, i < 8 → (2 ^ (8 * i) : Nat) = 1 ∨ (2 ^ (8 * i) : Nat) = 256 ∨ (2 ^ (8 * i) : Nat) = 65536 ∨ (2 ^ (8 * i) : Nat) = 16777216 ∨ (2 ^ (8 * i) : Nat) = 4294967296 ∨ (2 ^ (8 * i) : Nat) = 1099511627776 ∨ (2 ^ (8 * i) : Nat) = 281474976710656 ∨ (2 ^ (8 * i) : Nat) = 72057594037927936 := by decide
theorem fd_c {w : Int} {i : Nat} (hi : i < 8) : (Int32.ofInt (wr (((Int64.ofInt w).toUInt64 >>> ((Int32.ofInt (wr (8 * (i : Int)))).toInt64.toUInt64 &&& Int64.toUInt64 63)).toInt64).toInt) &&& Int32.ofInt 255).toInt = byS w i := by
  have hn : (w % 18446744073709551616).toNat < 2 ^ 64 := by omega
  rw [n8_i i hi, i64_n w, wb_shr hn (by omega), ofInt_wr, an_255]
  unfold byS
  have hd : (w % 18446744073709551616).toNat / 2 ^ (8 * i) < 2 ^ 64 := Nat.lt_of_le_of_lt (Nat.div_le_self _ _) hn
  rw [lN_iz hd]
  generalize (w % 18446744073709551616).toNat / 2 ^ (8 * i) = m
  split <;> omega
theorem fd_m {w : Int} {i : Nat} (hw : in64 w) (hi : i < 8) : wr (Int64.ofInt ((Int64.ofInt w >>> ((Int32.ofInt (wr (8 * (i : Int)))).toInt64 &&& 63)).toInt) &&& Int64.ofInt 255).toInt = byS w i := by
  have e1 : (Int64.ofInt w >>> lN (8 * i)).toInt = w >>> (8 * i) := by
    have e : (Int64.ofInt w >>> lN (8 * i)).toInt = (Int64.ofInt w).toInt >>> (8 * i) := by
      have hD : ((lN (8 * i)).toBitVec.smod 64).toNat = 8 * i := by
        rw [wb_tb, wb_sm (8 * i) (by omega), BitVec.toNat_ofNat, Nat.mod_eq_of_lt (by omega)]
      have : (Int64.ofInt w >>> lN (8 * i)).toInt = (Int64.ofInt w).toInt >>> ((lN (8 * i)).toBitVec.smod 64).toNat := BitVec.toInt_sshiftRight ..
      rw [hD] at this
      exact this
    rw [e, toI64 hw]
  rw [n8_i i hi, wb_c _ (by omega), e1, al_255, Int.shiftRight_eq_div_pow, wr_of (by omega)]
  unfold byS
  unfold in64 at hw
  have hp := p8_i i hi
  generalize (2 ^ (8 * i) : Nat) = p at hp ⊢
  rcases hp with q | q | q | q | q | q | q | q <;> subst q <;> omega
def fdR (x : Row) (f : Nat) (w : Int) (n j : Nat) : Row := fun i => if f ≤ i ∧ i < f + j then byS w (n - 1 - (i - f)) else x i
theorem fd_0 {x : Row} {f n : Nat} {w : Int} : fdR x f w n 0 = x := by
  funext i
  unfold fdR
  rw [if_neg (by omega)]
theorem fd_s {x : Row} {f n j : Nat} {w : Int} : fset (fdR x f w n j) (f + j) (byS w (n - 1 - j)) = fdR x f w n (j + 1) := by
  funext i
  unfold fdR
  rw [fs_rd]
  by_cases c : i = f + j
  · rw [if_pos c, if_pos (by omega), c, show f + j - f = j by omega]
  · rw [if_neg c]
    by_cases c2 : f ≤ i ∧ i < f + j
    · rw [if_pos c2, if_pos (by omega)]
    · rw [if_neg c2, if_neg (by omega)]
theorem wr_n1 {n j : Nat} (h : j < n) (h2 : n ≤ 5000) : wr (((n - 1 - j : Nat) : Int) + -1) = (n : Int) - 1 - ((j + 1 : Nat) : Int) := by
  rw [wr_of (by omega)]
  omega
section
variable {L k : Nat} {s : Row} {d e : Dat} {P : Row} {R : RT}
theorem c_D_feed {w : Int} {n f : Nat} (hf : d 36 1 = (f : Int)) (hn : 1 ≤ n ∧ n ≤ 8) (h1 : f + n ≤ 160) (h : R (vI ((f + n : Nat) : Int)) (SH L) (rset (ups d 36 1 ((f + n : Nat) : Int)) 37 (fdR (d 37) f w n n))) : Cl (k + 9) 27 [vR 10, vL w, vI (n : Int)] (SH L) d R := by
  refine Cl_succ rfl ?_
  show Go (k + 8) 27 R 0 [vR 10, vL w, vU, vI (n : Int), vU] [] (SH L) d
  have key : Go (k + 8) 27 R 36 [vR 10, vL w, vU, vI (n : Int), vI ((n : Int) - 1 - ((0 : Nat) : Int))] [] (SH L) (rset (ups d 36 1 ((f + 0 : Nat) : Int)) 37 (d 37)) := by
    refine loop_up (G := fun j x => Go (k + 8) 27 R 36 [vR 10, vL w, vU, vI (n : Int), vI ((n : Int) - 1 - (j : Int))] [] (SH L) (rset (ups d 36 1 ((f + j : Nat) : Int)) 37 x)) (f := fun j x => fset x (f + j) (byS w (n - 1 - j))) (fun j x => x = fdR (d 37) f w n j) n (fun j hj x hx hG => ?_) fd_0.symm (fun hx => ?_)
    · have hG := hG (by rw [hx, fd_s])
      clear h hx
      have u1 : ∀ v : Int, ups (rset (ups d 36 1 ((f + j : Nat) : Int)) 37 x) 36 1 v = rset (ups d 36 1 v) 37 x := fun v => by
        unfold ups
        rw [rs_ne (by decide), rs_eq, rs_swap (a := 37) (by decide), rs_rs]
        congr 2
        funext i
        unfold fset
        grind
      have e0 : (n : Int) - 1 - (j : Int) = ((n - 1 - j : Nat) : Int) := by omega
      have e1 : rset (ups d 36 1 ((f + j : Nat) : Int)) 37 x 36 1 = ((f + j : Nat) : Int) := by
        rw [rs_ne (by decide), us_rd, if_pos rfl, if_pos rfl]
      have e2 : wr (((f + j : Nat) : Int) + 1) = ((f + (j + 1) : Nat) : Int) := wr_inc (by omega)
      have e3 := fd_c (w := w) (i := n - 1 - j) (by omega)
      have e4 := wr_n1 hj (by omega)
      rw [e0, s_D_feed_36]
      simp (disch := omega) only [s_D_feed_0, s_D_feed_1, s_D_feed_2, s_D_feed_4, s_D_feed_7, s_D_feed_10, s_D_feed_12, s_D_feed_13, s_D_feed_14, s_D_feed_17, s_D_feed_20, s_D_feed_21, s_D_feed_22, s_D_feed_25, s_D_feed_28, s_D_feed_30, s_D_feed_31, s_D_feed_32, s_D_feed_33, s_D_feed_34, s_D_feed_38, s_D_feed_41, s_D_feed_42, s_D_feed_45, s_D_feed_48, s_D_feed_49, s_D_feed_52, s_D_feed_53, s_D_feed_56, s_D_feed_57, s_D_feed_58, s_D_feed_59, s_D_feed_62, s_D_feed_63, s_D_feed_65, s_D_feed_67, s_D_feed_68, s_D_feed_69, s_D_feed_70, s_D_feed_73, s_D_feed_74, s_D_feed_75, s_D_feed_78, s_D_feed_81, s_D_feed_82, s_D_feed_85, s_D_feed_88, k_1, n_1, k_2, n_2, k_3, n_3, k_4, n_4, k_5, n_5, k_6, n_6, k_7, n_7, k_8, n_8, k_9, n_9, k_10, r_10_0, r_10_1, r_10_2, r_10_3, r_10_4, r_10_5, k_11, r_11_5, r_11_6, r_11_7, r_11_8, r_11_9, r_11_10, r_11_11, r_11_12, r_11_13, r_11_14, r_11_15, r_11_16, k_12, n_12, k_13, n_13, k_14, n_14, k_15, n_15, k_16, n_16, k_17, n_17, k_18, n_18, k_19, n_19, k_20, n_20, k_21, n_21, k_22, n_22, k_23, n_23, k_24, r_24_3, r_24_4, r_24_5, r_24_6, r_24_7, r_24_8, r_24_9, r_24_10, r_24_11, r_24_12, r_24_13, k_25, n_25, k_26, n_26, k_27, n_27, k_28, n_28, k_29, n_29, k_30, n_30, k_31, n_31, k_32, n_32, k_33, n_33, k_34, n_34, k_35, n_35, k_36, r_36_0, r_36_3, r_36_4, r_36_5, r_36_6, r_36_7, k_37, n_37, k_38, n_38, k_39, n_39, r_39_0, r_39_1, r_39_2, r_39_3, r_39_4, r_39_5, k_40, n_40, k_41, n_41, k_42, n_42, k_43, n_43, k_44, n_44, k_45, n_45, k_46, n_46, k_47, n_47, k_48, r_48_0, r_48_1, r_48_5, k_49, n_49, k_50, n_50, k_51, n_51, k_52, r_52_0, r_52_1, r_52_2, r_52_3, r_52_4, r_52_5, r_52_6, r_52_7, r_52_8, r_52_9, r_52_10, r_52_11, r_52_12, r_52_13, k_53, r_53_0, r_53_1, r_53_2, r_53_3, r_53_4, r_53_5, r_53_6, k_54, n_54, k_55, n_55, k_56, n_56, k_57, n_57, k_58, n_58, k_59, n_59, k_60, n_60, k_61, r_61_0, r_61_1, r_61_2, r_61_3, k_62, n_62, k_63, n_63, k_64, n_64, k_65, n_65, k_66, r_66_0, r_66_1, r_66_2, r_66_3, r_66_4, r_66_5, k_67, n_67, k_68, n_68, k_69, n_69, k_70, n_70, k_71, n_71, k_72, n_72, k_73, n_73, k_74, n_74, k_75, n_75, k_76, n_76, k_77, n_77, k_78, n_78, k_79, n_79, k_80, n_80, k_81, r_81_0, r_81_1, r_81_2, r_81_3, r_81_4, r_81_9, r_81_10, k_82, n_82, r_82_0, r_82_1, r_82_2, r_82_3, k_83, n_83, k_84, n_84, k_85, n_85, k_86, n_86, k_87, r_87_0, r_87_1, r_87_2, r_87_3, r_87_4, r_87_5, r_87_6, r_87_7, r_87_8, r_87_9, r_87_10, r_87_11, r_87_12, r_87_13, k_116, r_116_0, r_116_1, r_116_2, r_116_3, r_116_4, r_116_5, r_116_6, r_116_7, r_116_8, r_116_9, r_116_10, r_116_11, r_116_12, r_116_13, k_145, r_145_0, r_145_1, r_145_2, r_145_3, r_145_4, r_145_5, r_145_6, r_145_7, r_145_8, r_145_9, r_145_10, r_145_11, r_145_12, r_145_13, k_174, r_174_0, r_174_1, r_174_2, r_174_3, r_174_4, r_174_5, r_174_6, r_174_7, r_174_8, r_174_9, r_174_10, r_174_11, r_174_12, r_174_13, k_203, r_203_0, r_203_1, r_203_2, r_203_3, r_203_4, r_203_5, r_203_6, r_203_7, r_203_8, r_203_9, r_203_10, r_203_11, r_203_12, r_203_13, k_232, n_232, r_232_0, r_232_1, r_232_2, r_232_3, k_233, r_233_2, k_234, n_234, k_235, r_235_2, k_236, n_236, k_237, r_237_2, k_238, n_238, k_239, r_239_2, k_240, n_240, ld20, e1, e2, u1, e3, e4, ups_rs, le_T, lt_T, le_F, lt_F, Int.toNat_natCast, true_and, and_true, true_implies, false_implies, not_true_eq_false, not_false_eq_true, implies_true]
      clear e1 e2 e3 e4 u1 e0
      first | exact hG | grind
    · rw [← hx] at h
      clear hx
      generalize iterN _ n (d 37) = x at *
      have e1 : rset (ups d 36 1 ((f + n : Nat) : Int)) 37 x 36 1 = ((f + n : Nat) : Int) := by
        rw [rs_ne (by decide), us_rd, if_pos rfl, if_pos rfl]
      rw [s_D_feed_36]
      simp (disch := omega) only [s_D_feed_0, s_D_feed_1, s_D_feed_2, s_D_feed_4, s_D_feed_7, s_D_feed_10, s_D_feed_12, s_D_feed_13, s_D_feed_14, s_D_feed_17, s_D_feed_20, s_D_feed_21, s_D_feed_22, s_D_feed_25, s_D_feed_28, s_D_feed_30, s_D_feed_31, s_D_feed_32, s_D_feed_33, s_D_feed_34, s_D_feed_38, s_D_feed_41, s_D_feed_42, s_D_feed_45, s_D_feed_48, s_D_feed_49, s_D_feed_52, s_D_feed_53, s_D_feed_56, s_D_feed_57, s_D_feed_58, s_D_feed_59, s_D_feed_62, s_D_feed_63, s_D_feed_65, s_D_feed_67, s_D_feed_68, s_D_feed_69, s_D_feed_70, s_D_feed_73, s_D_feed_74, s_D_feed_75, s_D_feed_78, s_D_feed_81, s_D_feed_82, s_D_feed_85, s_D_feed_88, k_1, n_1, k_2, n_2, k_3, n_3, k_4, n_4, k_5, n_5, k_6, n_6, k_7, n_7, k_8, n_8, k_9, n_9, k_10, r_10_0, r_10_1, r_10_2, r_10_3, r_10_4, r_10_5, k_11, r_11_5, r_11_6, r_11_7, r_11_8, r_11_9, r_11_10, r_11_11, r_11_12, r_11_13, r_11_14, r_11_15, r_11_16, k_12, n_12, k_13, n_13, k_14, n_14, k_15, n_15, k_16, n_16, k_17, n_17, k_18, n_18, k_19, n_19, k_20, n_20, k_21, n_21, k_22, n_22, k_23, n_23, k_24, r_24_3, r_24_4, r_24_5, r_24_6, r_24_7, r_24_8, r_24_9, r_24_10, r_24_11, r_24_12, r_24_13, k_25, n_25, k_26, n_26, k_27, n_27, k_28, n_28, k_29, n_29, k_30, n_30, k_31, n_31, k_32, n_32, k_33, n_33, k_34, n_34, k_35, n_35, k_36, r_36_0, r_36_3, r_36_4, r_36_5, r_36_6, r_36_7, k_37, n_37, k_38, n_38, k_39, n_39, r_39_0, r_39_1, r_39_2, r_39_3, r_39_4, r_39_5, k_40, n_40, k_41, n_41, k_42, n_42, k_43, n_43, k_44, n_44, k_45, n_45, k_46, n_46, k_47, n_47, k_48, r_48_0, r_48_1, r_48_5, k_49, n_49, k_50, n_50, k_51, n_51, k_52, r_52_0, r_52_1, r_52_2, r_52_3, r_52_4, r_52_5, r_52_6, r_52_7, r_52_8, r_52_9, r_52_10, r_52_11, r_52_12, r_52_13, k_53, r_53_0, r_53_1, r_53_2, r_53_3, r_53_4, r_53_5, r_53_6, k_54, n_54, k_55, n_55, k_56, n_56, k_57, n_57, k_58, n_58, k_59, n_59, k_60, n_60, k_61, r_61_0, r_61_1, r_61_2, r_61_3, k_62, n_62, k_63, n_63, k_64, n_64, k_65, n_65, k_66, r_66_0, r_66_1, r_66_2, r_66_3, r_66_4, r_66_5, k_67, n_67, k_68, n_68, k_69, n_69, k_70, n_70, k_71, n_71, k_72, n_72, k_73, n_73, k_74, n_74, k_75, n_75, k_76, n_76, k_77, n_77, k_78, n_78, k_79, n_79, k_80, n_80, k_81, r_81_0, r_81_1, r_81_2, r_81_3, r_81_4, r_81_9, r_81_10, k_82, n_82, r_82_0, r_82_1, r_82_2, r_82_3, k_83, n_83, k_84, n_84, k_85, n_85, k_86, n_86, k_87, r_87_0, r_87_1, r_87_2, r_87_3, r_87_4, r_87_5, r_87_6, r_87_7, r_87_8, r_87_9, r_87_10, r_87_11, r_87_12, r_87_13, k_116, r_116_0, r_116_1, r_116_2, r_116_3, r_116_4, r_116_5, r_116_6, r_116_7, r_116_8, r_116_9, r_116_10, r_116_11, r_116_12, r_116_13, k_145, r_145_0, r_145_1, r_145_2, r_145_3, r_145_4, r_145_5, r_145_6, r_145_7, r_145_8, r_145_9, r_145_10, r_145_11, r_145_12, r_145_13, k_174, r_174_0, r_174_1, r_174_2, r_174_3, r_174_4, r_174_5, r_174_6, r_174_7, r_174_8, r_174_9, r_174_10, r_174_11, r_174_12, r_174_13, k_203, r_203_0, r_203_1, r_203_2, r_203_3, r_203_4, r_203_5, r_203_6, r_203_7, r_203_8, r_203_9, r_203_10, r_203_11, r_203_12, r_203_13, k_232, n_232, r_232_0, r_232_1, r_232_2, r_232_3, k_233, r_233_2, k_234, n_234, k_235, r_235_2, k_236, n_236, k_237, r_237_2, k_238, n_238, k_239, r_239_2, k_240, n_240, e1, le_T, lt_T, le_F, lt_F, true_and, and_true, true_implies, false_implies, not_true_eq_false, not_false_eq_true, implies_true]
      clear e1
      first | exact h | grind
  have d0 : rset (ups d 36 1 ((f + 0 : Nat) : Int)) 37 (d 37) = d := by
    rw [show ((f + 0 : Nat) : Int) = d 36 1 by rw [hf]; rfl]
    funext a j
    unfold rset ups rset fset
    grind
  rw [d0] at key
  have e2 : wr (d 36 1 + (n : Int)) = d 36 1 + (n : Int) := wr_of (by omega)
  have e3 : wr ((n : Int) - 1) = (n : Int) - 1 - ((0 : Nat) : Int) := by
    rw [wr_of (by omega)]
    omega
  revert e2 e3
  clear h d0
  intro e2 e3
  simp only [s_D_feed_0, s_D_feed_1, s_D_feed_2, s_D_feed_4, s_D_feed_7, s_D_feed_10, s_D_feed_12, s_D_feed_13, s_D_feed_14, s_D_feed_17, s_D_feed_20, s_D_feed_21, s_D_feed_22, s_D_feed_25, s_D_feed_28, s_D_feed_30, s_D_feed_31, s_D_feed_32, s_D_feed_33, s_D_feed_34, s_D_feed_38, s_D_feed_41, s_D_feed_42, s_D_feed_45, s_D_feed_48, s_D_feed_49, s_D_feed_52, s_D_feed_53, s_D_feed_56, s_D_feed_57, s_D_feed_58, s_D_feed_59, s_D_feed_62, s_D_feed_63, s_D_feed_65, s_D_feed_67, s_D_feed_68, s_D_feed_69, s_D_feed_70, s_D_feed_73, s_D_feed_74, s_D_feed_75, s_D_feed_78, s_D_feed_81, s_D_feed_82, s_D_feed_85, s_D_feed_88, c_D_within, k_1, n_1, k_2, n_2, k_3, n_3, k_4, n_4, k_5, n_5, k_6, n_6, k_7, n_7, k_8, n_8, k_9, n_9, k_10, r_10_0, r_10_1, r_10_2, r_10_3, r_10_4, r_10_5, k_11, r_11_5, r_11_6, r_11_7, r_11_8, r_11_9, r_11_10, r_11_11, r_11_12, r_11_13, r_11_14, r_11_15, r_11_16, k_12, n_12, k_13, n_13, k_14, n_14, k_15, n_15, k_16, n_16, k_17, n_17, k_18, n_18, k_19, n_19, k_20, n_20, k_21, n_21, k_22, n_22, k_23, n_23, k_24, r_24_3, r_24_4, r_24_5, r_24_6, r_24_7, r_24_8, r_24_9, r_24_10, r_24_11, r_24_12, r_24_13, k_25, n_25, k_26, n_26, k_27, n_27, k_28, n_28, k_29, n_29, k_30, n_30, k_31, n_31, k_32, n_32, k_33, n_33, k_34, n_34, k_35, n_35, k_36, r_36_0, r_36_3, r_36_4, r_36_5, r_36_6, r_36_7, k_37, n_37, k_38, n_38, k_39, n_39, r_39_0, r_39_1, r_39_2, r_39_3, r_39_4, r_39_5, k_40, n_40, k_41, n_41, k_42, n_42, k_43, n_43, k_44, n_44, k_45, n_45, k_46, n_46, k_47, n_47, k_48, r_48_0, r_48_1, r_48_5, k_49, n_49, k_50, n_50, k_51, n_51, k_52, r_52_0, r_52_1, r_52_2, r_52_3, r_52_4, r_52_5, r_52_6, r_52_7, r_52_8, r_52_9, r_52_10, r_52_11, r_52_12, r_52_13, k_53, r_53_0, r_53_1, r_53_2, r_53_3, r_53_4, r_53_5, r_53_6, k_54, n_54, k_55, n_55, k_56, n_56, k_57, n_57, k_58, n_58, k_59, n_59, k_60, n_60, k_61, r_61_0, r_61_1, r_61_2, r_61_3, k_62, n_62, k_63, n_63, k_64, n_64, k_65, n_65, k_66, r_66_0, r_66_1, r_66_2, r_66_3, r_66_4, r_66_5, k_67, n_67, k_68, n_68, k_69, n_69, k_70, n_70, k_71, n_71, k_72, n_72, k_73, n_73, k_74, n_74, k_75, n_75, k_76, n_76, k_77, n_77, k_78, n_78, k_79, n_79, k_80, n_80, k_81, r_81_0, r_81_1, r_81_2, r_81_3, r_81_4, r_81_9, r_81_10, k_82, n_82, r_82_0, r_82_1, r_82_2, r_82_3, k_83, n_83, k_84, n_84, k_85, n_85, k_86, n_86, k_87, r_87_0, r_87_1, r_87_2, r_87_3, r_87_4, r_87_5, r_87_6, r_87_7, r_87_8, r_87_9, r_87_10, r_87_11, r_87_12, r_87_13, k_116, r_116_0, r_116_1, r_116_2, r_116_3, r_116_4, r_116_5, r_116_6, r_116_7, r_116_8, r_116_9, r_116_10, r_116_11, r_116_12, r_116_13, k_145, r_145_0, r_145_1, r_145_2, r_145_3, r_145_4, r_145_5, r_145_6, r_145_7, r_145_8, r_145_9, r_145_10, r_145_11, r_145_12, r_145_13, k_174, r_174_0, r_174_1, r_174_2, r_174_3, r_174_4, r_174_5, r_174_6, r_174_7, r_174_8, r_174_9, r_174_10, r_174_11, r_174_12, r_174_13, k_203, r_203_0, r_203_1, r_203_2, r_203_3, r_203_4, r_203_5, r_203_6, r_203_7, r_203_8, r_203_9, r_203_10, r_203_11, r_203_12, r_203_13, k_232, n_232, r_232_0, r_232_1, r_232_2, r_232_3, k_233, r_233_2, k_234, n_234, k_235, r_235_2, k_236, n_236, k_237, r_237_2, k_238, n_238, k_239, r_239_2, k_240, n_240, e2, e3]
  clear e2 e3
  grind
theorem c_M_feed {w : Int} {n f : Nat} (hw : in64 w) (hf : d 241 35 = (f : Int)) (hn : 1 ≤ n ∧ n ≤ 8) (h1 : f + n ≤ 160) (h : R (vI ((f + n : Nat) : Int)) (SH L) (rset (ups d 241 35 ((f + n : Nat) : Int)) 267 (fdR (d 267) f w n n))) : Cl (k + 9) 101 [vR 241, vL w, vI (n : Int)] (SH L) d R := by
  refine Cl_succ rfl ?_
  show Go (k + 8) 101 R 0 [vR 241, vL w, vU, vI (n : Int), vU] [] (SH L) d
  have key : Go (k + 8) 101 R 33 [vR 241, vL w, vU, vI (n : Int), vI ((n : Int) - 1 - ((0 : Nat) : Int))] [] (SH L) (rset (ups d 241 35 ((f + 0 : Nat) : Int)) 267 (d 267)) := by
    refine loop_up (G := fun j x => Go (k + 8) 101 R 33 [vR 241, vL w, vU, vI (n : Int), vI ((n : Int) - 1 - (j : Int))] [] (SH L) (rset (ups d 241 35 ((f + j : Nat) : Int)) 267 x)) (f := fun j x => fset x (f + j) (byS w (n - 1 - j))) (fun j x => x = fdR (d 267) f w n j) n (fun j hj x hx hG => ?_) fd_0.symm (fun hx => ?_)
    · have hG := hG (by rw [hx, fd_s])
      clear h hx
      have u1 : ∀ v : Int, ups (rset (ups d 241 35 ((f + j : Nat) : Int)) 267 x) 241 35 v = rset (ups d 241 35 v) 267 x := fun v => by
        unfold ups
        rw [rs_ne (by decide), rs_eq, rs_swap (a := 267) (by decide), rs_rs]
        congr 2
        funext i
        unfold fset
        grind
      have e0 : (n : Int) - 1 - (j : Int) = ((n - 1 - j : Nat) : Int) := by omega
      have e1 : ∀ y, rset (ups d 241 35 ((f + j : Nat) : Int)) 267 y 241 35 = ((f + j : Nat) : Int) := fun y => by
        rw [rs_ne (by decide), us_rd, if_pos rfl, if_pos rfl]
      have u2 : ∀ v y : Int, True := fun _ _ => trivial
      have u3 : ∀ v y, ups (rset (ups d 241 35 ((f + j : Nat) : Int)) 267 y) 241 35 v = rset (ups d 241 35 v) 267 y := fun v y => by
        unfold ups
        rw [rs_ne (by decide), rs_eq, rs_swap (a := 267) (by decide), rs_rs]
        congr 2
        funext i
        unfold fset
        grind
      have e2 : wr (((f + j : Nat) : Int) + 1) = ((f + (j + 1) : Nat) : Int) := wr_inc (by omega)
      have e3 := fd_m (i := n - 1 - j) hw (by omega)
      have e4 := wr_n1 hj (by omega)
      rw [e0, s_M_feed_33]
      simp (disch := omega) only [s_M_feed_0, s_M_feed_1, s_M_feed_2, s_M_feed_4, s_M_feed_7, s_M_feed_10, s_M_feed_12, s_M_feed_13, s_M_feed_14, s_M_feed_17, s_M_feed_18, s_M_feed_19, s_M_feed_22, s_M_feed_25, s_M_feed_27, s_M_feed_28, s_M_feed_29, s_M_feed_30, s_M_feed_31, s_M_feed_35, s_M_feed_38, s_M_feed_39, s_M_feed_42, s_M_feed_43, s_M_feed_46, s_M_feed_47, s_M_feed_49, s_M_feed_51, s_M_feed_52, s_M_feed_53, s_M_feed_56, s_M_feed_57, s_M_feed_58, s_M_feed_59, s_M_feed_60, s_M_feed_61, s_M_feed_64, s_M_feed_65, s_M_feed_66, s_M_feed_69, s_M_feed_72, s_M_feed_75, s_M_feed_76, s_M_feed_79, k_1, n_1, k_241, r_241_0, r_241_2, r_241_4, r_241_5, r_241_6, r_241_7, r_241_9, r_241_10, r_241_11, r_241_12, r_241_14, r_241_15, r_241_16, r_241_19, r_241_20, r_241_22, r_241_23, r_241_24, r_241_25, r_241_27, r_241_28, r_241_29, r_241_30, r_241_31, r_241_33, r_241_34, r_241_37, r_241_38, r_241_39, r_241_40, r_241_41, r_241_42, r_241_43, r_241_44, r_241_49, r_241_50, r_241_54, k_242, n_242, k_243, n_243, k_244, n_244, k_245, n_245, k_246, n_246, k_247, n_247, k_248, n_248, k_249, n_249, k_250, n_250, k_251, n_251, k_252, n_252, k_253, n_253, k_254, n_254, k_255, n_255, k_256, n_256, k_257, n_257, k_258, n_258, k_259, n_259, k_260, n_260, k_261, n_261, k_262, n_262, k_263, n_263, k_264, n_264, k_265, n_265, k_266, n_266, k_267, n_267, k_268, n_268, k_269, n_269, k_270, n_270, k_271, n_271, k_272, n_272, k_273, n_273, k_274, n_274, k_275, n_275, k_276, n_276, k_277, n_277, k_278, n_278, ld20, e1, e2, u3, e3, e4, ups_rs, le_T, lt_T, le_F, lt_F, Int.toNat_natCast, true_and, and_true, true_implies, false_implies, not_true_eq_false, not_false_eq_true, implies_true]
      clear e1 e2 e3 e4 u1 u2 u3 e0
      first | exact hG | grind
    · rw [← hx] at h
      clear hx
      generalize iterN _ n (d 267) = x at *
      have e1 : rset (ups d 241 35 ((f + n : Nat) : Int)) 267 x 241 35 = ((f + n : Nat) : Int) := by
        rw [rs_ne (by decide), us_rd, if_pos rfl, if_pos rfl]
      rw [s_M_feed_33]
      simp (disch := omega) only [s_M_feed_0, s_M_feed_1, s_M_feed_2, s_M_feed_4, s_M_feed_7, s_M_feed_10, s_M_feed_12, s_M_feed_13, s_M_feed_14, s_M_feed_17, s_M_feed_18, s_M_feed_19, s_M_feed_22, s_M_feed_25, s_M_feed_27, s_M_feed_28, s_M_feed_29, s_M_feed_30, s_M_feed_31, s_M_feed_35, s_M_feed_38, s_M_feed_39, s_M_feed_42, s_M_feed_43, s_M_feed_46, s_M_feed_47, s_M_feed_49, s_M_feed_51, s_M_feed_52, s_M_feed_53, s_M_feed_56, s_M_feed_57, s_M_feed_58, s_M_feed_59, s_M_feed_60, s_M_feed_61, s_M_feed_64, s_M_feed_65, s_M_feed_66, s_M_feed_69, s_M_feed_72, s_M_feed_75, s_M_feed_76, s_M_feed_79, k_1, n_1, k_241, r_241_0, r_241_2, r_241_4, r_241_5, r_241_6, r_241_7, r_241_9, r_241_10, r_241_11, r_241_12, r_241_14, r_241_15, r_241_16, r_241_19, r_241_20, r_241_22, r_241_23, r_241_24, r_241_25, r_241_27, r_241_28, r_241_29, r_241_30, r_241_31, r_241_33, r_241_34, r_241_37, r_241_38, r_241_39, r_241_40, r_241_41, r_241_42, r_241_43, r_241_44, r_241_49, r_241_50, r_241_54, k_242, n_242, k_243, n_243, k_244, n_244, k_245, n_245, k_246, n_246, k_247, n_247, k_248, n_248, k_249, n_249, k_250, n_250, k_251, n_251, k_252, n_252, k_253, n_253, k_254, n_254, k_255, n_255, k_256, n_256, k_257, n_257, k_258, n_258, k_259, n_259, k_260, n_260, k_261, n_261, k_262, n_262, k_263, n_263, k_264, n_264, k_265, n_265, k_266, n_266, k_267, n_267, k_268, n_268, k_269, n_269, k_270, n_270, k_271, n_271, k_272, n_272, k_273, n_273, k_274, n_274, k_275, n_275, k_276, n_276, k_277, n_277, k_278, n_278, e1, le_T, lt_T, le_F, lt_F, true_and, and_true, true_implies, false_implies, not_true_eq_false, not_false_eq_true, implies_true]
      clear e1
      first | exact h | grind
  have d0 : rset (ups d 241 35 ((f + 0 : Nat) : Int)) 267 (d 267) = d := by
    rw [show ((f + 0 : Nat) : Int) = d 241 35 by rw [hf]; rfl]
    funext a j
    unfold rset ups rset fset
    grind
  rw [d0] at key
  have e2 : wr (d 241 35 + (n : Int)) = d 241 35 + (n : Int) := wr_of (by omega)
  have e3 : wr ((n : Int) - 1) = (n : Int) - 1 - ((0 : Nat) : Int) := by
    rw [wr_of (by omega)]
    omega
  revert e2 e3
  clear h d0
  intro e2 e3
  simp only [s_M_feed_0, s_M_feed_1, s_M_feed_2, s_M_feed_4, s_M_feed_7, s_M_feed_10, s_M_feed_12, s_M_feed_13, s_M_feed_14, s_M_feed_17, s_M_feed_18, s_M_feed_19, s_M_feed_22, s_M_feed_25, s_M_feed_27, s_M_feed_28, s_M_feed_29, s_M_feed_30, s_M_feed_31, s_M_feed_35, s_M_feed_38, s_M_feed_39, s_M_feed_42, s_M_feed_43, s_M_feed_46, s_M_feed_47, s_M_feed_49, s_M_feed_51, s_M_feed_52, s_M_feed_53, s_M_feed_56, s_M_feed_57, s_M_feed_58, s_M_feed_59, s_M_feed_60, s_M_feed_61, s_M_feed_64, s_M_feed_65, s_M_feed_66, s_M_feed_69, s_M_feed_72, s_M_feed_75, s_M_feed_76, s_M_feed_79, c_M_within, k_1, n_1, k_241, r_241_0, r_241_2, r_241_4, r_241_5, r_241_6, r_241_7, r_241_9, r_241_10, r_241_11, r_241_12, r_241_14, r_241_15, r_241_16, r_241_19, r_241_20, r_241_22, r_241_23, r_241_24, r_241_25, r_241_27, r_241_28, r_241_29, r_241_30, r_241_31, r_241_33, r_241_34, r_241_37, r_241_38, r_241_39, r_241_40, r_241_41, r_241_42, r_241_43, r_241_44, r_241_49, r_241_50, r_241_54, k_242, n_242, k_243, n_243, k_244, n_244, k_245, n_245, k_246, n_246, k_247, n_247, k_248, n_248, k_249, n_249, k_250, n_250, k_251, n_251, k_252, n_252, k_253, n_253, k_254, n_254, k_255, n_255, k_256, n_256, k_257, n_257, k_258, n_258, k_259, n_259, k_260, n_260, k_261, n_261, k_262, n_262, k_263, n_263, k_264, n_264, k_265, n_265, k_266, n_266, k_267, n_267, k_268, n_268, k_269, n_269, k_270, n_270, k_271, n_271, k_272, n_272, k_273, n_273, k_274, n_274, k_275, n_275, k_276, n_276, k_277, n_277, k_278, n_278, e2, e3]
  clear e2 e3
  grind
theorem ok_feed {w n : Int} (hw : in64 w) (h : HV s d) : Ok2 L (k + 9) 27 101 [vL w, vI n] s d := by
  obtain ⟨e, P, h⟩ := h
  have hX := h.2.2.2.2.2.2.2.2.2.2
  obtain ⟨x1, x2, x3⟩ := hX.2.1
  by_cases c : 1 ≤ n ∧ n ≤ 8
  · obtain ⟨n', rfl⟩ : ∃ p : Nat, n = (p : Int) := ⟨n.toNat, by omega⟩
    obtain ⟨f, hf⟩ : ∃ p : Nat, d 36 1 = (p : Int) := ⟨(d 36 1).toNat, by omega⟩
    by_cases c2 : f + n' ≤ 160
    · refine c_D_feed hf (by omega) c2 ⟨rfl, ?_, ⟨_, rfl⟩, ?_⟩
      · rw [rs_ne (by decide), ups_ne (by decide)]
        exact h.1
      generalize hD : rset (ups d 36 1 ((f + n' : Nat) : Int)) 37 (fdR (d 37) f w n' n') = D
      have g : ∀ a, ¬ a = 36 → ¬ a = 37 → D a = d a := fun a q1 q2 => by rw [← hD, rs_ne q2, ups_ne q1]
      have g37 : D 37 = fdR (d 37) f w n' n' := by rw [← hD, rs_eq]
      have g36 : D 36 = fset (d 36) 1 ((f + n' : Nat) : Int) := by rw [← hD, rs_ne (by decide), ups_same]
      clear hD
      refine c_M_feed hw (f := f) (by rw [g 241 (by decide) (by decide), x2, hf]) (by omega) c2 ⟨rfl, rfl, e, P, ?_⟩
      generalize hD : rset (ups D 241 35 ((f + n' : Nat) : Int)) 267 (fdR (D 267) f w n' n') = D2
      have q : ∀ a, ¬ a = 241 → ¬ a = 267 → D2 a = D a := fun a q1 q2 => by rw [← hD, rs_ne q2, ups_ne q1]
      have q267 : D2 267 = fdR (d 267) f w n' n' := by rw [← hD, rs_eq, g 267 (by decide) (by decide)]
      have q241 : D2 241 = fset (d 241) 35 ((f + n' : Nat) : Int) := by rw [← hD, rs_ne (by decide), ups_same, g 241 (by decide) (by decide)]
      clear hD
      refine HE_xs h (fun a ha => by rw [q a (by omega) (by omega), g a (by omega) (by omega)]) (by rw [q 36 (by decide) (by decide), g36, fs_ne (by decide)]) (fun i hi => by rw [q241, fs_ne (by omega)]) ?_
      unfold XS at hX ⊢
      have o : ∀ a, ¬ a = 36 → ¬ a = 37 → ¬ a = 241 → ¬ a = 267 → D2 a = d a := fun a a1 a2 a3 a4 => by rw [q a a3 a4, g a a1 a2]
      rw [o 8 (by decide) (by decide) (by decide) (by decide), o 9 (by decide) (by decide) (by decide) (by decide), o 276 (by decide) (by decide) (by decide) (by decide), q 36 (by decide) (by decide), g36, q 37 (by decide) (by decide), g37, q267, q241, o 271 (by decide) (by decide) (by decide) (by decide), o 272 (by decide) (by decide) (by decide) (by decide), o 273 (by decide) (by decide) (by decide) (by decide), o 81 (by decide) (by decide) (by decide) (by decide), o 86 (by decide) (by decide) (by decide) (by decide), o 266 (by decide) (by decide) (by decide) (by decide), fs_eq, fs_eq, fs_ne (by decide)]
      refine ⟨hX.1, ⟨by omega, rfl, fun i hi => ?_⟩, fun t ht => ?_, hX.2.2.2⟩
      · unfold fdR
        by_cases y : f ≤ i ∧ i < f + n'
        · rw [if_pos y, if_pos y]
          exact ⟨rfl, by_b⟩
        · rw [if_neg y, if_neg y]
          exact x3 i (by omega)
      · rw [o (233 + 2 * t) (by omega) (by omega) (by omega) (by omega), o (234 + 2 * t) (by omega) (by omega) (by omega) (by omega)]
        exact hX.2.2.1 t ht
    · have e2 : wr ((f : Int) + (n' : Int)) = (f : Int) + (n' : Int) := wr_of (by omega)
      refine ok_tell (n := -4) h (fun R => ?_) (fun R => ?_)
      · refine (Cl_iff rfl).trans ?_
        show Go (k + 8) 27 R 0 [vR 10, vL w, vU, vI (n' : Int), vU] [] (SH L) d ↔ _
        revert e2
        clear h hX x2 x3
        intro e2
        simp only [s_D_feed_0, s_D_feed_1, s_D_feed_2, s_D_feed_4, s_D_feed_7, s_D_feed_10, s_D_feed_12, s_D_feed_13, s_D_feed_14, s_D_feed_17, s_D_feed_20, s_D_feed_21, s_D_feed_22, s_D_feed_25, s_D_feed_28, s_D_feed_30, s_D_feed_32, s_D_feed_33, s_D_feed_34, s_D_feed_36, s_D_feed_38, s_D_feed_41, s_D_feed_42, s_D_feed_45, s_D_feed_48, s_D_feed_49, s_D_feed_52, s_D_feed_53, s_D_feed_56, s_D_feed_57, s_D_feed_58, s_D_feed_59, s_D_feed_62, s_D_feed_63, s_D_feed_65, s_D_feed_67, s_D_feed_68, s_D_feed_69, s_D_feed_70, s_D_feed_73, s_D_feed_74, s_D_feed_75, s_D_feed_78, s_D_feed_81, s_D_feed_82, s_D_feed_85, s_D_feed_88, c_D_within, k_1, n_1, k_2, n_2, k_3, n_3, k_4, n_4, k_5, n_5, k_6, n_6, k_7, n_7, k_8, n_8, k_9, n_9, k_10, r_10_0, r_10_1, r_10_2, r_10_3, r_10_4, r_10_5, k_11, r_11_5, r_11_6, r_11_7, r_11_8, r_11_9, r_11_10, r_11_11, r_11_12, r_11_13, r_11_14, r_11_15, r_11_16, k_12, n_12, k_13, n_13, k_14, n_14, k_15, n_15, k_16, n_16, k_17, n_17, k_18, n_18, k_19, n_19, k_20, n_20, k_21, n_21, k_22, n_22, k_23, n_23, k_24, r_24_3, r_24_4, r_24_5, r_24_6, r_24_7, r_24_8, r_24_9, r_24_10, r_24_11, r_24_12, r_24_13, k_25, n_25, k_26, n_26, k_27, n_27, k_28, n_28, k_29, n_29, k_30, n_30, k_31, n_31, k_32, n_32, k_33, n_33, k_34, n_34, k_35, n_35, k_36, r_36_0, r_36_3, r_36_4, r_36_5, r_36_6, r_36_7, k_37, n_37, k_38, n_38, k_39, n_39, r_39_0, r_39_1, r_39_2, r_39_3, r_39_4, r_39_5, k_40, n_40, k_41, n_41, k_42, n_42, k_43, n_43, k_44, n_44, k_45, n_45, k_46, n_46, k_47, n_47, k_48, r_48_0, r_48_1, r_48_5, k_49, n_49, k_50, n_50, k_51, n_51, k_52, r_52_0, r_52_1, r_52_2, r_52_3, r_52_4, r_52_5, r_52_6, r_52_7, r_52_8, r_52_9, r_52_10, r_52_11, r_52_12, r_52_13, k_53, r_53_0, r_53_1, r_53_2, r_53_3, r_53_4, r_53_5, r_53_6, k_54, n_54, k_55, n_55, k_56, n_56, k_57, n_57, k_58, n_58, k_59, n_59, k_60, n_60, k_61, r_61_0, r_61_1, r_61_2, r_61_3, k_62, n_62, k_63, n_63, k_64, n_64, k_65, n_65, k_66, r_66_0, r_66_1, r_66_2, r_66_3, r_66_4, r_66_5, k_67, n_67, k_68, n_68, k_69, n_69, k_70, n_70, k_71, n_71, k_72, n_72, k_73, n_73, k_74, n_74, k_75, n_75, k_76, n_76, k_77, n_77, k_78, n_78, k_79, n_79, k_80, n_80, k_81, r_81_0, r_81_1, r_81_2, r_81_3, r_81_4, r_81_9, r_81_10, k_82, n_82, r_82_0, r_82_1, r_82_2, r_82_3, k_83, n_83, k_84, n_84, k_85, n_85, k_86, n_86, k_87, r_87_0, r_87_1, r_87_2, r_87_3, r_87_4, r_87_5, r_87_6, r_87_7, r_87_8, r_87_9, r_87_10, r_87_11, r_87_12, r_87_13, k_116, r_116_0, r_116_1, r_116_2, r_116_3, r_116_4, r_116_5, r_116_6, r_116_7, r_116_8, r_116_9, r_116_10, r_116_11, r_116_12, r_116_13, k_145, r_145_0, r_145_1, r_145_2, r_145_3, r_145_4, r_145_5, r_145_6, r_145_7, r_145_8, r_145_9, r_145_10, r_145_11, r_145_12, r_145_13, k_174, r_174_0, r_174_1, r_174_2, r_174_3, r_174_4, r_174_5, r_174_6, r_174_7, r_174_8, r_174_9, r_174_10, r_174_11, r_174_12, r_174_13, k_203, r_203_0, r_203_1, r_203_2, r_203_3, r_203_4, r_203_5, r_203_6, r_203_7, r_203_8, r_203_9, r_203_10, r_203_11, r_203_12, r_203_13, k_232, n_232, r_232_0, r_232_1, r_232_2, r_232_3, k_233, r_233_2, k_234, n_234, k_235, r_235_2, k_236, n_236, k_237, r_237_2, k_238, n_238, k_239, r_239_2, k_240, n_240, hf, e2]
        clear e2
        grind
      · refine (Cl_iff rfl).trans ?_
        show Go (k + 8) 101 R 0 [vR 241, vL w, vU, vI (n' : Int), vU] [] (SH L) (rset d 242 P) ↔ _
        rw [hf] at x2
        revert e2
        clear h hX x3
        intro e2
        simp (disch := omega) only [s_M_feed_0, s_M_feed_1, s_M_feed_2, s_M_feed_4, s_M_feed_7, s_M_feed_10, s_M_feed_12, s_M_feed_13, s_M_feed_14, s_M_feed_17, s_M_feed_18, s_M_feed_19, s_M_feed_22, s_M_feed_25, s_M_feed_27, s_M_feed_29, s_M_feed_30, s_M_feed_31, s_M_feed_33, s_M_feed_35, s_M_feed_38, s_M_feed_39, s_M_feed_42, s_M_feed_43, s_M_feed_46, s_M_feed_47, s_M_feed_49, s_M_feed_51, s_M_feed_52, s_M_feed_53, s_M_feed_56, s_M_feed_57, s_M_feed_58, s_M_feed_59, s_M_feed_60, s_M_feed_61, s_M_feed_64, s_M_feed_65, s_M_feed_66, s_M_feed_69, s_M_feed_72, s_M_feed_75, s_M_feed_76, s_M_feed_79, c_M_within, k_1, n_1, k_241, r_241_0, r_241_2, r_241_4, r_241_5, r_241_6, r_241_7, r_241_9, r_241_10, r_241_11, r_241_12, r_241_14, r_241_15, r_241_16, r_241_19, r_241_20, r_241_22, r_241_23, r_241_24, r_241_25, r_241_27, r_241_28, r_241_29, r_241_30, r_241_31, r_241_33, r_241_34, r_241_37, r_241_38, r_241_39, r_241_40, r_241_41, r_241_42, r_241_43, r_241_44, r_241_49, r_241_50, r_241_54, k_242, n_242, k_243, n_243, k_244, n_244, k_245, n_245, k_246, n_246, k_247, n_247, k_248, n_248, k_249, n_249, k_250, n_250, k_251, n_251, k_252, n_252, k_253, n_253, k_254, n_254, k_255, n_255, k_256, n_256, k_257, n_257, k_258, n_258, k_259, n_259, k_260, n_260, k_261, n_261, k_262, n_262, k_263, n_263, k_264, n_264, k_265, n_265, k_266, n_266, k_267, n_267, k_268, n_268, k_269, n_269, k_270, n_270, k_271, n_271, k_272, n_272, k_273, n_273, k_274, n_274, k_275, n_275, k_276, n_276, k_277, n_277, k_278, n_278, rs_ne, x2, e2]
        clear e2
        grind
  · refine ok_tell (n := -2) h (fun R => ?_) (fun R => ?_)
    · refine (Cl_iff rfl).trans ?_
      show Go (k + 8) 27 R 0 [vR 10, vL w, vU, vI n, vU] [] (SH L) d ↔ _
      clear h hX x1 x2 x3
      simp only [s_D_feed_0, s_D_feed_1, s_D_feed_2, s_D_feed_4, s_D_feed_7, s_D_feed_10, s_D_feed_12, s_D_feed_14, s_D_feed_17, s_D_feed_20, s_D_feed_21, s_D_feed_22, s_D_feed_25, s_D_feed_28, s_D_feed_30, s_D_feed_31, s_D_feed_32, s_D_feed_33, s_D_feed_34, s_D_feed_36, s_D_feed_38, s_D_feed_41, s_D_feed_42, s_D_feed_45, s_D_feed_48, s_D_feed_49, s_D_feed_52, s_D_feed_53, s_D_feed_56, s_D_feed_57, s_D_feed_58, s_D_feed_59, s_D_feed_62, s_D_feed_63, s_D_feed_65, s_D_feed_67, s_D_feed_68, s_D_feed_69, s_D_feed_70, s_D_feed_73, s_D_feed_74, s_D_feed_75, s_D_feed_78, s_D_feed_81, s_D_feed_82, s_D_feed_85, s_D_feed_88, c_D_within]
      grind
    · refine (Cl_iff rfl).trans ?_
      show Go (k + 8) 101 R 0 [vR 241, vL w, vU, vI n, vU] [] (SH L) (rset d 242 P) ↔ _
      clear h hX x1 x2 x3
      simp only [s_M_feed_0, s_M_feed_1, s_M_feed_2, s_M_feed_4, s_M_feed_7, s_M_feed_10, s_M_feed_12, s_M_feed_14, s_M_feed_17, s_M_feed_18, s_M_feed_19, s_M_feed_22, s_M_feed_25, s_M_feed_27, s_M_feed_28, s_M_feed_29, s_M_feed_30, s_M_feed_31, s_M_feed_33, s_M_feed_35, s_M_feed_38, s_M_feed_39, s_M_feed_42, s_M_feed_43, s_M_feed_46, s_M_feed_47, s_M_feed_49, s_M_feed_51, s_M_feed_52, s_M_feed_53, s_M_feed_56, s_M_feed_57, s_M_feed_58, s_M_feed_59, s_M_feed_60, s_M_feed_61, s_M_feed_64, s_M_feed_65, s_M_feed_66, s_M_feed_69, s_M_feed_72, s_M_feed_75, s_M_feed_76, s_M_feed_79, c_M_within]
      grind
end
