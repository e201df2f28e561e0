/-! every op is what the code decodes to, and rests on the tables' words -/
def in32b (x : Int) : Bool := decide (-2147483648 ≤ x) && decide (x ≤ 2147483647)
def dI (a : Ins) (b : Ins) : Bool := decide (a = b)
def relI (y pc : Nat) (ri : Ins) (ln : Nat) (ins : Ins) : Bool := match ins with
  | .iload i => (dI ri (.iload i) && Nat.beq ln 2) || (dI ri (.iload_n (Fin.ofNat 4 i)) && (Nat.beq ln 1 && Nat.blt i 4))
  | .lload i => (dI ri (.lload i) && Nat.beq ln 2) || (dI ri (.lload_n (Fin.ofNat 4 i)) && (Nat.beq ln 1 && Nat.blt i 4))
  | .aload i => (dI ri (.aload i) && Nat.beq ln 2) || (dI ri (.aload_n (Fin.ofNat 4 i)) && (Nat.beq ln 1 && Nat.blt i 4))
  | .istore i => Nat.blt i (mxN y) && ((dI ri (.istore i) && Nat.beq ln 2) || (dI ri (.istore_n (Fin.ofNat 4 i)) && (Nat.beq ln 1 && Nat.blt i 4)))
  | .astore i => Nat.blt i (mxN y) && ((dI ri (.astore i) && Nat.beq ln 2) || (dI ri (.astore_n (Fin.ofNat 4 i)) && (Nat.beq ln 1 && Nat.blt i 4)))
  | .lstore i => (Nat.blt (i + 1) (mxN y) && (lgOf y).contains i) && ((dI ri (.lstore i) && Nat.beq ln 2) || (dI ri (.lstore_n (Fin.ofNat 4 i)) && (Nat.beq ln 1 && Nat.blt i 4)))
  | .iinc i n => dI ri (.iinc i n) && Nat.beq ln 3
  | .iconst v => decide (-2147483648 ≤ v ∧ v ≤ 2147483647) && ((dI ri (.iconst v) && Nat.beq ln 1) || ((dI ri (.bipush v) && (Nat.beq ln 2 && decide (-128 ≤ v ∧ v ≤ 127))) || ((dI ri (.sipush v) && (Nat.beq ln 3 && decide (-32768 ≤ v ∧ v ≤ 32767))) || conL.any (fun e => (Nat.beq e.1 (mCl y) && decide (e.2.2.1 = v)) && ((dI ri (.ldc e.2.1) && Nat.beq ln 2) || (dI ri (.ldc_w e.2.1) && Nat.beq ln 3))))))
  | .jsr v => decide (-9223372036854775808 ≤ v ∧ v ≤ 9223372036854775807) && ((dI ri (.lconst 0) && (Nat.beq ln 1 && decide (v = 0))) || ((dI ri (.lconst 1) && (Nat.beq ln 1 && decide (v = 1))) || lconL.any (fun e => (Nat.beq e.1 (mCl y) && decide (e.2.2.1 = v)) && (dI ri (.ldc2_w e.2.1) && Nat.beq ln 3))))
  | .ldc a => statL.any (fun e => (Nat.beq e.1 (mCl y) && (Nat.beq e.2.2.1 a && (Nat.ble 2 a && Nat.ble a 6))) && (dI ri (.getstatic e.2.1) && Nat.beq ln 3)) || strL.any (fun e => (Nat.beq e.1 (mCl y) && (Nat.beq e.2.2.1 a && (Nat.ble 7 a && Nat.ble a 9))) && (dI ri (.ldc e.2.1) && Nat.beq ln 2))
  | .goto t => dI ri (.goto (t - (pc : Int))) && (Nat.beq ln 3 && decide (0 ≤ t))
  | .if_icmp c t => dI ri (.if_icmp c (t - (pc : Int))) && (Nat.beq ln 3 && decide (0 ≤ t))
  | .ifCond c t => dI ri (.ifCond c (t - (pc : Int))) && (Nat.beq ln 3 && decide (0 ≤ t))
  | .lookupswitch df ps => ps.toList.all (fun q => decide (0 ≤ q.2)) && (decide (0 ≤ df) && (match ri with
    | .tableswitch dflt lo hi offs => decide ((pc : Int) + dflt = df) && (decide (ps.toList = (List.range offs.size).map (fun (i : Nat) => (lo + (i : Int), (pc : Int) + offs.getD i 0))) && decide ((offs.size : Int) = hi - lo + 1 ∧ in32b lo = true ∧ in32b hi = true))
    | .lookupswitch dflt qs => decide ((pc : Int) + dflt = df) && (decide (ps.toList = qs.toList.map (fun q => (q.1, (pc : Int) + q.2))) && (qs.toList.zip (qs.toList.drop 1)).all (fun (a, next) => a.1 < next.1))
    | _ => false))
  | .getfield n => fldL.any (fun e => (Nat.beq e.1 (mCl y) && Nat.beq e.2.2.1 n) && (dI ri (.getfield e.2.1) && Nat.beq ln 3))
  | .putfield n => fldL.any (fun e => (Nat.beq e.1 (mCl y) && Nat.beq e.2.2.1 n) && (dI ri (.putfield e.2.1) && Nat.beq ln 3)) && (!Nat.beq (n % 10) 2 || (mIni y && Nat.beq (n / 1000) (mCl y)))
  | .new n => newL.any (fun e => (Nat.beq e.1 (mCl y) && Nat.beq e.2.2.1 n) && (dI ri (.new e.2.1) && Nat.beq ln 3))
  | .anewarray n => (Nat.beq n 20 && (dI ri (.newarray .int) && Nat.beq ln 2)) || ((Nat.beq n 21 && (dI ri (.newarray .boolean) && Nat.beq ln 2)) || ((Nat.beq n 22 && (dI ri (.newarray .long) && Nat.beq ln 2)) || ((Nat.beq n 23 || Nat.beq n 24) && arrL.any (fun e => (Nat.beq e.1 (mCl y) && Nat.beq e.2.2.1 n) && (dI ri (.anewarray e.2.1) && Nat.beq ln 3)))))
  | .multianewarray _ _ => dI ri (.multianewarray 18 2) && (Nat.beq ln 4 && Nat.beq (mCl y) 9)
  | .invokestatic n => callL.any (fun e => (Nat.beq e.1 (mCl y) && Nat.beq e.2.2.1 n) && ((Nat.beq (e.2.2.2.1 % 3) 0 && Nat.blt e.2.2.2.1 6) && (dI ri (.invokestatic e.2.1) && Nat.beq ln 3)))
  | .invokeinterface n k => callL.any (fun e => (Nat.beq e.1 (mCl y) && Nat.beq e.2.2.1 n) && ((Nat.beq (e.2.2.2.1 % 3) 1 && Nat.blt e.2.2.2.1 6) && (dI ri (.invokevirtual e.2.1) && Nat.beq ln 3))) && Nat.beq k (mCl n)
  | .invokespecial n => callL.any (fun e => (Nat.beq e.1 (mCl y) && Nat.beq e.2.2.1 n) && ((Nat.beq (e.2.2.2.1 % 3) 2 && Nat.blt e.2.2.2.1 6) && (dI ri (.invokespecial e.2.1) && Nat.beq ln 3)))
  | .invokedynamic b => biL.any (fun e => (Nat.beq e.1 (mCl y) && Nat.beq e.2.2.1 b) && (Nat.beq ln 3 && dI ri (match b with
    | 0 => .invokespecial e.2.1
    | 5 => .invokevirtual e.2.1
    | 6 => .invokevirtual e.2.1
    | 7 => .invokevirtual e.2.1
    | _ => .invokestatic e.2.1)))
  | .ireturn => dI ri .ireturn && (Nat.beq ln 1 && decide (mRt y = some .int))
  | .freturn => dI ri .ireturn && (Nat.beq ln 1 && decide (mRt y = some .boolean))
  | .lreturn => dI ri .lreturn && (Nat.beq ln 1 && decide (mRt y = some .long))
  | .return_ => dI ri .return_ && (Nat.beq ln 1 && decide (mRt y = none))
  | i => dI ri i && Nat.beq ln 1
def chkI (y : Nat) (e : Nat × Ins × Nat) : Bool := match decode (mCd y) e.1 with
  | .ok (ri, ln) => (Nat.beq e.2.2 (e.1 + ln) || (match e.2.1 with
    | .goto _ => true
    | _ => false)) && relI y e.1 ri ln e.2.1
  | .error _ => false
theorem fnd_mem : ∀ (l : List (Nat × Ins × Nat)) {pc : Nat} {i : Ins} {n : Nat}, fnd l pc = some (i, n) → (pc, i, n) ∈ l
  | [], _, _, _, h => by cases h
  | (p, j, k) :: r, pc, i, n, h => by
    unfold fnd at h
    split at h
    · rename_i hb
      cases h
      rw [Nat.eq_of_beq_eq_true hb]
      exact List.mem_cons_self
    · exact List.mem_cons_of_mem _ (fnd_mem r h)
theorem chk_0 : (opsL.getD 0 []).all (chkI 0) = true := by decide +kernel
theorem chk_1 : (opsL.getD 1 []).all (chkI 1) = true := by decide +kernel
theorem chk_2 : (opsL.getD 2 []).all (chkI 2) = true := by decide +kernel
theorem chk_3 : (opsL.getD 3 []).all (chkI 3) = true := by decide +kernel
theorem chk_4 : (opsL.getD 4 []).all (chkI 4) = true := by decide +kernel
theorem chk_5 : (opsL.getD 5 []).all (chkI 5) = true := by decide +kernel
theorem chk_6 : (opsL.getD 6 []).all (chkI 6) = true := by decide +kernel
theorem chk_7 : (opsL.getD 7 []).all (chkI 7) = true := by decide +kernel
theorem chk_8 : (opsL.getD 8 []).all (chkI 8) = true := by decide +kernel
theorem chk_9 : (opsL.getD 9 []).all (chkI 9) = true := by decide +kernel
theorem chk_10 : (opsL.getD 10 []).all (chkI 10) = true := by decide +kernel
theorem chk_11 : (opsL.getD 11 []).all (chkI 11) = true := by decide +kernel
theorem chk_12 : (opsL.getD 12 []).all (chkI 12) = true := by decide +kernel
theorem chk_13 : (opsL.getD 13 []).all (chkI 13) = true := by decide +kernel
theorem chk_14 : (opsL.getD 14 []).all (chkI 14) = true := by decide +kernel
theorem chk_15 : (opsL.getD 15 []).all (chkI 15) = true := by decide +kernel
theorem chk_16 : (opsL.getD 16 []).all (chkI 16) = true := by decide +kernel
theorem chk_17 : (opsL.getD 17 []).all (chkI 17) = true := by decide +kernel
theorem chk_18 : (opsL.getD 18 []).all (chkI 18) = true := by decide +kernel
theorem chk_19 : (opsL.getD 19 []).all (chkI 19) = true := by decide +kernel
theorem chk_20 : (opsL.getD 20 []).all (chkI 20) = true := by decide +kernel
theorem chk_21 : (opsL.getD 21 []).all (chkI 21) = true := by decide +kernel
theorem chk_22 : (opsL.getD 22 []).all (chkI 22) = true := by decide +kernel
theorem chk_23 : (opsL.getD 23 []).all (chkI 23) = true := by decide +kernel
theorem chk_24 : (opsL.getD 24 []).all (chkI 24) = true := by decide +kernel
theorem chk_25 : (opsL.getD 25 []).all (chkI 25) = true := by decide +kernel
theorem chk_26 : (opsL.getD 26 []).all (chkI 26) = true := by decide +kernel
theorem chk_27 : (opsL.getD 27 []).all (chkI 27) = true := by decide +kernel
theorem chk_28 : (opsL.getD 28 []).all (chkI 28) = true := by decide +kernel
theorem chk_29 : (opsL.getD 29 []).all (chkI 29) = true := by decide +kernel
theorem chk_30 : (opsL.getD 30 []).all (chkI 30) = true := by decide +kernel
theorem chk_31 : (opsL.getD 31 []).all (chkI 31) = true := by decide +kernel
theorem chk_32 : (opsL.getD 32 []).all (chkI 32) = true := by decide +kernel
theorem chk_33 : (opsL.getD 33 []).all (chkI 33) = true := by decide +kernel
theorem chk_34 : (opsL.getD 34 []).all (chkI 34) = true := by decide +kernel
theorem chk_35 : (opsL.getD 35 []).all (chkI 35) = true := by decide +kernel
theorem chk_36 : (opsL.getD 36 []).all (chkI 36) = true := by decide +kernel
theorem chk_37 : (opsL.getD 37 []).all (chkI 37) = true := by decide +kernel
theorem chk_38 : (opsL.getD 38 []).all (chkI 38) = true := by decide +kernel
theorem chk_39 : (opsL.getD 39 []).all (chkI 39) = true := by decide +kernel
theorem chk_40 : (opsL.getD 40 []).all (chkI 40) = true := by decide +kernel
theorem chk_41 : (opsL.getD 41 []).all (chkI 41) = true := by decide +kernel
theorem chk_42 : (opsL.getD 42 []).all (chkI 42) = true := by decide +kernel
theorem chk_43 : (opsL.getD 43 []).all (chkI 43) = true := by decide +kernel
theorem chk_44 : (opsL.getD 44 []).all (chkI 44) = true := by decide +kernel
theorem chk_45 : (opsL.getD 45 []).all (chkI 45) = true := by decide +kernel
theorem chk_46 : (opsL.getD 46 []).all (chkI 46) = true := by decide +kernel
theorem chk_47 : (opsL.getD 47 []).all (chkI 47) = true := by decide +kernel
theorem chk_48 : (opsL.getD 48 []).all (chkI 48) = true := by decide +kernel
theorem chk_49 : (opsL.getD 49 []).all (chkI 49) = true := by decide +kernel
theorem chk_50 : (opsL.getD 50 []).all (chkI 50) = true := by decide +kernel
theorem chk_51 : (opsL.getD 51 []).all (chkI 51) = true := by decide +kernel
theorem chk_52 : (opsL.getD 52 []).all (chkI 52) = true := by decide +kernel
theorem chk_53 : (opsL.getD 53 []).all (chkI 53) = true := by decide +kernel
theorem chk_54 : (opsL.getD 54 []).all (chkI 54) = true := by decide +kernel
theorem chk_55 : (opsL.getD 55 []).all (chkI 55) = true := by decide +kernel
theorem chk_56 : (opsL.getD 56 []).all (chkI 56) = true := by decide +kernel
theorem chk_57 : (opsL.getD 57 []).all (chkI 57) = true := by decide +kernel
theorem chk_58 : (opsL.getD 58 []).all (chkI 58) = true := by decide +kernel
theorem chk_59 : (opsL.getD 59 []).all (chkI 59) = true := by decide +kernel
theorem chk_60 : (opsL.getD 60 []).all (chkI 60) = true := by decide +kernel
theorem chk_61 : (opsL.getD 61 []).all (chkI 61) = true := by decide +kernel
theorem chk_62 : (opsL.getD 62 []).all (chkI 62) = true := by decide +kernel
theorem chk_63 : (opsL.getD 63 []).all (chkI 63) = true := by decide +kernel
theorem chk_64 : (opsL.getD 64 []).all (chkI 64) = true := by decide +kernel
theorem chk_65 : (opsL.getD 65 []).all (chkI 65) = true := by decide +kernel
theorem chk_66 : (opsL.getD 66 []).all (chkI 66) = true := by decide +kernel
theorem chk_67 : (opsL.getD 67 []).all (chkI 67) = true := by decide +kernel
theorem chk_68 : (opsL.getD 68 []).all (chkI 68) = true := by decide +kernel
theorem chk_69 : (opsL.getD 69 []).all (chkI 69) = true := by decide +kernel
theorem chk_70 : (opsL.getD 70 []).all (chkI 70) = true := by decide +kernel
theorem chk_71 : (opsL.getD 71 []).all (chkI 71) = true := by decide +kernel
theorem chk_72 : (opsL.getD 72 []).all (chkI 72) = true := by decide +kernel
theorem chk_73 : (opsL.getD 73 []).all (chkI 73) = true := by decide +kernel
theorem chk_74 : (opsL.getD 74 []).all (chkI 74) = true := by decide +kernel
theorem chk_75 : (opsL.getD 75 []).all (chkI 75) = true := by decide +kernel
theorem chk_76 : (opsL.getD 76 []).all (chkI 76) = true := by decide +kernel
theorem chk_77 : (opsL.getD 77 []).all (chkI 77) = true := by decide +kernel
theorem chk_78 : (opsL.getD 78 []).all (chkI 78) = true := by decide +kernel
theorem chk_79 : (opsL.getD 79 []).all (chkI 79) = true := by decide +kernel
theorem chk_80 : (opsL.getD 80 []).all (chkI 80) = true := by decide +kernel
theorem chk_81 : (opsL.getD 81 []).all (chkI 81) = true := by decide +kernel
theorem chk_82 : (opsL.getD 82 []).all (chkI 82) = true := by decide +kernel
theorem chk_83 : (opsL.getD 83 []).all (chkI 83) = true := by decide +kernel
theorem chk_84 : (opsL.getD 84 []).all (chkI 84) = true := by decide +kernel
theorem chk_85 : (opsL.getD 85 []).all (chkI 85) = true := by decide +kernel
theorem chk_86 : (opsL.getD 86 []).all (chkI 86) = true := by decide +kernel
theorem chk_87 : (opsL.getD 87 []).all (chkI 87) = true := by decide +kernel
theorem chk_88 : (opsL.getD 88 []).all (chkI 88) = true := by decide +kernel
theorem chk_89 : (opsL.getD 89 []).all (chkI 89) = true := by decide +kernel
theorem chk_90 : (opsL.getD 90 []).all (chkI 90) = true := by decide +kernel
theorem chk_91 : (opsL.getD 91 []).all (chkI 91) = true := by decide +kernel
theorem chk_92 : (opsL.getD 92 []).all (chkI 92) = true := by decide +kernel
theorem chk_93 : (opsL.getD 93 []).all (chkI 93) = true := by decide +kernel
theorem chk_94 : (opsL.getD 94 []).all (chkI 94) = true := by decide +kernel
theorem chk_95 : (opsL.getD 95 []).all (chkI 95) = true := by decide +kernel
theorem chk_96 : (opsL.getD 96 []).all (chkI 96) = true := by decide +kernel
theorem chk_97 : (opsL.getD 97 []).all (chkI 97) = true := by decide +kernel
theorem chk_98 : (opsL.getD 98 []).all (chkI 98) = true := by decide +kernel
theorem chk_99 : (opsL.getD 99 []).all (chkI 99) = true := by decide +kernel
theorem chk_100 : (opsL.getD 100 []).all (chkI 100) = true := by decide +kernel
theorem chk_101 : (opsL.getD 101 []).all (chkI 101) = true := by decide +kernel
theorem chk_102 : (opsL.getD 102 []).all (chkI 102) = true := by decide +kernel
theorem chk_103 : (opsL.getD 103 []).all (chkI 103) = true := by decide +kernel
theorem chk_104 : (opsL.getD 104 []).all (chkI 104) = true := by decide +kernel
theorem chk_105 : (opsL.getD 105 []).all (chkI 105) = true := by decide +kernel
theorem chk_106 : (opsL.getD 106 []).all (chkI 106) = true := by decide +kernel
theorem chk_107 : (opsL.getD 107 []).all (chkI 107) = true := by decide +kernel
theorem chk_108 : (opsL.getD 108 []).all (chkI 108) = true := by decide +kernel
theorem chk_109 : (opsL.getD 109 []).all (chkI 109) = true := by decide +kernel
theorem chk_110 : (opsL.getD 110 []).all (chkI 110) = true := by decide +kernel
theorem chk_111 : (opsL.getD 111 []).all (chkI 111) = true := by decide +kernel
theorem chk_112 : (opsL.getD 112 []).all (chkI 112) = true := by decide +kernel
theorem chk_113 : (opsL.getD 113 []).all (chkI 113) = true := by decide +kernel
theorem chk_114 : (opsL.getD 114 []).all (chkI 114) = true := by decide +kernel
theorem chk_115 : (opsL.getD 115 []).all (chkI 115) = true := by decide +kernel
theorem chk_116 : (opsL.getD 116 []).all (chkI 116) = true := by decide +kernel
theorem chk_117 : (opsL.getD 117 []).all (chkI 117) = true := by decide +kernel
theorem chk_118 : (opsL.getD 118 []).all (chkI 118) = true := by decide +kernel
theorem chk_119 : (opsL.getD 119 []).all (chkI 119) = true := by decide +kernel
theorem chk_120 : (opsL.getD 120 []).all (chkI 120) = true := by decide +kernel
theorem chk_121 : (opsL.getD 121 []).all (chkI 121) = true := by decide +kernel
theorem chk_122 : (opsL.getD 122 []).all (chkI 122) = true := by decide +kernel
theorem chk_123 : (opsL.getD 123 []).all (chkI 123) = true := by decide +kernel
theorem chk_124 : (opsL.getD 124 []).all (chkI 124) = true := by decide +kernel
theorem chk_125 : (opsL.getD 125 []).all (chkI 125) = true := by decide +kernel
theorem chk_126 : (opsL.getD 126 []).all (chkI 126) = true := by decide +kernel
theorem chk_127 : (opsL.getD 127 []).all (chkI 127) = true := by decide +kernel
theorem chk_128 : (opsL.getD 128 []).all (chkI 128) = true := by decide +kernel
theorem chk_129 : (opsL.getD 129 []).all (chkI 129) = true := by decide +kernel
theorem chk_130 : (opsL.getD 130 []).all (chkI 130) = true := by decide +kernel
theorem chk_131 : (opsL.getD 131 []).all (chkI 131) = true := by decide +kernel
theorem chk_132 : (opsL.getD 132 []).all (chkI 132) = true := by decide +kernel
theorem chk_133 : (opsL.getD 133 []).all (chkI 133) = true := by decide +kernel
theorem chk_134 : (opsL.getD 134 []).all (chkI 134) = true := by decide +kernel
theorem chk_135 : (opsL.getD 135 []).all (chkI 135) = true := by decide +kernel
theorem chk_136 : (opsL.getD 136 []).all (chkI 136) = true := by decide +kernel
theorem chk_137 : (opsL.getD 137 []).all (chkI 137) = true := by decide +kernel
theorem chk_138 : (opsL.getD 138 []).all (chkI 138) = true := by decide +kernel
theorem chk_139 : (opsL.getD 139 []).all (chkI 139) = true := by decide +kernel
theorem chk_140 : (opsL.getD 140 []).all (chkI 140) = true := by decide +kernel
theorem chk_141 : (opsL.getD 141 []).all (chkI 141) = true := by decide +kernel
theorem chk_142 : (opsL.getD 142 []).all (chkI 142) = true := by decide +kernel
theorem chk_143 : (opsL.getD 143 []).all (chkI 143) = true := by decide +kernel
theorem chk_144 : (opsL.getD 144 []).all (chkI 144) = true := by decide +kernel
theorem chk_145 : (opsL.getD 145 []).all (chkI 145) = true := by decide +kernel
theorem chk_146 : (opsL.getD 146 []).all (chkI 146) = true := by decide +kernel
theorem chk_147 : (opsL.getD 147 []).all (chkI 147) = true := by decide +kernel
theorem chk_148 : (opsL.getD 148 []).all (chkI 148) = true := by decide +kernel
theorem chk_149 : (opsL.getD 149 []).all (chkI 149) = true := by decide +kernel
theorem chk_150 : (opsL.getD 150 []).all (chkI 150) = true := by decide +kernel
theorem chk_151 : (opsL.getD 151 []).all (chkI 151) = true := by decide +kernel
theorem chk_152 : (opsL.getD 152 []).all (chkI 152) = true := by decide +kernel
theorem chk_153 : (opsL.getD 153 []).all (chkI 153) = true := by decide +kernel
theorem chk_154 : (opsL.getD 154 []).all (chkI 154) = true := by decide +kernel
theorem chk_155 : (opsL.getD 155 []).all (chkI 155) = true := by decide +kernel
theorem chk_156 : (opsL.getD 156 []).all (chkI 156) = true := by decide +kernel
theorem chk_157 : (opsL.getD 157 []).all (chkI 157) = true := by decide +kernel
theorem chk_158 : (opsL.getD 158 []).all (chkI 158) = true := by decide +kernel
theorem chk_159 : (opsL.getD 159 []).all (chkI 159) = true := by decide +kernel
theorem chk_160 : (opsL.getD 160 []).all (chkI 160) = true := by decide +kernel
theorem chk_161 : (opsL.getD 161 []).all (chkI 161) = true := by decide +kernel
theorem chk_162 : (opsL.getD 162 []).all (chkI 162) = true := by decide +kernel
theorem chk_163 : (opsL.getD 163 []).all (chkI 163) = true := by decide +kernel
theorem chk_164 : (opsL.getD 164 []).all (chkI 164) = true := by decide +kernel
theorem chk_165 : (opsL.getD 165 []).all (chkI 165) = true := by decide +kernel
theorem chk_166 : (opsL.getD 166 []).all (chkI 166) = true := by decide +kernel
theorem chk_167 : (opsL.getD 167 []).all (chkI 167) = true := by decide +kernel
theorem chk_168 : (opsL.getD 168 []).all (chkI 168) = true := by decide +kernel
theorem chk_169 : (opsL.getD 169 []).all (chkI 169) = true := by decide +kernel
theorem chk_170 : (opsL.getD 170 []).all (chkI 170) = true := by decide +kernel
theorem chk_171 : (opsL.getD 171 []).all (chkI 171) = true := by decide +kernel
theorem chk_172 : (opsL.getD 172 []).all (chkI 172) = true := by decide +kernel
theorem chk_173 : (opsL.getD 173 []).all (chkI 173) = true := by decide +kernel
theorem chk_174 : (opsL.getD 174 []).all (chkI 174) = true := by decide +kernel
theorem chk_175 : (opsL.getD 175 []).all (chkI 175) = true := by decide +kernel
theorem chk_176 : (opsL.getD 176 []).all (chkI 176) = true := by decide +kernel
theorem chk_177 : (opsL.getD 177 []).all (chkI 177) = true := by decide +kernel
theorem chk_178 : (opsL.getD 178 []).all (chkI 178) = true := by decide +kernel
theorem chk_179 : (opsL.getD 179 []).all (chkI 179) = true := by decide +kernel
theorem chk_180 : (opsL.getD 180 []).all (chkI 180) = true := by decide +kernel
theorem chk_181 : (opsL.getD 181 []).all (chkI 181) = true := by decide +kernel
theorem chk_182 : (opsL.getD 182 []).all (chkI 182) = true := by decide +kernel
theorem chk_183 : (opsL.getD 183 []).all (chkI 183) = true := by decide +kernel
theorem chk_184 : (opsL.getD 184 []).all (chkI 184) = true := by decide +kernel
theorem chk_185 : (opsL.getD 185 []).all (chkI 185) = true := by decide +kernel
theorem chk_186 : (opsL.getD 186 []).all (chkI 186) = true := by decide +kernel
theorem chk_187 : (opsL.getD 187 []).all (chkI 187) = true := by decide +kernel
theorem chk_188 : (opsL.getD 188 []).all (chkI 188) = true := by decide +kernel
theorem chk_189 : (opsL.getD 189 []).all (chkI 189) = true := by decide +kernel
theorem chk_190 : (opsL.getD 190 []).all (chkI 190) = true := by decide +kernel
theorem chk_191 : (opsL.getD 191 []).all (chkI 191) = true := by decide +kernel
theorem chk_192 : (opsL.getD 192 []).all (chkI 192) = true := by decide +kernel
theorem chk_193 : (opsL.getD 193 []).all (chkI 193) = true := by decide +kernel
theorem chk_194 : (opsL.getD 194 []).all (chkI 194) = true := by decide +kernel
theorem chk_195 : (opsL.getD 195 []).all (chkI 195) = true := by decide +kernel
theorem chk_196 : (opsL.getD 196 []).all (chkI 196) = true := by decide +kernel
theorem chk_197 : (opsL.getD 197 []).all (chkI 197) = true := by decide +kernel
theorem chk_198 : (opsL.getD 198 []).all (chkI 198) = true := by decide +kernel
theorem chk_199 : (opsL.getD 199 []).all (chkI 199) = true := by decide +kernel
theorem chk_200 : (opsL.getD 200 []).all (chkI 200) = true := by decide +kernel
theorem chk_201 : (opsL.getD 201 []).all (chkI 201) = true := by decide +kernel
theorem chk_202 : (opsL.getD 202 []).all (chkI 202) = true := by decide +kernel
theorem chk_203 : (opsL.getD 203 []).all (chkI 203) = true := by decide +kernel
theorem chk_204 : (opsL.getD 204 []).all (chkI 204) = true := by decide +kernel
theorem chk_205 : (opsL.getD 205 []).all (chkI 205) = true := by decide +kernel
theorem chk_206 : (opsL.getD 206 []).all (chkI 206) = true := by decide +kernel
theorem chk_207 : (opsL.getD 207 []).all (chkI 207) = true := by decide +kernel
theorem chk_208 : (opsL.getD 208 []).all (chkI 208) = true := by decide +kernel
theorem chk_209 : (opsL.getD 209 []).all (chkI 209) = true := by decide +kernel
theorem chk_210 : (opsL.getD 210 []).all (chkI 210) = true := by decide +kernel
theorem chk_211 : (opsL.getD 211 []).all (chkI 211) = true := by decide +kernel
theorem chk_212_0 : (((opsL.getD 212 []).drop 0).take 150).all (chkI 212) = true := by decide +kernel
theorem chk_212_1 : (((opsL.getD 212 []).drop 150).take 150).all (chkI 212) = true := by decide +kernel
theorem chk_212_2 : (((opsL.getD 212 []).drop 300).take 150).all (chkI 212) = true := by decide +kernel
theorem chk_212_3 : (((opsL.getD 212 []).drop 450).take 150).all (chkI 212) = true := by decide +kernel
theorem chk_212_4 : (((opsL.getD 212 []).drop 600).take 150).all (chkI 212) = true := by decide +kernel
theorem chk_212_5 : (((opsL.getD 212 []).drop 750).take 150).all (chkI 212) = true := by decide +kernel
theorem chk_212_6 : (((opsL.getD 212 []).drop 900).take 150).all (chkI 212) = true := by decide +kernel
theorem chk_212_7 : (((opsL.getD 212 []).drop 1050).take 150).all (chkI 212) = true := by decide +kernel
theorem chk_212 : (opsL.getD 212 []).all (chkI 212) = true := by
  rw [show opsL.getD 212 [] = ((opsL.getD 212 []).drop 0).take 150 ++ (((opsL.getD 212 []).drop 150).take 150 ++ (((opsL.getD 212 []).drop 300).take 150 ++ (((opsL.getD 212 []).drop 450).take 150 ++ (((opsL.getD 212 []).drop 600).take 150 ++ (((opsL.getD 212 []).drop 750).take 150 ++ (((opsL.getD 212 []).drop 900).take 150 ++ (((opsL.getD 212 []).drop 1050).take 150))))))) from by decide +kernel]
  simp only [List.all_append, Bool.and_eq_true]
  exact ⟨chk_212_0, chk_212_1, chk_212_2, chk_212_3, chk_212_4, chk_212_5, chk_212_6, chk_212_7⟩
theorem chk_all {y : Nat} (h : y < 213) : (opsL.getD y []).all (chkI y) = true := by
  match y, h with
  | 0, _ => exact chk_0
  | 1, _ => exact chk_1
  | 2, _ => exact chk_2
  | 3, _ => exact chk_3
  | 4, _ => exact chk_4
  | 5, _ => exact chk_5
  | 6, _ => exact chk_6
  | 7, _ => exact chk_7
  | 8, _ => exact chk_8
  | 9, _ => exact chk_9
  | 10, _ => exact chk_10
  | 11, _ => exact chk_11
  | 12, _ => exact chk_12
  | 13, _ => exact chk_13
  | 14, _ => exact chk_14
  | 15, _ => exact chk_15
  | 16, _ => exact chk_16
  | 17, _ => exact chk_17
  | 18, _ => exact chk_18
  | 19, _ => exact chk_19
  | 20, _ => exact chk_20
  | 21, _ => exact chk_21
  | 22, _ => exact chk_22
  | 23, _ => exact chk_23
  | 24, _ => exact chk_24
  | 25, _ => exact chk_25
  | 26, _ => exact chk_26
  | 27, _ => exact chk_27
  | 28, _ => exact chk_28
  | 29, _ => exact chk_29
  | 30, _ => exact chk_30
  | 31, _ => exact chk_31
  | 32, _ => exact chk_32
  | 33, _ => exact chk_33
  | 34, _ => exact chk_34
  | 35, _ => exact chk_35
  | 36, _ => exact chk_36
  | 37, _ => exact chk_37
  | 38, _ => exact chk_38
  | 39, _ => exact chk_39
  | 40, _ => exact chk_40
  | 41, _ => exact chk_41
  | 42, _ => exact chk_42
  | 43, _ => exact chk_43
  | 44, _ => exact chk_44
  | 45, _ => exact chk_45
  | 46, _ => exact chk_46
  | 47, _ => exact chk_47
  | 48, _ => exact chk_48
  | 49, _ => exact chk_49
  | 50, _ => exact chk_50
  | 51, _ => exact chk_51
  | 52, _ => exact chk_52
  | 53, _ => exact chk_53
  | 54, _ => exact chk_54
  | 55, _ => exact chk_55
  | 56, _ => exact chk_56
  | 57, _ => exact chk_57
  | 58, _ => exact chk_58
  | 59, _ => exact chk_59
  | 60, _ => exact chk_60
  | 61, _ => exact chk_61
  | 62, _ => exact chk_62
  | 63, _ => exact chk_63
  | 64, _ => exact chk_64
  | 65, _ => exact chk_65
  | 66, _ => exact chk_66
  | 67, _ => exact chk_67
  | 68, _ => exact chk_68
  | 69, _ => exact chk_69
  | 70, _ => exact chk_70
  | 71, _ => exact chk_71
  | 72, _ => exact chk_72
  | 73, _ => exact chk_73
  | 74, _ => exact chk_74
  | 75, _ => exact chk_75
  | 76, _ => exact chk_76
  | 77, _ => exact chk_77
  | 78, _ => exact chk_78
  | 79, _ => exact chk_79
  | 80, _ => exact chk_80
  | 81, _ => exact chk_81
  | 82, _ => exact chk_82
  | 83, _ => exact chk_83
  | 84, _ => exact chk_84
  | 85, _ => exact chk_85
  | 86, _ => exact chk_86
  | 87, _ => exact chk_87
  | 88, _ => exact chk_88
  | 89, _ => exact chk_89
  | 90, _ => exact chk_90
  | 91, _ => exact chk_91
  | 92, _ => exact chk_92
  | 93, _ => exact chk_93
  | 94, _ => exact chk_94
  | 95, _ => exact chk_95
  | 96, _ => exact chk_96
  | 97, _ => exact chk_97
  | 98, _ => exact chk_98
  | 99, _ => exact chk_99
  | 100, _ => exact chk_100
  | 101, _ => exact chk_101
  | 102, _ => exact chk_102
  | 103, _ => exact chk_103
  | 104, _ => exact chk_104
  | 105, _ => exact chk_105
  | 106, _ => exact chk_106
  | 107, _ => exact chk_107
  | 108, _ => exact chk_108
  | 109, _ => exact chk_109
  | 110, _ => exact chk_110
  | 111, _ => exact chk_111
  | 112, _ => exact chk_112
  | 113, _ => exact chk_113
  | 114, _ => exact chk_114
  | 115, _ => exact chk_115
  | 116, _ => exact chk_116
  | 117, _ => exact chk_117
  | 118, _ => exact chk_118
  | 119, _ => exact chk_119
  | 120, _ => exact chk_120
  | 121, _ => exact chk_121
  | 122, _ => exact chk_122
  | 123, _ => exact chk_123
  | 124, _ => exact chk_124
  | 125, _ => exact chk_125
  | 126, _ => exact chk_126
  | 127, _ => exact chk_127
  | 128, _ => exact chk_128
  | 129, _ => exact chk_129
  | 130, _ => exact chk_130
  | 131, _ => exact chk_131
  | 132, _ => exact chk_132
  | 133, _ => exact chk_133
  | 134, _ => exact chk_134
  | 135, _ => exact chk_135
  | 136, _ => exact chk_136
  | 137, _ => exact chk_137
  | 138, _ => exact chk_138
  | 139, _ => exact chk_139
  | 140, _ => exact chk_140
  | 141, _ => exact chk_141
  | 142, _ => exact chk_142
  | 143, _ => exact chk_143
  | 144, _ => exact chk_144
  | 145, _ => exact chk_145
  | 146, _ => exact chk_146
  | 147, _ => exact chk_147
  | 148, _ => exact chk_148
  | 149, _ => exact chk_149
  | 150, _ => exact chk_150
  | 151, _ => exact chk_151
  | 152, _ => exact chk_152
  | 153, _ => exact chk_153
  | 154, _ => exact chk_154
  | 155, _ => exact chk_155
  | 156, _ => exact chk_156
  | 157, _ => exact chk_157
  | 158, _ => exact chk_158
  | 159, _ => exact chk_159
  | 160, _ => exact chk_160
  | 161, _ => exact chk_161
  | 162, _ => exact chk_162
  | 163, _ => exact chk_163
  | 164, _ => exact chk_164
  | 165, _ => exact chk_165
  | 166, _ => exact chk_166
  | 167, _ => exact chk_167
  | 168, _ => exact chk_168
  | 169, _ => exact chk_169
  | 170, _ => exact chk_170
  | 171, _ => exact chk_171
  | 172, _ => exact chk_172
  | 173, _ => exact chk_173
  | 174, _ => exact chk_174
  | 175, _ => exact chk_175
  | 176, _ => exact chk_176
  | 177, _ => exact chk_177
  | 178, _ => exact chk_178
  | 179, _ => exact chk_179
  | 180, _ => exact chk_180
  | 181, _ => exact chk_181
  | 182, _ => exact chk_182
  | 183, _ => exact chk_183
  | 184, _ => exact chk_184
  | 185, _ => exact chk_185
  | 186, _ => exact chk_186
  | 187, _ => exact chk_187
  | 188, _ => exact chk_188
  | 189, _ => exact chk_189
  | 190, _ => exact chk_190
  | 191, _ => exact chk_191
  | 192, _ => exact chk_192
  | 193, _ => exact chk_193
  | 194, _ => exact chk_194
  | 195, _ => exact chk_195
  | 196, _ => exact chk_196
  | 197, _ => exact chk_197
  | 198, _ => exact chk_198
  | 199, _ => exact chk_199
  | 200, _ => exact chk_200
  | 201, _ => exact chk_201
  | 202, _ => exact chk_202
  | 203, _ => exact chk_203
  | 204, _ => exact chk_204
  | 205, _ => exact chk_205
  | 206, _ => exact chk_206
  | 207, _ => exact chk_207
  | 208, _ => exact chk_208
  | 209, _ => exact chk_209
  | 210, _ => exact chk_210
  | 211, _ => exact chk_211
  | 212, _ => exact chk_212
  | y + 213, h => exact absurd h (by omega)
theorem chk_of {y pc nx : Nat} {ins : Ins} (h : opAt y pc = some (ins, nx)) : ∃ (ri : Ins) (ln : Nat), decode (mCd y) pc = .ok (ri, ln) ∧ (nx = pc + ln ∨ ∃ t, ins = .goto t) ∧ relI y pc ri ln ins = true := by
  have hm := fnd_mem _ h
  have hy : y < 213 := by
    rcases Nat.lt_or_ge y 213 with q | q
    · exact q
    · rw [List.getD_eq_getElem?_getD, List.getElem?_eq_none (by have e : opsL.length = 213 := rfl; omega)] at hm
      cases hm
  have hc := List.all_eq_true.mp (chk_all hy) _ hm
  unfold chkI at hc
  split at hc
  · rename_i ri ln hd
    rw [Bool.and_eq_true] at hc
    refine ⟨ri, ln, hd, ?_, hc.2⟩
    rcases Bool.or_eq_true_iff.mp hc.1 with q | q
    · exact Or.inl (Nat.eq_of_beq_eq_true q)
    · right
      revert q
      cases ins <;> intro q <;> first | exact ⟨_, rfl⟩ | cases q
  · cases hc
