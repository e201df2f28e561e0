/-! printed by wip/whole/gen4.py -/
theorem mok_0 : ∀ y, y < 20 → mOK (y + 0) = true := by decide +kernel
theorem mok_1 : ∀ y, y < 20 → mOK (y + 20) = true := by decide +kernel
theorem mok_2 : ∀ y, y < 20 → mOK (y + 40) = true := by decide +kernel
theorem mok_3 : ∀ y, y < 20 → mOK (y + 60) = true := by decide +kernel
theorem mok_4 : ∀ y, y < 20 → mOK (y + 80) = true := by decide +kernel
theorem mok_5 : ∀ y, y < 20 → mOK (y + 100) = true := by decide +kernel
theorem mok_6 : ∀ y, y < 20 → mOK (y + 120) = true := by decide +kernel
theorem mok_7 : ∀ y, y < 20 → mOK (y + 140) = true := by decide +kernel
theorem mok_8 : ∀ y, y < 20 → mOK (y + 160) = true := by decide +kernel
theorem mok_9 : ∀ y, y < 20 → mOK (y + 180) = true := by decide +kernel
theorem mok_10 : ∀ y, y < 12 → mOK (y + 200) = true := by decide +kernel
theorem mok {y : Nat} (h : y < 212) : mOK y = true := by
  by_cases h0 : y < 20
  · have q := mok_0 (y - 0) (by omega)
    rwa [show y - 0 + 0 = y by omega] at q
  by_cases h1 : y < 40
  · have q := mok_1 (y - 20) (by omega)
    rwa [show y - 20 + 20 = y by omega] at q
  by_cases h2 : y < 60
  · have q := mok_2 (y - 40) (by omega)
    rwa [show y - 40 + 40 = y by omega] at q
  by_cases h3 : y < 80
  · have q := mok_3 (y - 60) (by omega)
    rwa [show y - 60 + 60 = y by omega] at q
  by_cases h4 : y < 100
  · have q := mok_4 (y - 80) (by omega)
    rwa [show y - 80 + 80 = y by omega] at q
  by_cases h5 : y < 120
  · have q := mok_5 (y - 100) (by omega)
    rwa [show y - 100 + 100 = y by omega] at q
  by_cases h6 : y < 140
  · have q := mok_6 (y - 120) (by omega)
    rwa [show y - 120 + 120 = y by omega] at q
  by_cases h7 : y < 160
  · have q := mok_7 (y - 140) (by omega)
    rwa [show y - 140 + 140 = y by omega] at q
  by_cases h8 : y < 180
  · have q := mok_8 (y - 160) (by omega)
    rwa [show y - 160 + 160 = y by omega] at q
  by_cases h9 : y < 200
  · have q := mok_9 (y - 180) (by omega)
    rwa [show y - 180 + 180 = y by omega] at q
  by_cases h10 : y < 212
  · have q := mok_10 (y - 200) (by omega)
    rwa [show y - 200 + 200 = y by omega] at q
  exact absurd h (by omega)
set_option maxRecDepth 100000 in
theorem mcd_0 : lw_tbl[95]? = some (.code (mNm 0) (mCd 0) (mxN 0) (mRt 0)) := rfl
set_option maxRecDepth 100000 in
theorem mcd_1 : lw_tbl[769]? = some (.code (mNm 1) (mCd 1) (mxN 1) (mRt 1)) := rfl
set_option maxRecDepth 100000 in
theorem mcd_2 : lw_tbl[774]? = some (.code (mNm 2) (mCd 2) (mxN 2) (mRt 2)) := rfl
set_option maxRecDepth 100000 in
theorem mcd_3 : lw_tbl[781]? = some (.code (mNm 3) (mCd 3) (mxN 3) (mRt 3)) := rfl
set_option maxRecDepth 100000 in
theorem mcd_4 : lw_tbl[785]? = some (.code (mNm 4) (mCd 4) (mxN 4) (mRt 4)) := rfl
set_option maxRecDepth 100000 in
theorem mcd_5 : lw_tbl[789]? = some (.code (mNm 5) (mCd 5) (mxN 5) (mRt 5)) := rfl
set_option maxRecDepth 100000 in
theorem mcd_6 : lw_tbl[793]? = some (.code (mNm 6) (mCd 6) (mxN 6) (mRt 6)) := rfl
set_option maxRecDepth 100000 in
theorem mcd_7 : lw_tbl[797]? = some (.code (mNm 7) (mCd 7) (mxN 7) (mRt 7)) := rfl
set_option maxRecDepth 100000 in
theorem mcd_8 : lw_tbl[825]? = some (.code (mNm 8) (mCd 8) (mxN 8) (mRt 8)) := rfl
set_option maxRecDepth 100000 in
theorem mcd_9 : lw_tbl[887]? = some (.code (mNm 9) (mCd 9) (mxN 9) (mRt 9)) := rfl
set_option maxRecDepth 100000 in
theorem mcd_10 : lw_tbl[892]? = some (.code (mNm 10) (mCd 10) (mxN 10) (mRt 10)) := rfl
set_option maxRecDepth 100000 in
theorem mcd_11 : lw_tbl[900]? = some (.code (mNm 11) (mCd 11) (mxN 11) (mRt 11)) := rfl
set_option maxRecDepth 100000 in
theorem mcd_12 : lw_tbl[1008]? = some (.code (mNm 12) (mCd 12) (mxN 12) (mRt 12)) := rfl
set_option maxRecDepth 100000 in
theorem mcd_13 : lw_tbl[1014]? = some (.code (mNm 13) (mCd 13) (mxN 13) (mRt 13)) := rfl
set_option maxRecDepth 100000 in
theorem mcd_14 : lw_tbl[1018]? = some (.code (mNm 14) (mCd 14) (mxN 14) (mRt 14)) := rfl
set_option maxRecDepth 100000 in
theorem mcd_15 : lw_tbl[1023]? = some (.code (mNm 15) (mCd 15) (mxN 15) (mRt 15)) := rfl
set_option maxRecDepth 100000 in
theorem mcd_16 : lw_tbl[1027]? = some (.code (mNm 16) (mCd 16) (mxN 16) (mRt 16)) := rfl
set_option maxRecDepth 100000 in
theorem mcd_17 : lw_tbl[1031]? = some (.code (mNm 17) (mCd 17) (mxN 17) (mRt 17)) := rfl
set_option maxRecDepth 100000 in
theorem mcd_18 : lw_tbl[1036]? = some (.code (mNm 18) (mCd 18) (mxN 18) (mRt 18)) := rfl
set_option maxRecDepth 100000 in
theorem mcd_19 : lw_tbl[1040]? = some (.code (mNm 19) (mCd 19) (mxN 19) (mRt 19)) := rfl
set_option maxRecDepth 100000 in
theorem mcd_20 : lw_tbl[1044]? = some (.code (mNm 20) (mCd 20) (mxN 20) (mRt 20)) := rfl
set_option maxRecDepth 100000 in
theorem mcd_21 : lw_tbl[1052]? = some (.code (mNm 21) (mCd 21) (mxN 21) (mRt 21)) := rfl
set_option maxRecDepth 100000 in
theorem mcd_22 : lw_tbl[1056]? = some (.code (mNm 22) (mCd 22) (mxN 22) (mRt 22)) := rfl
set_option maxRecDepth 100000 in
theorem mcd_23 : lw_tbl[1060]? = some (.code (mNm 23) (mCd 23) (mxN 23) (mRt 23)) := rfl
set_option maxRecDepth 100000 in
theorem mcd_24 : lw_tbl[1065]? = some (.code (mNm 24) (mCd 24) (mxN 24) (mRt 24)) := rfl
set_option maxRecDepth 100000 in
theorem mcd_25 : lw_tbl[1123]? = some (.code (mNm 25) (mCd 25) (mxN 25) (mRt 25)) := rfl
set_option maxRecDepth 100000 in
theorem mcd_26 : lw_tbl[1127]? = some (.code (mNm 26) (mCd 26) (mxN 26) (mRt 26)) := rfl
set_option maxRecDepth 100000 in
theorem mcd_27 : lw_tbl[1137]? = some (.code (mNm 27) (mCd 27) (mxN 27) (mRt 27)) := rfl
set_option maxRecDepth 100000 in
theorem mcd_28 : lw_tbl[1141]? = some (.code (mNm 28) (mCd 28) (mxN 28) (mRt 28)) := rfl
set_option maxRecDepth 100000 in
theorem mcd_29 : lw_tbl[1145]? = some (.code (mNm 29) (mCd 29) (mxN 29) (mRt 29)) := rfl
set_option maxRecDepth 100000 in
theorem mcd_30 : lw_tbl[1149]? = some (.code (mNm 30) (mCd 30) (mxN 30) (mRt 30)) := rfl
set_option maxRecDepth 100000 in
theorem mcd_31 : lw_tbl[1157]? = some (.code (mNm 31) (mCd 31) (mxN 31) (mRt 31)) := rfl
set_option maxRecDepth 100000 in
theorem mcd_32 : lw_tbl[1170]? = some (.code (mNm 32) (mCd 32) (mxN 32) (mRt 32)) := rfl
set_option maxRecDepth 100000 in
theorem mcd_33 : lw_tbl[1175]? = some (.code (mNm 33) (mCd 33) (mxN 33) (mRt 33)) := rfl
set_option maxRecDepth 100000 in
theorem mcd_34 : lw_tbl[1180]? = some (.code (mNm 34) (mCd 34) (mxN 34) (mRt 34)) := rfl
set_option maxRecDepth 100000 in
theorem mcd_35 : lw_tbl[637]? = some (.code (mNm 35) (mCd 35) (mxN 35) (mRt 35)) := rfl
set_option maxRecDepth 100000 in
theorem mcd_36 : lw_tbl[777]? = some (.code (mNm 36) (mCd 36) (mxN 36) (mRt 36)) := rfl
set_option maxRecDepth 100000 in
theorem mcd_37 : lw_tbl[1190]? = some (.code (mNm 37) (mCd 37) (mxN 37) (mRt 37)) := rfl
set_option maxRecDepth 100000 in
theorem mcd_38 : lw_tbl[1376]? = some (.code (mNm 38) (mCd 38) (mxN 38) (mRt 38)) := rfl
set_option maxRecDepth 100000 in
theorem mcd_39 : lw_tbl[1384]? = some (.code (mNm 39) (mCd 39) (mxN 39) (mRt 39)) := rfl
set_option maxRecDepth 100000 in
theorem mcd_40 : lw_tbl[1449]? = some (.code (mNm 40) (mCd 40) (mxN 40) (mRt 40)) := rfl
set_option maxRecDepth 100000 in
theorem mcd_41 : lw_tbl[1373]? = some (.code (mNm 41) (mCd 41) (mxN 41) (mRt 41)) := rfl
set_option maxRecDepth 100000 in
theorem mcd_42 : lw_tbl[1380]? = some (.code (mNm 42) (mCd 42) (mxN 42) (mRt 42)) := rfl
set_option maxRecDepth 100000 in
theorem mcd_43 : lw_tbl[1388]? = some (.code (mNm 43) (mCd 43) (mxN 43) (mRt 43)) := rfl
set_option maxRecDepth 100000 in
theorem mcd_44 : lw_tbl[1392]? = some (.code (mNm 44) (mCd 44) (mxN 44) (mRt 44)) := rfl
set_option maxRecDepth 100000 in
theorem mcd_45 : lw_tbl[1396]? = some (.code (mNm 45) (mCd 45) (mxN 45) (mRt 45)) := rfl
set_option maxRecDepth 100000 in
theorem mcd_46 : lw_tbl[1400]? = some (.code (mNm 46) (mCd 46) (mxN 46) (mRt 46)) := rfl
set_option maxRecDepth 100000 in
theorem mcd_47 : lw_tbl[1407]? = some (.code (mNm 47) (mCd 47) (mxN 47) (mRt 47)) := rfl
set_option maxRecDepth 100000 in
theorem mcd_48 : lw_tbl[1413]? = some (.code (mNm 48) (mCd 48) (mxN 48) (mRt 48)) := rfl
set_option maxRecDepth 100000 in
theorem mcd_49 : lw_tbl[1419]? = some (.code (mNm 49) (mCd 49) (mxN 49) (mRt 49)) := rfl
set_option maxRecDepth 100000 in
theorem mcd_50 : lw_tbl[1410]? = some (.code (mNm 50) (mCd 50) (mxN 50) (mRt 50)) := rfl
set_option maxRecDepth 100000 in
theorem mcd_51 : lw_tbl[1416]? = some (.code (mNm 51) (mCd 51) (mxN 51) (mRt 51)) := rfl
set_option maxRecDepth 100000 in
theorem mcd_52 : lw_tbl[1422]? = some (.code (mNm 52) (mCd 52) (mxN 52) (mRt 52)) := rfl
set_option maxRecDepth 100000 in
theorem mcd_53 : lw_tbl[1404]? = some (.code (mNm 53) (mCd 53) (mxN 53) (mRt 53)) := rfl
set_option maxRecDepth 100000 in
theorem mcd_54 : lw_tbl[1465]? = some (.code (mNm 54) (mCd 54) (mxN 54) (mRt 54)) := rfl
set_option maxRecDepth 100000 in
theorem mcd_55 : lw_tbl[1457]? = some (.code (mNm 55) (mCd 55) (mxN 55) (mRt 55)) := rfl
set_option maxRecDepth 100000 in
theorem mcd_56 : lw_tbl[1446]? = some (.code (mNm 56) (mCd 56) (mxN 56) (mRt 56)) := rfl
set_option maxRecDepth 100000 in
theorem mcd_57 : lw_tbl[1442]? = some (.code (mNm 57) (mCd 57) (mxN 57) (mRt 57)) := rfl
set_option maxRecDepth 100000 in
theorem mcd_58 : lw_tbl[1453]? = some (.code (mNm 58) (mCd 58) (mxN 58) (mRt 58)) := rfl
set_option maxRecDepth 100000 in
theorem mcd_59 : lw_tbl[1461]? = some (.code (mNm 59) (mCd 59) (mxN 59) (mRt 59)) := rfl
set_option maxRecDepth 100000 in
theorem mcd_60 : lw_tbl[1438]? = some (.code (mNm 60) (mCd 60) (mxN 60) (mRt 60)) := rfl
set_option maxRecDepth 100000 in
theorem mcd_61 : lw_tbl[1434]? = some (.code (mNm 61) (mCd 61) (mxN 61) (mRt 61)) := rfl
set_option maxRecDepth 100000 in
theorem mcd_62 : lw_tbl[1430]? = some (.code (mNm 62) (mCd 62) (mxN 62) (mRt 62)) := rfl
set_option maxRecDepth 100000 in
theorem mcd_63 : lw_tbl[1426]? = some (.code (mNm 63) (mCd 63) (mxN 63) (mRt 63)) := rfl
set_option maxRecDepth 100000 in
theorem mcd_64 : lw_tbl[1469]? = some (.code (mNm 64) (mCd 64) (mxN 64) (mRt 64)) := rfl
set_option maxRecDepth 100000 in
theorem mcd_65 : lw_tbl[1473]? = some (.code (mNm 65) (mCd 65) (mxN 65) (mRt 65)) := rfl
set_option maxRecDepth 100000 in
theorem mcd_66 : lw_tbl[1485]? = some (.code (mNm 66) (mCd 66) (mxN 66) (mRt 66)) := rfl
set_option maxRecDepth 100000 in
theorem mcd_67 : lw_tbl[1489]? = some (.code (mNm 67) (mCd 67) (mxN 67) (mRt 67)) := rfl
set_option maxRecDepth 100000 in
theorem mcd_68 : lw_tbl[1513]? = some (.code (mNm 68) (mCd 68) (mxN 68) (mRt 68)) := rfl
set_option maxRecDepth 100000 in
theorem mcd_69 : lw_tbl[1525]? = some (.code (mNm 69) (mCd 69) (mxN 69) (mRt 69)) := rfl
set_option maxRecDepth 100000 in
theorem mcd_70 : lw_tbl[1521]? = some (.code (mNm 70) (mCd 70) (mxN 70) (mRt 70)) := rfl
set_option maxRecDepth 100000 in
theorem mcd_71 : lw_tbl[1529]? = some (.code (mNm 71) (mCd 71) (mxN 71) (mRt 71)) := rfl
set_option maxRecDepth 100000 in
theorem mcd_72 : lw_tbl[1533]? = some (.code (mNm 72) (mCd 72) (mxN 72) (mRt 72)) := rfl
set_option maxRecDepth 100000 in
theorem mcd_73 : lw_tbl[1537]? = some (.code (mNm 73) (mCd 73) (mxN 73) (mRt 73)) := rfl
set_option maxRecDepth 100000 in
theorem mcd_74 : lw_tbl[1517]? = some (.code (mNm 74) (mCd 74) (mxN 74) (mRt 74)) := rfl
set_option maxRecDepth 100000 in
theorem mcd_75 : lw_tbl[1541]? = some (.code (mNm 75) (mCd 75) (mxN 75) (mRt 75)) := rfl
set_option maxRecDepth 100000 in
theorem mcd_76 : lw_tbl[1545]? = some (.code (mNm 76) (mCd 76) (mxN 76) (mRt 76)) := rfl
set_option maxRecDepth 100000 in
theorem mcd_77 : lw_tbl[1481]? = some (.code (mNm 77) (mCd 77) (mxN 77) (mRt 77)) := rfl
set_option maxRecDepth 100000 in
theorem mcd_78 : lw_tbl[1477]? = some (.code (mNm 78) (mCd 78) (mxN 78) (mRt 78)) := rfl
set_option maxRecDepth 100000 in
theorem mcd_79 : lw_tbl[1549]? = some (.code (mNm 79) (mCd 79) (mxN 79) (mRt 79)) := rfl
set_option maxRecDepth 100000 in
theorem mcd_80 : lw_tbl[1555]? = some (.code (mNm 80) (mCd 80) (mxN 80) (mRt 80)) := rfl
set_option maxRecDepth 100000 in
theorem mcd_81 : lw_tbl[1559]? = some (.code (mNm 81) (mCd 81) (mxN 81) (mRt 81)) := rfl
set_option maxRecDepth 100000 in
theorem mcd_82 : lw_tbl[1563]? = some (.code (mNm 82) (mCd 82) (mxN 82) (mRt 82)) := rfl
set_option maxRecDepth 100000 in
theorem mcd_83 : lw_tbl[1567]? = some (.code (mNm 83) (mCd 83) (mxN 83) (mRt 83)) := rfl
set_option maxRecDepth 100000 in
theorem mcd_84 : lw_tbl[1571]? = some (.code (mNm 84) (mCd 84) (mxN 84) (mRt 84)) := rfl
set_option maxRecDepth 100000 in
theorem mcd_85 : lw_tbl[1575]? = some (.code (mNm 85) (mCd 85) (mxN 85) (mRt 85)) := rfl
set_option maxRecDepth 100000 in
theorem mcd_86 : lw_tbl[1579]? = some (.code (mNm 86) (mCd 86) (mxN 86) (mRt 86)) := rfl
set_option maxRecDepth 100000 in
theorem mcd_87 : lw_tbl[1506]? = some (.code (mNm 87) (mCd 87) (mxN 87) (mRt 87)) := rfl
set_option maxRecDepth 100000 in
theorem mcd_88 : lw_tbl[1502]? = some (.code (mNm 88) (mCd 88) (mxN 88) (mRt 88)) := rfl
set_option maxRecDepth 100000 in
theorem mcd_89 : lw_tbl[1583]? = some (.code (mNm 89) (mCd 89) (mxN 89) (mRt 89)) := rfl
set_option maxRecDepth 100000 in
theorem mcd_90 : lw_tbl[1592]? = some (.code (mNm 90) (mCd 90) (mxN 90) (mRt 90)) := rfl
set_option maxRecDepth 100000 in
theorem mcd_91 : lw_tbl[1588]? = some (.code (mNm 91) (mCd 91) (mxN 91) (mRt 91)) := rfl
set_option maxRecDepth 100000 in
theorem mcd_92 : lw_tbl[1596]? = some (.code (mNm 92) (mCd 92) (mxN 92) (mRt 92)) := rfl
set_option maxRecDepth 100000 in
theorem mcd_93 : lw_tbl[1604]? = some (.code (mNm 93) (mCd 93) (mxN 93) (mRt 93)) := rfl
set_option maxRecDepth 100000 in
theorem mcd_94 : lw_tbl[1608]? = some (.code (mNm 94) (mCd 94) (mxN 94) (mRt 94)) := rfl
set_option maxRecDepth 100000 in
theorem mcd_95 : lw_tbl[1600]? = some (.code (mNm 95) (mCd 95) (mxN 95) (mRt 95)) := rfl
set_option maxRecDepth 100000 in
theorem mcd_96 : lw_tbl[1620]? = some (.code (mNm 96) (mCd 96) (mxN 96) (mRt 96)) := rfl
set_option maxRecDepth 100000 in
theorem mcd_97 : lw_tbl[1624]? = some (.code (mNm 97) (mCd 97) (mxN 97) (mRt 97)) := rfl
set_option maxRecDepth 100000 in
theorem mcd_98 : lw_tbl[1616]? = some (.code (mNm 98) (mCd 98) (mxN 98) (mRt 98)) := rfl
set_option maxRecDepth 100000 in
theorem mcd_99 : lw_tbl[1612]? = some (.code (mNm 99) (mCd 99) (mxN 99) (mRt 99)) := rfl
set_option maxRecDepth 100000 in
theorem mcd_100 : lw_tbl[1628]? = some (.code (mNm 100) (mCd 100) (mxN 100) (mRt 100)) := rfl
set_option maxRecDepth 100000 in
theorem mcd_101 : lw_tbl[1632]? = some (.code (mNm 101) (mCd 101) (mxN 101) (mRt 101)) := rfl
set_option maxRecDepth 100000 in
theorem mcd_102 : lw_tbl[1645]? = some (.code (mNm 102) (mCd 102) (mxN 102) (mRt 102)) := rfl
set_option maxRecDepth 100000 in
theorem mcd_103 : lw_tbl[1641]? = some (.code (mNm 103) (mCd 103) (mxN 103) (mRt 103)) := rfl
set_option maxRecDepth 100000 in
theorem mcd_104 : lw_tbl[1660]? = some (.code (mNm 104) (mCd 104) (mxN 104) (mRt 104)) := rfl
set_option maxRecDepth 100000 in
theorem mcd_105 : lw_tbl[1653]? = some (.code (mNm 105) (mCd 105) (mxN 105) (mRt 105)) := rfl
set_option maxRecDepth 100000 in
theorem mcd_106 : lw_tbl[1657]? = some (.code (mNm 106) (mCd 106) (mxN 106) (mRt 106)) := rfl
set_option maxRecDepth 100000 in
theorem mcd_107 : lw_tbl[1668]? = some (.code (mNm 107) (mCd 107) (mxN 107) (mRt 107)) := rfl
set_option maxRecDepth 100000 in
theorem mcd_108 : lw_tbl[1664]? = some (.code (mNm 108) (mCd 108) (mxN 108) (mRt 108)) := rfl
set_option maxRecDepth 100000 in
theorem mcd_109 : lw_tbl[1676]? = some (.code (mNm 109) (mCd 109) (mxN 109) (mRt 109)) := rfl
set_option maxRecDepth 100000 in
theorem mcd_110 : lw_tbl[1672]? = some (.code (mNm 110) (mCd 110) (mxN 110) (mRt 110)) := rfl
set_option maxRecDepth 100000 in
theorem mcd_111 : lw_tbl[1649]? = some (.code (mNm 111) (mCd 111) (mxN 111) (mRt 111)) := rfl
set_option maxRecDepth 100000 in
theorem mcd_112 : lw_tbl[1637]? = some (.code (mNm 112) (mCd 112) (mxN 112) (mRt 112)) := rfl
set_option maxRecDepth 100000 in
theorem mcd_113 : lw_tbl[1509]? = some (.code (mNm 113) (mCd 113) (mxN 113) (mRt 113)) := rfl
set_option maxRecDepth 100000 in
theorem mcd_114 : lw_tbl[1498]? = some (.code (mNm 114) (mCd 114) (mxN 114) (mRt 114)) := rfl
set_option maxRecDepth 100000 in
theorem mcd_115 : lw_tbl[1493]? = some (.code (mNm 115) (mCd 115) (mxN 115) (mRt 115)) := rfl
set_option maxRecDepth 100000 in
theorem mcd_116 : lw_tbl[1680]? = some (.code (mNm 116) (mCd 116) (mxN 116) (mRt 116)) := rfl
set_option maxRecDepth 100000 in
theorem mcd_117 : lw_tbl[1684]? = some (.code (mNm 117) (mCd 117) (mxN 117) (mRt 117)) := rfl
set_option maxRecDepth 100000 in
theorem mcd_118 : lw_tbl[1688]? = some (.code (mNm 118) (mCd 118) (mxN 118) (mRt 118)) := rfl
set_option maxRecDepth 100000 in
theorem mcd_119 : lw_tbl[1692]? = some (.code (mNm 119) (mCd 119) (mxN 119) (mRt 119)) := rfl
set_option maxRecDepth 100000 in
theorem mcd_120 : lw_tbl[1696]? = some (.code (mNm 120) (mCd 120) (mxN 120) (mRt 120)) := rfl
set_option maxRecDepth 100000 in
theorem mcd_121 : lw_tbl[1700]? = some (.code (mNm 121) (mCd 121) (mxN 121) (mRt 121)) := rfl
set_option maxRecDepth 100000 in
theorem mcd_122 : lw_tbl[1708]? = some (.code (mNm 122) (mCd 122) (mxN 122) (mRt 122)) := rfl
set_option maxRecDepth 100000 in
theorem mcd_123 : lw_tbl[1705]? = some (.code (mNm 123) (mCd 123) (mxN 123) (mRt 123)) := rfl
set_option maxRecDepth 100000 in
theorem mcd_124 : lw_tbl[103]? = some (.code (mNm 124) (mCd 124) (mxN 124) (mRt 124)) := rfl
set_option maxRecDepth 100000 in
theorem mcd_125 : lw_tbl[829]? = some (.code (mNm 125) (mCd 125) (mxN 125) (mRt 125)) := rfl
set_option maxRecDepth 100000 in
theorem mcd_126 : lw_tbl[1183]? = some (.code (mNm 126) (mCd 126) (mxN 126) (mRt 126)) := rfl
set_option maxRecDepth 100000 in
theorem mcd_127 : lw_tbl[800]? = some (.code (mNm 127) (mCd 127) (mxN 127) (mRt 127)) := rfl
set_option maxRecDepth 100000 in
theorem mcd_128 : lw_tbl[805]? = some (.code (mNm 128) (mCd 128) (mxN 128) (mRt 128)) := rfl
set_option maxRecDepth 100000 in
theorem mcd_129 : lw_tbl[818]? = some (.code (mNm 129) (mCd 129) (mxN 129) (mRt 129)) := rfl
set_option maxRecDepth 100000 in
theorem mcd_130 : lw_tbl[813]? = some (.code (mNm 130) (mCd 130) (mxN 130) (mRt 130)) := rfl
set_option maxRecDepth 100000 in
theorem mcd_131 : lw_tbl[810]? = some (.code (mNm 131) (mCd 131) (mxN 131) (mRt 131)) := rfl
set_option maxRecDepth 100000 in
theorem mcd_132 : lw_tbl[330]? = some (.code (mNm 132) (mCd 132) (mxN 132) (mRt 132)) := rfl
set_option maxRecDepth 100000 in
theorem mcd_133 : lw_tbl[1095]? = some (.code (mNm 133) (mCd 133) (mxN 133) (mRt 133)) := rfl
set_option maxRecDepth 100000 in
theorem mcd_134 : lw_tbl[1083]? = some (.code (mNm 134) (mCd 134) (mxN 134) (mRt 134)) := rfl
set_option maxRecDepth 100000 in
theorem mcd_135 : lw_tbl[1132]? = some (.code (mNm 135) (mCd 135) (mxN 135) (mRt 135)) := rfl
set_option maxRecDepth 100000 in
theorem mcd_136 : lw_tbl[896]? = some (.code (mNm 136) (mCd 136) (mxN 136) (mRt 136)) := rfl
set_option maxRecDepth 100000 in
theorem mcd_137 : lw_tbl[839]? = some (.code (mNm 137) (mCd 137) (mxN 137) (mRt 137)) := rfl
set_option maxRecDepth 100000 in
theorem mcd_138 : lw_tbl[834]? = some (.code (mNm 138) (mCd 138) (mxN 138) (mRt 138)) := rfl
set_option maxRecDepth 100000 in
theorem mcd_139 : lw_tbl[843]? = some (.code (mNm 139) (mCd 139) (mxN 139) (mRt 139)) := rfl
set_option maxRecDepth 100000 in
theorem mcd_140 : lw_tbl[847]? = some (.code (mNm 140) (mCd 140) (mxN 140) (mRt 140)) := rfl
set_option maxRecDepth 100000 in
theorem mcd_141 : lw_tbl[854]? = some (.code (mNm 141) (mCd 141) (mxN 141) (mRt 141)) := rfl
set_option maxRecDepth 100000 in
theorem mcd_142 : lw_tbl[859]? = some (.code (mNm 142) (mCd 142) (mxN 142) (mRt 142)) := rfl
set_option maxRecDepth 100000 in
theorem mcd_143 : lw_tbl[863]? = some (.code (mNm 143) (mCd 143) (mxN 143) (mRt 143)) := rfl
set_option maxRecDepth 100000 in
theorem mcd_144 : lw_tbl[867]? = some (.code (mNm 144) (mCd 144) (mxN 144) (mRt 144)) := rfl
set_option maxRecDepth 100000 in
theorem mcd_145 : lw_tbl[871]? = some (.code (mNm 145) (mCd 145) (mxN 145) (mRt 145)) := rfl
set_option maxRecDepth 100000 in
theorem mcd_146 : lw_tbl[904]? = some (.code (mNm 146) (mCd 146) (mxN 146) (mRt 146)) := rfl
set_option maxRecDepth 100000 in
theorem mcd_147 : lw_tbl[908]? = some (.code (mNm 147) (mCd 147) (mxN 147) (mRt 147)) := rfl
set_option maxRecDepth 100000 in
theorem mcd_148 : lw_tbl[912]? = some (.code (mNm 148) (mCd 148) (mxN 148) (mRt 148)) := rfl
set_option maxRecDepth 100000 in
theorem mcd_149 : lw_tbl[916]? = some (.code (mNm 149) (mCd 149) (mxN 149) (mRt 149)) := rfl
set_option maxRecDepth 100000 in
theorem mcd_150 : lw_tbl[942]? = some (.code (mNm 150) (mCd 150) (mxN 150) (mRt 150)) := rfl
set_option maxRecDepth 100000 in
theorem mcd_151 : lw_tbl[946]? = some (.code (mNm 151) (mCd 151) (mxN 151) (mRt 151)) := rfl
set_option maxRecDepth 100000 in
theorem mcd_152 : lw_tbl[951]? = some (.code (mNm 152) (mCd 152) (mxN 152) (mRt 152)) := rfl
set_option maxRecDepth 100000 in
theorem mcd_153 : lw_tbl[992]? = some (.code (mNm 153) (mCd 153) (mxN 153) (mRt 153)) := rfl
set_option maxRecDepth 100000 in
theorem mcd_154 : lw_tbl[955]? = some (.code (mNm 154) (mCd 154) (mxN 154) (mRt 154)) := rfl
set_option maxRecDepth 100000 in
theorem mcd_155 : lw_tbl[959]? = some (.code (mNm 155) (mCd 155) (mxN 155) (mRt 155)) := rfl
set_option maxRecDepth 100000 in
theorem mcd_156 : lw_tbl[973]? = some (.code (mNm 156) (mCd 156) (mxN 156) (mRt 156)) := rfl
set_option maxRecDepth 100000 in
theorem mcd_157 : lw_tbl[980]? = some (.code (mNm 157) (mCd 157) (mxN 157) (mRt 157)) := rfl
set_option maxRecDepth 100000 in
theorem mcd_158 : lw_tbl[984]? = some (.code (mNm 158) (mCd 158) (mxN 158) (mRt 158)) := rfl
set_option maxRecDepth 100000 in
theorem mcd_159 : lw_tbl[988]? = some (.code (mNm 159) (mCd 159) (mxN 159) (mRt 159)) := rfl
set_option maxRecDepth 100000 in
theorem mcd_160 : lw_tbl[402]? = some (.code (mNm 160) (mCd 160) (mxN 160) (mRt 160)) := rfl
set_option maxRecDepth 100000 in
theorem mcd_161 : lw_tbl[1109]? = some (.code (mNm 161) (mCd 161) (mxN 161) (mRt 161)) := rfl
set_option maxRecDepth 100000 in
theorem mcd_162 : lw_tbl[963]? = some (.code (mNm 162) (mCd 162) (mxN 162) (mRt 162)) := rfl
set_option maxRecDepth 100000 in
theorem mcd_163 : lw_tbl[996]? = some (.code (mNm 163) (mCd 163) (mxN 163) (mRt 163)) := rfl
set_option maxRecDepth 100000 in
theorem mcd_164 : lw_tbl[1000]? = some (.code (mNm 164) (mCd 164) (mxN 164) (mRt 164)) := rfl
set_option maxRecDepth 100000 in
theorem mcd_165 : lw_tbl[967]? = some (.code (mNm 165) (mCd 165) (mxN 165) (mRt 165)) := rfl
set_option maxRecDepth 100000 in
theorem mcd_166 : lw_tbl[336]? = some (.code (mNm 166) (mCd 166) (mxN 166) (mRt 166)) := rfl
set_option maxRecDepth 100000 in
theorem mcd_167 : lw_tbl[1099]? = some (.code (mNm 167) (mCd 167) (mxN 167) (mRt 167)) := rfl
set_option maxRecDepth 100000 in
theorem mcd_168 : lw_tbl[875]? = some (.code (mNm 168) (mCd 168) (mxN 168) (mRt 168)) := rfl
set_option maxRecDepth 100000 in
theorem mcd_169 : lw_tbl[879]? = some (.code (mNm 169) (mCd 169) (mxN 169) (mRt 169)) := rfl
set_option maxRecDepth 100000 in
theorem mcd_170 : lw_tbl[1004]? = some (.code (mNm 170) (mCd 170) (mxN 170) (mRt 170)) := rfl
set_option maxRecDepth 100000 in
theorem mcd_171 : lw_tbl[920]? = some (.code (mNm 171) (mCd 171) (mxN 171) (mRt 171)) := rfl
set_option maxRecDepth 100000 in
theorem mcd_172 : lw_tbl[923]? = some (.code (mNm 172) (mCd 172) (mxN 172) (mRt 172)) := rfl
set_option maxRecDepth 100000 in
theorem mcd_173 : lw_tbl[495]? = some (.code (mNm 173) (mCd 173) (mxN 173) (mRt 173)) := rfl
set_option maxRecDepth 100000 in
theorem mcd_174 : lw_tbl[1078]? = some (.code (mNm 174) (mCd 174) (mxN 174) (mRt 174)) := rfl
set_option maxRecDepth 100000 in
theorem mcd_175 : lw_tbl[1087]? = some (.code (mNm 175) (mCd 175) (mxN 175) (mRt 175)) := rfl
set_option maxRecDepth 100000 in
theorem mcd_176 : lw_tbl[1091]? = some (.code (mNm 176) (mCd 176) (mxN 176) (mRt 176)) := rfl
set_option maxRecDepth 100000 in
theorem mcd_177 : lw_tbl[1117]? = some (.code (mNm 177) (mCd 177) (mxN 177) (mRt 177)) := rfl
set_option maxRecDepth 100000 in
theorem mcd_178 : lw_tbl[375]? = some (.code (mNm 178) (mCd 178) (mxN 178) (mRt 178)) := rfl
set_option maxRecDepth 100000 in
theorem mcd_179 : lw_tbl[1104]? = some (.code (mNm 179) (mCd 179) (mxN 179) (mRt 179)) := rfl
set_option maxRecDepth 100000 in
theorem mcd_180 : lw_tbl[883]? = some (.code (mNm 180) (mCd 180) (mxN 180) (mRt 180)) := rfl
set_option maxRecDepth 100000 in
theorem mcd_181 : lw_tbl[271]? = some (.code (mNm 181) (mCd 181) (mxN 181) (mRt 181)) := rfl
set_option maxRecDepth 100000 in
theorem mcd_182 : lw_tbl[621]? = some (.code (mNm 182) (mCd 182) (mxN 182) (mRt 182)) := rfl
set_option maxRecDepth 100000 in
theorem mcd_183 : lw_tbl[625]? = some (.code (mNm 183) (mCd 183) (mxN 183) (mRt 183)) := rfl
set_option maxRecDepth 100000 in
theorem mcd_184 : lw_tbl[628]? = some (.code (mNm 184) (mCd 184) (mxN 184) (mRt 184)) := rfl
set_option maxRecDepth 100000 in
theorem mcd_185 : lw_tbl[634]? = some (.code (mNm 185) (mCd 185) (mxN 185) (mRt 185)) := rfl
set_option maxRecDepth 100000 in
theorem mcd_186 : lw_tbl[640]? = some (.code (mNm 186) (mCd 186) (mxN 186) (mRt 186)) := rfl
set_option maxRecDepth 100000 in
theorem mcd_187 : lw_tbl[631]? = some (.code (mNm 187) (mCd 187) (mxN 187) (mRt 187)) := rfl
set_option maxRecDepth 100000 in
theorem mcd_188 : lw_tbl[643]? = some (.code (mNm 188) (mCd 188) (mxN 188) (mRt 188)) := rfl
set_option maxRecDepth 100000 in
theorem mcd_189 : lw_tbl[655]? = some (.code (mNm 189) (mCd 189) (mxN 189) (mRt 189)) := rfl
set_option maxRecDepth 100000 in
theorem mcd_190 : lw_tbl[646]? = some (.code (mNm 190) (mCd 190) (mxN 190) (mRt 190)) := rfl
set_option maxRecDepth 100000 in
theorem mcd_191 : lw_tbl[652]? = some (.code (mNm 191) (mCd 191) (mxN 191) (mRt 191)) := rfl
set_option maxRecDepth 100000 in
theorem mcd_192 : lw_tbl[719]? = some (.code (mNm 192) (mCd 192) (mxN 192) (mRt 192)) := rfl
set_option maxRecDepth 100000 in
theorem mcd_193 : lw_tbl[735]? = some (.code (mNm 193) (mCd 193) (mxN 193) (mRt 193)) := rfl
set_option maxRecDepth 100000 in
theorem mcd_194 : lw_tbl[723]? = some (.code (mNm 194) (mCd 194) (mxN 194) (mRt 194)) := rfl
set_option maxRecDepth 100000 in
theorem mcd_195 : lw_tbl[742]? = some (.code (mNm 195) (mCd 195) (mxN 195) (mRt 195)) := rfl
set_option maxRecDepth 100000 in
theorem mcd_196 : lw_tbl[727]? = some (.code (mNm 196) (mCd 196) (mxN 196) (mRt 196)) := rfl
set_option maxRecDepth 100000 in
theorem mcd_197 : lw_tbl[739]? = some (.code (mNm 197) (mCd 197) (mxN 197) (mRt 197)) := rfl
set_option maxRecDepth 100000 in
theorem mcd_198 : lw_tbl[731]? = some (.code (mNm 198) (mCd 198) (mxN 198) (mRt 198)) := rfl
set_option maxRecDepth 100000 in
theorem mcd_199 : lw_tbl[195]? = some (.code (mNm 199) (mCd 199) (mxN 199) (mRt 199)) := rfl
set_option maxRecDepth 100000 in
theorem mcd_200 : lw_tbl[927]? = some (.code (mNm 200) (mCd 200) (mxN 200) (mRt 200)) := rfl
set_option maxRecDepth 100000 in
theorem mcd_201 : lw_tbl[549]? = some (.code (mNm 201) (mCd 201) (mxN 201) (mRt 201)) := rfl
set_option maxRecDepth 100000 in
theorem mcd_202 : lw_tbl[1073]? = some (.code (mNm 202) (mCd 202) (mxN 202) (mRt 202)) := rfl
set_option maxRecDepth 100000 in
theorem mcd_203 : lw_tbl[1153]? = some (.code (mNm 203) (mCd 203) (mxN 203) (mRt 203)) := rfl
set_option maxRecDepth 100000 in
theorem mcd_204 : lw_tbl[1162]? = some (.code (mNm 204) (mCd 204) (mxN 204) (mRt 204)) := rfl
set_option maxRecDepth 100000 in
theorem mcd_205 : lw_tbl[1166]? = some (.code (mNm 205) (mCd 205) (mxN 205) (mRt 205)) := rfl
set_option maxRecDepth 100000 in
theorem mcd_206 : lw_tbl[1069]? = some (.code (mNm 206) (mCd 206) (mxN 206) (mRt 206)) := rfl
set_option maxRecDepth 100000 in
theorem mcd_207 : lw_tbl[263]? = some (.code (mNm 207) (mCd 207) (mxN 207) (mRt 207)) := rfl
set_option maxRecDepth 100000 in
theorem mcd_208 : lw_tbl[617]? = some (.code (mNm 208) (mCd 208) (mxN 208) (mRt 208)) := rfl
set_option maxRecDepth 100000 in
theorem mcd_209 : lw_tbl[931]? = some (.code (mNm 209) (mCd 209) (mxN 209) (mRt 209)) := rfl
set_option maxRecDepth 100000 in
theorem mcd_210 : lw_tbl[937]? = some (.code (mNm 210) (mCd 210) (mxN 210) (mRt 210)) := rfl
set_option maxRecDepth 100000 in
theorem mcd_211 : lw_tbl[934]? = some (.code (mNm 211) (mCd 211) (mxN 211) (mRt 211)) := rfl
theorem mcd {y : Nat} (h : y < 212) : Cond.code (mNm y) (mCd y) (mxN y) (mRt y) ∈ wsT := by
  match y, h with
  | 0, _ => exact List.mem_filter.mpr ⟨List.mem_of_getElem? mcd_0, rfl⟩
  | 1, _ => exact List.mem_filter.mpr ⟨List.mem_of_getElem? mcd_1, rfl⟩
  | 2, _ => exact List.mem_filter.mpr ⟨List.mem_of_getElem? mcd_2, rfl⟩
  | 3, _ => exact List.mem_filter.mpr ⟨List.mem_of_getElem? mcd_3, rfl⟩
  | 4, _ => exact List.mem_filter.mpr ⟨List.mem_of_getElem? mcd_4, rfl⟩
  | 5, _ => exact List.mem_filter.mpr ⟨List.mem_of_getElem? mcd_5, rfl⟩
  | 6, _ => exact List.mem_filter.mpr ⟨List.mem_of_getElem? mcd_6, rfl⟩
  | 7, _ => exact List.mem_filter.mpr ⟨List.mem_of_getElem? mcd_7, rfl⟩
  | 8, _ => exact List.mem_filter.mpr ⟨List.mem_of_getElem? mcd_8, rfl⟩
  | 9, _ => exact List.mem_filter.mpr ⟨List.mem_of_getElem? mcd_9, rfl⟩
  | 10, _ => exact List.mem_filter.mpr ⟨List.mem_of_getElem? mcd_10, rfl⟩
  | 11, _ => exact List.mem_filter.mpr ⟨List.mem_of_getElem? mcd_11, rfl⟩
  | 12, _ => exact List.mem_filter.mpr ⟨List.mem_of_getElem? mcd_12, rfl⟩
  | 13, _ => exact List.mem_filter.mpr ⟨List.mem_of_getElem? mcd_13, rfl⟩
  | 14, _ => exact List.mem_filter.mpr ⟨List.mem_of_getElem? mcd_14, rfl⟩
  | 15, _ => exact List.mem_filter.mpr ⟨List.mem_of_getElem? mcd_15, rfl⟩
  | 16, _ => exact List.mem_filter.mpr ⟨List.mem_of_getElem? mcd_16, rfl⟩
  | 17, _ => exact List.mem_filter.mpr ⟨List.mem_of_getElem? mcd_17, rfl⟩
  | 18, _ => exact List.mem_filter.mpr ⟨List.mem_of_getElem? mcd_18, rfl⟩
  | 19, _ => exact List.mem_filter.mpr ⟨List.mem_of_getElem? mcd_19, rfl⟩
  | 20, _ => exact List.mem_filter.mpr ⟨List.mem_of_getElem? mcd_20, rfl⟩
  | 21, _ => exact List.mem_filter.mpr ⟨List.mem_of_getElem? mcd_21, rfl⟩
  | 22, _ => exact List.mem_filter.mpr ⟨List.mem_of_getElem? mcd_22, rfl⟩
  | 23, _ => exact List.mem_filter.mpr ⟨List.mem_of_getElem? mcd_23, rfl⟩
  | 24, _ => exact List.mem_filter.mpr ⟨List.mem_of_getElem? mcd_24, rfl⟩
  | 25, _ => exact List.mem_filter.mpr ⟨List.mem_of_getElem? mcd_25, rfl⟩
  | 26, _ => exact List.mem_filter.mpr ⟨List.mem_of_getElem? mcd_26, rfl⟩
  | 27, _ => exact List.mem_filter.mpr ⟨List.mem_of_getElem? mcd_27, rfl⟩
  | 28, _ => exact List.mem_filter.mpr ⟨List.mem_of_getElem? mcd_28, rfl⟩
  | 29, _ => exact List.mem_filter.mpr ⟨List.mem_of_getElem? mcd_29, rfl⟩
  | 30, _ => exact List.mem_filter.mpr ⟨List.mem_of_getElem? mcd_30, rfl⟩
  | 31, _ => exact List.mem_filter.mpr ⟨List.mem_of_getElem? mcd_31, rfl⟩
  | 32, _ => exact List.mem_filter.mpr ⟨List.mem_of_getElem? mcd_32, rfl⟩
  | 33, _ => exact List.mem_filter.mpr ⟨List.mem_of_getElem? mcd_33, rfl⟩
  | 34, _ => exact List.mem_filter.mpr ⟨List.mem_of_getElem? mcd_34, rfl⟩
  | 35, _ => exact List.mem_filter.mpr ⟨List.mem_of_getElem? mcd_35, rfl⟩
  | 36, _ => exact List.mem_filter.mpr ⟨List.mem_of_getElem? mcd_36, rfl⟩
  | 37, _ => exact List.mem_filter.mpr ⟨List.mem_of_getElem? mcd_37, rfl⟩
  | 38, _ => exact List.mem_filter.mpr ⟨List.mem_of_getElem? mcd_38, rfl⟩
  | 39, _ => exact List.mem_filter.mpr ⟨List.mem_of_getElem? mcd_39, rfl⟩
  | 40, _ => exact List.mem_filter.mpr ⟨List.mem_of_getElem? mcd_40, rfl⟩
  | 41, _ => exact List.mem_filter.mpr ⟨List.mem_of_getElem? mcd_41, rfl⟩
  | 42, _ => exact List.mem_filter.mpr ⟨List.mem_of_getElem? mcd_42, rfl⟩
  | 43, _ => exact List.mem_filter.mpr ⟨List.mem_of_getElem? mcd_43, rfl⟩
  | 44, _ => exact List.mem_filter.mpr ⟨List.mem_of_getElem? mcd_44, rfl⟩
  | 45, _ => exact List.mem_filter.mpr ⟨List.mem_of_getElem? mcd_45, rfl⟩
  | 46, _ => exact List.mem_filter.mpr ⟨List.mem_of_getElem? mcd_46, rfl⟩
  | 47, _ => exact List.mem_filter.mpr ⟨List.mem_of_getElem? mcd_47, rfl⟩
  | 48, _ => exact List.mem_filter.mpr ⟨List.mem_of_getElem? mcd_48, rfl⟩
  | 49, _ => exact List.mem_filter.mpr ⟨List.mem_of_getElem? mcd_49, rfl⟩
  | 50, _ => exact List.mem_filter.mpr ⟨List.mem_of_getElem? mcd_50, rfl⟩
  | 51, _ => exact List.mem_filter.mpr ⟨List.mem_of_getElem? mcd_51, rfl⟩
  | 52, _ => exact List.mem_filter.mpr ⟨List.mem_of_getElem? mcd_52, rfl⟩
  | 53, _ => exact List.mem_filter.mpr ⟨List.mem_of_getElem? mcd_53, rfl⟩
  | 54, _ => exact List.mem_filter.mpr ⟨List.mem_of_getElem? mcd_54, rfl⟩
  | 55, _ => exact List.mem_filter.mpr ⟨List.mem_of_getElem? mcd_55, rfl⟩
  | 56, _ => exact List.mem_filter.mpr ⟨List.mem_of_getElem? mcd_56, rfl⟩
  | 57, _ => exact List.mem_filter.mpr ⟨List.mem_of_getElem? mcd_57, rfl⟩
  | 58, _ => exact List.mem_filter.mpr ⟨List.mem_of_getElem? mcd_58, rfl⟩
  | 59, _ => exact List.mem_filter.mpr ⟨List.mem_of_getElem? mcd_59, rfl⟩
  | 60, _ => exact List.mem_filter.mpr ⟨List.mem_of_getElem? mcd_60, rfl⟩
  | 61, _ => exact List.mem_filter.mpr ⟨List.mem_of_getElem? mcd_61, rfl⟩
  | 62, _ => exact List.mem_filter.mpr ⟨List.mem_of_getElem? mcd_62, rfl⟩
  | 63, _ => exact List.mem_filter.mpr ⟨List.mem_of_getElem? mcd_63, rfl⟩
  | 64, _ => exact List.mem_filter.mpr ⟨List.mem_of_getElem? mcd_64, rfl⟩
  | 65, _ => exact List.mem_filter.mpr ⟨List.mem_of_getElem? mcd_65, rfl⟩
  | 66, _ => exact List.mem_filter.mpr ⟨List.mem_of_getElem? mcd_66, rfl⟩
  | 67, _ => exact List.mem_filter.mpr ⟨List.mem_of_getElem? mcd_67, rfl⟩
  | 68, _ => exact List.mem_filter.mpr ⟨List.mem_of_getElem? mcd_68, rfl⟩
  | 69, _ => exact List.mem_filter.mpr ⟨List.mem_of_getElem? mcd_69, rfl⟩
  | 70, _ => exact List.mem_filter.mpr ⟨List.mem_of_getElem? mcd_70, rfl⟩
  | 71, _ => exact List.mem_filter.mpr ⟨List.mem_of_getElem? mcd_71, rfl⟩
  | 72, _ => exact List.mem_filter.mpr ⟨List.mem_of_getElem? mcd_72, rfl⟩
  | 73, _ => exact List.mem_filter.mpr ⟨List.mem_of_getElem? mcd_73, rfl⟩
  | 74, _ => exact List.mem_filter.mpr ⟨List.mem_of_getElem? mcd_74, rfl⟩
  | 75, _ => exact List.mem_filter.mpr ⟨List.mem_of_getElem? mcd_75, rfl⟩
  | 76, _ => exact List.mem_filter.mpr ⟨List.mem_of_getElem? mcd_76, rfl⟩
  | 77, _ => exact List.mem_filter.mpr ⟨List.mem_of_getElem? mcd_77, rfl⟩
  | 78, _ => exact List.mem_filter.mpr ⟨List.mem_of_getElem? mcd_78, rfl⟩
  | 79, _ => exact List.mem_filter.mpr ⟨List.mem_of_getElem? mcd_79, rfl⟩
  | 80, _ => exact List.mem_filter.mpr ⟨List.mem_of_getElem? mcd_80, rfl⟩
  | 81, _ => exact List.mem_filter.mpr ⟨List.mem_of_getElem? mcd_81, rfl⟩
  | 82, _ => exact List.mem_filter.mpr ⟨List.mem_of_getElem? mcd_82, rfl⟩
  | 83, _ => exact List.mem_filter.mpr ⟨List.mem_of_getElem? mcd_83, rfl⟩
  | 84, _ => exact List.mem_filter.mpr ⟨List.mem_of_getElem? mcd_84, rfl⟩
  | 85, _ => exact List.mem_filter.mpr ⟨List.mem_of_getElem? mcd_85, rfl⟩
  | 86, _ => exact List.mem_filter.mpr ⟨List.mem_of_getElem? mcd_86, rfl⟩
  | 87, _ => exact List.mem_filter.mpr ⟨List.mem_of_getElem? mcd_87, rfl⟩
  | 88, _ => exact List.mem_filter.mpr ⟨List.mem_of_getElem? mcd_88, rfl⟩
  | 89, _ => exact List.mem_filter.mpr ⟨List.mem_of_getElem? mcd_89, rfl⟩
  | 90, _ => exact List.mem_filter.mpr ⟨List.mem_of_getElem? mcd_90, rfl⟩
  | 91, _ => exact List.mem_filter.mpr ⟨List.mem_of_getElem? mcd_91, rfl⟩
  | 92, _ => exact List.mem_filter.mpr ⟨List.mem_of_getElem? mcd_92, rfl⟩
  | 93, _ => exact List.mem_filter.mpr ⟨List.mem_of_getElem? mcd_93, rfl⟩
  | 94, _ => exact List.mem_filter.mpr ⟨List.mem_of_getElem? mcd_94, rfl⟩
  | 95, _ => exact List.mem_filter.mpr ⟨List.mem_of_getElem? mcd_95, rfl⟩
  | 96, _ => exact List.mem_filter.mpr ⟨List.mem_of_getElem? mcd_96, rfl⟩
  | 97, _ => exact List.mem_filter.mpr ⟨List.mem_of_getElem? mcd_97, rfl⟩
  | 98, _ => exact List.mem_filter.mpr ⟨List.mem_of_getElem? mcd_98, rfl⟩
  | 99, _ => exact List.mem_filter.mpr ⟨List.mem_of_getElem? mcd_99, rfl⟩
  | 100, _ => exact List.mem_filter.mpr ⟨List.mem_of_getElem? mcd_100, rfl⟩
  | 101, _ => exact List.mem_filter.mpr ⟨List.mem_of_getElem? mcd_101, rfl⟩
  | 102, _ => exact List.mem_filter.mpr ⟨List.mem_of_getElem? mcd_102, rfl⟩
  | 103, _ => exact List.mem_filter.mpr ⟨List.mem_of_getElem? mcd_103, rfl⟩
  | 104, _ => exact List.mem_filter.mpr ⟨List.mem_of_getElem? mcd_104, rfl⟩
  | 105, _ => exact List.mem_filter.mpr ⟨List.mem_of_getElem? mcd_105, rfl⟩
  | 106, _ => exact List.mem_filter.mpr ⟨List.mem_of_getElem? mcd_106, rfl⟩
  | 107, _ => exact List.mem_filter.mpr ⟨List.mem_of_getElem? mcd_107, rfl⟩
  | 108, _ => exact List.mem_filter.mpr ⟨List.mem_of_getElem? mcd_108, rfl⟩
  | 109, _ => exact List.mem_filter.mpr ⟨List.mem_of_getElem? mcd_109, rfl⟩
  | 110, _ => exact List.mem_filter.mpr ⟨List.mem_of_getElem? mcd_110, rfl⟩
  | 111, _ => exact List.mem_filter.mpr ⟨List.mem_of_getElem? mcd_111, rfl⟩
  | 112, _ => exact List.mem_filter.mpr ⟨List.mem_of_getElem? mcd_112, rfl⟩
  | 113, _ => exact List.mem_filter.mpr ⟨List.mem_of_getElem? mcd_113, rfl⟩
  | 114, _ => exact List.mem_filter.mpr ⟨List.mem_of_getElem? mcd_114, rfl⟩
  | 115, _ => exact List.mem_filter.mpr ⟨List.mem_of_getElem? mcd_115, rfl⟩
  | 116, _ => exact List.mem_filter.mpr ⟨List.mem_of_getElem? mcd_116, rfl⟩
  | 117, _ => exact List.mem_filter.mpr ⟨List.mem_of_getElem? mcd_117, rfl⟩
  | 118, _ => exact List.mem_filter.mpr ⟨List.mem_of_getElem? mcd_118, rfl⟩
  | 119, _ => exact List.mem_filter.mpr ⟨List.mem_of_getElem? mcd_119, rfl⟩
  | 120, _ => exact List.mem_filter.mpr ⟨List.mem_of_getElem? mcd_120, rfl⟩
  | 121, _ => exact List.mem_filter.mpr ⟨List.mem_of_getElem? mcd_121, rfl⟩
  | 122, _ => exact List.mem_filter.mpr ⟨List.mem_of_getElem? mcd_122, rfl⟩
  | 123, _ => exact List.mem_filter.mpr ⟨List.mem_of_getElem? mcd_123, rfl⟩
  | 124, _ => exact List.mem_filter.mpr ⟨List.mem_of_getElem? mcd_124, rfl⟩
  | 125, _ => exact List.mem_filter.mpr ⟨List.mem_of_getElem? mcd_125, rfl⟩
  | 126, _ => exact List.mem_filter.mpr ⟨List.mem_of_getElem? mcd_126, rfl⟩
  | 127, _ => exact List.mem_filter.mpr ⟨List.mem_of_getElem? mcd_127, rfl⟩
  | 128, _ => exact List.mem_filter.mpr ⟨List.mem_of_getElem? mcd_128, rfl⟩
  | 129, _ => exact List.mem_filter.mpr ⟨List.mem_of_getElem? mcd_129, rfl⟩
  | 130, _ => exact List.mem_filter.mpr ⟨List.mem_of_getElem? mcd_130, rfl⟩
  | 131, _ => exact List.mem_filter.mpr ⟨List.mem_of_getElem? mcd_131, rfl⟩
  | 132, _ => exact List.mem_filter.mpr ⟨List.mem_of_getElem? mcd_132, rfl⟩
  | 133, _ => exact List.mem_filter.mpr ⟨List.mem_of_getElem? mcd_133, rfl⟩
  | 134, _ => exact List.mem_filter.mpr ⟨List.mem_of_getElem? mcd_134, rfl⟩
  | 135, _ => exact List.mem_filter.mpr ⟨List.mem_of_getElem? mcd_135, rfl⟩
  | 136, _ => exact List.mem_filter.mpr ⟨List.mem_of_getElem? mcd_136, rfl⟩
  | 137, _ => exact List.mem_filter.mpr ⟨List.mem_of_getElem? mcd_137, rfl⟩
  | 138, _ => exact List.mem_filter.mpr ⟨List.mem_of_getElem? mcd_138, rfl⟩
  | 139, _ => exact List.mem_filter.mpr ⟨List.mem_of_getElem? mcd_139, rfl⟩
  | 140, _ => exact List.mem_filter.mpr ⟨List.mem_of_getElem? mcd_140, rfl⟩
  | 141, _ => exact List.mem_filter.mpr ⟨List.mem_of_getElem? mcd_141, rfl⟩
  | 142, _ => exact List.mem_filter.mpr ⟨List.mem_of_getElem? mcd_142, rfl⟩
  | 143, _ => exact List.mem_filter.mpr ⟨List.mem_of_getElem? mcd_143, rfl⟩
  | 144, _ => exact List.mem_filter.mpr ⟨List.mem_of_getElem? mcd_144, rfl⟩
  | 145, _ => exact List.mem_filter.mpr ⟨List.mem_of_getElem? mcd_145, rfl⟩
  | 146, _ => exact List.mem_filter.mpr ⟨List.mem_of_getElem? mcd_146, rfl⟩
  | 147, _ => exact List.mem_filter.mpr ⟨List.mem_of_getElem? mcd_147, rfl⟩
  | 148, _ => exact List.mem_filter.mpr ⟨List.mem_of_getElem? mcd_148, rfl⟩
  | 149, _ => exact List.mem_filter.mpr ⟨List.mem_of_getElem? mcd_149, rfl⟩
  | 150, _ => exact List.mem_filter.mpr ⟨List.mem_of_getElem? mcd_150, rfl⟩
  | 151, _ => exact List.mem_filter.mpr ⟨List.mem_of_getElem? mcd_151, rfl⟩
  | 152, _ => exact List.mem_filter.mpr ⟨List.mem_of_getElem? mcd_152, rfl⟩
  | 153, _ => exact List.mem_filter.mpr ⟨List.mem_of_getElem? mcd_153, rfl⟩
  | 154, _ => exact List.mem_filter.mpr ⟨List.mem_of_getElem? mcd_154, rfl⟩
  | 155, _ => exact List.mem_filter.mpr ⟨List.mem_of_getElem? mcd_155, rfl⟩
  | 156, _ => exact List.mem_filter.mpr ⟨List.mem_of_getElem? mcd_156, rfl⟩
  | 157, _ => exact List.mem_filter.mpr ⟨List.mem_of_getElem? mcd_157, rfl⟩
  | 158, _ => exact List.mem_filter.mpr ⟨List.mem_of_getElem? mcd_158, rfl⟩
  | 159, _ => exact List.mem_filter.mpr ⟨List.mem_of_getElem? mcd_159, rfl⟩
  | 160, _ => exact List.mem_filter.mpr ⟨List.mem_of_getElem? mcd_160, rfl⟩
  | 161, _ => exact List.mem_filter.mpr ⟨List.mem_of_getElem? mcd_161, rfl⟩
  | 162, _ => exact List.mem_filter.mpr ⟨List.mem_of_getElem? mcd_162, rfl⟩
  | 163, _ => exact List.mem_filter.mpr ⟨List.mem_of_getElem? mcd_163, rfl⟩
  | 164, _ => exact List.mem_filter.mpr ⟨List.mem_of_getElem? mcd_164, rfl⟩
  | 165, _ => exact List.mem_filter.mpr ⟨List.mem_of_getElem? mcd_165, rfl⟩
  | 166, _ => exact List.mem_filter.mpr ⟨List.mem_of_getElem? mcd_166, rfl⟩
  | 167, _ => exact List.mem_filter.mpr ⟨List.mem_of_getElem? mcd_167, rfl⟩
  | 168, _ => exact List.mem_filter.mpr ⟨List.mem_of_getElem? mcd_168, rfl⟩
  | 169, _ => exact List.mem_filter.mpr ⟨List.mem_of_getElem? mcd_169, rfl⟩
  | 170, _ => exact List.mem_filter.mpr ⟨List.mem_of_getElem? mcd_170, rfl⟩
  | 171, _ => exact List.mem_filter.mpr ⟨List.mem_of_getElem? mcd_171, rfl⟩
  | 172, _ => exact List.mem_filter.mpr ⟨List.mem_of_getElem? mcd_172, rfl⟩
  | 173, _ => exact List.mem_filter.mpr ⟨List.mem_of_getElem? mcd_173, rfl⟩
  | 174, _ => exact List.mem_filter.mpr ⟨List.mem_of_getElem? mcd_174, rfl⟩
  | 175, _ => exact List.mem_filter.mpr ⟨List.mem_of_getElem? mcd_175, rfl⟩
  | 176, _ => exact List.mem_filter.mpr ⟨List.mem_of_getElem? mcd_176, rfl⟩
  | 177, _ => exact List.mem_filter.mpr ⟨List.mem_of_getElem? mcd_177, rfl⟩
  | 178, _ => exact List.mem_filter.mpr ⟨List.mem_of_getElem? mcd_178, rfl⟩
  | 179, _ => exact List.mem_filter.mpr ⟨List.mem_of_getElem? mcd_179, rfl⟩
  | 180, _ => exact List.mem_filter.mpr ⟨List.mem_of_getElem? mcd_180, rfl⟩
  | 181, _ => exact List.mem_filter.mpr ⟨List.mem_of_getElem? mcd_181, rfl⟩
  | 182, _ => exact List.mem_filter.mpr ⟨List.mem_of_getElem? mcd_182, rfl⟩
  | 183, _ => exact List.mem_filter.mpr ⟨List.mem_of_getElem? mcd_183, rfl⟩
  | 184, _ => exact List.mem_filter.mpr ⟨List.mem_of_getElem? mcd_184, rfl⟩
  | 185, _ => exact List.mem_filter.mpr ⟨List.mem_of_getElem? mcd_185, rfl⟩
  | 186, _ => exact List.mem_filter.mpr ⟨List.mem_of_getElem? mcd_186, rfl⟩
  | 187, _ => exact List.mem_filter.mpr ⟨List.mem_of_getElem? mcd_187, rfl⟩
  | 188, _ => exact List.mem_filter.mpr ⟨List.mem_of_getElem? mcd_188, rfl⟩
  | 189, _ => exact List.mem_filter.mpr ⟨List.mem_of_getElem? mcd_189, rfl⟩
  | 190, _ => exact List.mem_filter.mpr ⟨List.mem_of_getElem? mcd_190, rfl⟩
  | 191, _ => exact List.mem_filter.mpr ⟨List.mem_of_getElem? mcd_191, rfl⟩
  | 192, _ => exact List.mem_filter.mpr ⟨List.mem_of_getElem? mcd_192, rfl⟩
  | 193, _ => exact List.mem_filter.mpr ⟨List.mem_of_getElem? mcd_193, rfl⟩
  | 194, _ => exact List.mem_filter.mpr ⟨List.mem_of_getElem? mcd_194, rfl⟩
  | 195, _ => exact List.mem_filter.mpr ⟨List.mem_of_getElem? mcd_195, rfl⟩
  | 196, _ => exact List.mem_filter.mpr ⟨List.mem_of_getElem? mcd_196, rfl⟩
  | 197, _ => exact List.mem_filter.mpr ⟨List.mem_of_getElem? mcd_197, rfl⟩
  | 198, _ => exact List.mem_filter.mpr ⟨List.mem_of_getElem? mcd_198, rfl⟩
  | 199, _ => exact List.mem_filter.mpr ⟨List.mem_of_getElem? mcd_199, rfl⟩
  | 200, _ => exact List.mem_filter.mpr ⟨List.mem_of_getElem? mcd_200, rfl⟩
  | 201, _ => exact List.mem_filter.mpr ⟨List.mem_of_getElem? mcd_201, rfl⟩
  | 202, _ => exact List.mem_filter.mpr ⟨List.mem_of_getElem? mcd_202, rfl⟩
  | 203, _ => exact List.mem_filter.mpr ⟨List.mem_of_getElem? mcd_203, rfl⟩
  | 204, _ => exact List.mem_filter.mpr ⟨List.mem_of_getElem? mcd_204, rfl⟩
  | 205, _ => exact List.mem_filter.mpr ⟨List.mem_of_getElem? mcd_205, rfl⟩
  | 206, _ => exact List.mem_filter.mpr ⟨List.mem_of_getElem? mcd_206, rfl⟩
  | 207, _ => exact List.mem_filter.mpr ⟨List.mem_of_getElem? mcd_207, rfl⟩
  | 208, _ => exact List.mem_filter.mpr ⟨List.mem_of_getElem? mcd_208, rfl⟩
  | 209, _ => exact List.mem_filter.mpr ⟨List.mem_of_getElem? mcd_209, rfl⟩
  | 210, _ => exact List.mem_filter.mpr ⟨List.mem_of_getElem? mcd_210, rfl⟩
  | 211, _ => exact List.mem_filter.mpr ⟨List.mem_of_getElem? mcd_211, rfl⟩
  | y + 212, h => exact absurd h (by omega)
def callL : List (Nat × Nat × Nat × Nat × Nat × Nat) := [(10, 9, 124, 5, 101, 10), (10, 18, 199, 5, 193, 10), (10, 25, 207, 5, 261, 10), (10, 32, 132, 2, 328, 0), (10, 41, 173, 2, 493, 0), (10, 54, 201, 5, 547, 10), (10, 75, 208, 1, 614, 0), (10, 78, 35, 0, 770, 0), (10, 88, 36, 0, 775, 0), (10, 149, 127, 0, 798, 0), (10, 155, 128, 0, 803, 0), (10, 159, 131, 0, 808, 0), (10, 162, 129, 0, 816, 0), (10, 165, 130, 0, 821, 0), (10, 169, 125, 1, 826, 0), (10, 172, 138, 1, 831, 0), (10, 175, 137, 1, 888, 0), (10, 181, 136, 1, 893, 0), (10, 187, 146, 1, 901, 0), (10, 244, 162, 1, 1019, 0), (10, 296, 171, 1, 1047, 0), (10, 300, 200, 1, 1048, 0), (10, 324, 149, 1, 1061, 0), (10, 327, 206, 1, 1066, 0), (10, 331, 174, 1, 1075, 0), (10, 335, 175, 4, 1084, 10), (10, 351, 133, 1, 1128, 0), (10, 355, 135, 1, 1129, 0), (10, 358, 134, 1, 1133, 0), (10, 361, 203, 1, 1150, 0), (10, 364, 202, 1, 1158, 0), (10, 367, 204, 1, 1159, 0), (10, 371, 205, 1, 1163, 0), (10, 386, 2, 1, 1176, 0), (10, 389, 126, 0, 1181, 0), (11, 151, 38, 0, 1374, 0), (11, 155, 39, 1, 1381, 0), (11, 174, 48, 0, 1411, 0), (11, 177, 49, 0, 1417, 0), (11, 180, 47, 0, 1405, 0), (11, 184, 50, 0, 1408, 0), (11, 188, 51, 0, 1414, 0), (11, 191, 52, 0, 1420, 0), (11, 194, 56, 1, 1443, 0), (11, 197, 40, 0, 1447, 0), (11, 200, 55, 1, 1454, 0), (11, 203, 57, 1, 1439, 0), (11, 206, 60, 1, 1435, 0), (11, 210, 58, 1, 1450, 0), (11, 214, 59, 1, 1458, 0), (11, 218, 54, 1, 1462, 0), (11, 221, 62, 1, 1427, 0), (11, 224, 61, 1, 1431, 0), (11, 230, 115, 1, 1490, 0), (11, 233, 69, 1, 1522, 0), (11, 236, 71, 1, 1526, 0), (11, 239, 70, 1, 1518, 0), (11, 242, 72, 1, 1530, 0), (11, 245, 73, 1, 1534, 0), (11, 248, 66, 1, 1482, 0), (11, 251, 67, 1, 1486, 0), (11, 254, 68, 1, 1510, 0), (11, 257, 74, 1, 1514, 0), (11, 260, 75, 1, 1538, 0), (11, 263, 76, 1, 1542, 0), (11, 266, 77, 1, 1478, 0), (11, 274, 87, 1, 1503, 0), (11, 280, 88, 1, 1499, 0), (11, 283, 90, 1, 1589, 0), (11, 286, 93, 1, 1601, 0), (11, 290, 94, 1, 1605, 0), (11, 294, 98, 1, 1613, 0), (11, 300, 96, 1, 1617, 0), (11, 303, 97, 1, 1621, 0), (11, 324, 102, 1, 1642, 0), (11, 334, 104, 0, 1658, 0), (11, 339, 105, 1, 1650, 0), (11, 342, 107, 1, 1665, 0), (11, 345, 106, 1, 1654, 0), (11, 348, 103, 1, 1638, 0), (11, 352, 108, 1, 1661, 0), (11, 355, 110, 1, 1669, 0), (11, 358, 109, 1, 1673, 0), (11, 361, 111, 1, 1646, 0), (11, 365, 114, 1, 1495, 0), (11, 368, 113, 0, 1507, 0), (11, 371, 42, 1, 1701, 0), (11, 374, 122, 0, 1706, 0), (0, 53, 36, 3, 830, 10), (12, 27, 130, 0, 811, 0), (1, 11, 166, 2, 334, 0), (1, 20, 178, 5, 373, 10), (1, 27, 160, 2, 400, 0), (1, 70, 167, 1, 1096, 0), (1, 74, 179, 1, 1101, 0), (1, 77, 161, 1, 1106, 0), (1, 115, 139, 1, 840, 0), (1, 125, 140, 1, 844, 0), (1, 132, 141, 1, 851, 0), (1, 138, 125, 1, 835, 0), (1, 141, 137, 1, 836, 0), (1, 147, 142, 1, 856, 0), (1, 151, 145, 1, 868, 0), (1, 157, 180, 1, 880, 0), (1, 179, 130, 0, 855, 0), (1, 187, 143, 1, 860, 0), (1, 194, 144, 1, 864, 0), (1, 200, 168, 1, 872, 0), (1, 206, 169, 1, 876, 0), (1, 210, 147, 1, 905, 0), (1, 213, 148, 1, 909, 0), (1, 216, 150, 1, 939, 0), (1, 219, 152, 1, 948, 0), (1, 222, 153, 1, 989, 0), (1, 225, 170, 1, 1001, 0), (1, 239, 149, 1, 913, 0), (1, 249, 138, 1, 938, 0), (1, 263, 171, 1, 917, 0), (1, 267, 200, 1, 924, 0), (1, 271, 209, 1, 928, 0), (1, 273, 151, 1, 943, 0), (1, 276, 131, 0, 947, 0), (1, 282, 154, 1, 952, 0), (1, 288, 163, 1, 993, 0), (1, 290, 164, 1, 997, 0), (1, 293, 155, 1, 956, 0), (1, 296, 156, 1, 970, 0), (1, 299, 157, 1, 977, 0), (1, 302, 129, 0, 981, 0), (1, 314, 158, 0, 982, 0), (1, 317, 159, 1, 985, 0), (1, 323, 162, 1, 960, 0), (1, 326, 128, 0, 969, 0), (1, 329, 127, 0, 974, 0), (2, 37, 165, 1, 964, 0), (3, 40, 172, 0, 921, 0), (4, 34, 132, 2, 499, 0), (4, 62, 134, 1, 1080, 0), (4, 75, 176, 1, 1088, 0), (4, 79, 133, 1, 1092, 0), (4, 83, 138, 1, 1112, 0), (4, 86, 146, 1, 1113, 0), (4, 90, 177, 1, 1114, 0), (4, 94, 175, 1, 1119, 0), (6, 21, 183, 1, 622, 0), (6, 36, 192, 1, 716, 0), (6, 40, 194, 1, 720, 0), (6, 47, 184, 0, 626, 0), (6, 51, 187, 0, 629, 0), (6, 55, 188, 0, 641, 0), (6, 58, 35, 3, 635, 10), (6, 62, 185, 0, 632, 0), (6, 65, 186, 0, 638, 0), (6, 68, 190, 0, 644, 0), (6, 71, 189, 0, 653, 0), (6, 92, 191, 0, 650, 0), (6, 96, 196, 1, 724, 0), (6, 99, 197, 1, 736, 0), (6, 102, 195, 0, 740, 0), (6, 106, 193, 1, 732, 0), (6, 109, 198, 1, 728, 0), (8, 22, 202, 1, 1070, 0), (8, 26, 36, 3, 1074, 10), (9, 31, 181, 5, 269, 10), (9, 43, 182, 1, 618, 0), (9, 57, 211, 0, 932, 0), (9, 61, 210, 0, 935, 0), (13, 9, 0, 2, 93, 0), (13, 12, 37, 2, 1188, 0), (13, 13, 1, 1, 766, 0), (13, 17, 41, 1, 1370, 0), (13, 18, 2, 1, 771, 0), (13, 22, 42, 1, 1377, 0), (13, 23, 3, 1, 778, 0), (13, 26, 43, 1, 1385, 0), (13, 27, 4, 1, 782, 0), (13, 31, 44, 1, 1389, 0), (13, 32, 5, 1, 786, 0), (13, 35, 45, 1, 1393, 0), (13, 36, 6, 1, 790, 0), (13, 40, 46, 1, 1397, 0), (13, 41, 7, 1, 794, 0), (13, 44, 53, 1, 1401, 0), (13, 45, 8, 1, 822, 0), (13, 48, 63, 1, 1423, 0), (13, 49, 9, 1, 884, 0), (13, 52, 64, 1, 1466, 0), (13, 53, 10, 1, 889, 0), (13, 56, 65, 1, 1470, 0), (13, 57, 11, 1, 897, 0), (13, 60, 78, 1, 1474, 0), (13, 61, 12, 1, 1005, 0), (13, 64, 79, 1, 1546, 0), (13, 65, 13, 1, 1011, 0), (13, 68, 80, 1, 1552, 0), (13, 69, 14, 1, 1015, 0), (13, 72, 81, 1, 1556, 0), (13, 73, 15, 1, 1020, 0), (13, 76, 82, 1, 1560, 0), (13, 77, 16, 1, 1024, 0), (13, 80, 83, 1, 1564, 0), (13, 81, 17, 1, 1028, 0), (13, 84, 84, 1, 1568, 0), (13, 85, 18, 1, 1033, 0), (13, 88, 85, 1, 1572, 0), (13, 89, 19, 1, 1037, 0), (13, 92, 86, 1, 1576, 0), (13, 93, 20, 1, 1041, 0), (13, 97, 89, 1, 1580, 0), (13, 98, 21, 1, 1049, 0), (13, 101, 91, 1, 1585, 0), (13, 102, 22, 1, 1053, 0), (13, 105, 92, 1, 1593, 0), (13, 106, 23, 1, 1057, 0), (13, 110, 116, 1, 1677, 0), (13, 111, 24, 1, 1062, 0), (13, 115, 99, 1, 1609, 0), (13, 116, 25, 1, 1120, 0), (13, 119, 100, 1, 1625, 0), (13, 120, 26, 1, 1124, 0), (13, 123, 95, 1, 1597, 0), (13, 126, 27, 1, 1134, 0), (13, 130, 101, 1, 1629, 0), (13, 131, 28, 1, 1138, 0), (13, 135, 112, 1, 1634, 0), (13, 136, 29, 1, 1142, 0), (13, 139, 117, 1, 1681, 0), (13, 140, 30, 1, 1146, 0), (13, 143, 118, 1, 1685, 0), (13, 144, 31, 1, 1154, 0), (13, 147, 119, 1, 1689, 0), (13, 148, 32, 1, 1167, 0), (13, 152, 120, 1, 1693, 0), (13, 153, 33, 1, 1172, 0), (13, 156, 121, 1, 1697, 0), (13, 157, 34, 1, 1177, 0), (13, 160, 123, 1, 1702, 0)]
def hasN (i : Nat) (w : Cond) : Bool := decide (lw_tbl[i]? = some w)
def callOK (e : Nat × Nat × Nat × Nat × Nat × Nat) : Bool := Nat.blt e.2.2.1 212 && (match e.2.2.2.1 with
  | 0 => hasW e.2.2.2.2.1 (.methodLink (clsName e.1) e.2.1 (mNm e.2.2.1)) && mStt e.2.2.1
  | 1 => hasW e.2.2.2.2.1 (.methodLink (clsName e.1) e.2.1 (mNm e.2.2.1)) && (!mStt e.2.2.1 && mSel e.2.2.1)
  | 2 => hasW e.2.2.2.2.1 (.methodLink (clsName e.1) e.2.1 (mNm e.2.2.1)) && (!mStt e.2.2.1 && mIni e.2.2.1)
  | 3 => hasN e.2.2.2.2.1 (.methodLinkNest (clsName e.1) e.2.1 (mNm e.2.2.1) (clsName e.2.2.2.2.2)) && mStt e.2.2.1
  | 4 => hasN e.2.2.2.2.1 (.methodLinkNest (clsName e.1) e.2.1 (mNm e.2.2.1) (clsName e.2.2.2.2.2)) && (!mStt e.2.2.1 && mSel e.2.2.1)
  | _ => hasN e.2.2.2.2.1 (.methodLinkNest (clsName e.1) e.2.1 (mNm e.2.2.1) (clsName e.2.2.2.2.2)) && (!mStt e.2.2.1 && mIni e.2.2.1))
theorem call_ok : callL.all callOK = true := by decide +kernel
def biL : List (Nat × Nat × Nat × Nat) := [(10, 1, 0, 96), (10, 57, 6, 566), (10, 71, 5, 576), (10, 259, 3, 1032), (10, 293, 2, 1046), (10, 380, 1, 1171), (11, 1, 0, 1191), (0, 3, 0, 104), (1, 3, 0, 331), (1, 80, 1, 1111), (1, 109, 4, 848), (1, 332, 3, 975), (1, 335, 2, 976), (2, 3, 0, 403), (2, 31, 1, 1110), (2, 41, 2, 968), (3, 3, 0, 337), (3, 34, 1, 1100), (4, 3, 0, 496), (4, 46, 3, 1079), (4, 98, 1, 1118), (5, 3, 0, 376), (5, 24, 1, 1105), (6, 3, 0, 272), (6, 76, 7, 657), (6, 84, 6, 648), (6, 88, 5, 649), (7, 3, 0, 196), (8, 3, 0, 550), (9, 3, 0, 264), (9, 51, 1, 743)]
def biNm (b : Nat) : MethodName := match b with
  | 0 => objectInit
  | 1 => arraycopyName
  | 2 => Lib.Math.max.name
  | 3 => Lib.Math.min.name
  | 4 => Lib.Math.abs.name
  | 5 => ⟨"java/lang/String", "charAt", "(I)C"⟩
  | 6 => ⟨"java/lang/String", "length", "()I"⟩
  | _ => ⟨"java/lang/String", "indexOf", "(I)I"⟩
def biOK (e : Nat × Nat × Nat × Nat) : Bool := hasW e.2.2.2 (.methodLink (clsName e.1) e.2.1 (biNm e.2.2.1))
theorem bi_ok : biL.all biOK = true := by decide +kernel
def conL : List (Nat × Nat × Int × Nat) := [(10, 191, -100000, 1009), (10, 215, -200000, 1010), (11, 95, 100004, 1192), (11, 269, -100000, 1550), (11, 270, -200000, 1551), (11, 351, 100000, 1494)]
def lconL : List (Nat × Nat × Int × Nat) := [(10, 291, -4611686018427387904, 1045), (11, 114, 2003330414, 1193), (11, 116, 120299592184933, 1194), (11, 118, 7104884, 1195), (11, 120, 495924637287, 1196), (11, 122, 508675519603, 1197), (11, 124, 1751477348, 1198), (11, 126, 439721159795, 1199), (11, 128, 28530, 1200), (11, 130, 6385252, 1201), (11, 132, 7237492, 1202), (11, 278, -4611686018427387904, 1584), (11, 310, 255, 1633), (13, 124, 4294967295, 1709)]
theorem con_ok : conL.all (fun e => hasW e.2.2.2 (.constant (clsName e.1) e.2.1 (Int32.ofInt e.2.2.1))) = true := by decide +kernel
theorem lcon_ok : lconL.all (fun e => hasW e.2.2.2 (.constantLong (clsName e.1) e.2.1 (Int64.ofInt e.2.2.1))) = true := by decide +kernel
def newL : List (Nat × Nat × Nat × Nat × Nat × Nat) := [(10, 7, 0, 99, 100, 72), (10, 16, 7, 191, 192, 73), (10, 23, 9, 259, 260, 74), (10, 30, 1, 326, 327, 76), (10, 39, 4, 491, 492, 80), (10, 48, 8, 544, 546, 81), (1, 9, 3, 332, 333, 77), (1, 18, 5, 371, 372, 78), (1, 25, 2, 398, 399, 79), (4, 9, 1, 497, 327, 76), (9, 29, 6, 267, 268, 75), (13, 7, 10, 91, 92, 71), (13, 10, 11, 1186, 1187, 89)]
theorem new_ok : newL.all (fun e => hasW e.2.2.2.1 (.classLink (clsName e.1) e.2.1 (clsName e.2.2.1)) && (hasW e.2.2.2.2.1 (.instantiable (clsName e.2.2.1) (nfN e.2.2.1)) && (hasW e.2.2.2.2.2 (.initialized (clsName e.2.2.1)) && Nat.blt e.2.2.1 12))) = true := by decide +kernel
def statL : List (Nat × Nat × Nat × Nat) := [(12, 9, 2, 1184), (12, 15, 3, 801), (12, 18, 4, 806), (12, 21, 5, 819), (12, 24, 6, 814)]
def stNm (k : Nat) : String := match k with
  | 2 => "ABOVE"
  | 3 => "RAMP"
  | 4 => "NEED_TIMES"
  | 5 => "SOAK"
  | _ => "ALONE"
theorem stat_ok : statL.all (fun e => hasW e.2.2.2 (.fieldLink (clsName e.1) e.2.1 "DarkLand$Kind" (stNm e.2.2.1) "[I")) = true := by decide +kernel
def strL : List (Nat × Nat × Nat × Nat) := [(10, 55, 7, 565), (6, 74, 9, 656), (6, 82, 8, 647)]
def arrL : List (Nat × Nat × Nat × Nat) := [(10, 48, 23, 544), (4, 9, 24, 497)]
theorem arr_ok : arrL.all (fun e => hasW e.2.2.2 (.classLink (clsName e.1) e.2.1 (match e.2.2.1 with
  | 23 => "DarkLand$Sheet"
  | _ => "DarkLand$Land"))) = true := by decide +kernel
theorem aw_int : hasW 189 (.arrayClass .int) = true := by decide +kernel
theorem aw_boolean : hasW 190 (.arrayClass .boolean) = true := by decide +kernel
theorem aw_long : hasW 1369 (.arrayClass .long) = true := by decide +kernel
theorem mw : hasW 265 (.classLink "DarkLand$Texts" 18 "[[I") = true := by decide +kernel
theorem wi_sys : hasW 88 (.initialized "java/lang/System") = true := by decide +kernel
theorem wi_math : hasW 86 (.initialized "java/lang/Math") = true := by decide +kernel
theorem ac_ok : (hasW 745 (.native arraycopyName) && hasW 744 (.static arraycopyName)) = true := by decide +kernel
theorem ma_max : (hasW 673 (.static Lib.Math.max.name) && hasW 674 (.code Lib.Math.max.name Lib.Math.max.code 2 (some .int))) = true := by decide +kernel
theorem ma_min : (hasW 676 (.static Lib.Math.min.name) && hasW 677 (.code Lib.Math.min.name Lib.Math.min.code 2 (some .int))) = true := by decide +kernel
theorem ma_abs : (hasW 849 (.static Lib.Math.abs.name) && hasW 850 (.code Lib.Math.abs.name Lib.Math.abs.code 1 (some .int))) = true := by decide +kernel
theorem oi_ok : (hasW 97 (.instanceMethod objectInit) && hasW 98 (.code objectInit ⟨#[0xb1]⟩ 1 none)) = true := by decide +kernel
