/-! THE ROWS ARE AS THE BYTES AND THE TABLES HAVE THEM -/
def j_ckf (M : Nat) (r : j_row) : Bool := decide (decode (j_by M) r.1 = .ok (r.2.1, r.2.2.1)) && j_okr M r
theorem j_ckd {f : j_row → Bool} {l : List j_row} (n : Nat) (h1 : (l.take n).all f = true) (h2 : (l.drop n).all f = true) : l.all f = true := by
  rw [← List.take_append_drop n l, List.all_append, h1, h2]; rfl
theorem j_ckdd {f : j_row → Bool} {l : List j_row} (a b : Nat) (h1 : ((l.drop a).take b).all f = true) (h2 : (l.drop (a + b)).all f = true) : (l.drop a).all f = true := j_ckd b h1 (by rw [List.drop_drop]; exact h2)
theorem j_r0 : j_k0.all (j_ckf 0) = true := by decide +kernel
theorem j_r1 : j_k1.all (j_ckf 1) = true := by decide +kernel
theorem j_r2 : j_k2.all (j_ckf 2) = true := by decide +kernel
theorem j_r3 : j_k3.all (j_ckf 3) = true := by decide +kernel
theorem j_r4 : j_k4.all (j_ckf 4) = true := by decide +kernel
theorem j_r5_0 : ((j_k5.drop 0).take 40).all (j_ckf 5) = true := by decide +kernel
theorem j_r5_40 : (j_k5.drop 40).all (j_ckf 5) = true := by decide +kernel
theorem j_r5 : j_k5.all (j_ckf 5) = true := j_ckdd 0 40 j_r5_0 (j_r5_40)
theorem j_r6 : j_k6.all (j_ckf 6) = true := by decide +kernel
theorem j_r7 : j_k7.all (j_ckf 7) = true := by decide +kernel
theorem j_r8 : j_k8.all (j_ckf 8) = true := by decide +kernel
theorem j_r9 : j_k9.all (j_ckf 9) = true := by decide +kernel
theorem j_r10 : j_k10.all (j_ckf 10) = true := by decide +kernel
theorem j_r11 : j_k11.all (j_ckf 11) = true := by decide +kernel
theorem j_r12 : j_k12.all (j_ckf 12) = true := by decide +kernel
theorem j_r13 : j_k13.all (j_ckf 13) = true := by decide +kernel
theorem j_r14 : j_k14.all (j_ckf 14) = true := by decide +kernel
theorem j_r15 : j_k15.all (j_ckf 15) = true := by decide +kernel
theorem j_r16 : j_k16.all (j_ckf 16) = true := by decide +kernel
theorem j_r17 : j_k17.all (j_ckf 17) = true := by decide +kernel
theorem j_r18 : j_k18.all (j_ckf 18) = true := by decide +kernel
theorem j_r19 : j_k19.all (j_ckf 19) = true := by decide +kernel
theorem j_r20 : j_k20.all (j_ckf 20) = true := by decide +kernel
theorem j_r21 : j_k21.all (j_ckf 21) = true := by decide +kernel
theorem j_r22_0 : ((j_k22.drop 0).take 40).all (j_ckf 22) = true := by decide +kernel
theorem j_r22_40 : (j_k22.drop 40).all (j_ckf 22) = true := by decide +kernel
theorem j_r22 : j_k22.all (j_ckf 22) = true := j_ckdd 0 40 j_r22_0 (j_r22_40)
theorem j_r23_0 : ((j_k23.drop 0).take 40).all (j_ckf 23) = true := by decide +kernel
theorem j_r23_40 : (j_k23.drop 40).all (j_ckf 23) = true := by decide +kernel
theorem j_r23 : j_k23.all (j_ckf 23) = true := j_ckdd 0 40 j_r23_0 (j_r23_40)
theorem j_r24_0 : ((j_k24.drop 0).take 40).all (j_ckf 24) = true := by decide +kernel
theorem j_r24_40 : ((j_k24.drop 40).take 40).all (j_ckf 24) = true := by decide +kernel
theorem j_r24_80 : ((j_k24.drop 80).take 40).all (j_ckf 24) = true := by decide +kernel
theorem j_r24_120 : (j_k24.drop 120).all (j_ckf 24) = true := by decide +kernel
theorem j_r24 : j_k24.all (j_ckf 24) = true := j_ckdd 0 40 j_r24_0 (j_ckdd 40 40 j_r24_40 (j_ckdd 80 40 j_r24_80 (j_r24_120)))
theorem j_r25_0 : ((j_k25.drop 0).take 40).all (j_ckf 25) = true := by decide +kernel
theorem j_r25_40 : (j_k25.drop 40).all (j_ckf 25) = true := by decide +kernel
theorem j_r25 : j_k25.all (j_ckf 25) = true := j_ckdd 0 40 j_r25_0 (j_r25_40)
theorem j_r26 : j_k26.all (j_ckf 26) = true := by decide +kernel
theorem j_r27 : j_k27.all (j_ckf 27) = true := by decide +kernel
theorem j_r28_0 : ((j_k28.drop 0).take 40).all (j_ckf 28) = true := by decide +kernel
theorem j_r28_40 : ((j_k28.drop 40).take 40).all (j_ckf 28) = true := by decide +kernel
theorem j_r28_80 : (j_k28.drop 80).all (j_ckf 28) = true := by decide +kernel
theorem j_r28 : j_k28.all (j_ckf 28) = true := j_ckdd 0 40 j_r28_0 (j_ckdd 40 40 j_r28_40 (j_r28_80))
theorem j_r29 : j_k29.all (j_ckf 29) = true := by decide +kernel
theorem j_r30 : j_k30.all (j_ckf 30) = true := by decide +kernel
theorem j_r31 : j_k31.all (j_ckf 31) = true := by decide +kernel
theorem j_r32 : j_k32.all (j_ckf 32) = true := by decide +kernel
theorem j_r33 : j_k33.all (j_ckf 33) = true := by decide +kernel
theorem j_r34 : j_k34.all (j_ckf 34) = true := by decide +kernel
theorem j_r35 : j_k35.all (j_ckf 35) = true := by decide +kernel
theorem j_r36 : j_k36.all (j_ckf 36) = true := by decide +kernel
theorem j_r37 : j_k37.all (j_ckf 37) = true := by decide +kernel
theorem j_r38 : j_k38.all (j_ckf 38) = true := by decide +kernel
theorem j_r39 : j_k39.all (j_ckf 39) = true := by decide +kernel
theorem j_r40 : j_k40.all (j_ckf 40) = true := by decide +kernel
theorem j_r41 : j_k41.all (j_ckf 41) = true := by decide +kernel
theorem j_r42 : j_k42.all (j_ckf 42) = true := by decide +kernel
theorem j_r43 : j_k43.all (j_ckf 43) = true := by decide +kernel
theorem j_r44 : j_k44.all (j_ckf 44) = true := by decide +kernel
theorem j_r45 : j_k45.all (j_ckf 45) = true := by decide +kernel
theorem j_r46 : j_k46.all (j_ckf 46) = true := by decide +kernel
theorem j_r47 : j_k47.all (j_ckf 47) = true := by decide +kernel
theorem j_r48 : j_k48.all (j_ckf 48) = true := by decide +kernel
theorem j_r49 : j_k49.all (j_ckf 49) = true := by decide +kernel
theorem j_r50 : j_k50.all (j_ckf 50) = true := by decide +kernel
theorem j_r51 : j_k51.all (j_ckf 51) = true := by decide +kernel
theorem j_r52 : j_k52.all (j_ckf 52) = true := by decide +kernel
theorem j_r53 : j_k53.all (j_ckf 53) = true := by decide +kernel
theorem j_r54 : j_k54.all (j_ckf 54) = true := by decide +kernel
theorem j_r55 : j_k55.all (j_ckf 55) = true := by decide +kernel
theorem j_r56 : j_k56.all (j_ckf 56) = true := by decide +kernel
theorem j_r57 : j_k57.all (j_ckf 57) = true := by decide +kernel
theorem j_r58 : j_k58.all (j_ckf 58) = true := by decide +kernel
theorem j_r59 : j_k59.all (j_ckf 59) = true := by decide +kernel
theorem j_r60 : j_k60.all (j_ckf 60) = true := by decide +kernel
theorem j_r61 : j_k61.all (j_ckf 61) = true := by decide +kernel
theorem j_r62 : j_k62.all (j_ckf 62) = true := by decide +kernel
theorem j_r63 : j_k63.all (j_ckf 63) = true := by decide +kernel
theorem j_r64 : j_k64.all (j_ckf 64) = true := by decide +kernel
theorem j_r65_0 : ((j_k65.drop 0).take 40).all (j_ckf 65) = true := by decide +kernel
theorem j_r65_40 : ((j_k65.drop 40).take 40).all (j_ckf 65) = true := by decide +kernel
theorem j_r65_80 : (j_k65.drop 80).all (j_ckf 65) = true := by decide +kernel
theorem j_r65 : j_k65.all (j_ckf 65) = true := j_ckdd 0 40 j_r65_0 (j_ckdd 40 40 j_r65_40 (j_r65_80))
theorem j_r66 : j_k66.all (j_ckf 66) = true := by decide +kernel
theorem j_r67_0 : ((j_k67.drop 0).take 40).all (j_ckf 67) = true := by decide +kernel
theorem j_r67_40 : (j_k67.drop 40).all (j_ckf 67) = true := by decide +kernel
theorem j_r67 : j_k67.all (j_ckf 67) = true := j_ckdd 0 40 j_r67_0 (j_r67_40)
theorem j_r68 : j_k68.all (j_ckf 68) = true := by decide +kernel
theorem j_r69 : j_k69.all (j_ckf 69) = true := by decide +kernel
theorem j_r70_0 : ((j_k70.drop 0).take 40).all (j_ckf 70) = true := by decide +kernel
theorem j_r70_40 : (j_k70.drop 40).all (j_ckf 70) = true := by decide +kernel
theorem j_r70 : j_k70.all (j_ckf 70) = true := j_ckdd 0 40 j_r70_0 (j_r70_40)
theorem j_r71 : j_k71.all (j_ckf 71) = true := by decide +kernel
theorem j_r72 : j_k72.all (j_ckf 72) = true := by decide +kernel
theorem j_r73 : j_k73.all (j_ckf 73) = true := by decide +kernel
theorem j_r74 : j_k74.all (j_ckf 74) = true := by decide +kernel
theorem j_r75_0 : ((j_k75.drop 0).take 40).all (j_ckf 75) = true := by decide +kernel
theorem j_r75_40 : ((j_k75.drop 40).take 40).all (j_ckf 75) = true := by decide +kernel
theorem j_r75_80 : (j_k75.drop 80).all (j_ckf 75) = true := by decide +kernel
theorem j_r75 : j_k75.all (j_ckf 75) = true := j_ckdd 0 40 j_r75_0 (j_ckdd 40 40 j_r75_40 (j_r75_80))
theorem j_r76 : j_k76.all (j_ckf 76) = true := by decide +kernel
theorem j_r77_0 : ((j_k77.drop 0).take 40).all (j_ckf 77) = true := by decide +kernel
theorem j_r77_40 : (j_k77.drop 40).all (j_ckf 77) = true := by decide +kernel
theorem j_r77 : j_k77.all (j_ckf 77) = true := j_ckdd 0 40 j_r77_0 (j_r77_40)
theorem j_r78_0 : ((j_k78.drop 0).take 40).all (j_ckf 78) = true := by decide +kernel
theorem j_r78_40 : (j_k78.drop 40).all (j_ckf 78) = true := by decide +kernel
theorem j_r78 : j_k78.all (j_ckf 78) = true := j_ckdd 0 40 j_r78_0 (j_r78_40)
theorem j_r79 : j_k79.all (j_ckf 79) = true := by decide +kernel
theorem j_r80_0 : ((j_k80.drop 0).take 40).all (j_ckf 80) = true := by decide +kernel
theorem j_r80_40 : ((j_k80.drop 40).take 40).all (j_ckf 80) = true := by decide +kernel
theorem j_r80_80 : (j_k80.drop 80).all (j_ckf 80) = true := by decide +kernel
theorem j_r80 : j_k80.all (j_ckf 80) = true := j_ckdd 0 40 j_r80_0 (j_ckdd 40 40 j_r80_40 (j_r80_80))
theorem j_r81_0 : ((j_k81.drop 0).take 40).all (j_ckf 81) = true := by decide +kernel
theorem j_r81_40 : (j_k81.drop 40).all (j_ckf 81) = true := by decide +kernel
theorem j_r81 : j_k81.all (j_ckf 81) = true := j_ckdd 0 40 j_r81_0 (j_r81_40)
theorem j_r82 : j_k82.all (j_ckf 82) = true := by decide +kernel
theorem j_r83 : j_k83.all (j_ckf 83) = true := by decide +kernel
theorem j_r84_0 : ((j_k84.drop 0).take 40).all (j_ckf 84) = true := by decide +kernel
theorem j_r84_40 : (j_k84.drop 40).all (j_ckf 84) = true := by decide +kernel
theorem j_r84 : j_k84.all (j_ckf 84) = true := j_ckdd 0 40 j_r84_0 (j_r84_40)
theorem j_r85 : j_k85.all (j_ckf 85) = true := by decide +kernel
theorem j_r86_0 : ((j_k86.drop 0).take 40).all (j_ckf 86) = true := by decide +kernel
theorem j_r86_40 : (j_k86.drop 40).all (j_ckf 86) = true := by decide +kernel
theorem j_r86 : j_k86.all (j_ckf 86) = true := j_ckdd 0 40 j_r86_0 (j_r86_40)
theorem j_r87 : j_k87.all (j_ckf 87) = true := by decide +kernel
theorem j_r88_0 : ((j_k88.drop 0).take 40).all (j_ckf 88) = true := by decide +kernel
theorem j_r88_40 : (j_k88.drop 40).all (j_ckf 88) = true := by decide +kernel
theorem j_r88 : j_k88.all (j_ckf 88) = true := j_ckdd 0 40 j_r88_0 (j_r88_40)
theorem j_r89_0 : ((j_k89.drop 0).take 40).all (j_ckf 89) = true := by decide +kernel
theorem j_r89_40 : (j_k89.drop 40).all (j_ckf 89) = true := by decide +kernel
theorem j_r89 : j_k89.all (j_ckf 89) = true := j_ckdd 0 40 j_r89_0 (j_r89_40)
theorem j_r90 : j_k90.all (j_ckf 90) = true := by decide +kernel
theorem j_r91 : j_k91.all (j_ckf 91) = true := by decide +kernel
theorem j_r92 : j_k92.all (j_ckf 92) = true := by decide +kernel
theorem j_r93 : j_k93.all (j_ckf 93) = true := by decide +kernel
theorem j_r94 : j_k94.all (j_ckf 94) = true := by decide +kernel
theorem j_r95 : j_k95.all (j_ckf 95) = true := by decide +kernel
theorem j_r96 : j_k96.all (j_ckf 96) = true := by decide +kernel
theorem j_r97 : j_k97.all (j_ckf 97) = true := by decide +kernel
theorem j_r98 : j_k98.all (j_ckf 98) = true := by decide +kernel
theorem j_r99_0 : ((j_k99.drop 0).take 40).all (j_ckf 99) = true := by decide +kernel
theorem j_r99_40 : (j_k99.drop 40).all (j_ckf 99) = true := by decide +kernel
theorem j_r99 : j_k99.all (j_ckf 99) = true := j_ckdd 0 40 j_r99_0 (j_r99_40)
theorem j_r100 : j_k100.all (j_ckf 100) = true := by decide +kernel
theorem j_r101 : j_k101.all (j_ckf 101) = true := by decide +kernel
theorem j_r102 : j_k102.all (j_ckf 102) = true := by decide +kernel
theorem j_r103 : j_k103.all (j_ckf 103) = true := by decide +kernel
theorem j_r104_0 : ((j_k104.drop 0).take 40).all (j_ckf 104) = true := by decide +kernel
theorem j_r104_40 : (j_k104.drop 40).all (j_ckf 104) = true := by decide +kernel
theorem j_r104 : j_k104.all (j_ckf 104) = true := j_ckdd 0 40 j_r104_0 (j_r104_40)
theorem j_r105 : j_k105.all (j_ckf 105) = true := by decide +kernel
theorem j_r106 : j_k106.all (j_ckf 106) = true := by decide +kernel
theorem j_r107_0 : ((j_k107.drop 0).take 40).all (j_ckf 107) = true := by decide +kernel
theorem j_r107_40 : (j_k107.drop 40).all (j_ckf 107) = true := by decide +kernel
theorem j_r107 : j_k107.all (j_ckf 107) = true := j_ckdd 0 40 j_r107_0 (j_r107_40)
theorem j_r108 : j_k108.all (j_ckf 108) = true := by decide +kernel
theorem j_r109 : j_k109.all (j_ckf 109) = true := by decide +kernel
theorem j_r110_0 : ((j_k110.drop 0).take 40).all (j_ckf 110) = true := by decide +kernel
theorem j_r110_40 : ((j_k110.drop 40).take 40).all (j_ckf 110) = true := by decide +kernel
theorem j_r110_80 : (j_k110.drop 80).all (j_ckf 110) = true := by decide +kernel
theorem j_r110 : j_k110.all (j_ckf 110) = true := j_ckdd 0 40 j_r110_0 (j_ckdd 40 40 j_r110_40 (j_r110_80))
theorem j_r111_0 : ((j_k111.drop 0).take 40).all (j_ckf 111) = true := by decide +kernel
theorem j_r111_40 : (j_k111.drop 40).all (j_ckf 111) = true := by decide +kernel
theorem j_r111 : j_k111.all (j_ckf 111) = true := j_ckdd 0 40 j_r111_0 (j_r111_40)
theorem j_r112 : j_k112.all (j_ckf 112) = true := by decide +kernel
theorem j_r113 : j_k113.all (j_ckf 113) = true := by decide +kernel
theorem j_r114 : j_k114.all (j_ckf 114) = true := by decide +kernel
theorem j_r115 : j_k115.all (j_ckf 115) = true := by decide +kernel
theorem j_r116_0 : ((j_k116.drop 0).take 40).all (j_ckf 116) = true := by decide +kernel
theorem j_r116_40 : (j_k116.drop 40).all (j_ckf 116) = true := by decide +kernel
theorem j_r116 : j_k116.all (j_ckf 116) = true := j_ckdd 0 40 j_r116_0 (j_r116_40)
theorem j_r117 : j_k117.all (j_ckf 117) = true := by decide +kernel
theorem j_r118 : j_k118.all (j_ckf 118) = true := by decide +kernel
theorem j_r119 : j_k119.all (j_ckf 119) = true := by decide +kernel
theorem j_r120_0 : ((j_k120.drop 0).take 40).all (j_ckf 120) = true := by decide +kernel
theorem j_r120_40 : ((j_k120.drop 40).take 40).all (j_ckf 120) = true := by decide +kernel
theorem j_r120_80 : ((j_k120.drop 80).take 40).all (j_ckf 120) = true := by decide +kernel
theorem j_r120_120 : ((j_k120.drop 120).take 40).all (j_ckf 120) = true := by decide +kernel
theorem j_r120_160 : ((j_k120.drop 160).take 40).all (j_ckf 120) = true := by decide +kernel
theorem j_r120_200 : ((j_k120.drop 200).take 40).all (j_ckf 120) = true := by decide +kernel
theorem j_r120_240 : ((j_k120.drop 240).take 40).all (j_ckf 120) = true := by decide +kernel
theorem j_r120_280 : (j_k120.drop 280).all (j_ckf 120) = true := by decide +kernel
theorem j_r120 : j_k120.all (j_ckf 120) = true := j_ckdd 0 40 j_r120_0 (j_ckdd 40 40 j_r120_40 (j_ckdd 80 40 j_r120_80 (j_ckdd 120 40 j_r120_120 (j_ckdd 160 40 j_r120_160 (j_ckdd 200 40 j_r120_200 (j_ckdd 240 40 j_r120_240 (j_r120_280)))))))
theorem j_r121 : j_k121.all (j_ckf 121) = true := by decide +kernel
theorem j_r122 : j_k122.all (j_ckf 122) = true := by decide +kernel
theorem j_r123 : j_k123.all (j_ckf 123) = true := by decide +kernel
theorem j_r124 : j_k124.all (j_ckf 124) = true := by decide +kernel
theorem j_r125_0 : ((j_k125.drop 0).take 40).all (j_ckf 125) = true := by decide +kernel
theorem j_r125_40 : (j_k125.drop 40).all (j_ckf 125) = true := by decide +kernel
theorem j_r125 : j_k125.all (j_ckf 125) = true := j_ckdd 0 40 j_r125_0 (j_r125_40)
theorem j_r126 : j_k126.all (j_ckf 126) = true := by decide +kernel
theorem j_r127 : j_k127.all (j_ckf 127) = true := by decide +kernel
theorem j_r128 : j_k128.all (j_ckf 128) = true := by decide +kernel
theorem j_r129 : j_k129.all (j_ckf 129) = true := by decide +kernel
theorem j_r130 : j_k130.all (j_ckf 130) = true := by decide +kernel
theorem j_r131 : j_k131.all (j_ckf 131) = true := by decide +kernel
theorem j_r132 : j_k132.all (j_ckf 132) = true := by decide +kernel
theorem j_r133 : j_k133.all (j_ckf 133) = true := by decide +kernel
theorem j_r134 : j_k134.all (j_ckf 134) = true := by decide +kernel
theorem j_r135 : j_k135.all (j_ckf 135) = true := by decide +kernel
theorem j_r136 : j_k136.all (j_ckf 136) = true := by decide +kernel
theorem j_r137 : j_k137.all (j_ckf 137) = true := by decide +kernel
theorem j_r138 : j_k138.all (j_ckf 138) = true := by decide +kernel
theorem j_r139_0 : ((j_k139.drop 0).take 40).all (j_ckf 139) = true := by decide +kernel
theorem j_r139_40 : (j_k139.drop 40).all (j_ckf 139) = true := by decide +kernel
theorem j_r139 : j_k139.all (j_ckf 139) = true := j_ckdd 0 40 j_r139_0 (j_r139_40)
theorem j_r140_0 : ((j_k140.drop 0).take 40).all (j_ckf 140) = true := by decide +kernel
theorem j_r140_40 : ((j_k140.drop 40).take 40).all (j_ckf 140) = true := by decide +kernel
theorem j_r140_80 : ((j_k140.drop 80).take 40).all (j_ckf 140) = true := by decide +kernel
theorem j_r140_120 : (j_k140.drop 120).all (j_ckf 140) = true := by decide +kernel
theorem j_r140 : j_k140.all (j_ckf 140) = true := j_ckdd 0 40 j_r140_0 (j_ckdd 40 40 j_r140_40 (j_ckdd 80 40 j_r140_80 (j_r140_120)))
theorem j_r141 : j_k141.all (j_ckf 141) = true := by decide +kernel
theorem j_r142 : j_k142.all (j_ckf 142) = true := by decide +kernel
theorem j_r143 : j_k143.all (j_ckf 143) = true := by decide +kernel
theorem j_r144 : j_k144.all (j_ckf 144) = true := by decide +kernel
theorem j_r145 : j_k145.all (j_ckf 145) = true := by decide +kernel
theorem j_r146 : j_k146.all (j_ckf 146) = true := by decide +kernel
theorem j_r147 : j_k147.all (j_ckf 147) = true := by decide +kernel
theorem j_r148 : j_k148.all (j_ckf 148) = true := by decide +kernel
theorem j_r149_0 : ((j_k149.drop 0).take 40).all (j_ckf 149) = true := by decide +kernel
theorem j_r149_40 : ((j_k149.drop 40).take 40).all (j_ckf 149) = true := by decide +kernel
theorem j_r149_80 : ((j_k149.drop 80).take 40).all (j_ckf 149) = true := by decide +kernel
theorem j_r149_120 : (j_k149.drop 120).all (j_ckf 149) = true := by decide +kernel
theorem j_r149 : j_k149.all (j_ckf 149) = true := j_ckdd 0 40 j_r149_0 (j_ckdd 40 40 j_r149_40 (j_ckdd 80 40 j_r149_80 (j_r149_120)))
theorem j_r150 : j_k150.all (j_ckf 150) = true := by decide +kernel
theorem j_r151 : j_k151.all (j_ckf 151) = true := by decide +kernel
theorem j_r152 : j_k152.all (j_ckf 152) = true := by decide +kernel
theorem j_r153 : j_k153.all (j_ckf 153) = true := by decide +kernel
theorem j_r154 : j_k154.all (j_ckf 154) = true := by decide +kernel
theorem j_r155_0 : ((j_k155.drop 0).take 40).all (j_ckf 155) = true := by decide +kernel
theorem j_r155_40 : (j_k155.drop 40).all (j_ckf 155) = true := by decide +kernel
theorem j_r155 : j_k155.all (j_ckf 155) = true := j_ckdd 0 40 j_r155_0 (j_r155_40)
theorem j_r156 : j_k156.all (j_ckf 156) = true := by decide +kernel
theorem j_r157 : j_k157.all (j_ckf 157) = true := by decide +kernel
theorem j_r158 : j_k158.all (j_ckf 158) = true := by decide +kernel
theorem j_r159 : j_k159.all (j_ckf 159) = true := by decide +kernel
theorem j_r160 : j_k160.all (j_ckf 160) = true := by decide +kernel
theorem j_r161_0 : ((j_k161.drop 0).take 40).all (j_ckf 161) = true := by decide +kernel
theorem j_r161_40 : ((j_k161.drop 40).take 40).all (j_ckf 161) = true := by decide +kernel
theorem j_r161_80 : (j_k161.drop 80).all (j_ckf 161) = true := by decide +kernel
theorem j_r161 : j_k161.all (j_ckf 161) = true := j_ckdd 0 40 j_r161_0 (j_ckdd 40 40 j_r161_40 (j_r161_80))
theorem j_r162 : j_k162.all (j_ckf 162) = true := by decide +kernel
theorem j_r163 : j_k163.all (j_ckf 163) = true := by decide +kernel
theorem j_r164_0 : ((j_k164.drop 0).take 40).all (j_ckf 164) = true := by decide +kernel
theorem j_r164_40 : (j_k164.drop 40).all (j_ckf 164) = true := by decide +kernel
theorem j_r164 : j_k164.all (j_ckf 164) = true := j_ckdd 0 40 j_r164_0 (j_r164_40)
theorem j_r165 : j_k165.all (j_ckf 165) = true := by decide +kernel
theorem j_r166_0 : ((j_k166.drop 0).take 40).all (j_ckf 166) = true := by decide +kernel
theorem j_r166_40 : ((j_k166.drop 40).take 40).all (j_ckf 166) = true := by decide +kernel
theorem j_r166_80 : ((j_k166.drop 80).take 40).all (j_ckf 166) = true := by decide +kernel
theorem j_r166_120 : (j_k166.drop 120).all (j_ckf 166) = true := by decide +kernel
theorem j_r166 : j_k166.all (j_ckf 166) = true := j_ckdd 0 40 j_r166_0 (j_ckdd 40 40 j_r166_40 (j_ckdd 80 40 j_r166_80 (j_r166_120)))
theorem j_r167_0 : ((j_k167.drop 0).take 40).all (j_ckf 167) = true := by decide +kernel
theorem j_r167_40 : ((j_k167.drop 40).take 40).all (j_ckf 167) = true := by decide +kernel
theorem j_r167_80 : ((j_k167.drop 80).take 40).all (j_ckf 167) = true := by decide +kernel
theorem j_r167_120 : (j_k167.drop 120).all (j_ckf 167) = true := by decide +kernel
theorem j_r167 : j_k167.all (j_ckf 167) = true := j_ckdd 0 40 j_r167_0 (j_ckdd 40 40 j_r167_40 (j_ckdd 80 40 j_r167_80 (j_r167_120)))
theorem j_r168_0 : ((j_k168.drop 0).take 40).all (j_ckf 168) = true := by decide +kernel
theorem j_r168_40 : ((j_k168.drop 40).take 40).all (j_ckf 168) = true := by decide +kernel
theorem j_r168_80 : (j_k168.drop 80).all (j_ckf 168) = true := by decide +kernel
theorem j_r168 : j_k168.all (j_ckf 168) = true := j_ckdd 0 40 j_r168_0 (j_ckdd 40 40 j_r168_40 (j_r168_80))
theorem j_r169_0 : ((j_k169.drop 0).take 40).all (j_ckf 169) = true := by decide +kernel
theorem j_r169_40 : ((j_k169.drop 40).take 40).all (j_ckf 169) = true := by decide +kernel
theorem j_r169_80 : (j_k169.drop 80).all (j_ckf 169) = true := by decide +kernel
theorem j_r169 : j_k169.all (j_ckf 169) = true := j_ckdd 0 40 j_r169_0 (j_ckdd 40 40 j_r169_40 (j_r169_80))
theorem j_r170 : j_k170.all (j_ckf 170) = true := by decide +kernel
theorem j_r171 : j_k171.all (j_ckf 171) = true := by decide +kernel
theorem j_r172 : j_k172.all (j_ckf 172) = true := by decide +kernel
theorem j_r173 : j_k173.all (j_ckf 173) = true := by decide +kernel
theorem j_r174 : j_k174.all (j_ckf 174) = true := by decide +kernel
theorem j_r175_0 : ((j_k175.drop 0).take 40).all (j_ckf 175) = true := by decide +kernel
theorem j_r175_40 : ((j_k175.drop 40).take 40).all (j_ckf 175) = true := by decide +kernel
theorem j_r175_80 : ((j_k175.drop 80).take 40).all (j_ckf 175) = true := by decide +kernel
theorem j_r175_120 : (j_k175.drop 120).all (j_ckf 175) = true := by decide +kernel
theorem j_r175 : j_k175.all (j_ckf 175) = true := j_ckdd 0 40 j_r175_0 (j_ckdd 40 40 j_r175_40 (j_ckdd 80 40 j_r175_80 (j_r175_120)))
theorem j_r176 : j_k176.all (j_ckf 176) = true := by decide +kernel
theorem j_r177 : j_k177.all (j_ckf 177) = true := by decide +kernel
theorem j_r178 : j_k178.all (j_ckf 178) = true := by decide +kernel
theorem j_r179 : j_k179.all (j_ckf 179) = true := by decide +kernel
theorem j_r180_0 : ((j_k180.drop 0).take 40).all (j_ckf 180) = true := by decide +kernel
theorem j_r180_40 : (j_k180.drop 40).all (j_ckf 180) = true := by decide +kernel
theorem j_r180 : j_k180.all (j_ckf 180) = true := j_ckdd 0 40 j_r180_0 (j_r180_40)
theorem j_r181_0 : ((j_k181.drop 0).take 40).all (j_ckf 181) = true := by decide +kernel
theorem j_r181_40 : ((j_k181.drop 40).take 40).all (j_ckf 181) = true := by decide +kernel
theorem j_r181_80 : (j_k181.drop 80).all (j_ckf 181) = true := by decide +kernel
theorem j_r181 : j_k181.all (j_ckf 181) = true := j_ckdd 0 40 j_r181_0 (j_ckdd 40 40 j_r181_40 (j_r181_80))
theorem j_r182_0 : ((j_k182.drop 0).take 40).all (j_ckf 182) = true := by decide +kernel
theorem j_r182_40 : ((j_k182.drop 40).take 40).all (j_ckf 182) = true := by decide +kernel
theorem j_r182_80 : (j_k182.drop 80).all (j_ckf 182) = true := by decide +kernel
theorem j_r182 : j_k182.all (j_ckf 182) = true := j_ckdd 0 40 j_r182_0 (j_ckdd 40 40 j_r182_40 (j_r182_80))
theorem j_r183 : j_k183.all (j_ckf 183) = true := by decide +kernel
theorem j_r184 : j_k184.all (j_ckf 184) = true := by decide +kernel
theorem j_r185 : j_k185.all (j_ckf 185) = true := by decide +kernel
theorem j_r186 : j_k186.all (j_ckf 186) = true := by decide +kernel
theorem j_r187 : j_k187.all (j_ckf 187) = true := by decide +kernel
theorem j_r188 : j_k188.all (j_ckf 188) = true := by decide +kernel
theorem j_r189 : j_k189.all (j_ckf 189) = true := by decide +kernel
theorem j_r190 : j_k190.all (j_ckf 190) = true := by decide +kernel
theorem j_r191 : j_k191.all (j_ckf 191) = true := by decide +kernel
theorem j_r192 : j_k192.all (j_ckf 192) = true := by decide +kernel
theorem j_r193 : j_k193.all (j_ckf 193) = true := by decide +kernel
theorem j_r194 : j_k194.all (j_ckf 194) = true := by decide +kernel
theorem j_r195 : j_k195.all (j_ckf 195) = true := by decide +kernel
theorem j_r196_0 : ((j_k196.drop 0).take 40).all (j_ckf 196) = true := by decide +kernel
theorem j_r196_40 : (j_k196.drop 40).all (j_ckf 196) = true := by decide +kernel
theorem j_r196 : j_k196.all (j_ckf 196) = true := j_ckdd 0 40 j_r196_0 (j_r196_40)
theorem j_r197 : j_k197.all (j_ckf 197) = true := by decide +kernel
theorem j_r198 : j_k198.all (j_ckf 198) = true := by decide +kernel
theorem j_r199 : j_k199.all (j_ckf 199) = true := by decide +kernel
theorem j_r200_0 : ((j_k200.drop 0).take 40).all (j_ckf 200) = true := by decide +kernel
theorem j_r200_40 : ((j_k200.drop 40).take 40).all (j_ckf 200) = true := by decide +kernel
theorem j_r200_80 : (j_k200.drop 80).all (j_ckf 200) = true := by decide +kernel
theorem j_r200 : j_k200.all (j_ckf 200) = true := j_ckdd 0 40 j_r200_0 (j_ckdd 40 40 j_r200_40 (j_r200_80))
theorem j_r201 : j_k201.all (j_ckf 201) = true := by decide +kernel
theorem j_r202 : j_k202.all (j_ckf 202) = true := by decide +kernel
theorem j_r203 : j_k203.all (j_ckf 203) = true := by decide +kernel
theorem j_r204 : j_k204.all (j_ckf 204) = true := by decide +kernel
theorem j_r205 : j_k205.all (j_ckf 205) = true := by decide +kernel
theorem j_r206 : j_k206.all (j_ckf 206) = true := by decide +kernel
theorem j_r207 : j_k207.all (j_ckf 207) = true := by decide +kernel
theorem j_r208 : j_k208.all (j_ckf 208) = true := by decide +kernel
theorem j_r209 : j_k209.all (j_ckf 209) = true := by decide +kernel
theorem j_r210 : j_k210.all (j_ckf 210) = true := by decide +kernel
theorem j_r211 : j_k211.all (j_ckf 211) = true := by decide +kernel
theorem j_r212 : j_k212.all (j_ckf 212) = true := by decide +kernel
theorem j_r213_0 : ((j_k213.drop 0).take 40).all (j_ckf 213) = true := by decide +kernel
theorem j_r213_40 : ((j_k213.drop 40).take 40).all (j_ckf 213) = true := by decide +kernel
theorem j_r213_80 : ((j_k213.drop 80).take 40).all (j_ckf 213) = true := by decide +kernel
theorem j_r213_120 : ((j_k213.drop 120).take 40).all (j_ckf 213) = true := by decide +kernel
theorem j_r213_160 : ((j_k213.drop 160).take 40).all (j_ckf 213) = true := by decide +kernel
theorem j_r213_200 : ((j_k213.drop 200).take 40).all (j_ckf 213) = true := by decide +kernel
theorem j_r213_240 : ((j_k213.drop 240).take 40).all (j_ckf 213) = true := by decide +kernel
theorem j_r213_280 : ((j_k213.drop 280).take 40).all (j_ckf 213) = true := by decide +kernel
theorem j_r213_320 : ((j_k213.drop 320).take 40).all (j_ckf 213) = true := by decide +kernel
theorem j_r213_360 : ((j_k213.drop 360).take 40).all (j_ckf 213) = true := by decide +kernel
theorem j_r213_400 : ((j_k213.drop 400).take 40).all (j_ckf 213) = true := by decide +kernel
theorem j_r213_440 : ((j_k213.drop 440).take 40).all (j_ckf 213) = true := by decide +kernel
theorem j_r213_480 : ((j_k213.drop 480).take 40).all (j_ckf 213) = true := by decide +kernel
theorem j_r213_520 : ((j_k213.drop 520).take 40).all (j_ckf 213) = true := by decide +kernel
theorem j_r213_560 : ((j_k213.drop 560).take 40).all (j_ckf 213) = true := by decide +kernel
theorem j_r213_600 : ((j_k213.drop 600).take 40).all (j_ckf 213) = true := by decide +kernel
theorem j_r213_640 : ((j_k213.drop 640).take 40).all (j_ckf 213) = true := by decide +kernel
theorem j_r213_680 : ((j_k213.drop 680).take 40).all (j_ckf 213) = true := by decide +kernel
theorem j_r213_720 : ((j_k213.drop 720).take 40).all (j_ckf 213) = true := by decide +kernel
theorem j_r213_760 : ((j_k213.drop 760).take 40).all (j_ckf 213) = true := by decide +kernel
theorem j_r213_800 : ((j_k213.drop 800).take 40).all (j_ckf 213) = true := by decide +kernel
theorem j_r213_840 : ((j_k213.drop 840).take 40).all (j_ckf 213) = true := by decide +kernel
theorem j_r213_880 : (j_k213.drop 880).all (j_ckf 213) = true := by decide +kernel
theorem j_r213 : j_k213.all (j_ckf 213) = true := j_ckdd 0 40 j_r213_0 (j_ckdd 40 40 j_r213_40 (j_ckdd 80 40 j_r213_80 (j_ckdd 120 40 j_r213_120 (j_ckdd 160 40 j_r213_160 (j_ckdd 200 40 j_r213_200 (j_ckdd 240 40 j_r213_240 (j_ckdd 280 40 j_r213_280 (j_ckdd 320 40 j_r213_320 (j_ckdd 360 40 j_r213_360 (j_ckdd 400 40 j_r213_400 (j_ckdd 440 40 j_r213_440 (j_ckdd 480 40 j_r213_480 (j_ckdd 520 40 j_r213_520 (j_ckdd 560 40 j_r213_560 (j_ckdd 600 40 j_r213_600 (j_ckdd 640 40 j_r213_640 (j_ckdd 680 40 j_r213_680 (j_ckdd 720 40 j_r213_720 (j_ckdd 760 40 j_r213_760 (j_ckdd 800 40 j_r213_800 (j_ckdd 840 40 j_r213_840 (j_r213_880))))))))))))))))))))))
theorem j_rall : ∀ M, M < 214 → (j_tab.getD M []).all (j_ckf M) = true := by
  intro M hM
  match M, hM with
  | 0, _ => exact j_r0
  | 1, _ => exact j_r1
  | 2, _ => exact j_r2
  | 3, _ => exact j_r3
  | 4, _ => exact j_r4
  | 5, _ => exact j_r5
  | 6, _ => exact j_r6
  | 7, _ => exact j_r7
  | 8, _ => exact j_r8
  | 9, _ => exact j_r9
  | 10, _ => exact j_r10
  | 11, _ => exact j_r11
  | 12, _ => exact j_r12
  | 13, _ => exact j_r13
  | 14, _ => exact j_r14
  | 15, _ => exact j_r15
  | 16, _ => exact j_r16
  | 17, _ => exact j_r17
  | 18, _ => exact j_r18
  | 19, _ => exact j_r19
  | 20, _ => exact j_r20
  | 21, _ => exact j_r21
  | 22, _ => exact j_r22
  | 23, _ => exact j_r23
  | 24, _ => exact j_r24
  | 25, _ => exact j_r25
  | 26, _ => exact j_r26
  | 27, _ => exact j_r27
  | 28, _ => exact j_r28
  | 29, _ => exact j_r29
  | 30, _ => exact j_r30
  | 31, _ => exact j_r31
  | 32, _ => exact j_r32
  | 33, _ => exact j_r33
  | 34, _ => exact j_r34
  | 35, _ => exact j_r35
  | 36, _ => exact j_r36
  | 37, _ => exact j_r37
  | 38, _ => exact j_r38
  | 39, _ => exact j_r39
  | 40, _ => exact j_r40
  | 41, _ => exact j_r41
  | 42, _ => exact j_r42
  | 43, _ => exact j_r43
  | 44, _ => exact j_r44
  | 45, _ => exact j_r45
  | 46, _ => exact j_r46
  | 47, _ => exact j_r47
  | 48, _ => exact j_r48
  | 49, _ => exact j_r49
  | 50, _ => exact j_r50
  | 51, _ => exact j_r51
  | 52, _ => exact j_r52
  | 53, _ => exact j_r53
  | 54, _ => exact j_r54
  | 55, _ => exact j_r55
  | 56, _ => exact j_r56
  | 57, _ => exact j_r57
  | 58, _ => exact j_r58
  | 59, _ => exact j_r59
  | 60, _ => exact j_r60
  | 61, _ => exact j_r61
  | 62, _ => exact j_r62
  | 63, _ => exact j_r63
  | 64, _ => exact j_r64
  | 65, _ => exact j_r65
  | 66, _ => exact j_r66
  | 67, _ => exact j_r67
  | 68, _ => exact j_r68
  | 69, _ => exact j_r69
  | 70, _ => exact j_r70
  | 71, _ => exact j_r71
  | 72, _ => exact j_r72
  | 73, _ => exact j_r73
  | 74, _ => exact j_r74
  | 75, _ => exact j_r75
  | 76, _ => exact j_r76
  | 77, _ => exact j_r77
  | 78, _ => exact j_r78
  | 79, _ => exact j_r79
  | 80, _ => exact j_r80
  | 81, _ => exact j_r81
  | 82, _ => exact j_r82
  | 83, _ => exact j_r83
  | 84, _ => exact j_r84
  | 85, _ => exact j_r85
  | 86, _ => exact j_r86
  | 87, _ => exact j_r87
  | 88, _ => exact j_r88
  | 89, _ => exact j_r89
  | 90, _ => exact j_r90
  | 91, _ => exact j_r91
  | 92, _ => exact j_r92
  | 93, _ => exact j_r93
  | 94, _ => exact j_r94
  | 95, _ => exact j_r95
  | 96, _ => exact j_r96
  | 97, _ => exact j_r97
  | 98, _ => exact j_r98
  | 99, _ => exact j_r99
  | 100, _ => exact j_r100
  | 101, _ => exact j_r101
  | 102, _ => exact j_r102
  | 103, _ => exact j_r103
  | 104, _ => exact j_r104
  | 105, _ => exact j_r105
  | 106, _ => exact j_r106
  | 107, _ => exact j_r107
  | 108, _ => exact j_r108
  | 109, _ => exact j_r109
  | 110, _ => exact j_r110
  | 111, _ => exact j_r111
  | 112, _ => exact j_r112
  | 113, _ => exact j_r113
  | 114, _ => exact j_r114
  | 115, _ => exact j_r115
  | 116, _ => exact j_r116
  | 117, _ => exact j_r117
  | 118, _ => exact j_r118
  | 119, _ => exact j_r119
  | 120, _ => exact j_r120
  | 121, _ => exact j_r121
  | 122, _ => exact j_r122
  | 123, _ => exact j_r123
  | 124, _ => exact j_r124
  | 125, _ => exact j_r125
  | 126, _ => exact j_r126
  | 127, _ => exact j_r127
  | 128, _ => exact j_r128
  | 129, _ => exact j_r129
  | 130, _ => exact j_r130
  | 131, _ => exact j_r131
  | 132, _ => exact j_r132
  | 133, _ => exact j_r133
  | 134, _ => exact j_r134
  | 135, _ => exact j_r135
  | 136, _ => exact j_r136
  | 137, _ => exact j_r137
  | 138, _ => exact j_r138
  | 139, _ => exact j_r139
  | 140, _ => exact j_r140
  | 141, _ => exact j_r141
  | 142, _ => exact j_r142
  | 143, _ => exact j_r143
  | 144, _ => exact j_r144
  | 145, _ => exact j_r145
  | 146, _ => exact j_r146
  | 147, _ => exact j_r147
  | 148, _ => exact j_r148
  | 149, _ => exact j_r149
  | 150, _ => exact j_r150
  | 151, _ => exact j_r151
  | 152, _ => exact j_r152
  | 153, _ => exact j_r153
  | 154, _ => exact j_r154
  | 155, _ => exact j_r155
  | 156, _ => exact j_r156
  | 157, _ => exact j_r157
  | 158, _ => exact j_r158
  | 159, _ => exact j_r159
  | 160, _ => exact j_r160
  | 161, _ => exact j_r161
  | 162, _ => exact j_r162
  | 163, _ => exact j_r163
  | 164, _ => exact j_r164
  | 165, _ => exact j_r165
  | 166, _ => exact j_r166
  | 167, _ => exact j_r167
  | 168, _ => exact j_r168
  | 169, _ => exact j_r169
  | 170, _ => exact j_r170
  | 171, _ => exact j_r171
  | 172, _ => exact j_r172
  | 173, _ => exact j_r173
  | 174, _ => exact j_r174
  | 175, _ => exact j_r175
  | 176, _ => exact j_r176
  | 177, _ => exact j_r177
  | 178, _ => exact j_r178
  | 179, _ => exact j_r179
  | 180, _ => exact j_r180
  | 181, _ => exact j_r181
  | 182, _ => exact j_r182
  | 183, _ => exact j_r183
  | 184, _ => exact j_r184
  | 185, _ => exact j_r185
  | 186, _ => exact j_r186
  | 187, _ => exact j_r187
  | 188, _ => exact j_r188
  | 189, _ => exact j_r189
  | 190, _ => exact j_r190
  | 191, _ => exact j_r191
  | 192, _ => exact j_r192
  | 193, _ => exact j_r193
  | 194, _ => exact j_r194
  | 195, _ => exact j_r195
  | 196, _ => exact j_r196
  | 197, _ => exact j_r197
  | 198, _ => exact j_r198
  | 199, _ => exact j_r199
  | 200, _ => exact j_r200
  | 201, _ => exact j_r201
  | 202, _ => exact j_r202
  | 203, _ => exact j_r203
  | 204, _ => exact j_r204
  | 205, _ => exact j_r205
  | 206, _ => exact j_r206
  | 207, _ => exact j_r207
  | 208, _ => exact j_r208
  | 209, _ => exact j_r209
  | 210, _ => exact j_r210
  | 211, _ => exact j_r211
  | 212, _ => exact j_r212
  | 213, _ => exact j_r213
  | n + 214, h => exact absurd h (by omega)
theorem j_ok : j_OK := by
  intro M r hr
  have hM : M < 214 := by
    refine Nat.not_le.mp fun h => ?_
    rw [List.getD_eq_getElem?_getD, List.getElem?_eq_none (by have : j_tab.length = 214 := rfl; omega)] at hr
    cases hr
  have h := List.all_eq_true.mp (j_rall M hM) r hr
  unfold j_ckf at h
  rw [Bool.and_eq_true] at h
  exact ⟨of_decide_eq_true h.1, h.2⟩
