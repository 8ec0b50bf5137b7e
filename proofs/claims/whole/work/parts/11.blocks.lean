/-! BLOCKS, printed by wip/whole/gen11.py -/
-- X0_init
theorem r0_0 : j_at 0 0 = some (0, .aload_n 0, 1, []) := by decide +kernel
theorem r0_1 : j_at 0 1 = some (1, .invokespecial 3, 3, [5, 1, 103, 97, 98]) := by decide +kernel
theorem r0_4 : j_at 0 4 = some (4, .aload_n 0, 1, []) := by decide +kernel
theorem r0_5 : j_at 0 5 = some (5, .bipush 7, 2, []) := by decide +kernel
theorem r0_7 : j_at 0 7 = some (7, .anewarray 9, 3, [104, 0, 2, 4]) := by decide +kernel
theorem r0_10 : j_at 0 10 = some (10, .putfield 11, 3, [105, 0, 2, 0, 0, 1, 0]) := by decide +kernel
theorem r0_13 : j_at 0 13 = some (13, .aload_n 0, 1, []) := by decide +kernel
theorem r0_14 : j_at 0 14 = some (14, .bipush 7, 2, []) := by decide +kernel
theorem r0_16 : j_at 0 16 = some (16, .newarray .int, 2, [136, 0]) := by decide +kernel
theorem r0_18 : j_at 0 18 = some (18, .putfield 17, 3, [106, 0, 2, 1, 0, 1, 0]) := by decide +kernel
theorem r0_21 : j_at 0 21 = some (21, .aload_n 0, 1, []) := by decide +kernel
theorem r0_22 : j_at 0 22 = some (22, .bipush 12, 2, []) := by decide +kernel
theorem r0_24 : j_at 0 24 = some (24, .newarray .int, 2, [136, 0]) := by decide +kernel
theorem r0_26 : j_at 0 26 = some (26, .putfield 21, 3, [107, 0, 2, 2, 0, 1, 0]) := by decide +kernel
theorem r0_29 : j_at 0 29 = some (29, .aload_n 0, 1, []) := by decide +kernel
theorem r0_30 : j_at 0 30 = some (30, .bipush 12, 2, []) := by decide +kernel
theorem r0_32 : j_at 0 32 = some (32, .newarray .int, 2, [136, 0]) := by decide +kernel
theorem r0_34 : j_at 0 34 = some (34, .putfield 24, 3, [109, 0, 2, 3, 0, 1, 0]) := by decide +kernel
theorem r0_37 : j_at 0 37 = some (37, .return_, 1, []) := by decide +kernel
theorem b0_0 {b : Nat} {x0 : Value} {H : j_H} {Q : Option Value → j_H → Prop} (h0 : j_vc H x0 = 0) (h1 : ¬ x0 = .ref 11) : j_wp b 0 0 [x0] [] H Q = j_wp b 0 13 [x0] [] (j_sR (j_nw H (.inr (4, j_ix (Int32.ofInt 7)))) (j_pa x0) 0 (some H.1.length)) Q := Eq.trans (s_aload_n r0_0 rfl (j_isr_vc h0 rfl)) (Eq.trans (s_oinit r0_1 (j_vc_lt h0 rfl) h1 rfl) (Eq.trans (s_aload_n r0_4 rfl (j_isr_vc h0 rfl)) (Eq.trans (s_bipush r0_5) (Eq.trans (s_newr r0_7 (by decide)) (s_put r0_10 (j_al1 (j_vcn h0) rfl) rfl (j_putR rfl))))))
theorem b0_13 {b : Nat} {x0 : Value} {H : j_H} {Q : Option Value → j_H → Prop} (h0 : j_vc H x0 = 0) : j_wp b 0 13 [x0] [] H Q = j_wp b 0 21 [x0] [] (j_sR (j_nw H (.inr (0, j_ix (Int32.ofInt 7)))) (j_pa x0) 1 (some H.1.length)) Q := Eq.trans (s_aload_n r0_13 rfl (j_isr_vc h0 rfl)) (Eq.trans (s_bipush r0_14) (Eq.trans (s_newa r0_16 (by decide)) (s_put r0_18 (j_al1 (j_vcn h0) rfl) rfl (j_putR rfl))))
theorem b0_21 {b : Nat} {x0 : Value} {H : j_H} {Q : Option Value → j_H → Prop} (h0 : j_vc H x0 = 0) : j_wp b 0 21 [x0] [] H Q = j_wp b 0 29 [x0] [] (j_sR (j_nw H (.inr (0, j_ix (Int32.ofInt 12)))) (j_pa x0) 2 (some H.1.length)) Q := Eq.trans (s_aload_n r0_21 rfl (j_isr_vc h0 rfl)) (Eq.trans (s_bipush r0_22) (Eq.trans (s_newa r0_24 (by decide)) (s_put r0_26 (j_al1 (j_vcn h0) rfl) rfl (j_putR rfl))))
theorem b0_29 {b : Nat} {x0 : Value} {H : j_H} {Q : Option Value → j_H → Prop} (h0 : j_vc H x0 = 0) : j_wp b 0 29 [x0] [] H Q = j_wp b 0 37 [x0] [] (j_sR (j_nw H (.inr (0, j_ix (Int32.ofInt 12)))) (j_pa x0) 3 (some H.1.length)) Q := Eq.trans (s_aload_n r0_29 rfl (j_isr_vc h0 rfl)) (Eq.trans (s_bipush r0_30) (Eq.trans (s_newa r0_32 (by decide)) (s_put r0_34 (j_al1 (j_vcn h0) rfl) rfl (j_putR rfl))))
theorem b0_37 {b : Nat} {x0 : Value} {H : j_H} {Q : Option Value → j_H → Prop}  : j_wp b 0 37 [x0] [] H Q = Q none H := s_return r0_37 rfl
-- X0_guestAt
theorem r1_0 : j_at 1 0 = some (0, .iload_n 1, 1, []) := by decide +kernel
theorem r1_1 : j_at 1 1 = some (1, .ifCond .lt 20, 3, []) := by decide +kernel
theorem r1_4 : j_at 1 4 = some (4, .iload_n 1, 1, []) := by decide +kernel
theorem r1_5 : j_at 1 5 = some (5, .aload_n 0, 1, []) := by decide +kernel
theorem r1_6 : j_at 1 6 = some (6, .getfield 27, 3, [111, 0, 0, 4, 0, 0]) := by decide +kernel
theorem r1_9 : j_at 1 9 = some (9, .if_icmp .ge 12, 3, []) := by decide +kernel
theorem r1_12 : j_at 1 12 = some (12, .iload_n 1, 1, []) := by decide +kernel
theorem r1_13 : j_at 1 13 = some (13, .aload_n 0, 1, []) := by decide +kernel
theorem r1_14 : j_at 1 14 = some (14, .getfield 11, 3, [105, 0, 2, 0, 0, 0]) := by decide +kernel
theorem r1_17 : j_at 1 17 = some (17, .arraylength, 1, []) := by decide +kernel
theorem r1_18 : j_at 1 18 = some (18, .if_icmp .lt 7, 3, []) := by decide +kernel
theorem r1_21 : j_at 1 21 = some (21, .aconst_null, 1, []) := by decide +kernel
theorem r1_22 : j_at 1 22 = some (22, .goto 9, 3, []) := by decide +kernel
theorem r1_25 : j_at 1 25 = some (25, .aload_n 0, 1, []) := by decide +kernel
theorem r1_26 : j_at 1 26 = some (26, .getfield 11, 3, [105, 0, 2, 0, 0, 0]) := by decide +kernel
theorem r1_29 : j_at 1 29 = some (29, .iload_n 1, 1, []) := by decide +kernel
theorem r1_30 : j_at 1 30 = some (30, .aaload, 1, [4]) := by decide +kernel
theorem r1_31 : j_at 1 31 = some (31, .areturn, 1, []) := by decide +kernel
theorem b1_0 {b : Nat} {x0 : Value} {x1 : Int32} {H : j_H} {Q : Option Value → j_H → Prop}  : j_wp b 1 0 [x0, .int x1] [] H Q = (if x1.toInt < 0 then j_wp b 1 21 [x0, .int x1] [] H Q else j_wp b 1 4 [x0, .int x1] [] H Q) := Eq.trans (s_iload_n r1_0 rfl) (s_iflt r1_1 rfl rfl)
theorem b1_4 {b : Nat} {x0 : Value} {x1 : Int32} {H : j_H} {Q : Option Value → j_H → Prop} (h0 : j_vc H x0 = 0) : j_wp b 1 4 [x0, .int x1] [] H Q = (if (j_I H (j_pa x0) 4).toInt ≤ x1.toInt then j_wp b 1 21 [x0, .int x1] [] H Q else j_wp b 1 12 [x0, .int x1] [] H Q) := Eq.trans (s_iload_n r1_4 rfl) (Eq.trans (s_aload_n r1_5 rfl (j_isr_vc h0 rfl)) (Eq.trans (s_getfi r1_6 (j_al1 h0 rfl) rfl rfl rfl) (s_icge r1_9 rfl rfl rfl)))
theorem b1_12 {b : Nat} {x0 : Value} {x1 : Int32} {H : j_H} {Q : Option Value → j_H → Prop} (h0 : j_vc H x0 = 0) (h1 : j_vt H (va_rf (j_R H (j_pa x0) 0)) = 4) : j_wp b 1 12 [x0, .int x1] [] H Q = (if x1.toInt < (Int32.ofInt (j_vl H (va_rf (j_R H (j_pa x0) 0)) : Nat)).toInt then j_wp b 1 25 [x0, .int x1] [] H Q else j_wp b 1 21 [x0, .int x1] [] H Q) := Eq.trans (s_iload_n r1_12 rfl) (Eq.trans (s_aload_n r1_13 rfl (j_isr_vc h0 rfl)) (Eq.trans (s_getfr r1_14 (j_al1 h0 rfl) rfl) (Eq.trans (s_alen r1_17 h1 (by decide)) (s_iclt r1_18 rfl rfl rfl))))
theorem b1_21 {b : Nat} {x0 : Value} {x1 : Int32} {H : j_H} {Q : Option Value → j_H → Prop}  : j_wp b 1 21 [x0, .int x1] [] H Q = j_wp b 1 31 [x0, .int x1] [.null] H Q := Eq.trans (s_null r1_21) (s_goto r1_22 rfl)
theorem b1_25 {b : Nat} {x0 : Value} {x1 : Int32} {H : j_H} {Q : Option Value → j_H → Prop} (h0 : j_vc H x0 = 0) (h1 : j_vt H (va_rf (j_R H (j_pa x0) 0)) = 4) (h2 : 0 ≤ x1.toInt) (h3 : x1.toInt < ((j_vl H (va_rf (j_R H (j_pa x0) 0)) : Nat) : Int)) : j_wp b 1 25 [x0, .int x1] [] H Q = j_wp b 1 31 [x0, .int x1] [va_rf (j_R H (j_pa (va_rf (j_R H (j_pa x0) 0))) (j_ix x1))] H Q := Eq.trans (s_aload_n r1_25 rfl (j_isr_vc h0 rfl)) (Eq.trans (s_getfr r1_26 (j_al1 h0 rfl) rfl) (Eq.trans (s_iload_n r1_29 rfl) (s_aald r1_30 h1 (by decide) (j_ib_of (z := x1.toInt) rfl h2 h3))))
theorem b1_31 {b : Nat} {x0 : Value} {x1 : Int32} {y0 : Value} {H : j_H} {Q : Option Value → j_H → Prop} (h0 : j_isr y0 = true) (h1 : ¬ y0 = .ref 11) : j_wp b 1 31 [x0, .int x1] [y0] H Q = Q (some (y0)) H := s_areturn r1_31 rfl h0 h1
-- X0_sits
theorem r2_0 : j_at 2 0 = some (0, .aload_n 0, 1, []) := by decide +kernel
theorem r2_1 : j_at 2 1 = some (1, .getfield 27, 3, [111, 0, 0, 4, 0, 0]) := by decide +kernel
theorem r2_4 : j_at 2 4 = some (4, .aload_n 0, 1, []) := by decide +kernel
theorem r2_5 : j_at 2 5 = some (5, .getfield 11, 3, [105, 0, 2, 0, 0, 0]) := by decide +kernel
theorem r2_8 : j_at 2 8 = some (8, .arraylength, 1, []) := by decide +kernel
theorem r2_9 : j_at 2 9 = some (9, .if_icmp .lt 6, 3, []) := by decide +kernel
theorem r2_12 : j_at 2 12 = some (12, .bipush (-4), 2, []) := by decide +kernel
theorem r2_14 : j_at 2 14 = some (14, .ireturn, 1, []) := by decide +kernel
theorem r2_15 : j_at 2 15 = some (15, .aload_n 0, 1, []) := by decide +kernel
theorem r2_16 : j_at 2 16 = some (16, .getfield 11, 3, [105, 0, 2, 0, 0, 0]) := by decide +kernel
theorem r2_19 : j_at 2 19 = some (19, .aload_n 0, 1, []) := by decide +kernel
theorem r2_20 : j_at 2 20 = some (20, .getfield 27, 3, [111, 0, 0, 4, 0, 0]) := by decide +kernel
theorem r2_23 : j_at 2 23 = some (23, .aload_n 1, 1, []) := by decide +kernel
theorem r2_24 : j_at 2 24 = some (24, .aastore, 1, [4, 2, 1, 1, 2, 0, 4, 2, 5, 3, 6, 4, 7, 5, 9, 6]) := by decide +kernel
theorem r2_25 : j_at 2 25 = some (25, .aload_n 0, 1, []) := by decide +kernel
theorem r2_26 : j_at 2 26 = some (26, .getfield 17, 3, [106, 0, 2, 1, 0, 0]) := by decide +kernel
theorem r2_29 : j_at 2 29 = some (29, .aload_n 0, 1, []) := by decide +kernel
theorem r2_30 : j_at 2 30 = some (30, .getfield 27, 3, [111, 0, 0, 4, 0, 0]) := by decide +kernel
theorem r2_33 : j_at 2 33 = some (33, .iconst 0, 1, []) := by decide +kernel
theorem r2_34 : j_at 2 34 = some (34, .iastore, 1, []) := by decide +kernel
theorem r2_35 : j_at 2 35 = some (35, .aload_n 0, 1, []) := by decide +kernel
theorem r2_36 : j_at 2 36 = some (36, .dup, 1, []) := by decide +kernel
theorem r2_37 : j_at 2 37 = some (37, .getfield 27, 3, [111, 0, 0, 4, 0, 0]) := by decide +kernel
theorem r2_40 : j_at 2 40 = some (40, .iconst 1, 1, []) := by decide +kernel
theorem r2_41 : j_at 2 41 = some (41, .iadd, 1, []) := by decide +kernel
theorem r2_42 : j_at 2 42 = some (42, .putfield 27, 3, [111, 0, 0, 4, 0, 0, 0]) := by decide +kernel
theorem r2_45 : j_at 2 45 = some (45, .aload_n 0, 1, []) := by decide +kernel
theorem r2_46 : j_at 2 46 = some (46, .getfield 27, 3, [111, 0, 0, 4, 0, 0]) := by decide +kernel
theorem r2_49 : j_at 2 49 = some (49, .iconst 1, 1, []) := by decide +kernel
theorem r2_50 : j_at 2 50 = some (50, .isub, 1, []) := by decide +kernel
theorem r2_51 : j_at 2 51 = some (51, .ireturn, 1, []) := by decide +kernel
theorem b2_0 {b : Nat} {x0 : Value} {x1 : Value} {H : j_H} {Q : Option Value → j_H → Prop} (h0 : j_vc H x0 = 0) (h1 : j_vt H (va_rf (j_R H (j_pa x0) 0)) = 4) : j_wp b 2 0 [x0, x1] [] H Q = (if (j_I H (j_pa x0) 4).toInt < (Int32.ofInt (j_vl H (va_rf (j_R H (j_pa x0) 0)) : Nat)).toInt then j_wp b 2 15 [x0, x1] [] H Q else j_wp b 2 12 [x0, x1] [] H Q) := Eq.trans (s_aload_n r2_0 rfl (j_isr_vc h0 rfl)) (Eq.trans (s_getfi r2_1 (j_al1 h0 rfl) rfl rfl rfl) (Eq.trans (s_aload_n r2_4 rfl (j_isr_vc h0 rfl)) (Eq.trans (s_getfr r2_5 (j_al1 h0 rfl) rfl) (Eq.trans (s_alen r2_8 h1 (by decide)) (s_iclt r2_9 rfl rfl rfl)))))
theorem b2_12 {b : Nat} {x0 : Value} {x1 : Value} {H : j_H} {Q : Option Value → j_H → Prop}  : j_wp b 2 12 [x0, x1] [] H Q = Q (some (.int (Int32.ofInt (-4)))) H := Eq.trans (s_bipush r2_12) (s_ireturn r2_14 (j_rok1 rfl))
theorem b2_15 {b : Nat} {x0 : Value} {x1 : Value} {H : j_H} {Q : Option Value → j_H → Prop} (h0 : j_vc H x0 = 0) (h1 : j_isr x1 = true) (h2 : j_vt H (va_rf (j_R H (j_pa x0) 0)) = 4) (h3 : 0 ≤ (j_I H (j_pa x0) 4).toInt) (h4 : (j_I H (j_pa x0) 4).toInt < ((j_vl H (va_rf (j_R H (j_pa x0) 0)) : Nat) : Int)) (h5 : x1 = .null ∨ (j_vc H x1 < 99 ∧ j_pr (j_vc H x1) [1, 1, 2, 0, 4, 2, 5, 3, 6, 4, 7, 5, 9, 6] = true)) : j_wp b 2 15 [x0, x1] [] H Q = j_wp b 2 25 [x0, x1] [] (j_sR H (j_pa (va_rf (j_R H (j_pa x0) 0))) (j_ix (j_I H (j_pa x0) 4)) (j_po x1)) Q := Eq.trans (s_aload_n r2_15 rfl (j_isr_vc h0 rfl)) (Eq.trans (s_getfr r2_16 (j_al1 h0 rfl) rfl) (Eq.trans (s_aload_n r2_19 rfl (j_isr_vc h0 rfl)) (Eq.trans (s_getfi r2_20 (j_al1 h0 rfl) rfl rfl rfl) (Eq.trans (s_aload_n r2_23 rfl h1) (s_aast r2_24 h2 (by decide) (j_ib_of (z := (j_I H (j_pa x0) 4).toInt) rfl h3 h4) h5)))))
theorem b2_25 {b : Nat} {x0 : Value} {x1 : Value} {H : j_H} {Q : Option Value → j_H → Prop} (h0 : j_vc H x0 = 0) (h1 : j_vt H (va_rf (j_R H (j_pa x0) 1)) = 0) (h2 : 0 ≤ (j_I H (j_pa x0) 4).toInt) (h3 : (j_I H (j_pa x0) 4).toInt < ((j_vl H (va_rf (j_R H (j_pa x0) 1)) : Nat) : Int)) : j_wp b 2 25 [x0, x1] [] H Q = j_wp b 2 35 [x0, x1] [] (j_sI H (j_pa (va_rf (j_R H (j_pa x0) 1))) (j_ix (j_I H (j_pa x0) 4)) (Int32.ofInt 0)) Q := Eq.trans (s_aload_n r2_25 rfl (j_isr_vc h0 rfl)) (Eq.trans (s_getfr r2_26 (j_al1 h0 rfl) rfl) (Eq.trans (s_aload_n r2_29 rfl (j_isr_vc h0 rfl)) (Eq.trans (s_getfi r2_30 (j_al1 h0 rfl) rfl rfl rfl) (Eq.trans (s_iconst r2_33) (s_iast r2_34 h1 (j_ib_of (z := (j_I H (j_pa x0) 4).toInt) rfl h2 h3))))))
theorem b2_35 {b : Nat} {x0 : Value} {x1 : Value} {H : j_H} {Q : Option Value → j_H → Prop} (h0 : j_vc H x0 = 0) : j_wp b 2 35 [x0, x1] [] H Q = j_wp b 2 45 [x0, x1] [] (j_sI H (j_pa x0) 4 ((j_I H (j_pa x0) 4) + (Int32.ofInt 1))) Q := Eq.trans (s_aload_n r2_35 rfl (j_isr_vc h0 rfl)) (Eq.trans (s_dup r2_36 (j_vc_lt h0 rfl)) (Eq.trans (s_getfi r2_37 (j_al1 h0 rfl) rfl rfl rfl) (Eq.trans (s_iconst r2_40) (Eq.trans (s_iadd r2_41) (s_put r2_42 (j_al1 h0 rfl) rfl j_putI)))))
theorem b2_45 {b : Nat} {x0 : Value} {x1 : Value} {H : j_H} {Q : Option Value → j_H → Prop} (h0 : j_vc H x0 = 0) : j_wp b 2 45 [x0, x1] [] H Q = Q (some (.int ((j_I H (j_pa x0) 4) - (Int32.ofInt 1)))) H := Eq.trans (s_aload_n r2_45 rfl (j_isr_vc h0 rfl)) (Eq.trans (s_getfi r2_46 (j_al1 h0 rfl) rfl rfl rfl) (Eq.trans (s_iconst r2_49) (Eq.trans (s_isub r2_50) (s_ireturn r2_51 (j_rok1 rfl)))))
-- X0_rowAt
theorem r3_0 : j_at 3 0 = some (0, .iload_n 1, 1, []) := by decide +kernel
theorem r3_1 : j_at 3 1 = some (1, .ifCond .lt 12, 3, []) := by decide +kernel
theorem r3_4 : j_at 3 4 = some (4, .iload_n 1, 1, []) := by decide +kernel
theorem r3_5 : j_at 3 5 = some (5, .aload_n 0, 1, []) := by decide +kernel
theorem r3_6 : j_at 3 6 = some (6, .getfield 17, 3, [106, 0, 2, 1, 0, 0]) := by decide +kernel
theorem r3_9 : j_at 3 9 = some (9, .arraylength, 1, []) := by decide +kernel
theorem r3_10 : j_at 3 10 = some (10, .if_icmp .lt 7, 3, []) := by decide +kernel
theorem r3_13 : j_at 3 13 = some (13, .iconst 0, 1, []) := by decide +kernel
theorem r3_14 : j_at 3 14 = some (14, .goto 9, 3, []) := by decide +kernel
theorem r3_17 : j_at 3 17 = some (17, .aload_n 0, 1, []) := by decide +kernel
theorem r3_18 : j_at 3 18 = some (18, .getfield 17, 3, [106, 0, 2, 1, 0, 0]) := by decide +kernel
theorem r3_21 : j_at 3 21 = some (21, .iload_n 1, 1, []) := by decide +kernel
theorem r3_22 : j_at 3 22 = some (22, .iaload, 1, []) := by decide +kernel
theorem r3_23 : j_at 3 23 = some (23, .ireturn, 1, []) := by decide +kernel
theorem b3_0 {b : Nat} {x0 : Value} {x1 : Int32} {H : j_H} {Q : Option Value → j_H → Prop}  : j_wp b 3 0 [x0, .int x1] [] H Q = (if x1.toInt < 0 then j_wp b 3 13 [x0, .int x1] [] H Q else j_wp b 3 4 [x0, .int x1] [] H Q) := Eq.trans (s_iload_n r3_0 rfl) (s_iflt r3_1 rfl rfl)
theorem b3_4 {b : Nat} {x0 : Value} {x1 : Int32} {H : j_H} {Q : Option Value → j_H → Prop} (h0 : j_vc H x0 = 0) (h1 : j_vt H (va_rf (j_R H (j_pa x0) 1)) = 0) : j_wp b 3 4 [x0, .int x1] [] H Q = (if x1.toInt < (Int32.ofInt (j_vl H (va_rf (j_R H (j_pa x0) 1)) : Nat)).toInt then j_wp b 3 17 [x0, .int x1] [] H Q else j_wp b 3 13 [x0, .int x1] [] H Q) := Eq.trans (s_iload_n r3_4 rfl) (Eq.trans (s_aload_n r3_5 rfl (j_isr_vc h0 rfl)) (Eq.trans (s_getfr r3_6 (j_al1 h0 rfl) rfl) (Eq.trans (s_alen r3_9 h1 (by decide)) (s_iclt r3_10 rfl rfl rfl))))
theorem b3_13 {b : Nat} {x0 : Value} {x1 : Int32} {H : j_H} {Q : Option Value → j_H → Prop}  : j_wp b 3 13 [x0, .int x1] [] H Q = j_wp b 3 23 [x0, .int x1] [.int (Int32.ofInt 0)] H Q := Eq.trans (s_iconst r3_13) (s_goto r3_14 rfl)
theorem b3_17 {b : Nat} {x0 : Value} {x1 : Int32} {H : j_H} {Q : Option Value → j_H → Prop} (h0 : j_vc H x0 = 0) (h1 : j_vt H (va_rf (j_R H (j_pa x0) 1)) = 0) (h2 : 0 ≤ x1.toInt) (h3 : x1.toInt < ((j_vl H (va_rf (j_R H (j_pa x0) 1)) : Nat) : Int)) : j_wp b 3 17 [x0, .int x1] [] H Q = j_wp b 3 23 [x0, .int x1] [.int (j_I H (j_pa (va_rf (j_R H (j_pa x0) 1))) (j_ix x1))] H Q := Eq.trans (s_aload_n r3_17 rfl (j_isr_vc h0 rfl)) (Eq.trans (s_getfr r3_18 (j_al1 h0 rfl) rfl) (Eq.trans (s_iload_n r3_21 rfl) (s_iald r3_22 h1 (by decide) (j_ib_of (z := x1.toInt) rfl h2 h3))))
theorem b3_23 {b : Nat} {x0 : Value} {x1 : Int32} {y0 : Int32} {H : j_H} {Q : Option Value → j_H → Prop}  : j_wp b 3 23 [x0, .int x1] [.int y0] H Q = Q (some (.int y0)) H := s_ireturn r3_23 (j_rok1 rfl)
-- X0_setRow
theorem r4_0 : j_at 4 0 = some (0, .iload_n 1, 1, []) := by decide +kernel
theorem r4_1 : j_at 4 1 = some (1, .ifCond .lt 19, 3, []) := by decide +kernel
theorem r4_4 : j_at 4 4 = some (4, .iload_n 1, 1, []) := by decide +kernel
theorem r4_5 : j_at 4 5 = some (5, .aload_n 0, 1, []) := by decide +kernel
theorem r4_6 : j_at 4 6 = some (6, .getfield 17, 3, [106, 0, 2, 1, 0, 0]) := by decide +kernel
theorem r4_9 : j_at 4 9 = some (9, .arraylength, 1, []) := by decide +kernel
theorem r4_10 : j_at 4 10 = some (10, .if_icmp .ge 10, 3, []) := by decide +kernel
theorem r4_13 : j_at 4 13 = some (13, .aload_n 0, 1, []) := by decide +kernel
theorem r4_14 : j_at 4 14 = some (14, .getfield 17, 3, [106, 0, 2, 1, 0, 0]) := by decide +kernel
theorem r4_17 : j_at 4 17 = some (17, .iload_n 1, 1, []) := by decide +kernel
theorem r4_18 : j_at 4 18 = some (18, .iload_n 2, 1, []) := by decide +kernel
theorem r4_19 : j_at 4 19 = some (19, .iastore, 1, []) := by decide +kernel
theorem r4_20 : j_at 4 20 = some (20, .return_, 1, []) := by decide +kernel
theorem b4_0 {b : Nat} {x0 : Value} {x1 : Int32} {x2 : Int32} {H : j_H} {Q : Option Value → j_H → Prop}  : j_wp b 4 0 [x0, .int x1, .int x2] [] H Q = (if x1.toInt < 0 then j_wp b 4 20 [x0, .int x1, .int x2] [] H Q else j_wp b 4 4 [x0, .int x1, .int x2] [] H Q) := Eq.trans (s_iload_n r4_0 rfl) (s_iflt r4_1 rfl rfl)
theorem b4_4 {b : Nat} {x0 : Value} {x1 : Int32} {x2 : Int32} {H : j_H} {Q : Option Value → j_H → Prop} (h0 : j_vc H x0 = 0) (h1 : j_vt H (va_rf (j_R H (j_pa x0) 1)) = 0) : j_wp b 4 4 [x0, .int x1, .int x2] [] H Q = (if (Int32.ofInt (j_vl H (va_rf (j_R H (j_pa x0) 1)) : Nat)).toInt ≤ x1.toInt then j_wp b 4 20 [x0, .int x1, .int x2] [] H Q else j_wp b 4 13 [x0, .int x1, .int x2] [] H Q) := Eq.trans (s_iload_n r4_4 rfl) (Eq.trans (s_aload_n r4_5 rfl (j_isr_vc h0 rfl)) (Eq.trans (s_getfr r4_6 (j_al1 h0 rfl) rfl) (Eq.trans (s_alen r4_9 h1 (by decide)) (s_icge r4_10 rfl rfl rfl))))
theorem b4_13 {b : Nat} {x0 : Value} {x1 : Int32} {x2 : Int32} {H : j_H} {Q : Option Value → j_H → Prop} (h0 : j_vc H x0 = 0) (h1 : j_vt H (va_rf (j_R H (j_pa x0) 1)) = 0) (h2 : 0 ≤ x1.toInt) (h3 : x1.toInt < ((j_vl H (va_rf (j_R H (j_pa x0) 1)) : Nat) : Int)) : j_wp b 4 13 [x0, .int x1, .int x2] [] H Q = j_wp b 4 20 [x0, .int x1, .int x2] [] (j_sI H (j_pa (va_rf (j_R H (j_pa x0) 1))) (j_ix x1) x2) Q := Eq.trans (s_aload_n r4_13 rfl (j_isr_vc h0 rfl)) (Eq.trans (s_getfr r4_14 (j_al1 h0 rfl) rfl) (Eq.trans (s_iload_n r4_17 rfl) (Eq.trans (s_iload_n r4_18 rfl) (s_iast r4_19 h1 (j_ib_of (z := x1.toInt) rfl h2 h3)))))
theorem b4_20 {b : Nat} {x0 : Value} {x1 : Int32} {x2 : Int32} {H : j_H} {Q : Option Value → j_H → Prop}  : j_wp b 4 20 [x0, .int x1, .int x2] [] H Q = Q none H := s_return r4_20 rfl
-- X0_becomes
theorem r5_0 : j_at 5 0 = some (0, .iconst 0, 1, []) := by decide +kernel
theorem r5_1 : j_at 5 1 = some (1, .istore_n 2, 1, []) := by decide +kernel
theorem r5_2 : j_at 5 2 = some (2, .iload_n 2, 1, []) := by decide +kernel
theorem r5_3 : j_at 5 3 = some (3, .aload_n 0, 1, []) := by decide +kernel
theorem r5_4 : j_at 5 4 = some (4, .getfield 11, 3, [105, 0, 2, 0, 0, 0]) := by decide +kernel
theorem r5_7 : j_at 5 7 = some (7, .arraylength, 1, []) := by decide +kernel
theorem r5_8 : j_at 5 8 = some (8, .if_icmp .ge 33, 3, []) := by decide +kernel
theorem r5_11 : j_at 5 11 = some (11, .aload_n 0, 1, []) := by decide +kernel
theorem r5_12 : j_at 5 12 = some (12, .getfield 11, 3, [105, 0, 2, 0, 0, 0]) := by decide +kernel
theorem r5_15 : j_at 5 15 = some (15, .iload_n 2, 1, []) := by decide +kernel
theorem r5_16 : j_at 5 16 = some (16, .aload_n 1, 1, []) := by decide +kernel
theorem r5_17 : j_at 5 17 = some (17, .getfield 11, 3, [105, 0, 2, 0, 0, 0]) := by decide +kernel
theorem r5_20 : j_at 5 20 = some (20, .iload_n 2, 1, []) := by decide +kernel
theorem r5_21 : j_at 5 21 = some (21, .aaload, 1, [4]) := by decide +kernel
theorem r5_22 : j_at 5 22 = some (22, .aastore, 1, [4, 2, 1, 1, 2, 0, 4, 2, 5, 3, 6, 4, 7, 5, 9, 6]) := by decide +kernel
theorem r5_23 : j_at 5 23 = some (23, .aload_n 0, 1, []) := by decide +kernel
theorem r5_24 : j_at 5 24 = some (24, .getfield 17, 3, [106, 0, 2, 1, 0, 0]) := by decide +kernel
theorem r5_27 : j_at 5 27 = some (27, .iload_n 2, 1, []) := by decide +kernel
theorem r5_28 : j_at 5 28 = some (28, .aload_n 1, 1, []) := by decide +kernel
theorem r5_29 : j_at 5 29 = some (29, .getfield 17, 3, [106, 0, 2, 1, 0, 0]) := by decide +kernel
theorem r5_32 : j_at 5 32 = some (32, .iload_n 2, 1, []) := by decide +kernel
theorem r5_33 : j_at 5 33 = some (33, .iaload, 1, []) := by decide +kernel
theorem r5_34 : j_at 5 34 = some (34, .iastore, 1, []) := by decide +kernel
theorem r5_35 : j_at 5 35 = some (35, .iinc 2 1, 3, []) := by decide +kernel
theorem r5_38 : j_at 5 38 = some (38, .goto (-36), 3, []) := by decide +kernel
theorem r5_41 : j_at 5 41 = some (41, .iconst 0, 1, []) := by decide +kernel
theorem r5_42 : j_at 5 42 = some (42, .istore_n 2, 1, []) := by decide +kernel
theorem r5_43 : j_at 5 43 = some (43, .iload_n 2, 1, []) := by decide +kernel
theorem r5_44 : j_at 5 44 = some (44, .bipush 12, 2, []) := by decide +kernel
theorem r5_46 : j_at 5 46 = some (46, .if_icmp .ge 33, 3, []) := by decide +kernel
theorem r5_49 : j_at 5 49 = some (49, .aload_n 0, 1, []) := by decide +kernel
theorem r5_50 : j_at 5 50 = some (50, .getfield 21, 3, [107, 0, 2, 2, 0, 0]) := by decide +kernel
theorem r5_53 : j_at 5 53 = some (53, .iload_n 2, 1, []) := by decide +kernel
theorem r5_54 : j_at 5 54 = some (54, .aload_n 1, 1, []) := by decide +kernel
theorem r5_55 : j_at 5 55 = some (55, .getfield 21, 3, [107, 0, 2, 2, 0, 0]) := by decide +kernel
theorem r5_58 : j_at 5 58 = some (58, .iload_n 2, 1, []) := by decide +kernel
theorem r5_59 : j_at 5 59 = some (59, .iaload, 1, []) := by decide +kernel
theorem r5_60 : j_at 5 60 = some (60, .iastore, 1, []) := by decide +kernel
theorem r5_61 : j_at 5 61 = some (61, .aload_n 0, 1, []) := by decide +kernel
theorem r5_62 : j_at 5 62 = some (62, .getfield 24, 3, [109, 0, 2, 3, 0, 0]) := by decide +kernel
theorem r5_65 : j_at 5 65 = some (65, .iload_n 2, 1, []) := by decide +kernel
theorem r5_66 : j_at 5 66 = some (66, .aload_n 1, 1, []) := by decide +kernel
theorem r5_67 : j_at 5 67 = some (67, .getfield 24, 3, [109, 0, 2, 3, 0, 0]) := by decide +kernel
theorem r5_70 : j_at 5 70 = some (70, .iload_n 2, 1, []) := by decide +kernel
theorem r5_71 : j_at 5 71 = some (71, .iaload, 1, []) := by decide +kernel
theorem r5_72 : j_at 5 72 = some (72, .iastore, 1, []) := by decide +kernel
theorem r5_73 : j_at 5 73 = some (73, .iinc 2 1, 3, []) := by decide +kernel
theorem r5_76 : j_at 5 76 = some (76, .goto (-33), 3, []) := by decide +kernel
theorem r5_79 : j_at 5 79 = some (79, .aload_n 0, 1, []) := by decide +kernel
theorem r5_80 : j_at 5 80 = some (80, .aload_n 1, 1, []) := by decide +kernel
theorem r5_81 : j_at 5 81 = some (81, .getfield 27, 3, [111, 0, 0, 4, 0, 0]) := by decide +kernel
theorem r5_84 : j_at 5 84 = some (84, .putfield 27, 3, [111, 0, 0, 4, 0, 0, 0]) := by decide +kernel
theorem r5_87 : j_at 5 87 = some (87, .aload_n 0, 1, []) := by decide +kernel
theorem r5_88 : j_at 5 88 = some (88, .aload_n 1, 1, []) := by decide +kernel
theorem r5_89 : j_at 5 89 = some (89, .getfield 31, 3, [114, 0, 0, 5, 0, 0]) := by decide +kernel
theorem r5_92 : j_at 5 92 = some (92, .putfield 31, 3, [114, 0, 0, 5, 0, 0, 0]) := by decide +kernel
theorem r5_95 : j_at 5 95 = some (95, .aload_n 0, 1, []) := by decide +kernel
theorem r5_96 : j_at 5 96 = some (96, .aload_n 1, 1, []) := by decide +kernel
theorem r5_97 : j_at 5 97 = some (97, .getfield 34, 3, [116, 0, 0, 6, 0, 0]) := by decide +kernel
theorem r5_100 : j_at 5 100 = some (100, .putfield 34, 3, [116, 0, 0, 6, 0, 0, 0]) := by decide +kernel
theorem r5_103 : j_at 5 103 = some (103, .aload_n 0, 1, []) := by decide +kernel
theorem r5_104 : j_at 5 104 = some (104, .aload_n 1, 1, []) := by decide +kernel
theorem r5_105 : j_at 5 105 = some (105, .getfield 37, 3, [118, 0, 0, 7, 0, 0]) := by decide +kernel
theorem r5_108 : j_at 5 108 = some (108, .putfield 37, 3, [118, 0, 0, 7, 0, 0, 0]) := by decide +kernel
theorem r5_111 : j_at 5 111 = some (111, .aload_n 0, 1, []) := by decide +kernel
theorem r5_112 : j_at 5 112 = some (112, .aload_n 1, 1, []) := by decide +kernel
theorem r5_113 : j_at 5 113 = some (113, .getfield 40, 3, [119, 0, 0, 8, 0, 0]) := by decide +kernel
theorem r5_116 : j_at 5 116 = some (116, .putfield 40, 3, [119, 0, 0, 8, 0, 0, 0]) := by decide +kernel
theorem r5_119 : j_at 5 119 = some (119, .aload_n 0, 1, []) := by decide +kernel
theorem r5_120 : j_at 5 120 = some (120, .aload_n 1, 1, []) := by decide +kernel
theorem r5_121 : j_at 5 121 = some (121, .getfield 43, 3, [121, 0, 0, 9, 0, 0]) := by decide +kernel
theorem r5_124 : j_at 5 124 = some (124, .putfield 43, 3, [121, 0, 0, 9, 0, 0, 0]) := by decide +kernel
theorem r5_127 : j_at 5 127 = some (127, .aload_n 0, 1, []) := by decide +kernel
theorem r5_128 : j_at 5 128 = some (128, .aload_n 1, 1, []) := by decide +kernel
theorem r5_129 : j_at 5 129 = some (129, .getfield 46, 3, [123, 0, 2, 10, 0, 0]) := by decide +kernel
theorem r5_132 : j_at 5 132 = some (132, .putfield 46, 3, [123, 0, 2, 10, 0, 0, 0]) := by decide +kernel
theorem r5_135 : j_at 5 135 = some (135, .return_, 1, []) := by decide +kernel
theorem b5_0 {b : Nat} {x0 : Value} {x1 : Value} {u2 : Value} {H : j_H} {Q : Option Value → j_H → Prop} (h0 : j_isr x1 = true) : j_wp b 5 0 [x0, x1, u2] [] H Q = j_wp b 5 2 [x0, x1, .int (Int32.ofInt 0)] [] H Q := Eq.trans (s_iconst r5_0) (s_istore_n r5_1 (Nat.le_of_ble_eq_true rfl) (j_stc (j_c1r h0) rfl))
theorem b5_2 {b : Nat} {x0 : Value} {x1 : Value} {x2 : Int32} {H : j_H} {Q : Option Value → j_H → Prop} (h0 : j_vc H x0 = 0) (h1 : j_vt H (va_rf (j_R H (j_pa x0) 0)) = 4) : j_wp b 5 2 [x0, x1, .int x2] [] H Q = (if (Int32.ofInt (j_vl H (va_rf (j_R H (j_pa x0) 0)) : Nat)).toInt ≤ x2.toInt then j_wp b 5 41 [x0, x1, .int x2] [] H Q else j_wp b 5 11 [x0, x1, .int x2] [] H Q) := Eq.trans (s_iload_n r5_2 rfl) (Eq.trans (s_aload_n r5_3 rfl (j_isr_vc h0 rfl)) (Eq.trans (s_getfr r5_4 (j_al1 h0 rfl) rfl) (Eq.trans (s_alen r5_7 h1 (by decide)) (s_icge r5_8 rfl rfl rfl))))
theorem b5_11 {b : Nat} {x0 : Value} {x1 : Value} {x2 : Int32} {H : j_H} {Q : Option Value → j_H → Prop} (h0 : j_vc H x0 = 0) (h1 : j_vc H x1 = 0) (h2 : j_vt H (va_rf (j_R H (j_pa x1) 0)) = 4) (h3 : 0 ≤ x2.toInt) (h4 : x2.toInt < ((j_vl H (va_rf (j_R H (j_pa x1) 0)) : Nat) : Int)) (h5 : j_vt H (va_rf (j_R H (j_pa x0) 0)) = 4) (h6 : x2.toInt < ((j_vl H (va_rf (j_R H (j_pa x0) 0)) : Nat) : Int)) (h7 : va_rf (j_R H (j_pa (va_rf (j_R H (j_pa x1) 0))) (j_ix x2)) = .null ∨ (j_vc H (va_rf (j_R H (j_pa (va_rf (j_R H (j_pa x1) 0))) (j_ix x2))) < 99 ∧ j_pr (j_vc H (va_rf (j_R H (j_pa (va_rf (j_R H (j_pa x1) 0))) (j_ix x2)))) [1, 1, 2, 0, 4, 2, 5, 3, 6, 4, 7, 5, 9, 6] = true)) : j_wp b 5 11 [x0, x1, .int x2] [] H Q = j_wp b 5 23 [x0, x1, .int x2] [] (j_sR H (j_pa (va_rf (j_R H (j_pa x0) 0))) (j_ix x2) (j_po (va_rf (j_R H (j_pa (va_rf (j_R H (j_pa x1) 0))) (j_ix x2))))) Q := Eq.trans (s_aload_n r5_11 rfl (j_isr_vc h0 rfl)) (Eq.trans (s_getfr r5_12 (j_al1 h0 rfl) rfl) (Eq.trans (s_iload_n r5_15 rfl) (Eq.trans (s_aload_n r5_16 rfl (j_isr_vc h1 rfl)) (Eq.trans (s_getfr r5_17 (j_al1 h1 rfl) rfl) (Eq.trans (s_iload_n r5_20 rfl) (Eq.trans (s_aald r5_21 h2 (by decide) (j_ib_of (z := x2.toInt) rfl h3 h4)) (s_aast r5_22 h5 (by decide) (j_ib_of (z := x2.toInt) rfl h3 h6) h7)))))))
theorem b5_23 {b : Nat} {x0 : Value} {x1 : Value} {x2 : Int32} {H : j_H} {Q : Option Value → j_H → Prop} (h0 : j_vc H x0 = 0) (h1 : j_vc H x1 = 0) (h2 : j_vt H (va_rf (j_R H (j_pa x1) 1)) = 0) (h3 : 0 ≤ x2.toInt) (h4 : x2.toInt < ((j_vl H (va_rf (j_R H (j_pa x1) 1)) : Nat) : Int)) (h5 : j_vt H (va_rf (j_R H (j_pa x0) 1)) = 0) (h6 : x2.toInt < ((j_vl H (va_rf (j_R H (j_pa x0) 1)) : Nat) : Int)) : j_wp b 5 23 [x0, x1, .int x2] [] H Q = j_wp b 5 35 [x0, x1, .int x2] [] (j_sI H (j_pa (va_rf (j_R H (j_pa x0) 1))) (j_ix x2) (j_I H (j_pa (va_rf (j_R H (j_pa x1) 1))) (j_ix x2))) Q := Eq.trans (s_aload_n r5_23 rfl (j_isr_vc h0 rfl)) (Eq.trans (s_getfr r5_24 (j_al1 h0 rfl) rfl) (Eq.trans (s_iload_n r5_27 rfl) (Eq.trans (s_aload_n r5_28 rfl (j_isr_vc h1 rfl)) (Eq.trans (s_getfr r5_29 (j_al1 h1 rfl) rfl) (Eq.trans (s_iload_n r5_32 rfl) (Eq.trans (s_iald r5_33 h2 (by decide) (j_ib_of (z := x2.toInt) rfl h3 h4)) (s_iast r5_34 h5 (j_ib_of (z := x2.toInt) rfl h3 h6))))))))
theorem b5_35 {b : Nat} {x0 : Value} {x1 : Value} {x2 : Int32} {H : j_H} {Q : Option Value → j_H → Prop}  : j_wp b 5 35 [x0, x1, .int x2] [] H Q = j_wp b 5 2 [x0, x1, .int (x2 + Int32.ofInt 1)] [] H Q := Eq.trans (s_iinc r5_35 rfl rfl) (s_goto r5_38 rfl)
theorem b5_41 {b : Nat} {x0 : Value} {x1 : Value} {x2 : Int32} {H : j_H} {Q : Option Value → j_H → Prop} (h0 : j_isr x1 = true) : j_wp b 5 41 [x0, x1, .int x2] [] H Q = j_wp b 5 43 [x0, x1, .int (Int32.ofInt 0)] [] H Q := Eq.trans (s_iconst r5_41) (s_istore_n r5_42 (Nat.le_of_ble_eq_true rfl) (j_stc (j_c1r h0) rfl))
theorem b5_43 {b : Nat} {x0 : Value} {x1 : Value} {x2 : Int32} {H : j_H} {Q : Option Value → j_H → Prop}  : j_wp b 5 43 [x0, x1, .int x2] [] H Q = (if 12 ≤ x2.toInt then j_wp b 5 79 [x0, x1, .int x2] [] H Q else j_wp b 5 49 [x0, x1, .int x2] [] H Q) := Eq.trans (s_iload_n r5_43 rfl) (Eq.trans (s_bipush r5_44) (s_icge r5_46 rfl rfl rfl))
theorem b5_49 {b : Nat} {x0 : Value} {x1 : Value} {x2 : Int32} {H : j_H} {Q : Option Value → j_H → Prop} (h0 : j_vc H x0 = 0) (h1 : j_vc H x1 = 0) (h2 : j_vt H (va_rf (j_R H (j_pa x1) 2)) = 0) (h3 : 0 ≤ x2.toInt) (h4 : x2.toInt < ((j_vl H (va_rf (j_R H (j_pa x1) 2)) : Nat) : Int)) (h5 : j_vt H (va_rf (j_R H (j_pa x0) 2)) = 0) (h6 : x2.toInt < ((j_vl H (va_rf (j_R H (j_pa x0) 2)) : Nat) : Int)) : j_wp b 5 49 [x0, x1, .int x2] [] H Q = j_wp b 5 61 [x0, x1, .int x2] [] (j_sI H (j_pa (va_rf (j_R H (j_pa x0) 2))) (j_ix x2) (j_I H (j_pa (va_rf (j_R H (j_pa x1) 2))) (j_ix x2))) Q := Eq.trans (s_aload_n r5_49 rfl (j_isr_vc h0 rfl)) (Eq.trans (s_getfr r5_50 (j_al1 h0 rfl) rfl) (Eq.trans (s_iload_n r5_53 rfl) (Eq.trans (s_aload_n r5_54 rfl (j_isr_vc h1 rfl)) (Eq.trans (s_getfr r5_55 (j_al1 h1 rfl) rfl) (Eq.trans (s_iload_n r5_58 rfl) (Eq.trans (s_iald r5_59 h2 (by decide) (j_ib_of (z := x2.toInt) rfl h3 h4)) (s_iast r5_60 h5 (j_ib_of (z := x2.toInt) rfl h3 h6))))))))
theorem b5_61 {b : Nat} {x0 : Value} {x1 : Value} {x2 : Int32} {H : j_H} {Q : Option Value → j_H → Prop} (h0 : j_vc H x0 = 0) (h1 : j_vc H x1 = 0) (h2 : j_vt H (va_rf (j_R H (j_pa x1) 3)) = 0) (h3 : 0 ≤ x2.toInt) (h4 : x2.toInt < ((j_vl H (va_rf (j_R H (j_pa x1) 3)) : Nat) : Int)) (h5 : j_vt H (va_rf (j_R H (j_pa x0) 3)) = 0) (h6 : x2.toInt < ((j_vl H (va_rf (j_R H (j_pa x0) 3)) : Nat) : Int)) : j_wp b 5 61 [x0, x1, .int x2] [] H Q = j_wp b 5 73 [x0, x1, .int x2] [] (j_sI H (j_pa (va_rf (j_R H (j_pa x0) 3))) (j_ix x2) (j_I H (j_pa (va_rf (j_R H (j_pa x1) 3))) (j_ix x2))) Q := Eq.trans (s_aload_n r5_61 rfl (j_isr_vc h0 rfl)) (Eq.trans (s_getfr r5_62 (j_al1 h0 rfl) rfl) (Eq.trans (s_iload_n r5_65 rfl) (Eq.trans (s_aload_n r5_66 rfl (j_isr_vc h1 rfl)) (Eq.trans (s_getfr r5_67 (j_al1 h1 rfl) rfl) (Eq.trans (s_iload_n r5_70 rfl) (Eq.trans (s_iald r5_71 h2 (by decide) (j_ib_of (z := x2.toInt) rfl h3 h4)) (s_iast r5_72 h5 (j_ib_of (z := x2.toInt) rfl h3 h6))))))))
theorem b5_73 {b : Nat} {x0 : Value} {x1 : Value} {x2 : Int32} {H : j_H} {Q : Option Value → j_H → Prop}  : j_wp b 5 73 [x0, x1, .int x2] [] H Q = j_wp b 5 43 [x0, x1, .int (x2 + Int32.ofInt 1)] [] H Q := Eq.trans (s_iinc r5_73 rfl rfl) (s_goto r5_76 rfl)
theorem b5_79 {b : Nat} {x0 : Value} {x1 : Value} {x2 : Int32} {H : j_H} {Q : Option Value → j_H → Prop} (h0 : j_vc H x0 = 0) (h1 : j_vc H x1 = 0) : j_wp b 5 79 [x0, x1, .int x2] [] H Q = j_wp b 5 87 [x0, x1, .int x2] [] (j_sI H (j_pa x0) 4 (j_I H (j_pa x1) 4)) Q := Eq.trans (s_aload_n r5_79 rfl (j_isr_vc h0 rfl)) (Eq.trans (s_aload_n r5_80 rfl (j_isr_vc h1 rfl)) (Eq.trans (s_getfi r5_81 (j_al1 h1 rfl) rfl rfl rfl) (s_put r5_84 (j_al1 h0 rfl) rfl j_putI)))
theorem b5_87 {b : Nat} {x0 : Value} {x1 : Value} {x2 : Int32} {H : j_H} {Q : Option Value → j_H → Prop} (h0 : j_vc H x0 = 0) (h1 : j_vc H x1 = 0) : j_wp b 5 87 [x0, x1, .int x2] [] H Q = j_wp b 5 95 [x0, x1, .int x2] [] (j_sI H (j_pa x0) 5 (j_I H (j_pa x1) 5)) Q := Eq.trans (s_aload_n r5_87 rfl (j_isr_vc h0 rfl)) (Eq.trans (s_aload_n r5_88 rfl (j_isr_vc h1 rfl)) (Eq.trans (s_getfi r5_89 (j_al1 h1 rfl) rfl rfl rfl) (s_put r5_92 (j_al1 h0 rfl) rfl j_putI)))
theorem b5_95 {b : Nat} {x0 : Value} {x1 : Value} {x2 : Int32} {H : j_H} {Q : Option Value → j_H → Prop} (h0 : j_vc H x0 = 0) (h1 : j_vc H x1 = 0) : j_wp b 5 95 [x0, x1, .int x2] [] H Q = j_wp b 5 103 [x0, x1, .int x2] [] (j_sI H (j_pa x0) 6 (j_I H (j_pa x1) 6)) Q := Eq.trans (s_aload_n r5_95 rfl (j_isr_vc h0 rfl)) (Eq.trans (s_aload_n r5_96 rfl (j_isr_vc h1 rfl)) (Eq.trans (s_getfi r5_97 (j_al1 h1 rfl) rfl rfl rfl) (s_put r5_100 (j_al1 h0 rfl) rfl j_putI)))
theorem b5_103 {b : Nat} {x0 : Value} {x1 : Value} {x2 : Int32} {H : j_H} {Q : Option Value → j_H → Prop} (h0 : j_vc H x0 = 0) (h1 : j_vc H x1 = 0) : j_wp b 5 103 [x0, x1, .int x2] [] H Q = j_wp b 5 111 [x0, x1, .int x2] [] (j_sI H (j_pa x0) 7 (j_I H (j_pa x1) 7)) Q := Eq.trans (s_aload_n r5_103 rfl (j_isr_vc h0 rfl)) (Eq.trans (s_aload_n r5_104 rfl (j_isr_vc h1 rfl)) (Eq.trans (s_getfi r5_105 (j_al1 h1 rfl) rfl rfl rfl) (s_put r5_108 (j_al1 h0 rfl) rfl j_putI)))
theorem b5_111 {b : Nat} {x0 : Value} {x1 : Value} {x2 : Int32} {H : j_H} {Q : Option Value → j_H → Prop} (h0 : j_vc H x0 = 0) (h1 : j_vc H x1 = 0) : j_wp b 5 111 [x0, x1, .int x2] [] H Q = j_wp b 5 119 [x0, x1, .int x2] [] (j_sI H (j_pa x0) 8 (j_I H (j_pa x1) 8)) Q := Eq.trans (s_aload_n r5_111 rfl (j_isr_vc h0 rfl)) (Eq.trans (s_aload_n r5_112 rfl (j_isr_vc h1 rfl)) (Eq.trans (s_getfi r5_113 (j_al1 h1 rfl) rfl rfl rfl) (s_put r5_116 (j_al1 h0 rfl) rfl j_putI)))
theorem b5_119 {b : Nat} {x0 : Value} {x1 : Value} {x2 : Int32} {H : j_H} {Q : Option Value → j_H → Prop} (h0 : j_vc H x0 = 0) (h1 : j_vc H x1 = 0) : j_wp b 5 119 [x0, x1, .int x2] [] H Q = j_wp b 5 127 [x0, x1, .int x2] [] (j_sI H (j_pa x0) 9 (j_I H (j_pa x1) 9)) Q := Eq.trans (s_aload_n r5_119 rfl (j_isr_vc h0 rfl)) (Eq.trans (s_aload_n r5_120 rfl (j_isr_vc h1 rfl)) (Eq.trans (s_getfi r5_121 (j_al1 h1 rfl) rfl rfl rfl) (s_put r5_124 (j_al1 h0 rfl) rfl j_putI)))
theorem b5_127 {b : Nat} {x0 : Value} {x1 : Value} {x2 : Int32} {H : j_H} {Q : Option Value → j_H → Prop} (h0 : j_vc H x0 = 0) (h1 : j_vc H x1 = 0) : j_wp b 5 127 [x0, x1, .int x2] [] H Q = j_wp b 5 135 [x0, x1, .int x2] [] (j_sR H (j_pa x0) 10 (j_R H (j_pa x1) 10)) Q := Eq.trans (s_aload_n r5_127 rfl (j_isr_vc h0 rfl)) (Eq.trans (s_aload_n r5_128 rfl (j_isr_vc h1 rfl)) (Eq.trans (s_getfr r5_129 (j_al1 h1 rfl) rfl) (s_put r5_132 (j_al1 h0 rfl) rfl j_putF)))
theorem b5_135 {b : Nat} {x0 : Value} {x1 : Value} {x2 : Int32} {H : j_H} {Q : Option Value → j_H → Prop}  : j_wp b 5 135 [x0, x1, .int x2] [] H Q = Q none H := s_return r5_135 rfl
-- X0_far
theorem r6_0 : j_at 6 0 = some (0, .aload_n 0, 1, []) := by decide +kernel
theorem r6_1 : j_at 6 1 = some (1, .getfield 46, 3, [123, 0, 2, 10, 0, 0]) := by decide +kernel
theorem r6_4 : j_at 6 4 = some (4, .ifnonnull 7, 3, []) := by decide +kernel
theorem r6_7 : j_at 6 7 = some (7, .iconst 1, 1, []) := by decide +kernel
theorem r6_8 : j_at 6 8 = some (8, .goto 10, 3, []) := by decide +kernel
theorem r6_11 : j_at 6 11 = some (11, .aload_n 0, 1, []) := by decide +kernel
theorem r6_12 : j_at 6 12 = some (12, .getfield 46, 3, [123, 0, 2, 10, 0, 0]) := by decide +kernel
theorem r6_15 : j_at 6 15 = some (15, .getfield 50, 3, [143, 3, 0, 0, 0, 3]) := by decide +kernel
theorem r6_18 : j_at 6 18 = some (18, .ireturn, 1, []) := by decide +kernel
theorem b6_0 {b : Nat} {x0 : Value} {H : j_H} {Q : Option Value → j_H → Prop} (h0 : j_vc H x0 = 0) (h1 : ¬ va_rf (j_R H (j_pa x0) 10) = .ref 11) : j_wp b 6 0 [x0] [] H Q = (if va_rf (j_R H (j_pa x0) 10) = .null then j_wp b 6 7 [x0] [] H Q else j_wp b 6 11 [x0] [] H Q) := Eq.trans (s_aload_n r6_0 rfl (j_isr_vc h0 rfl)) (Eq.trans (s_getfr r6_1 (j_al1 h0 rfl) rfl) (s_ifnonnull r6_4 rfl (j_isr_rf _) h1))
theorem b6_7 {b : Nat} {x0 : Value} {H : j_H} {Q : Option Value → j_H → Prop}  : j_wp b 6 7 [x0] [] H Q = j_wp b 6 18 [x0] [.int (Int32.ofInt 1)] H Q := Eq.trans (s_iconst r6_7) (s_goto r6_8 rfl)
theorem b6_11 {b : Nat} {x0 : Value} {H : j_H} {Q : Option Value → j_H → Prop} (h0 : j_vc H x0 = 0) (h1 : j_vc H (va_rf (j_R H (j_pa x0) 10)) = 3) : j_wp b 6 11 [x0] [] H Q = j_wp b 6 18 [x0] [.int (j_I H (j_pa (va_rf (j_R H (j_pa x0) 10))) 0)] H Q := Eq.trans (s_aload_n r6_11 rfl (j_isr_vc h0 rfl)) (Eq.trans (s_getfr r6_12 (j_al1 h0 rfl) rfl) (s_getfi r6_15 (j_al1 h1 rfl) rfl rfl rfl))
theorem b6_18 {b : Nat} {x0 : Value} {y0 : Int32} {H : j_H} {Q : Option Value → j_H → Prop}  : j_wp b 6 18 [x0] [.int y0] H Q = Q (some (.int y0)) H := s_ireturn r6_18 (j_rok1 rfl)
-- X0_seat
theorem r7_0 : j_at 7 0 = some (0, .aload_n 0, 1, []) := by decide +kernel
theorem r7_1 : j_at 7 1 = some (1, .getfield 27, 3, [111, 0, 0, 4, 0, 0]) := by decide +kernel
theorem r7_4 : j_at 7 4 = some (4, .ifCond .le 14, 3, []) := by decide +kernel
theorem r7_7 : j_at 7 7 = some (7, .iload_n 1, 1, []) := by decide +kernel
theorem r7_8 : j_at 7 8 = some (8, .aload_n 0, 1, []) := by decide +kernel
theorem r7_9 : j_at 7 9 = some (9, .getfield 27, 3, [111, 0, 0, 4, 0, 0]) := by decide +kernel
theorem r7_12 : j_at 7 12 = some (12, .invokestatic 55, 3, [0, 2, 202, 379, 380, 86, 0]) := by decide +kernel
theorem r7_15 : j_at 7 15 = some (15, .goto 4, 3, []) := by decide +kernel
theorem r7_18 : j_at 7 18 = some (18, .iconst 0, 1, []) := by decide +kernel
theorem r7_19 : j_at 7 19 = some (19, .ireturn, 1, []) := by decide +kernel
theorem b7_0 {b : Nat} {x0 : Value} {x1 : Int32} {H : j_H} {Q : Option Value → j_H → Prop} (h0 : j_vc H x0 = 0) : j_wp b 7 0 [x0, .int x1] [] H Q = (if (j_I H (j_pa x0) 4).toInt ≤ 0 then j_wp b 7 18 [x0, .int x1] [] H Q else j_wp b 7 7 [x0, .int x1] [] H Q) := Eq.trans (s_aload_n r7_0 rfl (j_isr_vc h0 rfl)) (Eq.trans (s_getfi r7_1 (j_al1 h0 rfl) rfl rfl rfl) (s_ifle r7_4 rfl rfl))
theorem b7_7 {b : Nat} {x0 : Value} {x1 : Int32} {H : j_H} {Q : Option Value → j_H → Prop} (h0 : j_vc H x0 = 0) : j_wp (b + 1) 7 7 [x0, .int x1] [] H Q = j_wp b 202 0 [.int x1, .int (j_I H (j_pa x0) 4), j_u] [] H (j_k (b + 1) 7 15 [x0, .int x1] [] Q) := Eq.trans (s_iload_n r7_7 rfl) (Eq.trans (s_aload_n r7_8 rfl (j_isr_vc h0 rfl)) (Eq.trans (s_getfi r7_9 (j_al1 h0 rfl) rfl rfl rfl) (j_cll (as := [.int x1, .int (j_I H (j_pa x0) 4)]) (es := [.int x1, .int (j_I H (j_pa x0) 4)]) (s_c0 r7_12 (j_dok (s := [.int (j_I H (j_pa x0) 4), .int x1]) (as := [.int x1, .int (j_I H (j_pa x0) 4)]) (rest := []) (es := [.int x1, .int (j_I H (j_pa x0) 4)]) rfl rfl rfl rfl rfl rfl)) rfl rfl)))
theorem b7_15 {b : Nat} {x0 : Value} {x1 : Int32} {y0 : Int32} {H : j_H} {Q : Option Value → j_H → Prop}  : j_wp b 7 15 [x0, .int x1] [.int y0] H Q = j_wp b 7 19 [x0, .int x1] [.int y0] H Q := s_goto r7_15 rfl
theorem b7_18 {b : Nat} {x0 : Value} {x1 : Int32} {H : j_H} {Q : Option Value → j_H → Prop}  : j_wp b 7 18 [x0, .int x1] [] H Q = j_wp b 7 19 [x0, .int x1] [.int (Int32.ofInt 0)] H Q := s_iconst r7_18
theorem b7_19 {b : Nat} {x0 : Value} {x1 : Int32} {y0 : Int32} {H : j_H} {Q : Option Value → j_H → Prop}  : j_wp b 7 19 [x0, .int x1] [.int y0] H Q = Q (some (.int y0)) H := s_ireturn r7_19 (j_rok1 rfl)
-- X0_goes
theorem r8_0 : j_at 8 0 = some (0, .aload_n 0, 1, []) := by decide +kernel
theorem r8_1 : j_at 8 1 = some (1, .iload_n 2, 1, []) := by decide +kernel
theorem r8_2 : j_at 8 2 = some (2, .iconst 1, 1, []) := by decide +kernel
theorem r8_3 : j_at 8 3 = some (3, .if_icmp .ne 12, 3, []) := by decide +kernel
theorem r8_6 : j_at 8 6 = some (6, .iload_n 1, 1, []) := by decide +kernel
theorem r8_7 : j_at 8 7 = some (7, .aload_n 0, 1, []) := by decide +kernel
theorem r8_8 : j_at 8 8 = some (8, .invokevirtual 61, 3, [2, 1, 6, 481, 469, 470, 73, 0, 0]) := by decide +kernel
theorem r8_11 : j_at 8 11 = some (11, .iadd, 1, []) := by decide +kernel
theorem r8_12 : j_at 8 12 = some (12, .goto 9, 3, []) := by decide +kernel
theorem r8_15 : j_at 8 15 = some (15, .iload_n 1, 1, []) := by decide +kernel
theorem r8_16 : j_at 8 16 = some (16, .aload_n 0, 1, []) := by decide +kernel
theorem r8_17 : j_at 8 17 = some (17, .invokevirtual 61, 3, [2, 1, 6, 481, 469, 470, 73, 0, 0]) := by decide +kernel
theorem r8_20 : j_at 8 20 = some (20, .isub, 1, []) := by decide +kernel
theorem r8_21 : j_at 8 21 = some (21, .invokevirtual 64, 3, [2, 2, 7, 377, 378, 1, 73, 0, 0]) := by decide +kernel
theorem r8_24 : j_at 8 24 = some (24, .ireturn, 1, []) := by decide +kernel
theorem b8_0 {b : Nat} {x0 : Value} {x1 : Int32} {x2 : Int32} {H : j_H} {Q : Option Value → j_H → Prop} (h0 : j_isr x0 = true) : j_wp b 8 0 [x0, .int x1, .int x2] [] H Q = (if ¬ x2.toInt = 1 then j_wp b 8 15 [x0, .int x1, .int x2] [x0] H Q else j_wp b 8 6 [x0, .int x1, .int x2] [x0] H Q) := Eq.trans (s_aload_n r8_0 rfl h0) (Eq.trans (s_iload_n r8_1 rfl) (Eq.trans (s_iconst r8_2) (s_icne r8_3 rfl rfl rfl)))
theorem b8_6 {b : Nat} {x0 : Value} {x1 : Int32} {x2 : Int32} {y0 : Value} {H : j_H} {Q : Option Value → j_H → Prop} (h0 : j_vc H x0 = 0) : j_wp (b + 1) 8 6 [x0, .int x1, .int x2] [y0] H Q = j_wp b 6 0 [x0] [] H (j_k (b + 1) 8 11 [x0, .int x1, .int x2] [.int x1, y0] Q) := Eq.trans (s_iload_n r8_6 rfl) (Eq.trans (s_aload_n r8_7 rfl (j_isr_vc h0 rfl)) (j_cll (as := [x0]) (es := [x0]) (s_c2 r8_8 rfl h0 rfl rfl (j_dok (s := [x0, .int x1, y0]) (as := [x0]) (rest := [.int x1, y0]) (es := [x0]) rfl rfl rfl rfl (j_slc (j_c1r (j_isr_vc h0 rfl)) rfl) rfl)) (j_slc (j_c1r (j_isr_vc h0 rfl)) rfl) rfl))
theorem b8_11 {b : Nat} {x0 : Value} {x1 : Int32} {x2 : Int32} {y0 : Int32} {y1 : Int32} {y2 : Value} {H : j_H} {Q : Option Value → j_H → Prop}  : j_wp b 8 11 [x0, .int x1, .int x2] [.int y0, .int y1, y2] H Q = j_wp b 8 21 [x0, .int x1, .int x2] [.int (y1 + y0), y2] H Q := Eq.trans (s_iadd r8_11) (s_goto r8_12 rfl)
theorem b8_15 {b : Nat} {x0 : Value} {x1 : Int32} {x2 : Int32} {y0 : Value} {H : j_H} {Q : Option Value → j_H → Prop} (h0 : j_vc H x0 = 0) : j_wp (b + 1) 8 15 [x0, .int x1, .int x2] [y0] H Q = j_wp b 6 0 [x0] [] H (j_k (b + 1) 8 20 [x0, .int x1, .int x2] [.int x1, y0] Q) := Eq.trans (s_iload_n r8_15 rfl) (Eq.trans (s_aload_n r8_16 rfl (j_isr_vc h0 rfl)) (j_cll (as := [x0]) (es := [x0]) (s_c2 r8_17 rfl h0 rfl rfl (j_dok (s := [x0, .int x1, y0]) (as := [x0]) (rest := [.int x1, y0]) (es := [x0]) rfl rfl rfl rfl (j_slc (j_c1r (j_isr_vc h0 rfl)) rfl) rfl)) (j_slc (j_c1r (j_isr_vc h0 rfl)) rfl) rfl))
theorem b8_20 {b : Nat} {x0 : Value} {x1 : Int32} {x2 : Int32} {y0 : Int32} {y1 : Int32} {y2 : Value} {H : j_H} {Q : Option Value → j_H → Prop}  : j_wp b 8 20 [x0, .int x1, .int x2] [.int y0, .int y1, y2] H Q = j_wp b 8 21 [x0, .int x1, .int x2] [.int (y1 - y0), y2] H Q := s_isub r8_20
theorem b8_21 {b : Nat} {x0 : Value} {x1 : Int32} {x2 : Int32} {y0 : Int32} {y1 : Value} {H : j_H} {Q : Option Value → j_H → Prop} (h0 : j_vc H y1 = 0) : j_wp (b + 1) 8 21 [x0, .int x1, .int x2] [.int y0, y1] H Q = j_wp b 7 0 [y1, .int y0] [] H (j_k (b + 1) 8 24 [x0, .int x1, .int x2] [] Q) := j_cll (as := [y1, .int y0]) (es := [y1, .int y0]) (s_c2 r8_21 rfl h0 rfl rfl (j_dok (s := [.int y0, y1]) (as := [y1, .int y0]) (rest := []) (es := [y1, .int y0]) rfl rfl rfl rfl (j_slc (j_c1r (j_isr_vc h0 rfl)) rfl) rfl)) (j_slc (j_c1r (j_isr_vc h0 rfl)) rfl) rfl
theorem b8_24 {b : Nat} {x0 : Value} {x1 : Int32} {x2 : Int32} {y0 : Int32} {H : j_H} {Q : Option Value → j_H → Prop}  : j_wp b 8 24 [x0, .int x1, .int x2] [.int y0] H Q = Q (some (.int y0)) H := s_ireturn r8_24 (j_rok1 rfl)
-- X0_kindAt
theorem r9_0 : j_at 9 0 = some (0, .aload_n 0, 1, []) := by decide +kernel
theorem r9_1 : j_at 9 1 = some (1, .aload_n 0, 1, []) := by decide +kernel
theorem r9_2 : j_at 9 2 = some (2, .iload_n 1, 1, []) := by decide +kernel
theorem r9_3 : j_at 9 3 = some (3, .invokevirtual 64, 3, [2, 2, 7, 377, 378, 1, 73, 0, 0]) := by decide +kernel
theorem r9_6 : j_at 9 6 = some (6, .invokevirtual 68, 3, [2, 2, 1, 381, 344, 345, 73, 0, 0]) := by decide +kernel
theorem r9_9 : j_at 9 9 = some (9, .astore_n 2, 1, []) := by decide +kernel
theorem r9_10 : j_at 9 10 = some (10, .aload_n 2, 1, []) := by decide +kernel
theorem r9_11 : j_at 9 11 = some (11, .ifnonnull 7, 3, []) := by decide +kernel
theorem r9_14 : j_at 9 14 = some (14, .iconst (-1), 1, []) := by decide +kernel
theorem r9_15 : j_at 9 15 = some (15, .goto 7, 3, []) := by decide +kernel
theorem r9_18 : j_at 9 18 = some (18, .aload_n 2, 1, []) := by decide +kernel
theorem r9_19 : j_at 9 19 = some (19, .getfield 72, 3, [243, 2, 0, 0, 0, 1, 2, 4, 5, 6, 7, 9]) := by decide +kernel
theorem r9_22 : j_at 9 22 = some (22, .ireturn, 1, []) := by decide +kernel
theorem b9_0 {b : Nat} {x0 : Value} {x1 : Int32} {u2 : Value} {H : j_H} {Q : Option Value → j_H → Prop} (h0 : j_vc H x0 = 0) : j_wp (b + 1) 9 0 [x0, .int x1, u2] [] H Q = j_wp b 7 0 [x0, .int x1] [] H (j_k (b + 1) 9 6 [x0, .int x1, u2] [x0] Q) := Eq.trans (s_aload_n r9_0 rfl (j_isr_vc h0 rfl)) (Eq.trans (s_aload_n r9_1 rfl (j_isr_vc h0 rfl)) (Eq.trans (s_iload_n r9_2 rfl) (j_cll (as := [x0, .int x1]) (es := [x0, .int x1]) (s_c2 r9_3 rfl h0 rfl rfl (j_dok (s := [.int x1, x0, x0]) (as := [x0, .int x1]) (rest := [x0]) (es := [x0, .int x1]) rfl rfl rfl rfl (j_slc (j_c1r (j_isr_vc h0 rfl)) rfl) rfl)) (j_slc (j_c1r (j_isr_vc h0 rfl)) rfl) rfl)))
theorem b9_6 {b : Nat} {x0 : Value} {x1 : Int32} {u2 : Value} {y0 : Int32} {y1 : Value} {H : j_H} {Q : Option Value → j_H → Prop} (h0 : j_vc H y1 = 0) : j_wp (b + 1) 9 6 [x0, .int x1, u2] [.int y0, y1] H Q = j_wp b 1 0 [y1, .int y0] [] H (j_k (b + 1) 9 9 [x0, .int x1, u2] [] Q) := j_cll (as := [y1, .int y0]) (es := [y1, .int y0]) (s_c2 r9_6 rfl h0 rfl rfl (j_dok (s := [.int y0, y1]) (as := [y1, .int y0]) (rest := []) (es := [y1, .int y0]) rfl rfl rfl rfl (j_slc (j_c1r (j_isr_vc h0 rfl)) rfl) rfl)) (j_slc (j_c1r (j_isr_vc h0 rfl)) rfl) rfl
theorem b9_9 {b : Nat} {x0 : Value} {x1 : Int32} {u2 : Value} {y0 : Value} {H : j_H} {Q : Option Value → j_H → Prop} (h0 : j_isr y0 = true) (h1 : ¬ y0 = .ref 11) : j_wp b 9 9 [x0, .int x1, u2] [y0] H Q = (if y0 = .null then j_wp b 9 14 [x0, .int x1, y0] [] H Q else j_wp b 9 18 [x0, .int x1, y0] [] H Q) := Eq.trans (s_astore_n r9_9 (Nat.le_of_ble_eq_true rfl) h0 h1 rfl) (Eq.trans (s_aload_n r9_10 rfl h0) (s_ifnonnull r9_11 rfl h0 h1))
theorem b9_14 {b : Nat} {x0 : Value} {x1 : Int32} {x2 : Value} {H : j_H} {Q : Option Value → j_H → Prop}  : j_wp b 9 14 [x0, .int x1, x2] [] H Q = j_wp b 9 22 [x0, .int x1, x2] [.int (Int32.ofInt (-1))] H Q := Eq.trans (s_iconst r9_14) (s_goto r9_15 rfl)
theorem b9_18 {b : Nat} {x0 : Value} {x1 : Int32} {x2 : Value} {H : j_H} {Q : Option Value → j_H → Prop} (h0 : [1, 2, 4, 5, 6, 7, 9].contains (j_vc H x2) = true) : j_wp b 9 18 [x0, .int x1, x2] [] H Q = j_wp b 9 22 [x0, .int x1, x2] [.int (j_I H (j_pa x2) 0)] H Q := Eq.trans (s_aload_n r9_18 rfl (j_isr_al h0 rfl)) (s_getfi r9_19 h0 rfl rfl rfl)
theorem b9_22 {b : Nat} {x0 : Value} {x1 : Int32} {x2 : Value} {y0 : Int32} {H : j_H} {Q : Option Value → j_H → Prop}  : j_wp b 9 22 [x0, .int x1, x2] [.int y0] H Q = Q (some (.int y0)) H := s_ireturn r9_22 (j_rok1 rfl)
-- X0_says
theorem r10_0 : j_at 10 0 = some (0, .aload_n 0, 1, []) := by decide +kernel
theorem r10_1 : j_at 10 1 = some (1, .iload_n 1, 1, []) := by decide +kernel
theorem r10_2 : j_at 10 2 = some (2, .invokevirtual 68, 3, [2, 2, 1, 381, 344, 345, 73, 0, 0]) := by decide +kernel
theorem r10_5 : j_at 10 5 = some (5, .astore 4, 2, []) := by decide +kernel
theorem r10_7 : j_at 10 7 = some (7, .aload 4, 2, []) := by decide +kernel
theorem r10_9 : j_at 10 9 = some (9, .ifnonnull 7, 3, []) := by decide +kernel
theorem r10_12 : j_at 10 12 = some (12, .iconst 0, 1, []) := by decide +kernel
theorem r10_13 : j_at 10 13 = some (13, .goto 11, 3, []) := by decide +kernel
theorem r10_16 : j_at 10 16 = some (16, .aload 4, 2, []) := by decide +kernel
theorem r10_18 : j_at 10 18 = some (18, .aload_n 0, 1, []) := by decide +kernel
theorem r10_19 : j_at 10 19 = some (19, .iload_n 2, 1, []) := by decide +kernel
theorem r10_20 : j_at 10 20 = some (20, .iload_n 3, 1, []) := by decide +kernel
theorem r10_21 : j_at 10 21 = some (21, .invokevirtual 75, 3, [3, 4, 17, 17, 477, 364, 362, 0, 1, 14, 365, 366, 84, 0, 2, 17, 363, 362, 78, 0, 4, 37, 370, 371, 79, 0, 5, 40, 372, 373, 82, 0, 6, 43, 382, 368, 81, 0, 7, 46, 383, 384, 83, 0, 9, 58, 387, 388, 85, 0]) := by decide +kernel
theorem r10_24 : j_at 10 24 = some (24, .ireturn, 1, []) := by decide +kernel
theorem b10_0 {b : Nat} {x0 : Value} {x1 : Int32} {x2 : Int32} {x3 : Int32} {u4 : Value} {H : j_H} {Q : Option Value → j_H → Prop} (h0 : j_vc H x0 = 0) : j_wp (b + 1) 10 0 [x0, .int x1, .int x2, .int x3, u4] [] H Q = j_wp b 1 0 [x0, .int x1] [] H (j_k (b + 1) 10 5 [x0, .int x1, .int x2, .int x3, u4] [] Q) := Eq.trans (s_aload_n r10_0 rfl (j_isr_vc h0 rfl)) (Eq.trans (s_iload_n r10_1 rfl) (j_cll (as := [x0, .int x1]) (es := [x0, .int x1]) (s_c2 r10_2 rfl h0 rfl rfl (j_dok (s := [.int x1, x0]) (as := [x0, .int x1]) (rest := []) (es := [x0, .int x1]) rfl rfl rfl rfl (j_slc (j_c1r (j_isr_vc h0 rfl)) rfl) rfl)) (j_slc (j_c1r (j_isr_vc h0 rfl)) rfl) rfl))
theorem b10_5 {b : Nat} {x0 : Value} {x1 : Int32} {x2 : Int32} {x3 : Int32} {u4 : Value} {y0 : Value} {H : j_H} {Q : Option Value → j_H → Prop} (h0 : j_isr y0 = true) (h1 : ¬ y0 = .ref 11) : j_wp b 10 5 [x0, .int x1, .int x2, .int x3, u4] [y0] H Q = (if y0 = .null then j_wp b 10 12 [x0, .int x1, .int x2, .int x3, y0] [] H Q else j_wp b 10 16 [x0, .int x1, .int x2, .int x3, y0] [] H Q) := Eq.trans (s_astore r10_5 (Nat.le_of_ble_eq_true rfl) h0 h1 rfl) (Eq.trans (s_aload r10_7 rfl h0) (s_ifnonnull r10_9 rfl h0 h1))
theorem b10_12 {b : Nat} {x0 : Value} {x1 : Int32} {x2 : Int32} {x3 : Int32} {x4 : Value} {H : j_H} {Q : Option Value → j_H → Prop}  : j_wp b 10 12 [x0, .int x1, .int x2, .int x3, x4] [] H Q = j_wp b 10 24 [x0, .int x1, .int x2, .int x3, x4] [.int (Int32.ofInt 0)] H Q := Eq.trans (s_iconst r10_12) (s_goto r10_13 rfl)
theorem b10_16_1 {b : Nat} {x0 : Value} {x1 : Int32} {x2 : Int32} {x3 : Int32} {x4 : Value} {H : j_H} {Q : Option Value → j_H → Prop} (h0 : j_vc H x4 = 1) (h1 : j_isr x0 = true) : j_wp (b + 1) 10 16 [x0, .int x1, .int x2, .int x3, x4] [] H Q = j_wp b 14 0 [x4, x0, .int x2, .int x3, j_u] [] H (j_k (b + 1) 10 24 [x0, .int x1, .int x2, .int x3, x4] [] Q) := Eq.trans (s_aload r10_16 rfl (j_isr_vc h0 rfl)) (Eq.trans (s_aload_n r10_18 rfl h1) (Eq.trans (s_iload_n r10_19 rfl) (Eq.trans (s_iload_n r10_20 rfl) (j_cll (as := [x4, x0, .int x2, .int x3]) (es := [x4, x0, .int x2, .int x3]) (s_c3 r10_21 rfl h0 rfl rfl rfl (j_dok (s := [.int x3, .int x2, x0, x4]) (as := [x4, x0, .int x2, .int x3]) (rest := []) (es := [x4, x0, .int x2, .int x3]) rfl rfl rfl rfl (j_slc (j_c1r (j_isr_vc h0 rfl)) (j_slc (j_c1r h1) rfl)) rfl)) (j_slc (j_c1r (j_isr_vc h0 rfl)) (j_slc (j_c1r h1) rfl)) rfl))))
theorem b10_16_2 {b : Nat} {x0 : Value} {x1 : Int32} {x2 : Int32} {x3 : Int32} {x4 : Value} {H : j_H} {Q : Option Value → j_H → Prop} (h0 : j_vc H x4 = 2) (h1 : j_isr x0 = true) : j_wp (b + 1) 10 16 [x0, .int x1, .int x2, .int x3, x4] [] H Q = j_wp b 17 0 [x4, x0, .int x2, .int x3] [] H (j_k (b + 1) 10 24 [x0, .int x1, .int x2, .int x3, x4] [] Q) := Eq.trans (s_aload r10_16 rfl (j_isr_vc h0 rfl)) (Eq.trans (s_aload_n r10_18 rfl h1) (Eq.trans (s_iload_n r10_19 rfl) (Eq.trans (s_iload_n r10_20 rfl) (j_cll (as := [x4, x0, .int x2, .int x3]) (es := [x4, x0, .int x2, .int x3]) (s_c3 r10_21 rfl h0 rfl rfl rfl (j_dok (s := [.int x3, .int x2, x0, x4]) (as := [x4, x0, .int x2, .int x3]) (rest := []) (es := [x4, x0, .int x2, .int x3]) rfl rfl rfl rfl (j_slc (j_c1r (j_isr_vc h0 rfl)) (j_slc (j_c1r h1) rfl)) rfl)) (j_slc (j_c1r (j_isr_vc h0 rfl)) (j_slc (j_c1r h1) rfl)) rfl))))
theorem b10_16_4 {b : Nat} {x0 : Value} {x1 : Int32} {x2 : Int32} {x3 : Int32} {x4 : Value} {H : j_H} {Q : Option Value → j_H → Prop} (h0 : j_vc H x4 = 4) (h1 : j_isr x0 = true) : j_wp (b + 1) 10 16 [x0, .int x1, .int x2, .int x3, x4] [] H Q = j_wp b 37 0 [x4, x0, .int x2, .int x3] [] H (j_k (b + 1) 10 24 [x0, .int x1, .int x2, .int x3, x4] [] Q) := Eq.trans (s_aload r10_16 rfl (j_isr_vc h0 rfl)) (Eq.trans (s_aload_n r10_18 rfl h1) (Eq.trans (s_iload_n r10_19 rfl) (Eq.trans (s_iload_n r10_20 rfl) (j_cll (as := [x4, x0, .int x2, .int x3]) (es := [x4, x0, .int x2, .int x3]) (s_c3 r10_21 rfl h0 rfl rfl rfl (j_dok (s := [.int x3, .int x2, x0, x4]) (as := [x4, x0, .int x2, .int x3]) (rest := []) (es := [x4, x0, .int x2, .int x3]) rfl rfl rfl rfl (j_slc (j_c1r (j_isr_vc h0 rfl)) (j_slc (j_c1r h1) rfl)) rfl)) (j_slc (j_c1r (j_isr_vc h0 rfl)) (j_slc (j_c1r h1) rfl)) rfl))))
theorem b10_16_5 {b : Nat} {x0 : Value} {x1 : Int32} {x2 : Int32} {x3 : Int32} {x4 : Value} {H : j_H} {Q : Option Value → j_H → Prop} (h0 : j_vc H x4 = 5) (h1 : j_isr x0 = true) : j_wp (b + 1) 10 16 [x0, .int x1, .int x2, .int x3, x4] [] H Q = j_wp b 40 0 [x4, x0, .int x2, .int x3, j_u] [] H (j_k (b + 1) 10 24 [x0, .int x1, .int x2, .int x3, x4] [] Q) := Eq.trans (s_aload r10_16 rfl (j_isr_vc h0 rfl)) (Eq.trans (s_aload_n r10_18 rfl h1) (Eq.trans (s_iload_n r10_19 rfl) (Eq.trans (s_iload_n r10_20 rfl) (j_cll (as := [x4, x0, .int x2, .int x3]) (es := [x4, x0, .int x2, .int x3]) (s_c3 r10_21 rfl h0 rfl rfl rfl (j_dok (s := [.int x3, .int x2, x0, x4]) (as := [x4, x0, .int x2, .int x3]) (rest := []) (es := [x4, x0, .int x2, .int x3]) rfl rfl rfl rfl (j_slc (j_c1r (j_isr_vc h0 rfl)) (j_slc (j_c1r h1) rfl)) rfl)) (j_slc (j_c1r (j_isr_vc h0 rfl)) (j_slc (j_c1r h1) rfl)) rfl))))
theorem b10_16_6 {b : Nat} {x0 : Value} {x1 : Int32} {x2 : Int32} {x3 : Int32} {x4 : Value} {H : j_H} {Q : Option Value → j_H → Prop} (h0 : j_vc H x4 = 6) (h1 : j_isr x0 = true) : j_wp (b + 1) 10 16 [x0, .int x1, .int x2, .int x3, x4] [] H Q = j_wp b 43 0 [x4, x0, .int x2, .int x3] [] H (j_k (b + 1) 10 24 [x0, .int x1, .int x2, .int x3, x4] [] Q) := Eq.trans (s_aload r10_16 rfl (j_isr_vc h0 rfl)) (Eq.trans (s_aload_n r10_18 rfl h1) (Eq.trans (s_iload_n r10_19 rfl) (Eq.trans (s_iload_n r10_20 rfl) (j_cll (as := [x4, x0, .int x2, .int x3]) (es := [x4, x0, .int x2, .int x3]) (s_c3 r10_21 rfl h0 rfl rfl rfl (j_dok (s := [.int x3, .int x2, x0, x4]) (as := [x4, x0, .int x2, .int x3]) (rest := []) (es := [x4, x0, .int x2, .int x3]) rfl rfl rfl rfl (j_slc (j_c1r (j_isr_vc h0 rfl)) (j_slc (j_c1r h1) rfl)) rfl)) (j_slc (j_c1r (j_isr_vc h0 rfl)) (j_slc (j_c1r h1) rfl)) rfl))))
theorem b10_16_7 {b : Nat} {x0 : Value} {x1 : Int32} {x2 : Int32} {x3 : Int32} {x4 : Value} {H : j_H} {Q : Option Value → j_H → Prop} (h0 : j_vc H x4 = 7) (h1 : j_isr x0 = true) : j_wp (b + 1) 10 16 [x0, .int x1, .int x2, .int x3, x4] [] H Q = j_wp b 46 0 [x4, x0, .int x2, .int x3] [] H (j_k (b + 1) 10 24 [x0, .int x1, .int x2, .int x3, x4] [] Q) := Eq.trans (s_aload r10_16 rfl (j_isr_vc h0 rfl)) (Eq.trans (s_aload_n r10_18 rfl h1) (Eq.trans (s_iload_n r10_19 rfl) (Eq.trans (s_iload_n r10_20 rfl) (j_cll (as := [x4, x0, .int x2, .int x3]) (es := [x4, x0, .int x2, .int x3]) (s_c3 r10_21 rfl h0 rfl rfl rfl (j_dok (s := [.int x3, .int x2, x0, x4]) (as := [x4, x0, .int x2, .int x3]) (rest := []) (es := [x4, x0, .int x2, .int x3]) rfl rfl rfl rfl (j_slc (j_c1r (j_isr_vc h0 rfl)) (j_slc (j_c1r h1) rfl)) rfl)) (j_slc (j_c1r (j_isr_vc h0 rfl)) (j_slc (j_c1r h1) rfl)) rfl))))
theorem b10_16_9 {b : Nat} {x0 : Value} {x1 : Int32} {x2 : Int32} {x3 : Int32} {x4 : Value} {H : j_H} {Q : Option Value → j_H → Prop} (h0 : j_vc H x4 = 9) (h1 : j_isr x0 = true) : j_wp (b + 1) 10 16 [x0, .int x1, .int x2, .int x3, x4] [] H Q = j_wp b 58 0 [x4, x0, .int x2, .int x3] [] H (j_k (b + 1) 10 24 [x0, .int x1, .int x2, .int x3, x4] [] Q) := Eq.trans (s_aload r10_16 rfl (j_isr_vc h0 rfl)) (Eq.trans (s_aload_n r10_18 rfl h1) (Eq.trans (s_iload_n r10_19 rfl) (Eq.trans (s_iload_n r10_20 rfl) (j_cll (as := [x4, x0, .int x2, .int x3]) (es := [x4, x0, .int x2, .int x3]) (s_c3 r10_21 rfl h0 rfl rfl rfl (j_dok (s := [.int x3, .int x2, x0, x4]) (as := [x4, x0, .int x2, .int x3]) (rest := []) (es := [x4, x0, .int x2, .int x3]) rfl rfl rfl rfl (j_slc (j_c1r (j_isr_vc h0 rfl)) (j_slc (j_c1r h1) rfl)) rfl)) (j_slc (j_c1r (j_isr_vc h0 rfl)) (j_slc (j_c1r h1) rfl)) rfl))))
theorem b10_24 {b : Nat} {x0 : Value} {x1 : Int32} {x2 : Int32} {x3 : Int32} {x4 : Value} {y0 : Int32} {H : j_H} {Q : Option Value → j_H → Prop}  : j_wp b 10 24 [x0, .int x1, .int x2, .int x3, x4] [.int y0] H Q = Q (some (.int y0)) H := s_ireturn r10_24 (j_rok1 rfl)
-- X0_lies
theorem r11_0 : j_at 11 0 = some (0, .aload_n 0, 1, []) := by decide +kernel
theorem r11_1 : j_at 11 1 = some (1, .getfield 46, 3, [123, 0, 2, 10, 0, 0]) := by decide +kernel
theorem r11_4 : j_at 11 4 = some (4, .ifnonnull 7, 3, []) := by decide +kernel
theorem r11_7 : j_at 11 7 = some (7, .iconst 0, 1, []) := by decide +kernel
theorem r11_8 : j_at 11 8 = some (8, .goto 20, 3, []) := by decide +kernel
theorem r11_11 : j_at 11 11 = some (11, .aload_n 0, 1, []) := by decide +kernel
theorem r11_12 : j_at 11 12 = some (12, .getfield 46, 3, [123, 0, 2, 10, 0, 0]) := by decide +kernel
theorem r11_15 : j_at 11 15 = some (15, .iconst 0, 1, []) := by decide +kernel
theorem r11_16 : j_at 11 16 = some (16, .aload_n 1, 1, []) := by decide +kernel
theorem r11_17 : j_at 11 17 = some (17, .iload_n 2, 1, []) := by decide +kernel
theorem r11_18 : j_at 11 18 = some (18, .aload_n 0, 1, []) := by decide +kernel
theorem r11_19 : j_at 11 19 = some (19, .getfield 31, 3, [114, 0, 0, 5, 0, 0]) := by decide +kernel
theorem r11_22 : j_at 11 22 = some (22, .invokestatic 79, 3, [0, 1, 201, 349, 234, 80, 0]) := by decide +kernel
theorem r11_25 : j_at 11 25 = some (25, .invokevirtual 84, 3, [2, 5, 23, 350, 351, 352, 74, 0, 3]) := by decide +kernel
theorem r11_28 : j_at 11 28 = some (28, .istore_n 3, 1, []) := by decide +kernel
theorem r11_29 : j_at 11 29 = some (29, .iconst 5, 1, []) := by decide +kernel
theorem r11_30 : j_at 11 30 = some (30, .iload_n 3, 1, []) := by decide +kernel
theorem r11_31 : j_at 11 31 = some (31, .iadd, 1, []) := by decide +kernel
theorem r11_32 : j_at 11 32 = some (32, .bipush 10, 2, []) := by decide +kernel
theorem r11_34 : j_at 11 34 = some (34, .invokestatic 88, 3, [0, 2, 203, 356, 357, 86, 0]) := by decide +kernel
theorem r11_37 : j_at 11 37 = some (37, .ireturn, 1, []) := by decide +kernel
theorem b11_0 {b : Nat} {x0 : Value} {x1 : Value} {x2 : Int32} {u3 : Value} {H : j_H} {Q : Option Value → j_H → Prop} (h0 : j_vc H x0 = 0) (h1 : ¬ va_rf (j_R H (j_pa x0) 10) = .ref 11) : j_wp b 11 0 [x0, x1, .int x2, u3] [] H Q = (if va_rf (j_R H (j_pa x0) 10) = .null then j_wp b 11 7 [x0, x1, .int x2, u3] [] H Q else j_wp b 11 11 [x0, x1, .int x2, u3] [] H Q) := Eq.trans (s_aload_n r11_0 rfl (j_isr_vc h0 rfl)) (Eq.trans (s_getfr r11_1 (j_al1 h0 rfl) rfl) (s_ifnonnull r11_4 rfl (j_isr_rf _) h1))
theorem b11_7 {b : Nat} {x0 : Value} {x1 : Value} {x2 : Int32} {u3 : Value} {H : j_H} {Q : Option Value → j_H → Prop}  : j_wp b 11 7 [x0, x1, .int x2, u3] [] H Q = j_wp b 11 28 [x0, x1, .int x2, u3] [.int (Int32.ofInt 0)] H Q := Eq.trans (s_iconst r11_7) (s_goto r11_8 rfl)
theorem b11_11 {b : Nat} {x0 : Value} {x1 : Value} {x2 : Int32} {u3 : Value} {H : j_H} {Q : Option Value → j_H → Prop} (h0 : j_vc H x0 = 0) (h1 : j_isr x1 = true) : j_wp (b + 1) 11 11 [x0, x1, .int x2, u3] [] H Q = j_wp b 201 0 [.int (j_I H (j_pa x0) 5)] [] H (j_k (b + 1) 11 25 [x0, x1, .int x2, u3] [.int x2, x1, .int (Int32.ofInt 0), va_rf (j_R H (j_pa x0) 10)] Q) := Eq.trans (s_aload_n r11_11 rfl (j_isr_vc h0 rfl)) (Eq.trans (s_getfr r11_12 (j_al1 h0 rfl) rfl) (Eq.trans (s_iconst r11_15) (Eq.trans (s_aload_n r11_16 rfl h1) (Eq.trans (s_iload_n r11_17 rfl) (Eq.trans (s_aload_n r11_18 rfl (j_isr_vc h0 rfl)) (Eq.trans (s_getfi r11_19 (j_al1 h0 rfl) rfl rfl rfl) (j_cll (as := [.int (j_I H (j_pa x0) 5)]) (es := [.int (j_I H (j_pa x0) 5)]) (s_c0 r11_22 (j_dok (s := [.int (j_I H (j_pa x0) 5), .int x2, x1, .int (Int32.ofInt 0), va_rf (j_R H (j_pa x0) 10)]) (as := [.int (j_I H (j_pa x0) 5)]) (rest := [.int x2, x1, .int (Int32.ofInt 0), va_rf (j_R H (j_pa x0) 10)]) (es := [.int (j_I H (j_pa x0) 5)]) rfl rfl rfl rfl rfl rfl)) rfl rfl)))))))
theorem b11_25 {b : Nat} {x0 : Value} {x1 : Value} {x2 : Int32} {u3 : Value} {y0 : Int32} {y1 : Int32} {y2 : Value} {y3 : Int32} {y4 : Value} {H : j_H} {Q : Option Value → j_H → Prop} (h0 : j_vc H y4 = 3) (h1 : j_isr y2 = true) : j_wp (b + 1) 11 25 [x0, x1, .int x2, u3] [.int y0, .int y1, y2, .int y3, y4] H Q = j_wp b 23 0 [y4, .int y3, y2, .int y1, .int y0, j_u, j_u, j_u] [] H (j_k (b + 1) 11 28 [x0, x1, .int x2, u3] [] Q) := j_cll (as := [y4, .int y3, y2, .int y1, .int y0]) (es := [y4, .int y3, y2, .int y1, .int y0]) (s_c2 r11_25 rfl h0 rfl rfl (j_dok (s := [.int y0, .int y1, y2, .int y3, y4]) (as := [y4, .int y3, y2, .int y1, .int y0]) (rest := []) (es := [y4, .int y3, y2, .int y1, .int y0]) rfl rfl rfl rfl (j_slc (j_c1r (j_isr_vc h0 rfl)) (j_slc rfl (j_slc (j_c1r h1) rfl))) rfl)) (j_slc (j_c1r (j_isr_vc h0 rfl)) (j_slc rfl (j_slc (j_c1r h1) rfl))) rfl
theorem b11_28 {b : Nat} {x0 : Value} {x1 : Value} {x2 : Int32} {u3 : Value} {y0 : Int32} {H : j_H} {Q : Option Value → j_H → Prop}  : j_wp (b + 1) 11 28 [x0, x1, .int x2, u3] [.int y0] H Q = j_wp b 203 0 [.int ((Int32.ofInt 5) + y0), .int (Int32.ofInt 10)] [] H (j_k (b + 1) 11 37 [x0, x1, .int x2, .int y0] [] Q) := Eq.trans (s_istore_n r11_28 (Nat.le_of_ble_eq_true rfl) rfl) (Eq.trans (s_iconst r11_29) (Eq.trans (s_iload_n r11_30 rfl) (Eq.trans (s_iadd r11_31) (Eq.trans (s_bipush r11_32) (j_cll (as := [.int ((Int32.ofInt 5) + y0), .int (Int32.ofInt 10)]) (es := [.int ((Int32.ofInt 5) + y0), .int (Int32.ofInt 10)]) (s_c0 r11_34 (j_dok (s := [.int (Int32.ofInt 10), .int ((Int32.ofInt 5) + y0)]) (as := [.int ((Int32.ofInt 5) + y0), .int (Int32.ofInt 10)]) (rest := []) (es := [.int ((Int32.ofInt 5) + y0), .int (Int32.ofInt 10)]) rfl rfl rfl rfl rfl rfl)) rfl rfl)))))
theorem b11_37 {b : Nat} {x0 : Value} {x1 : Value} {x2 : Int32} {x3 : Int32} {y0 : Int32} {H : j_H} {Q : Option Value → j_H → Prop}  : j_wp b 11 37 [x0, x1, .int x2, .int x3] [.int y0] H Q = Q (some (.int y0)) H := s_ireturn r11_37 (j_rok1 rfl)
-- X0_worth
theorem r12_0 : j_at 12 0 = some (0, .aload_n 0, 1, []) := by decide +kernel
theorem r12_1 : j_at 12 1 = some (1, .getfield 46, 3, [123, 0, 2, 10, 0, 0]) := by decide +kernel
theorem r12_4 : j_at 12 4 = some (4, .ifnull 13, 3, []) := by decide +kernel
theorem r12_7 : j_at 12 7 = some (7, .aload_n 0, 1, []) := by decide +kernel
theorem r12_8 : j_at 12 8 = some (8, .getfield 46, 3, [123, 0, 2, 10, 0, 0]) := by decide +kernel
theorem r12_11 : j_at 12 11 = some (11, .getfield 91, 3, [145, 3, 0, 1, 0, 3]) := by decide +kernel
theorem r12_14 : j_at 12 14 = some (14, .ifCond .ne 5, 3, []) := by decide +kernel
theorem r12_17 : j_at 12 17 = some (17, .iconst 1, 1, []) := by decide +kernel
theorem r12_18 : j_at 12 18 = some (18, .ireturn, 1, []) := by decide +kernel
theorem r12_19 : j_at 12 19 = some (19, .aload_n 0, 1, []) := by decide +kernel
theorem r12_20 : j_at 12 20 = some (20, .getfield 46, 3, [123, 0, 2, 10, 0, 0]) := by decide +kernel
theorem r12_23 : j_at 12 23 = some (23, .iconst 1, 1, []) := by decide +kernel
theorem r12_24 : j_at 12 24 = some (24, .aload_n 1, 1, []) := by decide +kernel
theorem r12_25 : j_at 12 25 = some (25, .iload_n 2, 1, []) := by decide +kernel
theorem r12_26 : j_at 12 26 = some (26, .iload_n 3, 1, []) := by decide +kernel
theorem r12_27 : j_at 12 27 = some (27, .invokestatic 79, 3, [0, 1, 201, 349, 234, 80, 0]) := by decide +kernel
theorem r12_30 : j_at 12 30 = some (30, .invokevirtual 84, 3, [2, 5, 23, 350, 351, 352, 74, 0, 3]) := by decide +kernel
theorem r12_33 : j_at 12 33 = some (33, .ireturn, 1, []) := by decide +kernel
theorem b12_0 {b : Nat} {x0 : Value} {x1 : Value} {x2 : Int32} {x3 : Int32} {H : j_H} {Q : Option Value → j_H → Prop} (h0 : j_vc H x0 = 0) (h1 : ¬ va_rf (j_R H (j_pa x0) 10) = .ref 11) : j_wp b 12 0 [x0, x1, .int x2, .int x3] [] H Q = (if va_rf (j_R H (j_pa x0) 10) = .null then j_wp b 12 17 [x0, x1, .int x2, .int x3] [] H Q else j_wp b 12 7 [x0, x1, .int x2, .int x3] [] H Q) := Eq.trans (s_aload_n r12_0 rfl (j_isr_vc h0 rfl)) (Eq.trans (s_getfr r12_1 (j_al1 h0 rfl) rfl) (s_ifnull r12_4 rfl (j_isr_rf _) h1))
theorem b12_7 {b : Nat} {x0 : Value} {x1 : Value} {x2 : Int32} {x3 : Int32} {H : j_H} {Q : Option Value → j_H → Prop} (h0 : j_vc H x0 = 0) (h1 : j_vc H (va_rf (j_R H (j_pa x0) 10)) = 3) : j_wp b 12 7 [x0, x1, .int x2, .int x3] [] H Q = (if ¬ (j_I H (j_pa (va_rf (j_R H (j_pa x0) 10))) 1).toInt = 0 then j_wp b 12 19 [x0, x1, .int x2, .int x3] [] H Q else j_wp b 12 17 [x0, x1, .int x2, .int x3] [] H Q) := Eq.trans (s_aload_n r12_7 rfl (j_isr_vc h0 rfl)) (Eq.trans (s_getfr r12_8 (j_al1 h0 rfl) rfl) (Eq.trans (s_getfi r12_11 (j_al1 h1 rfl) rfl rfl rfl) (s_ifne r12_14 rfl rfl)))
theorem b12_17 {b : Nat} {x0 : Value} {x1 : Value} {x2 : Int32} {x3 : Int32} {H : j_H} {Q : Option Value → j_H → Prop}  : j_wp b 12 17 [x0, x1, .int x2, .int x3] [] H Q = Q (some (.int (Int32.ofInt 1))) H := Eq.trans (s_iconst r12_17) (s_ireturn r12_18 (j_rok1 rfl))
theorem b12_19 {b : Nat} {x0 : Value} {x1 : Value} {x2 : Int32} {x3 : Int32} {H : j_H} {Q : Option Value → j_H → Prop} (h0 : j_vc H x0 = 0) (h1 : j_isr x1 = true) : j_wp (b + 1) 12 19 [x0, x1, .int x2, .int x3] [] H Q = j_wp b 201 0 [.int x3] [] H (j_k (b + 1) 12 30 [x0, x1, .int x2, .int x3] [.int x2, x1, .int (Int32.ofInt 1), va_rf (j_R H (j_pa x0) 10)] Q) := Eq.trans (s_aload_n r12_19 rfl (j_isr_vc h0 rfl)) (Eq.trans (s_getfr r12_20 (j_al1 h0 rfl) rfl) (Eq.trans (s_iconst r12_23) (Eq.trans (s_aload_n r12_24 rfl h1) (Eq.trans (s_iload_n r12_25 rfl) (Eq.trans (s_iload_n r12_26 rfl) (j_cll (as := [.int x3]) (es := [.int x3]) (s_c0 r12_27 (j_dok (s := [.int x3, .int x2, x1, .int (Int32.ofInt 1), va_rf (j_R H (j_pa x0) 10)]) (as := [.int x3]) (rest := [.int x2, x1, .int (Int32.ofInt 1), va_rf (j_R H (j_pa x0) 10)]) (es := [.int x3]) rfl rfl rfl rfl rfl rfl)) rfl rfl))))))
theorem b12_30 {b : Nat} {x0 : Value} {x1 : Value} {x2 : Int32} {x3 : Int32} {y0 : Int32} {y1 : Int32} {y2 : Value} {y3 : Int32} {y4 : Value} {H : j_H} {Q : Option Value → j_H → Prop} (h0 : j_vc H y4 = 3) (h1 : j_isr y2 = true) : j_wp (b + 1) 12 30 [x0, x1, .int x2, .int x3] [.int y0, .int y1, y2, .int y3, y4] H Q = j_wp b 23 0 [y4, .int y3, y2, .int y1, .int y0, j_u, j_u, j_u] [] H (j_k (b + 1) 12 33 [x0, x1, .int x2, .int x3] [] Q) := j_cll (as := [y4, .int y3, y2, .int y1, .int y0]) (es := [y4, .int y3, y2, .int y1, .int y0]) (s_c2 r12_30 rfl h0 rfl rfl (j_dok (s := [.int y0, .int y1, y2, .int y3, y4]) (as := [y4, .int y3, y2, .int y1, .int y0]) (rest := []) (es := [y4, .int y3, y2, .int y1, .int y0]) rfl rfl rfl rfl (j_slc (j_c1r (j_isr_vc h0 rfl)) (j_slc rfl (j_slc (j_c1r h1) rfl))) rfl)) (j_slc (j_c1r (j_isr_vc h0 rfl)) (j_slc rfl (j_slc (j_c1r h1) rfl))) rfl
theorem b12_33 {b : Nat} {x0 : Value} {x1 : Value} {x2 : Int32} {x3 : Int32} {y0 : Int32} {H : j_H} {Q : Option Value → j_H → Prop}  : j_wp b 12 33 [x0, x1, .int x2, .int x3] [.int y0] H Q = Q (some (.int y0)) H := s_ireturn r12_33 (j_rok1 rfl)
