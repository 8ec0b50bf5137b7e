/-! BLOCKS, printed by wip/whole/gen11.py -/
-- X0_init
theorem r0_0 : j_at 0 0 = some (0, .aload_n 0, 1, []) := by decide +kernel
theorem r0_1 : j_at 0 1 = some (1, .invokespecial 3, 3, [5, 1, 103, 97, 98]) := by decide +kernel
theorem r0_4 : j_at 0 4 = some (4, .aload_n 0, 1, []) := by decide +kernel
theorem r0_5 : j_at 0 5 = some (5, .bipush 7, 2, []) := by decide +kernel
theorem r0_7 : j_at 0 7 = some (7, .anewarray 9, 3, [104, 0, 2, 4]) := by decide +kernel
theorem r0_10 : j_at 0 10 = some (10, .putfield 11, 3, [105, 0, 2, 0, 0, 1, 0]) := by decide +kernel
theorem r0_13 : j_at 0 13 = some (13, .aload_n 0, 1, []) := by decide +kernel
theorem r0_14 : j_at 0 14 = some (14, .bipush 7, 2, []) := by decide +kernel
theorem r0_16 : j_at 0 16 = some (16, .newarray .int, 2, [136, 0]) := by decide +kernel
theorem r0_18 : j_at 0 18 = some (18, .putfield 17, 3, [106, 0, 2, 1, 0, 1, 0]) := by decide +kernel
theorem r0_21 : j_at 0 21 = some (21, .aload_n 0, 1, []) := by decide +kernel
theorem r0_22 : j_at 0 22 = some (22, .bipush 12, 2, []) := by decide +kernel
theorem r0_24 : j_at 0 24 = some (24, .newarray .int, 2, [136, 0]) := by decide +kernel
theorem r0_26 : j_at 0 26 = some (26, .putfield 21, 3, [107, 0, 2, 2, 0, 1, 0]) := by decide +kernel
theorem r0_29 : j_at 0 29 = some (29, .aload_n 0, 1, []) := by decide +kernel
theorem r0_30 : j_at 0 30 = some (30, .bipush 12, 2, []) := by decide +kernel
theorem r0_32 : j_at 0 32 = some (32, .newarray .int, 2, [136, 0]) := by decide +kernel
theorem r0_34 : j_at 0 34 = some (34, .putfield 24, 3, [109, 0, 2, 3, 0, 1, 0]) := by decide +kernel
theorem r0_37 : j_at 0 37 = some (37, .return_, 1, []) := by decide +kernel
theorem b0_0 {b : Nat} {x0 : Value} {H : j_H} {Q : Option Value → j_H → Prop} (h0 : j_vc H x0 = 0) (h1 : ¬ (x0 : Value) = .ref 11) : j_wp b 0 0 [x0] [] H Q = j_wp b 0 13 [x0] [] (j_sR (j_nw H (.inr (4, j_ix (Int32.ofInt 7)))) (j_pa x0) 0 (some H.1.length)) Q := Eq.trans (s_aload_n r0_0 rfl (j_isr_vc h0 rfl)) (Eq.trans (s_oinit r0_1 (j_vc_lt h0 rfl) h1 rfl) (Eq.trans (s_aload_n r0_4 rfl (j_isr_vc h0 rfl)) (Eq.trans (s_bipush r0_5) (Eq.trans (s_newr r0_7 (by decide)) (s_put r0_10 (j_al1 (j_vcn h0) rfl) rfl (j_putR rfl))))))
theorem b0_13 {b : Nat} {x0 : Value} {H : j_H} {Q : Option Value → j_H → Prop} (h0 : j_vc H x0 = 0) : j_wp b 0 13 [x0] [] H Q = j_wp b 0 21 [x0] [] (j_sR (j_nw H (.inr (0, j_ix (Int32.ofInt 7)))) (j_pa x0) 1 (some H.1.length)) Q := Eq.trans (s_aload_n r0_13 rfl (j_isr_vc h0 rfl)) (Eq.trans (s_bipush r0_14) (Eq.trans (s_newa r0_16 (by decide)) (s_put r0_18 (j_al1 (j_vcn h0) rfl) rfl (j_putR rfl))))
theorem b0_21 {b : Nat} {x0 : Value} {H : j_H} {Q : Option Value → j_H → Prop} (h0 : j_vc H x0 = 0) : j_wp b 0 21 [x0] [] H Q = j_wp b 0 29 [x0] [] (j_sR (j_nw H (.inr (0, j_ix (Int32.ofInt 12)))) (j_pa x0) 2 (some H.1.length)) Q := Eq.trans (s_aload_n r0_21 rfl (j_isr_vc h0 rfl)) (Eq.trans (s_bipush r0_22) (Eq.trans (s_newa r0_24 (by decide)) (s_put r0_26 (j_al1 (j_vcn h0) rfl) rfl (j_putR rfl))))
theorem b0_29 {b : Nat} {x0 : Value} {H : j_H} {Q : Option Value → j_H → Prop} (h0 : j_vc H x0 = 0) : j_wp b 0 29 [x0] [] H Q = j_wp b 0 37 [x0] [] (j_sR (j_nw H (.inr (0, j_ix (Int32.ofInt 12)))) (j_pa x0) 3 (some H.1.length)) Q := Eq.trans (s_aload_n r0_29 rfl (j_isr_vc h0 rfl)) (Eq.trans (s_bipush r0_30) (Eq.trans (s_newa r0_32 (by decide)) (s_put r0_34 (j_al1 (j_vcn h0) rfl) rfl (j_putR rfl))))
theorem b0_37 {b : Nat} {x0 : Value} {H : j_H} {Q : Option Value → j_H → Prop}  : j_wp b 0 37 [x0] [] H Q = Q none H := s_return r0_37 rfl
-- X0_guestAt
theorem r1_0 : j_at 1 0 = some (0, .iload_n 1, 1, []) := by decide +kernel
theorem r1_1 : j_at 1 1 = some (1, .ifCond .lt 20, 3, []) := by decide +kernel
theorem r1_4 : j_at 1 4 = some (4, .iload_n 1, 1, []) := by decide +kernel
theorem r1_5 : j_at 1 5 = some (5, .aload_n 0, 1, []) := by decide +kernel
theorem r1_6 : j_at 1 6 = some (6, .getfield 27, 3, [111, 0, 0, 4, 0, 0]) := by decide +kernel
theorem r1_9 : j_at 1 9 = some (9, .if_icmp .ge 12, 3, []) := by decide +kernel
theorem r1_12 : j_at 1 12 = some (12, .iload_n 1, 1, []) := by decide +kernel
theorem r1_13 : j_at 1 13 = some (13, .aload_n 0, 1, []) := by decide +kernel
theorem r1_14 : j_at 1 14 = some (14, .getfield 11, 3, [105, 0, 2, 0, 0, 0]) := by decide +kernel
theorem r1_17 : j_at 1 17 = some (17, .arraylength, 1, []) := by decide +kernel
theorem r1_18 : j_at 1 18 = some (18, .if_icmp .lt 7, 3, []) := by decide +kernel
theorem r1_21 : j_at 1 21 = some (21, .aconst_null, 1, []) := by decide +kernel
theorem r1_22 : j_at 1 22 = some (22, .goto 9, 3, []) := by decide +kernel
theorem r1_25 : j_at 1 25 = some (25, .aload_n 0, 1, []) := by decide +kernel
theorem r1_26 : j_at 1 26 = some (26, .getfield 11, 3, [105, 0, 2, 0, 0, 0]) := by decide +kernel
theorem r1_29 : j_at 1 29 = some (29, .iload_n 1, 1, []) := by decide +kernel
theorem r1_30 : j_at 1 30 = some (30, .aaload, 1, [4]) := by decide +kernel
theorem r1_31 : j_at 1 31 = some (31, .areturn, 1, []) := by decide +kernel
theorem b1_0 {b : Nat} {x0 : Value} {x1 : Int32} {H : j_H} {Q : Option Value → j_H → Prop}  : j_wp b 1 0 [x0, .int x1] [] H Q = (if x1.toInt < 0 then j_wp b 1 21 [x0, .int x1] [] H Q else j_wp b 1 4 [x0, .int x1] [] H Q) := Eq.trans (s_iload_n r1_0 rfl) (s_iflt r1_1 rfl rfl)
theorem b1_4 {b : Nat} {x0 : Value} {x1 : Int32} {H : j_H} {Q : Option Value → j_H → Prop} (h0 : j_vc H x0 = 0) : j_wp b 1 4 [x0, .int x1] [] H Q = (if (j_I H (j_pa x0) 4).toInt ≤ x1.toInt then j_wp b 1 21 [x0, .int x1] [] H Q else j_wp b 1 12 [x0, .int x1] [] H Q) := Eq.trans (s_iload_n r1_4 rfl) (Eq.trans (s_aload_n r1_5 rfl (j_isr_vc h0 rfl)) (Eq.trans (s_getfi r1_6 (j_al1 h0 rfl) rfl rfl rfl) (s_icge r1_9 rfl rfl rfl)))
theorem b1_12 {b : Nat} {x0 : Value} {x1 : Int32} {H : j_H} {Q : Option Value → j_H → Prop} (h0 : j_vc H x0 = 0) (h1 : j_vt H (va_rf (j_R H (j_pa x0) 0)) = 4) : j_wp b 1 12 [x0, .int x1] [] H Q = (if x1.toInt < (Int32.ofInt (j_vl H (va_rf (j_R H (j_pa x0) 0)) : Nat)).toInt then j_wp b 1 25 [x0, .int x1] [] H Q else j_wp b 1 21 [x0, .int x1] [] H Q) := Eq.trans (s_iload_n r1_12 rfl) (Eq.trans (s_aload_n r1_13 rfl (j_isr_vc h0 rfl)) (Eq.trans (s_getfr r1_14 (j_al1 h0 rfl) rfl) (Eq.trans (s_alen r1_17 h1 (by decide)) (s_iclt r1_18 rfl rfl rfl))))
theorem b1_21 {b : Nat} {x0 : Value} {x1 : Int32} {H : j_H} {Q : Option Value → j_H → Prop}  : j_wp b 1 21 [x0, .int x1] [] H Q = j_wp b 1 31 [x0, .int x1] [.null] H Q := Eq.trans (s_null r1_21) (s_goto r1_22 rfl)
theorem b1_25 {b : Nat} {x0 : Value} {x1 : Int32} {H : j_H} {Q : Option Value → j_H → Prop} (h0 : j_vc H x0 = 0) (h1 : j_vt H (va_rf (j_R H (j_pa x0) 0)) = 4) (h2 : 0 ≤ x1.toInt) (h3 : x1.toInt < ((j_vl H (va_rf (j_R H (j_pa x0) 0)) : Nat) : Int)) : j_wp b 1 25 [x0, .int x1] [] H Q = j_wp b 1 31 [x0, .int x1] [va_rf (j_R H (j_pa (va_rf (j_R H (j_pa x0) 0))) (j_ix x1))] H Q := Eq.trans (s_aload_n r1_25 rfl (j_isr_vc h0 rfl)) (Eq.trans (s_getfr r1_26 (j_al1 h0 rfl) rfl) (Eq.trans (s_iload_n r1_29 rfl) (s_aald r1_30 h1 (by decide) (j_ib_of (z := x1.toInt) rfl h2 h3))))
theorem b1_31 {b : Nat} {x0 : Value} {x1 : Int32} {y0 : Value} {H : j_H} {Q : Option Value → j_H → Prop} (h0 : j_isr y0 = true) (h1 : ¬ (y0 : Value) = .ref 11) : j_wp b 1 31 [x0, .int x1] [y0] H Q = Q (some (y0)) H := s_areturn r1_31 rfl h0 h1
-- X0_sits
theorem r2_0 : j_at 2 0 = some (0, .aload_n 0, 1, []) := by decide +kernel
theorem r2_1 : j_at 2 1 = some (1, .getfield 27, 3, [111, 0, 0, 4, 0, 0]) := by decide +kernel
theorem r2_4 : j_at 2 4 = some (4, .aload_n 0, 1, []) := by decide +kernel
theorem r2_5 : j_at 2 5 = some (5, .getfield 11, 3, [105, 0, 2, 0, 0, 0]) := by decide +kernel
theorem r2_8 : j_at 2 8 = some (8, .arraylength, 1, []) := by decide +kernel
theorem r2_9 : j_at 2 9 = some (9, .if_icmp .lt 6, 3, []) := by decide +kernel
theorem r2_12 : j_at 2 12 = some (12, .bipush (-4), 2, []) := by decide +kernel
theorem r2_14 : j_at 2 14 = some (14, .ireturn, 1, []) := by decide +kernel
theorem r2_15 : j_at 2 15 = some (15, .aload_n 0, 1, []) := by decide +kernel
theorem r2_16 : j_at 2 16 = some (16, .getfield 11, 3, [105, 0, 2, 0, 0, 0]) := by decide +kernel
theorem r2_19 : j_at 2 19 = some (19, .aload_n 0, 1, []) := by decide +kernel
theorem r2_20 : j_at 2 20 = some (20, .getfield 27, 3, [111, 0, 0, 4, 0, 0]) := by decide +kernel
theorem r2_23 : j_at 2 23 = some (23, .aload_n 1, 1, []) := by decide +kernel
theorem r2_24 : j_at 2 24 = some (24, .aastore, 1, [4, 2, 1, 1, 2, 0, 4, 2, 5, 3, 6, 4, 7, 5, 9, 6]) := by decide +kernel
theorem r2_25 : j_at 2 25 = some (25, .aload_n 0, 1, []) := by decide +kernel
theorem r2_26 : j_at 2 26 = some (26, .getfield 17, 3, [106, 0, 2, 1, 0, 0]) := by decide +kernel
theorem r2_29 : j_at 2 29 = some (29, .aload_n 0, 1, []) := by decide +kernel
theorem r2_30 : j_at 2 30 = some (30, .getfield 27, 3, [111, 0, 0, 4, 0, 0]) := by decide +kernel
theorem r2_33 : j_at 2 33 = some (33, .iconst 0, 1, []) := by decide +kernel
theorem r2_34 : j_at 2 34 = some (34, .iastore, 1, []) := by decide +kernel
theorem r2_35 : j_at 2 35 = some (35, .aload_n 0, 1, []) := by decide +kernel
theorem r2_36 : j_at 2 36 = some (36, .dup, 1, []) := by decide +kernel
theorem r2_37 : j_at 2 37 = some (37, .getfield 27, 3, [111, 0, 0, 4, 0, 0]) := by decide +kernel
theorem r2_40 : j_at 2 40 = some (40, .iconst 1, 1, []) := by decide +kernel
theorem r2_41 : j_at 2 41 = some (41, .iadd, 1, []) := by decide +kernel
theorem r2_42 : j_at 2 42 = some (42, .putfield 27, 3, [111, 0, 0, 4, 0, 0, 0]) := by decide +kernel
theorem r2_45 : j_at 2 45 = some (45, .aload_n 0, 1, []) := by decide +kernel
theorem r2_46 : j_at 2 46 = some (46, .getfield 27, 3, [111, 0, 0, 4, 0, 0]) := by decide +kernel
theorem r2_49 : j_at 2 49 = some (49, .iconst 1, 1, []) := by decide +kernel
theorem r2_50 : j_at 2 50 = some (50, .isub, 1, []) := by decide +kernel
theorem r2_51 : j_at 2 51 = some (51, .ireturn, 1, []) := by decide +kernel
theorem b2_0 {b : Nat} {x0 : Value} {x1 : Value} {H : j_H} {Q : Option Value → j_H → Prop} (h0 : j_vc H x0 = 0) (h1 : j_vt H (va_rf (j_R H (j_pa x0) 0)) = 4) : j_wp b 2 0 [x0, x1] [] H Q = (if (j_I H (j_pa x0) 4).toInt < (Int32.ofInt (j_vl H (va_rf (j_R H (j_pa x0) 0)) : Nat)).toInt then j_wp b 2 15 [x0, x1] [] H Q else j_wp b 2 12 [x0, x1] [] H Q) := Eq.trans (s_aload_n r2_0 rfl (j_isr_vc h0 rfl)) (Eq.trans (s_getfi r2_1 (j_al1 h0 rfl) rfl rfl rfl) (Eq.trans (s_aload_n r2_4 rfl (j_isr_vc h0 rfl)) (Eq.trans (s_getfr r2_5 (j_al1 h0 rfl) rfl) (Eq.trans (s_alen r2_8 h1 (by decide)) (s_iclt r2_9 rfl rfl rfl)))))
theorem b2_12 {b : Nat} {x0 : Value} {x1 : Value} {H : j_H} {Q : Option Value → j_H → Prop}  : j_wp b 2 12 [x0, x1] [] H Q = Q (some (.int (Int32.ofInt (-4)))) H := Eq.trans (s_bipush r2_12) (s_ireturn r2_14 (j_rok1 rfl))
theorem b2_15 {b : Nat} {x0 : Value} {x1 : Value} {H : j_H} {Q : Option Value → j_H → Prop} (h0 : j_vc H x0 = 0) (h1 : j_isr x1 = true) (h2 : j_vt H (va_rf (j_R H (j_pa x0) 0)) = 4) (h3 : 0 ≤ (j_I H (j_pa x0) 4).toInt) (h4 : (j_I H (j_pa x0) 4).toInt < ((j_vl H (va_rf (j_R H (j_pa x0) 0)) : Nat) : Int)) (h5 : (x1 : Value) = .null ∨ (j_vc H x1 < 99 ∧ j_pr (j_vc H x1) [1, 1, 2, 0, 4, 2, 5, 3, 6, 4, 7, 5, 9, 6] = true)) : j_wp b 2 15 [x0, x1] [] H Q = j_wp b 2 25 [x0, x1] [] (j_sR H (j_pa (va_rf (j_R H (j_pa x0) 0))) (j_ix (j_I H (j_pa x0) 4)) (j_po x1)) Q := Eq.trans (s_aload_n r2_15 rfl (j_isr_vc h0 rfl)) (Eq.trans (s_getfr r2_16 (j_al1 h0 rfl) rfl) (Eq.trans (s_aload_n r2_19 rfl (j_isr_vc h0 rfl)) (Eq.trans (s_getfi r2_20 (j_al1 h0 rfl) rfl rfl rfl) (Eq.trans (s_aload_n r2_23 rfl h1) (s_aast r2_24 h2 (by decide) (j_ib_of (z := (j_I H (j_pa x0) 4).toInt) rfl h3 h4) h5)))))
theorem b2_25 {b : Nat} {x0 : Value} {x1 : Value} {H : j_H} {Q : Option Value → j_H → Prop} (h0 : j_vc H x0 = 0) (h1 : j_vt H (va_rf (j_R H (j_pa x0) 1)) = 0) (h2 : 0 ≤ (j_I H (j_pa x0) 4).toInt) (h3 : (j_I H (j_pa x0) 4).toInt < ((j_vl H (va_rf (j_R H (j_pa x0) 1)) : Nat) : Int)) : j_wp b 2 25 [x0, x1] [] H Q = j_wp b 2 35 [x0, x1] [] (j_sI H (j_pa (va_rf (j_R H (j_pa x0) 1))) (j_ix (j_I H (j_pa x0) 4)) (Int32.ofInt 0)) Q := Eq.trans (s_aload_n r2_25 rfl (j_isr_vc h0 rfl)) (Eq.trans (s_getfr r2_26 (j_al1 h0 rfl) rfl) (Eq.trans (s_aload_n r2_29 rfl (j_isr_vc h0 rfl)) (Eq.trans (s_getfi r2_30 (j_al1 h0 rfl) rfl rfl rfl) (Eq.trans (s_iconst r2_33) (s_iast r2_34 h1 (j_ib_of (z := (j_I H (j_pa x0) 4).toInt) rfl h2 h3))))))
theorem b2_35 {b : Nat} {x0 : Value} {x1 : Value} {H : j_H} {Q : Option Value → j_H → Prop} (h0 : j_vc H x0 = 0) : j_wp b 2 35 [x0, x1] [] H Q = j_wp b 2 45 [x0, x1] [] (j_sI H (j_pa x0) 4 ((j_I H (j_pa x0) 4) + (Int32.ofInt 1))) Q := Eq.trans (s_aload_n r2_35 rfl (j_isr_vc h0 rfl)) (Eq.trans (s_dup r2_36 (j_vc_lt h0 rfl)) (Eq.trans (s_getfi r2_37 (j_al1 h0 rfl) rfl rfl rfl) (Eq.trans (s_iconst r2_40) (Eq.trans (s_iadd r2_41) (s_put r2_42 (j_al1 h0 rfl) rfl j_putI)))))
theorem b2_45 {b : Nat} {x0 : Value} {x1 : Value} {H : j_H} {Q : Option Value → j_H → Prop} (h0 : j_vc H x0 = 0) : j_wp b 2 45 [x0, x1] [] H Q = Q (some (.int ((j_I H (j_pa x0) 4) - (Int32.ofInt 1)))) H := Eq.trans (s_aload_n r2_45 rfl (j_isr_vc h0 rfl)) (Eq.trans (s_getfi r2_46 (j_al1 h0 rfl) rfl rfl rfl) (Eq.trans (s_iconst r2_49) (Eq.trans (s_isub r2_50) (s_ireturn r2_51 (j_rok1 rfl)))))
-- X0_rowAt
theorem r3_0 : j_at 3 0 = some (0, .iload_n 1, 1, []) := by decide +kernel
theorem r3_1 : j_at 3 1 = some (1, .ifCond .lt 12, 3, []) := by decide +kernel
theorem r3_4 : j_at 3 4 = some (4, .iload_n 1, 1, []) := by decide +kernel
theorem r3_5 : j_at 3 5 = some (5, .aload_n 0, 1, []) := by decide +kernel
theorem r3_6 : j_at 3 6 = some (6, .getfield 17, 3, [106, 0, 2, 1, 0, 0]) := by decide +kernel
theorem r3_9 : j_at 3 9 = some (9, .arraylength, 1, []) := by decide +kernel
theorem r3_10 : j_at 3 10 = some (10, .if_icmp .lt 7, 3, []) := by decide +kernel
theorem r3_13 : j_at 3 13 = some (13, .iconst 0, 1, []) := by decide +kernel
theorem r3_14 : j_at 3 14 = some (14, .goto 9, 3, []) := by decide +kernel
theorem r3_17 : j_at 3 17 = some (17, .aload_n 0, 1, []) := by decide +kernel
theorem r3_18 : j_at 3 18 = some (18, .getfield 17, 3, [106, 0, 2, 1, 0, 0]) := by decide +kernel
theorem r3_21 : j_at 3 21 = some (21, .iload_n 1, 1, []) := by decide +kernel
theorem r3_22 : j_at 3 22 = some (22, .iaload, 1, []) := by decide +kernel
theorem r3_23 : j_at 3 23 = some (23, .ireturn, 1, []) := by decide +kernel
theorem b3_0 {b : Nat} {x0 : Value} {x1 : Int32} {H : j_H} {Q : Option Value → j_H → Prop}  : j_wp b 3 0 [x0, .int x1] [] H Q = (if x1.toInt < 0 then j_wp b 3 13 [x0, .int x1] [] H Q else j_wp b 3 4 [x0, .int x1] [] H Q) := Eq.trans (s_iload_n r3_0 rfl) (s_iflt r3_1 rfl rfl)
theorem b3_4 {b : Nat} {x0 : Value} {x1 : Int32} {H : j_H} {Q : Option Value → j_H → Prop} (h0 : j_vc H x0 = 0) (h1 : j_vt H (va_rf (j_R H (j_pa x0) 1)) = 0) : j_wp b 3 4 [x0, .int x1] [] H Q = (if x1.toInt < (Int32.ofInt (j_vl H (va_rf (j_R H (j_pa x0) 1)) : Nat)).toInt then j_wp b 3 17 [x0, .int x1] [] H Q else j_wp b 3 13 [x0, .int x1] [] H Q) := Eq.trans (s_iload_n r3_4 rfl) (Eq.trans (s_aload_n r3_5 rfl (j_isr_vc h0 rfl)) (Eq.trans (s_getfr r3_6 (j_al1 h0 rfl) rfl) (Eq.trans (s_alen r3_9 h1 (by decide)) (s_iclt r3_10 rfl rfl rfl))))
theorem b3_13 {b : Nat} {x0 : Value} {x1 : Int32} {H : j_H} {Q : Option Value → j_H → Prop}  : j_wp b 3 13 [x0, .int x1] [] H Q = j_wp b 3 23 [x0, .int x1] [.int (Int32.ofInt 0)] H Q := Eq.trans (s_iconst r3_13) (s_goto r3_14 rfl)
theorem b3_17 {b : Nat} {x0 : Value} {x1 : Int32} {H : j_H} {Q : Option Value → j_H → Prop} (h0 : j_vc H x0 = 0) (h1 : j_vt H (va_rf (j_R H (j_pa x0) 1)) = 0) (h2 : 0 ≤ x1.toInt) (h3 : x1.toInt < ((j_vl H (va_rf (j_R H (j_pa x0) 1)) : Nat) : Int)) : j_wp b 3 17 [x0, .int x1] [] H Q = j_wp b 3 23 [x0, .int x1] [.int (j_I H (j_pa (va_rf (j_R H (j_pa x0) 1))) (j_ix x1))] H Q := Eq.trans (s_aload_n r3_17 rfl (j_isr_vc h0 rfl)) (Eq.trans (s_getfr r3_18 (j_al1 h0 rfl) rfl) (Eq.trans (s_iload_n r3_21 rfl) (s_iald r3_22 h1 (by decide) (j_ib_of (z := x1.toInt) rfl h2 h3))))
theorem b3_23 {b : Nat} {x0 : Value} {x1 : Int32} {y0 : Int32} {H : j_H} {Q : Option Value → j_H → Prop}  : j_wp b 3 23 [x0, .int x1] [.int y0] H Q = Q (some (.int y0)) H := s_ireturn r3_23 (j_rok1 rfl)
-- X0_setRow
theorem r4_0 : j_at 4 0 = some (0, .iload_n 1, 1, []) := by decide +kernel
theorem r4_1 : j_at 4 1 = some (1, .ifCond .lt 19, 3, []) := by decide +kernel
theorem r4_4 : j_at 4 4 = some (4, .iload_n 1, 1, []) := by decide +kernel
theorem r4_5 : j_at 4 5 = some (5, .aload_n 0, 1, []) := by decide +kernel
theorem r4_6 : j_at 4 6 = some (6, .getfield 17, 3, [106, 0, 2, 1, 0, 0]) := by decide +kernel
theorem r4_9 : j_at 4 9 = some (9, .arraylength, 1, []) := by decide +kernel
theorem r4_10 : j_at 4 10 = some (10, .if_icmp .ge 10, 3, []) := by decide +kernel
theorem r4_13 : j_at 4 13 = some (13, .aload_n 0, 1, []) := by decide +kernel
theorem r4_14 : j_at 4 14 = some (14, .getfield 17, 3, [106, 0, 2, 1, 0, 0]) := by decide +kernel
theorem r4_17 : j_at 4 17 = some (17, .iload_n 1, 1, []) := by decide +kernel
theorem r4_18 : j_at 4 18 = some (18, .iload_n 2, 1, []) := by decide +kernel
theorem r4_19 : j_at 4 19 = some (19, .iastore, 1, []) := by decide +kernel
theorem r4_20 : j_at 4 20 = some (20, .return_, 1, []) := by decide +kernel
theorem b4_0 {b : Nat} {x0 : Value} {x1 : Int32} {x2 : Int32} {H : j_H} {Q : Option Value → j_H → Prop}  : j_wp b 4 0 [x0, .int x1, .int x2] [] H Q = (if x1.toInt < 0 then j_wp b 4 20 [x0, .int x1, .int x2] [] H Q else j_wp b 4 4 [x0, .int x1, .int x2] [] H Q) := Eq.trans (s_iload_n r4_0 rfl) (s_iflt r4_1 rfl rfl)
theorem b4_4 {b : Nat} {x0 : Value} {x1 : Int32} {x2 : Int32} {H : j_H} {Q : Option Value → j_H → Prop} (h0 : j_vc H x0 = 0) (h1 : j_vt H (va_rf (j_R H (j_pa x0) 1)) = 0) : j_wp b 4 4 [x0, .int x1, .int x2] [] H Q = (if (Int32.ofInt (j_vl H (va_rf (j_R H (j_pa x0) 1)) : Nat)).toInt ≤ x1.toInt then j_wp b 4 20 [x0, .int x1, .int x2] [] H Q else j_wp b 4 13 [x0, .int x1, .int x2] [] H Q) := Eq.trans (s_iload_n r4_4 rfl) (Eq.trans (s_aload_n r4_5 rfl (j_isr_vc h0 rfl)) (Eq.trans (s_getfr r4_6 (j_al1 h0 rfl) rfl) (Eq.trans (s_alen r4_9 h1 (by decide)) (s_icge r4_10 rfl rfl rfl))))
theorem b4_13 {b : Nat} {x0 : Value} {x1 : Int32} {x2 : Int32} {H : j_H} {Q : Option Value → j_H → Prop} (h0 : j_vc H x0 = 0) (h1 : j_vt H (va_rf (j_R H (j_pa x0) 1)) = 0) (h2 : 0 ≤ x1.toInt) (h3 : x1.toInt < ((j_vl H (va_rf (j_R H (j_pa x0) 1)) : Nat) : Int)) : j_wp b 4 13 [x0, .int x1, .int x2] [] H Q = j_wp b 4 20 [x0, .int x1, .int x2] [] (j_sI H (j_pa (va_rf (j_R H (j_pa x0) 1))) (j_ix x1) x2) Q := Eq.trans (s_aload_n r4_13 rfl (j_isr_vc h0 rfl)) (Eq.trans (s_getfr r4_14 (j_al1 h0 rfl) rfl) (Eq.trans (s_iload_n r4_17 rfl) (Eq.trans (s_iload_n r4_18 rfl) (s_iast r4_19 h1 (j_ib_of (z := x1.toInt) rfl h2 h3)))))
theorem b4_20 {b : Nat} {x0 : Value} {x1 : Int32} {x2 : Int32} {H : j_H} {Q : Option Value → j_H → Prop}  : j_wp b 4 20 [x0, .int x1, .int x2] [] H Q = Q none H := s_return r4_20 rfl
-- X0_becomes
theorem r5_0 : j_at 5 0 = some (0, .iconst 0, 1, []) := by decide +kernel
theorem r5_1 : j_at 5 1 = some (1, .istore_n 2, 1, []) := by decide +kernel
theorem r5_2 : j_at 5 2 = some (2, .iload_n 2, 1, []) := by decide +kernel
theorem r5_3 : j_at 5 3 = some (3, .aload_n 0, 1, []) := by decide +kernel
theorem r5_4 : j_at 5 4 = some (4, .getfield 11, 3, [105, 0, 2, 0, 0, 0]) := by decide +kernel
theorem r5_7 : j_at 5 7 = some (7, .arraylength, 1, []) := by decide +kernel
theorem r5_8 : j_at 5 8 = some (8, .if_icmp .ge 33, 3, []) := by decide +kernel
theorem r5_11 : j_at 5 11 = some (11, .aload_n 0, 1, []) := by decide +kernel
theorem r5_12 : j_at 5 12 = some (12, .getfield 11, 3, [105, 0, 2, 0, 0, 0]) := by decide +kernel
theorem r5_15 : j_at 5 15 = some (15, .iload_n 2, 1, []) := by decide +kernel
theorem r5_16 : j_at 5 16 = some (16, .aload_n 1, 1, []) := by decide +kernel
theorem r5_17 : j_at 5 17 = some (17, .getfield 11, 3, [105, 0, 2, 0, 0, 0]) := by decide +kernel
theorem r5_20 : j_at 5 20 = some (20, .iload_n 2, 1, []) := by decide +kernel
theorem r5_21 : j_at 5 21 = some (21, .aaload, 1, [4]) := by decide +kernel
theorem r5_22 : j_at 5 22 = some (22, .aastore, 1, [4, 2, 1, 1, 2, 0, 4, 2, 5, 3, 6, 4, 7, 5, 9, 6]) := by decide +kernel
theorem r5_23 : j_at 5 23 = some (23, .aload_n 0, 1, []) := by decide +kernel
theorem r5_24 : j_at 5 24 = some (24, .getfield 17, 3, [106, 0, 2, 1, 0, 0]) := by decide +kernel
theorem r5_27 : j_at 5 27 = some (27, .iload_n 2, 1, []) := by decide +kernel
theorem r5_28 : j_at 5 28 = some (28, .aload_n 1, 1, []) := by decide +kernel
theorem r5_29 : j_at 5 29 = some (29, .getfield 17, 3, [106, 0, 2, 1, 0, 0]) := by decide +kernel
theorem r5_32 : j_at 5 32 = some (32, .iload_n 2, 1, []) := by decide +kernel
theorem r5_33 : j_at 5 33 = some (33, .iaload, 1, []) := by decide +kernel
theorem r5_34 : j_at 5 34 = some (34, .iastore, 1, []) := by decide +kernel
theorem r5_35 : j_at 5 35 = some (35, .iinc 2 1, 3, []) := by decide +kernel
theorem r5_38 : j_at 5 38 = some (38, .goto (-36), 3, []) := by decide +kernel
theorem r5_41 : j_at 5 41 = some (41, .iconst 0, 1, []) := by decide +kernel
theorem r5_42 : j_at 5 42 = some (42, .istore_n 2, 1, []) := by decide +kernel
theorem r5_43 : j_at 5 43 = some (43, .iload_n 2, 1, []) := by decide +kernel
theorem r5_44 : j_at 5 44 = some (44, .bipush 12, 2, []) := by decide +kernel
theorem r5_46 : j_at 5 46 = some (46, .if_icmp .ge 33, 3, []) := by decide +kernel
theorem r5_49 : j_at 5 49 = some (49, .aload_n 0, 1, []) := by decide +kernel
theorem r5_50 : j_at 5 50 = some (50, .getfield 21, 3, [107, 0, 2, 2, 0, 0]) := by decide +kernel
theorem r5_53 : j_at 5 53 = some (53, .iload_n 2, 1, []) := by decide +kernel
theorem r5_54 : j_at 5 54 = some (54, .aload_n 1, 1, []) := by decide +kernel
theorem r5_55 : j_at 5 55 = some (55, .getfield 21, 3, [107, 0, 2, 2, 0, 0]) := by decide +kernel
theorem r5_58 : j_at 5 58 = some (58, .iload_n 2, 1, []) := by decide +kernel
theorem r5_59 : j_at 5 59 = some (59, .iaload, 1, []) := by decide +kernel
theorem r5_60 : j_at 5 60 = some (60, .iastore, 1, []) := by decide +kernel
theorem r5_61 : j_at 5 61 = some (61, .aload_n 0, 1, []) := by decide +kernel
theorem r5_62 : j_at 5 62 = some (62, .getfield 24, 3, [109, 0, 2, 3, 0, 0]) := by decide +kernel
theorem r5_65 : j_at 5 65 = some (65, .iload_n 2, 1, []) := by decide +kernel
theorem r5_66 : j_at 5 66 = some (66, .aload_n 1, 1, []) := by decide +kernel
theorem r5_67 : j_at 5 67 = some (67, .getfield 24, 3, [109, 0, 2, 3, 0, 0]) := by decide +kernel
theorem r5_70 : j_at 5 70 = some (70, .iload_n 2, 1, []) := by decide +kernel
theorem r5_71 : j_at 5 71 = some (71, .iaload, 1, []) := by decide +kernel
theorem r5_72 : j_at 5 72 = some (72, .iastore, 1, []) := by decide +kernel
theorem r5_73 : j_at 5 73 = some (73, .iinc 2 1, 3, []) := by decide +kernel
theorem r5_76 : j_at 5 76 = some (76, .goto (-33), 3, []) := by decide +kernel
theorem r5_79 : j_at 5 79 = some (79, .aload_n 0, 1, []) := by decide +kernel
theorem r5_80 : j_at 5 80 = some (80, .aload_n 1, 1, []) := by decide +kernel
theorem r5_81 : j_at 5 81 = some (81, .getfield 27, 3, [111, 0, 0, 4, 0, 0]) := by decide +kernel
theorem r5_84 : j_at 5 84 = some (84, .putfield 27, 3, [111, 0, 0, 4, 0, 0, 0]) := by decide +kernel
theorem r5_87 : j_at 5 87 = some (87, .aload_n 0, 1, []) := by decide +kernel
theorem r5_88 : j_at 5 88 = some (88, .aload_n 1, 1, []) := by decide +kernel
theorem r5_89 : j_at 5 89 = some (89, .getfield 31, 3, [114, 0, 0, 5, 0, 0]) := by decide +kernel
theorem r5_92 : j_at 5 92 = some (92, .putfield 31, 3, [114, 0, 0, 5, 0, 0, 0]) := by decide +kernel
theorem r5_95 : j_at 5 95 = some (95, .aload_n 0, 1, []) := by decide +kernel
theorem r5_96 : j_at 5 96 = some (96, .aload_n 1, 1, []) := by decide +kernel
theorem r5_97 : j_at 5 97 = some (97, .getfield 34, 3, [116, 0, 0, 6, 0, 0]) := by decide +kernel
theorem r5_100 : j_at 5 100 = some (100, .putfield 34, 3, [116, 0, 0, 6, 0, 0, 0]) := by decide +kernel
theorem r5_103 : j_at 5 103 = some (103, .aload_n 0, 1, []) := by decide +kernel
theorem r5_104 : j_at 5 104 = some (104, .aload_n 1, 1, []) := by decide +kernel
theorem r5_105 : j_at 5 105 = some (105, .getfield 37, 3, [118, 0, 0, 7, 0, 0]) := by decide +kernel
theorem r5_108 : j_at 5 108 = some (108, .putfield 37, 3, [118, 0, 0, 7, 0, 0, 0]) := by decide +kernel
theorem r5_111 : j_at 5 111 = some (111, .aload_n 0, 1, []) := by decide +kernel
theorem r5_112 : j_at 5 112 = some (112, .aload_n 1, 1, []) := by decide +kernel
theorem r5_113 : j_at 5 113 = some (113, .getfield 40, 3, [119, 0, 0, 8, 0, 0]) := by decide +kernel
theorem r5_116 : j_at 5 116 = some (116, .putfield 40, 3, [119, 0, 0, 8, 0, 0, 0]) := by decide +kernel
theorem r5_119 : j_at 5 119 = some (119, .aload_n 0, 1, []) := by decide +kernel
theorem r5_120 : j_at 5 120 = some (120, .aload_n 1, 1, []) := by decide +kernel
theorem r5_121 : j_at 5 121 = some (121, .getfield 43, 3, [121, 0, 0, 9, 0, 0]) := by decide +kernel
theorem r5_124 : j_at 5 124 = some (124, .putfield 43, 3, [121, 0, 0, 9, 0, 0, 0]) := by decide +kernel
theorem r5_127 : j_at 5 127 = some (127, .aload_n 0, 1, []) := by decide +kernel
theorem r5_128 : j_at 5 128 = some (128, .aload_n 1, 1, []) := by decide +kernel
theorem r5_129 : j_at 5 129 = some (129, .getfield 46, 3, [123, 0, 2, 10, 0, 0]) := by decide +kernel
theorem r5_132 : j_at 5 132 = some (132, .putfield 46, 3, [123, 0, 2, 10, 0, 0, 0]) := by decide +kernel
theorem r5_135 : j_at 5 135 = some (135, .return_, 1, []) := by decide +kernel
theorem b5_0 {b : Nat} {x0 : Value} {x1 : Value} {u2 : Value} {H : j_H} {Q : Option Value → j_H → Prop} (h0 : j_isr x1 = true) : j_wp b 5 0 [x0, x1, u2] [] H Q = j_wp b 5 2 [x0, x1, .int (Int32.ofInt 0)] [] H Q := Eq.trans (s_iconst r5_0) (s_istore_n r5_1 (Nat.le_of_ble_eq_true rfl) (j_stc (j_c1r h0) rfl))
theorem b5_2 {b : Nat} {x0 : Value} {x1 : Value} {x2 : Int32} {H : j_H} {Q : Option Value → j_H → Prop} (h0 : j_vc H x0 = 0) (h1 : j_vt H (va_rf (j_R H (j_pa x0) 0)) = 4) : j_wp b 5 2 [x0, x1, .int x2] [] H Q = (if (Int32.ofInt (j_vl H (va_rf (j_R H (j_pa x0) 0)) : Nat)).toInt ≤ x2.toInt then j_wp b 5 41 [x0, x1, .int x2] [] H Q else j_wp b 5 11 [x0, x1, .int x2] [] H Q) := Eq.trans (s_iload_n r5_2 rfl) (Eq.trans (s_aload_n r5_3 rfl (j_isr_vc h0 rfl)) (Eq.trans (s_getfr r5_4 (j_al1 h0 rfl) rfl) (Eq.trans (s_alen r5_7 h1 (by decide)) (s_icge r5_8 rfl rfl rfl))))
theorem b5_11 {b : Nat} {x0 : Value} {x1 : Value} {x2 : Int32} {H : j_H} {Q : Option Value → j_H → Prop} (h0 : j_vc H x0 = 0) (h1 : j_vc H x1 = 0) (h2 : j_vt H (va_rf (j_R H (j_pa x1) 0)) = 4) (h3 : 0 ≤ x2.toInt) (h4 : x2.toInt < ((j_vl H (va_rf (j_R H (j_pa x1) 0)) : Nat) : Int)) (h5 : j_vt H (va_rf (j_R H (j_pa x0) 0)) = 4) (h6 : x2.toInt < ((j_vl H (va_rf (j_R H (j_pa x0) 0)) : Nat) : Int)) (h7 : (va_rf (j_R H (j_pa (va_rf (j_R H (j_pa x1) 0))) (j_ix x2)) : Value) = .null ∨ (j_vc H (va_rf (j_R H (j_pa (va_rf (j_R H (j_pa x1) 0))) (j_ix x2))) < 99 ∧ j_pr (j_vc H (va_rf (j_R H (j_pa (va_rf (j_R H (j_pa x1) 0))) (j_ix x2)))) [1, 1, 2, 0, 4, 2, 5, 3, 6, 4, 7, 5, 9, 6] = true)) : j_wp b 5 11 [x0, x1, .int x2] [] H Q = j_wp b 5 23 [x0, x1, .int x2] [] (j_sR H (j_pa (va_rf (j_R H (j_pa x0) 0))) (j_ix x2) (j_po (va_rf (j_R H (j_pa (va_rf (j_R H (j_pa x1) 0))) (j_ix x2))))) Q := Eq.trans (s_aload_n r5_11 rfl (j_isr_vc h0 rfl)) (Eq.trans (s_getfr r5_12 (j_al1 h0 rfl) rfl) (Eq.trans (s_iload_n r5_15 rfl) (Eq.trans (s_aload_n r5_16 rfl (j_isr_vc h1 rfl)) (Eq.trans (s_getfr r5_17 (j_al1 h1 rfl) rfl) (Eq.trans (s_iload_n r5_20 rfl) (Eq.trans (s_aald r5_21 h2 (by decide) (j_ib_of (z := x2.toInt) rfl h3 h4)) (s_aast r5_22 h5 (by decide) (j_ib_of (z := x2.toInt) rfl h3 h6) h7)))))))
theorem b5_23 {b : Nat} {x0 : Value} {x1 : Value} {x2 : Int32} {H : j_H} {Q : Option Value → j_H → Prop} (h0 : j_vc H x0 = 0) (h1 : j_vc H x1 = 0) (h2 : j_vt H (va_rf (j_R H (j_pa x1) 1)) = 0) (h3 : 0 ≤ x2.toInt) (h4 : x2.toInt < ((j_vl H (va_rf (j_R H (j_pa x1) 1)) : Nat) : Int)) (h5 : j_vt H (va_rf (j_R H (j_pa x0) 1)) = 0) (h6 : x2.toInt < ((j_vl H (va_rf (j_R H (j_pa x0) 1)) : Nat) : Int)) : j_wp b 5 23 [x0, x1, .int x2] [] H Q = j_wp b 5 35 [x0, x1, .int x2] [] (j_sI H (j_pa (va_rf (j_R H (j_pa x0) 1))) (j_ix x2) (j_I H (j_pa (va_rf (j_R H (j_pa x1) 1))) (j_ix x2))) Q := Eq.trans (s_aload_n r5_23 rfl (j_isr_vc h0 rfl)) (Eq.trans (s_getfr r5_24 (j_al1 h0 rfl) rfl) (Eq.trans (s_iload_n r5_27 rfl) (Eq.trans (s_aload_n r5_28 rfl (j_isr_vc h1 rfl)) (Eq.trans (s_getfr r5_29 (j_al1 h1 rfl) rfl) (Eq.trans (s_iload_n r5_32 rfl) (Eq.trans (s_iald r5_33 h2 (by decide) (j_ib_of (z := x2.toInt) rfl h3 h4)) (s_iast r5_34 h5 (j_ib_of (z := x2.toInt) rfl h3 h6))))))))
theorem b5_35 {b : Nat} {x0 : Value} {x1 : Value} {x2 : Int32} {H : j_H} {Q : Option Value → j_H → Prop}  : j_wp b 5 35 [x0, x1, .int x2] [] H Q = j_wp b 5 2 [x0, x1, .int (x2 + Int32.ofInt 1)] [] H Q := Eq.trans (s_iinc r5_35 rfl rfl) (s_goto r5_38 rfl)
theorem b5_41 {b : Nat} {x0 : Value} {x1 : Value} {x2 : Int32} {H : j_H} {Q : Option Value → j_H → Prop} (h0 : j_isr x1 = true) : j_wp b 5 41 [x0, x1, .int x2] [] H Q = j_wp b 5 43 [x0, x1, .int (Int32.ofInt 0)] [] H Q := Eq.trans (s_iconst r5_41) (s_istore_n r5_42 (Nat.le_of_ble_eq_true rfl) (j_stc (j_c1r h0) rfl))
theorem b5_43 {b : Nat} {x0 : Value} {x1 : Value} {x2 : Int32} {H : j_H} {Q : Option Value → j_H → Prop}  : j_wp b 5 43 [x0, x1, .int x2] [] H Q = (if 12 ≤ x2.toInt then j_wp b 5 79 [x0, x1, .int x2] [] H Q else j_wp b 5 49 [x0, x1, .int x2] [] H Q) := Eq.trans (s_iload_n r5_43 rfl) (Eq.trans (s_bipush r5_44) (s_icge r5_46 rfl rfl rfl))
theorem b5_49 {b : Nat} {x0 : Value} {x1 : Value} {x2 : Int32} {H : j_H} {Q : Option Value → j_H → Prop} (h0 : j_vc H x0 = 0) (h1 : j_vc H x1 = 0) (h2 : j_vt H (va_rf (j_R H (j_pa x1) 2)) = 0) (h3 : 0 ≤ x2.toInt) (h4 : x2.toInt < ((j_vl H (va_rf (j_R H (j_pa x1) 2)) : Nat) : Int)) (h5 : j_vt H (va_rf (j_R H (j_pa x0) 2)) = 0) (h6 : x2.toInt < ((j_vl H (va_rf (j_R H (j_pa x0) 2)) : Nat) : Int)) : j_wp b 5 49 [x0, x1, .int x2] [] H Q = j_wp b 5 61 [x0, x1, .int x2] [] (j_sI H (j_pa (va_rf (j_R H (j_pa x0) 2))) (j_ix x2) (j_I H (j_pa (va_rf (j_R H (j_pa x1) 2))) (j_ix x2))) Q := Eq.trans (s_aload_n r5_49 rfl (j_isr_vc h0 rfl)) (Eq.trans (s_getfr r5_50 (j_al1 h0 rfl) rfl) (Eq.trans (s_iload_n r5_53 rfl) (Eq.trans (s_aload_n r5_54 rfl (j_isr_vc h1 rfl)) (Eq.trans (s_getfr r5_55 (j_al1 h1 rfl) rfl) (Eq.trans (s_iload_n r5_58 rfl) (Eq.trans (s_iald r5_59 h2 (by decide) (j_ib_of (z := x2.toInt) rfl h3 h4)) (s_iast r5_60 h5 (j_ib_of (z := x2.toInt) rfl h3 h6))))))))
theorem b5_61 {b : Nat} {x0 : Value} {x1 : Value} {x2 : Int32} {H : j_H} {Q : Option Value → j_H → Prop} (h0 : j_vc H x0 = 0) (h1 : j_vc H x1 = 0) (h2 : j_vt H (va_rf (j_R H (j_pa x1) 3)) = 0) (h3 : 0 ≤ x2.toInt) (h4 : x2.toInt < ((j_vl H (va_rf (j_R H (j_pa x1) 3)) : Nat) : Int)) (h5 : j_vt H (va_rf (j_R H (j_pa x0) 3)) = 0) (h6 : x2.toInt < ((j_vl H (va_rf (j_R H (j_pa x0) 3)) : Nat) : Int)) : j_wp b 5 61 [x0, x1, .int x2] [] H Q = j_wp b 5 73 [x0, x1, .int x2] [] (j_sI H (j_pa (va_rf (j_R H (j_pa x0) 3))) (j_ix x2) (j_I H (j_pa (va_rf (j_R H (j_pa x1) 3))) (j_ix x2))) Q := Eq.trans (s_aload_n r5_61 rfl (j_isr_vc h0 rfl)) (Eq.trans (s_getfr r5_62 (j_al1 h0 rfl) rfl) (Eq.trans (s_iload_n r5_65 rfl) (Eq.trans (s_aload_n r5_66 rfl (j_isr_vc h1 rfl)) (Eq.trans (s_getfr r5_67 (j_al1 h1 rfl) rfl) (Eq.trans (s_iload_n r5_70 rfl) (Eq.trans (s_iald r5_71 h2 (by decide) (j_ib_of (z := x2.toInt) rfl h3 h4)) (s_iast r5_72 h5 (j_ib_of (z := x2.toInt) rfl h3 h6))))))))
theorem b5_73 {b : Nat} {x0 : Value} {x1 : Value} {x2 : Int32} {H : j_H} {Q : Option Value → j_H → Prop}  : j_wp b 5 73 [x0, x1, .int x2] [] H Q = j_wp b 5 43 [x0, x1, .int (x2 + Int32.ofInt 1)] [] H Q := Eq.trans (s_iinc r5_73 rfl rfl) (s_goto r5_76 rfl)
theorem b5_79 {b : Nat} {x0 : Value} {x1 : Value} {x2 : Int32} {H : j_H} {Q : Option Value → j_H → Prop} (h0 : j_vc H x0 = 0) (h1 : j_vc H x1 = 0) : j_wp b 5 79 [x0, x1, .int x2] [] H Q = j_wp b 5 87 [x0, x1, .int x2] [] (j_sI H (j_pa x0) 4 (j_I H (j_pa x1) 4)) Q := Eq.trans (s_aload_n r5_79 rfl (j_isr_vc h0 rfl)) (Eq.trans (s_aload_n r5_80 rfl (j_isr_vc h1 rfl)) (Eq.trans (s_getfi r5_81 (j_al1 h1 rfl) rfl rfl rfl) (s_put r5_84 (j_al1 h0 rfl) rfl j_putI)))
theorem b5_87 {b : Nat} {x0 : Value} {x1 : Value} {x2 : Int32} {H : j_H} {Q : Option Value → j_H → Prop} (h0 : j_vc H x0 = 0) (h1 : j_vc H x1 = 0) : j_wp b 5 87 [x0, x1, .int x2] [] H Q = j_wp b 5 95 [x0, x1, .int x2] [] (j_sI H (j_pa x0) 5 (j_I H (j_pa x1) 5)) Q := Eq.trans (s_aload_n r5_87 rfl (j_isr_vc h0 rfl)) (Eq.trans (s_aload_n r5_88 rfl (j_isr_vc h1 rfl)) (Eq.trans (s_getfi r5_89 (j_al1 h1 rfl) rfl rfl rfl) (s_put r5_92 (j_al1 h0 rfl) rfl j_putI)))
theorem b5_95 {b : Nat} {x0 : Value} {x1 : Value} {x2 : Int32} {H : j_H} {Q : Option Value → j_H → Prop} (h0 : j_vc H x0 = 0) (h1 : j_vc H x1 = 0) : j_wp b 5 95 [x0, x1, .int x2] [] H Q = j_wp b 5 103 [x0, x1, .int x2] [] (j_sI H (j_pa x0) 6 (j_I H (j_pa x1) 6)) Q := Eq.trans (s_aload_n r5_95 rfl (j_isr_vc h0 rfl)) (Eq.trans (s_aload_n r5_96 rfl (j_isr_vc h1 rfl)) (Eq.trans (s_getfi r5_97 (j_al1 h1 rfl) rfl rfl rfl) (s_put r5_100 (j_al1 h0 rfl) rfl j_putI)))
theorem b5_103 {b : Nat} {x0 : Value} {x1 : Value} {x2 : Int32} {H : j_H} {Q : Option Value → j_H → Prop} (h0 : j_vc H x0 = 0) (h1 : j_vc H x1 = 0) : j_wp b 5 103 [x0, x1, .int x2] [] H Q = j_wp b 5 111 [x0, x1, .int x2] [] (j_sI H (j_pa x0) 7 (j_I H (j_pa x1) 7)) Q := Eq.trans (s_aload_n r5_103 rfl (j_isr_vc h0 rfl)) (Eq.trans (s_aload_n r5_104 rfl (j_isr_vc h1 rfl)) (Eq.trans (s_getfi r5_105 (j_al1 h1 rfl) rfl rfl rfl) (s_put r5_108 (j_al1 h0 rfl) rfl j_putI)))
theorem b5_111 {b : Nat} {x0 : Value} {x1 : Value} {x2 : Int32} {H : j_H} {Q : Option Value → j_H → Prop} (h0 : j_vc H x0 = 0) (h1 : j_vc H x1 = 0) : j_wp b 5 111 [x0, x1, .int x2] [] H Q = j_wp b 5 119 [x0, x1, .int x2] [] (j_sI H (j_pa x0) 8 (j_I H (j_pa x1) 8)) Q := Eq.trans (s_aload_n r5_111 rfl (j_isr_vc h0 rfl)) (Eq.trans (s_aload_n r5_112 rfl (j_isr_vc h1 rfl)) (Eq.trans (s_getfi r5_113 (j_al1 h1 rfl) rfl rfl rfl) (s_put r5_116 (j_al1 h0 rfl) rfl j_putI)))
theorem b5_119 {b : Nat} {x0 : Value} {x1 : Value} {x2 : Int32} {H : j_H} {Q : Option Value → j_H → Prop} (h0 : j_vc H x0 = 0) (h1 : j_vc H x1 = 0) : j_wp b 5 119 [x0, x1, .int x2] [] H Q = j_wp b 5 127 [x0, x1, .int x2] [] (j_sI H (j_pa x0) 9 (j_I H (j_pa x1) 9)) Q := Eq.trans (s_aload_n r5_119 rfl (j_isr_vc h0 rfl)) (Eq.trans (s_aload_n r5_120 rfl (j_isr_vc h1 rfl)) (Eq.trans (s_getfi r5_121 (j_al1 h1 rfl) rfl rfl rfl) (s_put r5_124 (j_al1 h0 rfl) rfl j_putI)))
theorem b5_127 {b : Nat} {x0 : Value} {x1 : Value} {x2 : Int32} {H : j_H} {Q : Option Value → j_H → Prop} (h0 : j_vc H x0 = 0) (h1 : j_vc H x1 = 0) : j_wp b 5 127 [x0, x1, .int x2] [] H Q = j_wp b 5 135 [x0, x1, .int x2] [] (j_sR H (j_pa x0) 10 (j_R H (j_pa x1) 10)) Q := Eq.trans (s_aload_n r5_127 rfl (j_isr_vc h0 rfl)) (Eq.trans (s_aload_n r5_128 rfl (j_isr_vc h1 rfl)) (Eq.trans (s_getfr r5_129 (j_al1 h1 rfl) rfl) (s_put r5_132 (j_al1 h0 rfl) rfl j_putF)))
theorem b5_135 {b : Nat} {x0 : Value} {x1 : Value} {x2 : Int32} {H : j_H} {Q : Option Value → j_H → Prop}  : j_wp b 5 135 [x0, x1, .int x2] [] H Q = Q none H := s_return r5_135 rfl
-- X0_far
theorem r6_0 : j_at 6 0 = some (0, .aload_n 0, 1, []) := by decide +kernel
theorem r6_1 : j_at 6 1 = some (1, .getfield 46, 3, [123, 0, 2, 10, 0, 0]) := by decide +kernel
theorem r6_4 : j_at 6 4 = some (4, .ifnonnull 7, 3, []) := by decide +kernel
theorem r6_7 : j_at 6 7 = some (7, .iconst 1, 1, []) := by decide +kernel
theorem r6_8 : j_at 6 8 = some (8, .goto 10, 3, []) := by decide +kernel
theorem r6_11 : j_at 6 11 = some (11, .aload_n 0, 1, []) := by decide +kernel
theorem r6_12 : j_at 6 12 = some (12, .getfield 46, 3, [123, 0, 2, 10, 0, 0]) := by decide +kernel
theorem r6_15 : j_at 6 15 = some (15, .getfield 50, 3, [143, 3, 0, 0, 0, 3]) := by decide +kernel
theorem r6_18 : j_at 6 18 = some (18, .ireturn, 1, []) := by decide +kernel
theorem b6_0 {b : Nat} {x0 : Value} {H : j_H} {Q : Option Value → j_H → Prop} (h0 : j_vc H x0 = 0) (h1 : ¬ (va_rf (j_R H (j_pa x0) 10) : Value) = .ref 11) : j_wp b 6 0 [x0] [] H Q = (if (va_rf (j_R H (j_pa x0) 10) : Value) = .null then j_wp b 6 7 [x0] [] H Q else j_wp b 6 11 [x0] [] H Q) := Eq.trans (s_aload_n r6_0 rfl (j_isr_vc h0 rfl)) (Eq.trans (s_getfr r6_1 (j_al1 h0 rfl) rfl) (s_ifnonnull r6_4 rfl (j_isr_rf _) h1))
theorem b6_7 {b : Nat} {x0 : Value} {H : j_H} {Q : Option Value → j_H → Prop}  : j_wp b 6 7 [x0] [] H Q = j_wp b 6 18 [x0] [.int (Int32.ofInt 1)] H Q := Eq.trans (s_iconst r6_7) (s_goto r6_8 rfl)
theorem b6_11 {b : Nat} {x0 : Value} {H : j_H} {Q : Option Value → j_H → Prop} (h0 : j_vc H x0 = 0) (h1 : j_vc H (va_rf (j_R H (j_pa x0) 10)) = 3) : j_wp b 6 11 [x0] [] H Q = j_wp b 6 18 [x0] [.int (j_I H (j_pa (va_rf (j_R H (j_pa x0) 10))) 0)] H Q := Eq.trans (s_aload_n r6_11 rfl (j_isr_vc h0 rfl)) (Eq.trans (s_getfr r6_12 (j_al1 h0 rfl) rfl) (s_getfi r6_15 (j_al1 h1 rfl) rfl rfl rfl))
theorem b6_18 {b : Nat} {x0 : Value} {y0 : Int32} {H : j_H} {Q : Option Value → j_H → Prop}  : j_wp b 6 18 [x0] [.int y0] H Q = Q (some (.int y0)) H := s_ireturn r6_18 (j_rok1 rfl)
-- X0_seat
theorem r7_0 : j_at 7 0 = some (0, .aload_n 0, 1, []) := by decide +kernel
theorem r7_1 : j_at 7 1 = some (1, .getfield 27, 3, [111, 0, 0, 4, 0, 0]) := by decide +kernel
theorem r7_4 : j_at 7 4 = some (4, .ifCond .le 14, 3, []) := by decide +kernel
theorem r7_7 : j_at 7 7 = some (7, .iload_n 1, 1, []) := by decide +kernel
theorem r7_8 : j_at 7 8 = some (8, .aload_n 0, 1, []) := by decide +kernel
theorem r7_9 : j_at 7 9 = some (9, .getfield 27, 3, [111, 0, 0, 4, 0, 0]) := by decide +kernel
theorem r7_12 : j_at 7 12 = some (12, .invokestatic 55, 3, [0, 2, 202, 379, 380, 86, 0]) := by decide +kernel
theorem r7_15 : j_at 7 15 = some (15, .goto 4, 3, []) := by decide +kernel
theorem r7_18 : j_at 7 18 = some (18, .iconst 0, 1, []) := by decide +kernel
theorem r7_19 : j_at 7 19 = some (19, .ireturn, 1, []) := by decide +kernel
theorem b7_0 {b : Nat} {x0 : Value} {x1 : Int32} {H : j_H} {Q : Option Value → j_H → Prop} (h0 : j_vc H x0 = 0) : j_wp b 7 0 [x0, .int x1] [] H Q = (if (j_I H (j_pa x0) 4).toInt ≤ 0 then j_wp b 7 18 [x0, .int x1] [] H Q else j_wp b 7 7 [x0, .int x1] [] H Q) := Eq.trans (s_aload_n r7_0 rfl (j_isr_vc h0 rfl)) (Eq.trans (s_getfi r7_1 (j_al1 h0 rfl) rfl rfl rfl) (s_ifle r7_4 rfl rfl))
theorem b7_7 {b : Nat} {x0 : Value} {x1 : Int32} {H : j_H} {Q : Option Value → j_H → Prop} (h0 : j_vc H x0 = 0) : j_wp (b + 1) 7 7 [x0, .int x1] [] H Q = j_wp b 202 0 [.int x1, .int (j_I H (j_pa x0) 4), j_u] [] H (j_k (b + 1) 7 15 [x0, .int x1] [] Q) := Eq.trans (s_iload_n r7_7 rfl) (Eq.trans (s_aload_n r7_8 rfl (j_isr_vc h0 rfl)) (Eq.trans (s_getfi r7_9 (j_al1 h0 rfl) rfl rfl rfl) (j_cll (as := [.int x1, .int (j_I H (j_pa x0) 4)]) (es := [.int x1, .int (j_I H (j_pa x0) 4)]) (s_c0 r7_12 (j_dok (s := [.int (j_I H (j_pa x0) 4), .int x1]) (as := [.int x1, .int (j_I H (j_pa x0) 4)]) (rest := []) (es := [.int x1, .int (j_I H (j_pa x0) 4)]) rfl rfl rfl rfl rfl rfl)) rfl rfl)))
theorem b7_15 {b : Nat} {x0 : Value} {x1 : Int32} {y0 : Int32} {H : j_H} {Q : Option Value → j_H → Prop}  : j_wp b 7 15 [x0, .int x1] [.int y0] H Q = j_wp b 7 19 [x0, .int x1] [.int y0] H Q := s_goto r7_15 rfl
theorem b7_18 {b : Nat} {x0 : Value} {x1 : Int32} {H : j_H} {Q : Option Value → j_H → Prop}  : j_wp b 7 18 [x0, .int x1] [] H Q = j_wp b 7 19 [x0, .int x1] [.int (Int32.ofInt 0)] H Q := s_iconst r7_18
theorem b7_19 {b : Nat} {x0 : Value} {x1 : Int32} {y0 : Int32} {H : j_H} {Q : Option Value → j_H → Prop}  : j_wp b 7 19 [x0, .int x1] [.int y0] H Q = Q (some (.int y0)) H := s_ireturn r7_19 (j_rok1 rfl)
-- X0_goes
theorem r8_0 : j_at 8 0 = some (0, .aload_n 0, 1, []) := by decide +kernel
theorem r8_1 : j_at 8 1 = some (1, .iload_n 2, 1, []) := by decide +kernel
theorem r8_2 : j_at 8 2 = some (2, .iconst 1, 1, []) := by decide +kernel
theorem r8_3 : j_at 8 3 = some (3, .if_icmp .ne 12, 3, []) := by decide +kernel
theorem r8_6 : j_at 8 6 = some (6, .iload_n 1, 1, []) := by decide +kernel
theorem r8_7 : j_at 8 7 = some (7, .aload_n 0, 1, []) := by decide +kernel
theorem r8_8 : j_at 8 8 = some (8, .invokevirtual 61, 3, [2, 1, 6, 481, 469, 470, 73, 0, 0]) := by decide +kernel
theorem r8_11 : j_at 8 11 = some (11, .iadd, 1, []) := by decide +kernel
theorem r8_12 : j_at 8 12 = some (12, .goto 9, 3, []) := by decide +kernel
theorem r8_15 : j_at 8 15 = some (15, .iload_n 1, 1, []) := by decide +kernel
theorem r8_16 : j_at 8 16 = some (16, .aload_n 0, 1, []) := by decide +kernel
theorem r8_17 : j_at 8 17 = some (17, .invokevirtual 61, 3, [2, 1, 6, 481, 469, 470, 73, 0, 0]) := by decide +kernel
theorem r8_20 : j_at 8 20 = some (20, .isub, 1, []) := by decide +kernel
theorem r8_21 : j_at 8 21 = some (21, .invokevirtual 64, 3, [2, 2, 7, 377, 378, 1, 73, 0, 0]) := by decide +kernel
theorem r8_24 : j_at 8 24 = some (24, .ireturn, 1, []) := by decide +kernel
theorem b8_0 {b : Nat} {x0 : Value} {x1 : Int32} {x2 : Int32} {H : j_H} {Q : Option Value → j_H → Prop} (h0 : j_isr x0 = true) : j_wp b 8 0 [x0, .int x1, .int x2] [] H Q = (if ¬ x2.toInt = 1 then j_wp b 8 15 [x0, .int x1, .int x2] [x0] H Q else j_wp b 8 6 [x0, .int x1, .int x2] [x0] H Q) := Eq.trans (s_aload_n r8_0 rfl h0) (Eq.trans (s_iload_n r8_1 rfl) (Eq.trans (s_iconst r8_2) (s_icne r8_3 rfl rfl rfl)))
theorem b8_6 {b : Nat} {x0 : Value} {x1 : Int32} {x2 : Int32} {y0 : Value} {H : j_H} {Q : Option Value → j_H → Prop} (h0 : j_vc H x0 = 0) : j_wp (b + 1) 8 6 [x0, .int x1, .int x2] [y0] H Q = j_wp b 6 0 [x0] [] H (j_k (b + 1) 8 11 [x0, .int x1, .int x2] [.int x1, y0] Q) := Eq.trans (s_iload_n r8_6 rfl) (Eq.trans (s_aload_n r8_7 rfl (j_isr_vc h0 rfl)) (j_cll (as := [x0]) (es := [x0]) (s_c2 r8_8 rfl h0 rfl rfl (j_dok (s := [x0, .int x1, y0]) (as := [x0]) (rest := [.int x1, y0]) (es := [x0]) rfl rfl rfl rfl (j_slc (j_c1r (j_isr_vc h0 rfl)) rfl) rfl)) (j_slc (j_c1r (j_isr_vc h0 rfl)) rfl) rfl))
theorem b8_11 {b : Nat} {x0 : Value} {x1 : Int32} {x2 : Int32} {y0 : Int32} {y1 : Int32} {y2 : Value} {H : j_H} {Q : Option Value → j_H → Prop}  : j_wp b 8 11 [x0, .int x1, .int x2] [.int y0, .int y1, y2] H Q = j_wp b 8 21 [x0, .int x1, .int x2] [.int (y1 + y0), y2] H Q := Eq.trans (s_iadd r8_11) (s_goto r8_12 rfl)
theorem b8_15 {b : Nat} {x0 : Value} {x1 : Int32} {x2 : Int32} {y0 : Value} {H : j_H} {Q : Option Value → j_H → Prop} (h0 : j_vc H x0 = 0) : j_wp (b + 1) 8 15 [x0, .int x1, .int x2] [y0] H Q = j_wp b 6 0 [x0] [] H (j_k (b + 1) 8 20 [x0, .int x1, .int x2] [.int x1, y0] Q) := Eq.trans (s_iload_n r8_15 rfl) (Eq.trans (s_aload_n r8_16 rfl (j_isr_vc h0 rfl)) (j_cll (as := [x0]) (es := [x0]) (s_c2 r8_17 rfl h0 rfl rfl (j_dok (s := [x0, .int x1, y0]) (as := [x0]) (rest := [.int x1, y0]) (es := [x0]) rfl rfl rfl rfl (j_slc (j_c1r (j_isr_vc h0 rfl)) rfl) rfl)) (j_slc (j_c1r (j_isr_vc h0 rfl)) rfl) rfl))
theorem b8_20 {b : Nat} {x0 : Value} {x1 : Int32} {x2 : Int32} {y0 : Int32} {y1 : Int32} {y2 : Value} {H : j_H} {Q : Option Value → j_H → Prop}  : j_wp b 8 20 [x0, .int x1, .int x2] [.int y0, .int y1, y2] H Q = j_wp b 8 21 [x0, .int x1, .int x2] [.int (y1 - y0), y2] H Q := s_isub r8_20
theorem b8_21 {b : Nat} {x0 : Value} {x1 : Int32} {x2 : Int32} {y0 : Int32} {y1 : Value} {H : j_H} {Q : Option Value → j_H → Prop} (h0 : j_vc H y1 = 0) : j_wp (b + 1) 8 21 [x0, .int x1, .int x2] [.int y0, y1] H Q = j_wp b 7 0 [y1, .int y0] [] H (j_k (b + 1) 8 24 [x0, .int x1, .int x2] [] Q) := j_cll (as := [y1, .int y0]) (es := [y1, .int y0]) (s_c2 r8_21 rfl h0 rfl rfl (j_dok (s := [.int y0, y1]) (as := [y1, .int y0]) (rest := []) (es := [y1, .int y0]) rfl rfl rfl rfl (j_slc (j_c1r (j_isr_vc h0 rfl)) rfl) rfl)) (j_slc (j_c1r (j_isr_vc h0 rfl)) rfl) rfl
theorem b8_24 {b : Nat} {x0 : Value} {x1 : Int32} {x2 : Int32} {y0 : Int32} {H : j_H} {Q : Option Value → j_H → Prop}  : j_wp b 8 24 [x0, .int x1, .int x2] [.int y0] H Q = Q (some (.int y0)) H := s_ireturn r8_24 (j_rok1 rfl)
-- X0_kindAt
theorem r9_0 : j_at 9 0 = some (0, .aload_n 0, 1, []) := by decide +kernel
theorem r9_1 : j_at 9 1 = some (1, .aload_n 0, 1, []) := by decide +kernel
theorem r9_2 : j_at 9 2 = some (2, .iload_n 1, 1, []) := by decide +kernel
theorem r9_3 : j_at 9 3 = some (3, .invokevirtual 64, 3, [2, 2, 7, 377, 378, 1, 73, 0, 0]) := by decide +kernel
theorem r9_6 : j_at 9 6 = some (6, .invokevirtual 68, 3, [2, 2, 1, 381, 344, 345, 73, 0, 0]) := by decide +kernel
theorem r9_9 : j_at 9 9 = some (9, .astore_n 2, 1, []) := by decide +kernel
theorem r9_10 : j_at 9 10 = some (10, .aload_n 2, 1, []) := by decide +kernel
theorem r9_11 : j_at 9 11 = some (11, .ifnonnull 7, 3, []) := by decide +kernel
theorem r9_14 : j_at 9 14 = some (14, .iconst (-1), 1, []) := by decide +kernel
theorem r9_15 : j_at 9 15 = some (15, .goto 7, 3, []) := by decide +kernel
theorem r9_18 : j_at 9 18 = some (18, .aload_n 2, 1, []) := by decide +kernel
theorem r9_19 : j_at 9 19 = some (19, .getfield 72, 3, [243, 2, 0, 0, 0, 1, 2, 4, 5, 6, 7, 9]) := by decide +kernel
theorem r9_22 : j_at 9 22 = some (22, .ireturn, 1, []) := by decide +kernel
theorem b9_0 {b : Nat} {x0 : Value} {x1 : Int32} {u2 : Value} {H : j_H} {Q : Option Value → j_H → Prop} (h0 : j_vc H x0 = 0) : j_wp (b + 1) 9 0 [x0, .int x1, u2] [] H Q = j_wp b 7 0 [x0, .int x1] [] H (j_k (b + 1) 9 6 [x0, .int x1, u2] [x0] Q) := Eq.trans (s_aload_n r9_0 rfl (j_isr_vc h0 rfl)) (Eq.trans (s_aload_n r9_1 rfl (j_isr_vc h0 rfl)) (Eq.trans (s_iload_n r9_2 rfl) (j_cll (as := [x0, .int x1]) (es := [x0, .int x1]) (s_c2 r9_3 rfl h0 rfl rfl (j_dok (s := [.int x1, x0, x0]) (as := [x0, .int x1]) (rest := [x0]) (es := [x0, .int x1]) rfl rfl rfl rfl (j_slc (j_c1r (j_isr_vc h0 rfl)) rfl) rfl)) (j_slc (j_c1r (j_isr_vc h0 rfl)) rfl) rfl)))
theorem b9_6 {b : Nat} {x0 : Value} {x1 : Int32} {u2 : Value} {y0 : Int32} {y1 : Value} {H : j_H} {Q : Option Value → j_H → Prop} (h0 : j_vc H y1 = 0) : j_wp (b + 1) 9 6 [x0, .int x1, u2] [.int y0, y1] H Q = j_wp b 1 0 [y1, .int y0] [] H (j_k (b + 1) 9 9 [x0, .int x1, u2] [] Q) := j_cll (as := [y1, .int y0]) (es := [y1, .int y0]) (s_c2 r9_6 rfl h0 rfl rfl (j_dok (s := [.int y0, y1]) (as := [y1, .int y0]) (rest := []) (es := [y1, .int y0]) rfl rfl rfl rfl (j_slc (j_c1r (j_isr_vc h0 rfl)) rfl) rfl)) (j_slc (j_c1r (j_isr_vc h0 rfl)) rfl) rfl
theorem b9_9 {b : Nat} {x0 : Value} {x1 : Int32} {u2 : Value} {y0 : Value} {H : j_H} {Q : Option Value → j_H → Prop} (h0 : j_isr y0 = true) (h1 : ¬ (y0 : Value) = .ref 11) : j_wp b 9 9 [x0, .int x1, u2] [y0] H Q = (if (y0 : Value) = .null then j_wp b 9 14 [x0, .int x1, y0] [] H Q else j_wp b 9 18 [x0, .int x1, y0] [] H Q) := Eq.trans (s_astore_n r9_9 (Nat.le_of_ble_eq_true rfl) h0 h1 rfl) (Eq.trans (s_aload_n r9_10 rfl h0) (s_ifnonnull r9_11 rfl h0 h1))
theorem b9_14 {b : Nat} {x0 : Value} {x1 : Int32} {x2 : Value} {H : j_H} {Q : Option Value → j_H → Prop}  : j_wp b 9 14 [x0, .int x1, x2] [] H Q = j_wp b 9 22 [x0, .int x1, x2] [.int (Int32.ofInt (-1))] H Q := Eq.trans (s_iconst r9_14) (s_goto r9_15 rfl)
theorem b9_18 {b : Nat} {x0 : Value} {x1 : Int32} {x2 : Value} {H : j_H} {Q : Option Value → j_H → Prop} (h0 : [1, 2, 4, 5, 6, 7, 9].contains (j_vc H x2) = true) : j_wp b 9 18 [x0, .int x1, x2] [] H Q = j_wp b 9 22 [x0, .int x1, x2] [.int (j_I H (j_pa x2) 0)] H Q := Eq.trans (s_aload_n r9_18 rfl (j_isr_al h0 rfl)) (s_getfi r9_19 h0 rfl rfl rfl)
theorem b9_22 {b : Nat} {x0 : Value} {x1 : Int32} {x2 : Value} {y0 : Int32} {H : j_H} {Q : Option Value → j_H → Prop}  : j_wp b 9 22 [x0, .int x1, x2] [.int y0] H Q = Q (some (.int y0)) H := s_ireturn r9_22 (j_rok1 rfl)
-- X0_says
theorem r10_0 : j_at 10 0 = some (0, .aload_n 0, 1, []) := by decide +kernel
theorem r10_1 : j_at 10 1 = some (1, .iload_n 1, 1, []) := by decide +kernel
theorem r10_2 : j_at 10 2 = some (2, .invokevirtual 68, 3, [2, 2, 1, 381, 344, 345, 73, 0, 0]) := by decide +kernel
theorem r10_5 : j_at 10 5 = some (5, .astore 4, 2, []) := by decide +kernel
theorem r10_7 : j_at 10 7 = some (7, .aload 4, 2, []) := by decide +kernel
theorem r10_9 : j_at 10 9 = some (9, .ifnonnull 7, 3, []) := by decide +kernel
theorem r10_12 : j_at 10 12 = some (12, .iconst 0, 1, []) := by decide +kernel
theorem r10_13 : j_at 10 13 = some (13, .goto 11, 3, []) := by decide +kernel
theorem r10_16 : j_at 10 16 = some (16, .aload 4, 2, []) := by decide +kernel
theorem r10_18 : j_at 10 18 = some (18, .aload_n 0, 1, []) := by decide +kernel
theorem r10_19 : j_at 10 19 = some (19, .iload_n 2, 1, []) := by decide +kernel
theorem r10_20 : j_at 10 20 = some (20, .iload_n 3, 1, []) := by decide +kernel
theorem r10_21 : j_at 10 21 = some (21, .invokevirtual 75, 3, [3, 4, 17, 17, 477, 364, 362, 0, 1, 14, 365, 366, 84, 0, 2, 17, 363, 362, 78, 0, 4, 37, 370, 371, 79, 0, 5, 40, 372, 373, 82, 0, 6, 43, 382, 368, 81, 0, 7, 46, 383, 384, 83, 0, 9, 58, 387, 388, 85, 0]) := by decide +kernel
theorem r10_24 : j_at 10 24 = some (24, .ireturn, 1, []) := by decide +kernel
theorem b10_0 {b : Nat} {x0 : Value} {x1 : Int32} {x2 : Int32} {x3 : Int32} {u4 : Value} {H : j_H} {Q : Option Value → j_H → Prop} (h0 : j_vc H x0 = 0) : j_wp (b + 1) 10 0 [x0, .int x1, .int x2, .int x3, u4] [] H Q = j_wp b 1 0 [x0, .int x1] [] H (j_k (b + 1) 10 5 [x0, .int x1, .int x2, .int x3, u4] [] Q) := Eq.trans (s_aload_n r10_0 rfl (j_isr_vc h0 rfl)) (Eq.trans (s_iload_n r10_1 rfl) (j_cll (as := [x0, .int x1]) (es := [x0, .int x1]) (s_c2 r10_2 rfl h0 rfl rfl (j_dok (s := [.int x1, x0]) (as := [x0, .int x1]) (rest := []) (es := [x0, .int x1]) rfl rfl rfl rfl (j_slc (j_c1r (j_isr_vc h0 rfl)) rfl) rfl)) (j_slc (j_c1r (j_isr_vc h0 rfl)) rfl) rfl))
theorem b10_5 {b : Nat} {x0 : Value} {x1 : Int32} {x2 : Int32} {x3 : Int32} {u4 : Value} {y0 : Value} {H : j_H} {Q : Option Value → j_H → Prop} (h0 : j_isr y0 = true) (h1 : ¬ (y0 : Value) = .ref 11) : j_wp b 10 5 [x0, .int x1, .int x2, .int x3, u4] [y0] H Q = (if (y0 : Value) = .null then j_wp b 10 12 [x0, .int x1, .int x2, .int x3, y0] [] H Q else j_wp b 10 16 [x0, .int x1, .int x2, .int x3, y0] [] H Q) := Eq.trans (s_astore r10_5 (Nat.le_of_ble_eq_true rfl) h0 h1 rfl) (Eq.trans (s_aload r10_7 rfl h0) (s_ifnonnull r10_9 rfl h0 h1))
theorem b10_12 {b : Nat} {x0 : Value} {x1 : Int32} {x2 : Int32} {x3 : Int32} {x4 : Value} {H : j_H} {Q : Option Value → j_H → Prop}  : j_wp b 10 12 [x0, .int x1, .int x2, .int x3, x4] [] H Q = j_wp b 10 24 [x0, .int x1, .int x2, .int x3, x4] [.int (Int32.ofInt 0)] H Q := Eq.trans (s_iconst r10_12) (s_goto r10_13 rfl)
theorem b10_16_1 {b : Nat} {x0 : Value} {x1 : Int32} {x2 : Int32} {x3 : Int32} {x4 : Value} {H : j_H} {Q : Option Value → j_H → Prop} (h0 : j_vc H x4 = 1) (h1 : j_isr x0 = true) : j_wp (b + 1) 10 16 [x0, .int x1, .int x2, .int x3, x4] [] H Q = j_wp b 14 0 [x4, x0, .int x2, .int x3, j_u] [] H (j_k (b + 1) 10 24 [x0, .int x1, .int x2, .int x3, x4] [] Q) := Eq.trans (s_aload r10_16 rfl (j_isr_vc h0 rfl)) (Eq.trans (s_aload_n r10_18 rfl h1) (Eq.trans (s_iload_n r10_19 rfl) (Eq.trans (s_iload_n r10_20 rfl) (j_cll (as := [x4, x0, .int x2, .int x3]) (es := [x4, x0, .int x2, .int x3]) (s_c3 r10_21 rfl h0 rfl rfl rfl (j_dok (s := [.int x3, .int x2, x0, x4]) (as := [x4, x0, .int x2, .int x3]) (rest := []) (es := [x4, x0, .int x2, .int x3]) rfl rfl rfl rfl (j_slc (j_c1r (j_isr_vc h0 rfl)) (j_slc (j_c1r h1) rfl)) rfl)) (j_slc (j_c1r (j_isr_vc h0 rfl)) (j_slc (j_c1r h1) rfl)) rfl))))
theorem b10_16_2 {b : Nat} {x0 : Value} {x1 : Int32} {x2 : Int32} {x3 : Int32} {x4 : Value} {H : j_H} {Q : Option Value → j_H → Prop} (h0 : j_vc H x4 = 2) (h1 : j_isr x0 = true) : j_wp (b + 1) 10 16 [x0, .int x1, .int x2, .int x3, x4] [] H Q = j_wp b 17 0 [x4, x0, .int x2, .int x3] [] H (j_k (b + 1) 10 24 [x0, .int x1, .int x2, .int x3, x4] [] Q) := Eq.trans (s_aload r10_16 rfl (j_isr_vc h0 rfl)) (Eq.trans (s_aload_n r10_18 rfl h1) (Eq.trans (s_iload_n r10_19 rfl) (Eq.trans (s_iload_n r10_20 rfl) (j_cll (as := [x4, x0, .int x2, .int x3]) (es := [x4, x0, .int x2, .int x3]) (s_c3 r10_21 rfl h0 rfl rfl rfl (j_dok (s := [.int x3, .int x2, x0, x4]) (as := [x4, x0, .int x2, .int x3]) (rest := []) (es := [x4, x0, .int x2, .int x3]) rfl rfl rfl rfl (j_slc (j_c1r (j_isr_vc h0 rfl)) (j_slc (j_c1r h1) rfl)) rfl)) (j_slc (j_c1r (j_isr_vc h0 rfl)) (j_slc (j_c1r h1) rfl)) rfl))))
theorem b10_16_4 {b : Nat} {x0 : Value} {x1 : Int32} {x2 : Int32} {x3 : Int32} {x4 : Value} {H : j_H} {Q : Option Value → j_H → Prop} (h0 : j_vc H x4 = 4) (h1 : j_isr x0 = true) : j_wp (b + 1) 10 16 [x0, .int x1, .int x2, .int x3, x4] [] H Q = j_wp b 37 0 [x4, x0, .int x2, .int x3] [] H (j_k (b + 1) 10 24 [x0, .int x1, .int x2, .int x3, x4] [] Q) := Eq.trans (s_aload r10_16 rfl (j_isr_vc h0 rfl)) (Eq.trans (s_aload_n r10_18 rfl h1) (Eq.trans (s_iload_n r10_19 rfl) (Eq.trans (s_iload_n r10_20 rfl) (j_cll (as := [x4, x0, .int x2, .int x3]) (es := [x4, x0, .int x2, .int x3]) (s_c3 r10_21 rfl h0 rfl rfl rfl (j_dok (s := [.int x3, .int x2, x0, x4]) (as := [x4, x0, .int x2, .int x3]) (rest := []) (es := [x4, x0, .int x2, .int x3]) rfl rfl rfl rfl (j_slc (j_c1r (j_isr_vc h0 rfl)) (j_slc (j_c1r h1) rfl)) rfl)) (j_slc (j_c1r (j_isr_vc h0 rfl)) (j_slc (j_c1r h1) rfl)) rfl))))
theorem b10_16_5 {b : Nat} {x0 : Value} {x1 : Int32} {x2 : Int32} {x3 : Int32} {x4 : Value} {H : j_H} {Q : Option Value → j_H → Prop} (h0 : j_vc H x4 = 5) (h1 : j_isr x0 = true) : j_wp (b + 1) 10 16 [x0, .int x1, .int x2, .int x3, x4] [] H Q = j_wp b 40 0 [x4, x0, .int x2, .int x3, j_u] [] H (j_k (b + 1) 10 24 [x0, .int x1, .int x2, .int x3, x4] [] Q) := Eq.trans (s_aload r10_16 rfl (j_isr_vc h0 rfl)) (Eq.trans (s_aload_n r10_18 rfl h1) (Eq.trans (s_iload_n r10_19 rfl) (Eq.trans (s_iload_n r10_20 rfl) (j_cll (as := [x4, x0, .int x2, .int x3]) (es := [x4, x0, .int x2, .int x3]) (s_c3 r10_21 rfl h0 rfl rfl rfl (j_dok (s := [.int x3, .int x2, x0, x4]) (as := [x4, x0, .int x2, .int x3]) (rest := []) (es := [x4, x0, .int x2, .int x3]) rfl rfl rfl rfl (j_slc (j_c1r (j_isr_vc h0 rfl)) (j_slc (j_c1r h1) rfl)) rfl)) (j_slc (j_c1r (j_isr_vc h0 rfl)) (j_slc (j_c1r h1) rfl)) rfl))))
theorem b10_16_6 {b : Nat} {x0 : Value} {x1 : Int32} {x2 : Int32} {x3 : Int32} {x4 : Value} {H : j_H} {Q : Option Value → j_H → Prop} (h0 : j_vc H x4 = 6) (h1 : j_isr x0 = true) : j_wp (b + 1) 10 16 [x0, .int x1, .int x2, .int x3, x4] [] H Q = j_wp b 43 0 [x4, x0, .int x2, .int x3] [] H (j_k (b + 1) 10 24 [x0, .int x1, .int x2, .int x3, x4] [] Q) := Eq.trans (s_aload r10_16 rfl (j_isr_vc h0 rfl)) (Eq.trans (s_aload_n r10_18 rfl h1) (Eq.trans (s_iload_n r10_19 rfl) (Eq.trans (s_iload_n r10_20 rfl) (j_cll (as := [x4, x0, .int x2, .int x3]) (es := [x4, x0, .int x2, .int x3]) (s_c3 r10_21 rfl h0 rfl rfl rfl (j_dok (s := [.int x3, .int x2, x0, x4]) (as := [x4, x0, .int x2, .int x3]) (rest := []) (es := [x4, x0, .int x2, .int x3]) rfl rfl rfl rfl (j_slc (j_c1r (j_isr_vc h0 rfl)) (j_slc (j_c1r h1) rfl)) rfl)) (j_slc (j_c1r (j_isr_vc h0 rfl)) (j_slc (j_c1r h1) rfl)) rfl))))
theorem b10_16_7 {b : Nat} {x0 : Value} {x1 : Int32} {x2 : Int32} {x3 : Int32} {x4 : Value} {H : j_H} {Q : Option Value → j_H → Prop} (h0 : j_vc H x4 = 7) (h1 : j_isr x0 = true) : j_wp (b + 1) 10 16 [x0, .int x1, .int x2, .int x3, x4] [] H Q = j_wp b 46 0 [x4, x0, .int x2, .int x3] [] H (j_k (b + 1) 10 24 [x0, .int x1, .int x2, .int x3, x4] [] Q) := Eq.trans (s_aload r10_16 rfl (j_isr_vc h0 rfl)) (Eq.trans (s_aload_n r10_18 rfl h1) (Eq.trans (s_iload_n r10_19 rfl) (Eq.trans (s_iload_n r10_20 rfl) (j_cll (as := [x4, x0, .int x2, .int x3]) (es := [x4, x0, .int x2, .int x3]) (s_c3 r10_21 rfl h0 rfl rfl rfl (j_dok (s := [.int x3, .int x2, x0, x4]) (as := [x4, x0, .int x2, .int x3]) (rest := []) (es := [x4, x0, .int x2, .int x3]) rfl rfl rfl rfl (j_slc (j_c1r (j_isr_vc h0 rfl)) (j_slc (j_c1r h1) rfl)) rfl)) (j_slc (j_c1r (j_isr_vc h0 rfl)) (j_slc (j_c1r h1) rfl)) rfl))))
theorem b10_16_9 {b : Nat} {x0 : Value} {x1 : Int32} {x2 : Int32} {x3 : Int32} {x4 : Value} {H : j_H} {Q : Option Value → j_H → Prop} (h0 : j_vc H x4 = 9) (h1 : j_isr x0 = true) : j_wp (b + 1) 10 16 [x0, .int x1, .int x2, .int x3, x4] [] H Q = j_wp b 58 0 [x4, x0, .int x2, .int x3] [] H (j_k (b + 1) 10 24 [x0, .int x1, .int x2, .int x3, x4] [] Q) := Eq.trans (s_aload r10_16 rfl (j_isr_vc h0 rfl)) (Eq.trans (s_aload_n r10_18 rfl h1) (Eq.trans (s_iload_n r10_19 rfl) (Eq.trans (s_iload_n r10_20 rfl) (j_cll (as := [x4, x0, .int x2, .int x3]) (es := [x4, x0, .int x2, .int x3]) (s_c3 r10_21 rfl h0 rfl rfl rfl (j_dok (s := [.int x3, .int x2, x0, x4]) (as := [x4, x0, .int x2, .int x3]) (rest := []) (es := [x4, x0, .int x2, .int x3]) rfl rfl rfl rfl (j_slc (j_c1r (j_isr_vc h0 rfl)) (j_slc (j_c1r h1) rfl)) rfl)) (j_slc (j_c1r (j_isr_vc h0 rfl)) (j_slc (j_c1r h1) rfl)) rfl))))
theorem b10_24 {b : Nat} {x0 : Value} {x1 : Int32} {x2 : Int32} {x3 : Int32} {x4 : Value} {y0 : Int32} {H : j_H} {Q : Option Value → j_H → Prop}  : j_wp b 10 24 [x0, .int x1, .int x2, .int x3, x4] [.int y0] H Q = Q (some (.int y0)) H := s_ireturn r10_24 (j_rok1 rfl)
-- X0_lies
theorem r11_0 : j_at 11 0 = some (0, .aload_n 0, 1, []) := by decide +kernel
theorem r11_1 : j_at 11 1 = some (1, .getfield 46, 3, [123, 0, 2, 10, 0, 0]) := by decide +kernel
theorem r11_4 : j_at 11 4 = some (4, .ifnonnull 7, 3, []) := by decide +kernel
theorem r11_7 : j_at 11 7 = some (7, .iconst 0, 1, []) := by decide +kernel
theorem r11_8 : j_at 11 8 = some (8, .goto 20, 3, []) := by decide +kernel
theorem r11_11 : j_at 11 11 = some (11, .aload_n 0, 1, []) := by decide +kernel
theorem r11_12 : j_at 11 12 = some (12, .getfield 46, 3, [123, 0, 2, 10, 0, 0]) := by decide +kernel
theorem r11_15 : j_at 11 15 = some (15, .iconst 0, 1, []) := by decide +kernel
theorem r11_16 : j_at 11 16 = some (16, .aload_n 1, 1, []) := by decide +kernel
theorem r11_17 : j_at 11 17 = some (17, .iload_n 2, 1, []) := by decide +kernel
theorem r11_18 : j_at 11 18 = some (18, .aload_n 0, 1, []) := by decide +kernel
theorem r11_19 : j_at 11 19 = some (19, .getfield 31, 3, [114, 0, 0, 5, 0, 0]) := by decide +kernel
theorem r11_22 : j_at 11 22 = some (22, .invokestatic 79, 3, [0, 1, 201, 349, 234, 80, 0]) := by decide +kernel
theorem r11_25 : j_at 11 25 = some (25, .invokevirtual 84, 3, [2, 5, 23, 350, 351, 352, 74, 0, 3]) := by decide +kernel
theorem r11_28 : j_at 11 28 = some (28, .istore_n 3, 1, []) := by decide +kernel
theorem r11_29 : j_at 11 29 = some (29, .iconst 5, 1, []) := by decide +kernel
theorem r11_30 : j_at 11 30 = some (30, .iload_n 3, 1, []) := by decide +kernel
theorem r11_31 : j_at 11 31 = some (31, .iadd, 1, []) := by decide +kernel
theorem r11_32 : j_at 11 32 = some (32, .bipush 10, 2, []) := by decide +kernel
theorem r11_34 : j_at 11 34 = some (34, .invokestatic 88, 3, [0, 2, 203, 356, 357, 86, 0]) := by decide +kernel
theorem r11_37 : j_at 11 37 = some (37, .ireturn, 1, []) := by decide +kernel
theorem b11_0 {b : Nat} {x0 : Value} {x1 : Value} {x2 : Int32} {u3 : Value} {H : j_H} {Q : Option Value → j_H → Prop} (h0 : j_vc H x0 = 0) (h1 : ¬ (va_rf (j_R H (j_pa x0) 10) : Value) = .ref 11) : j_wp b 11 0 [x0, x1, .int x2, u3] [] H Q = (if (va_rf (j_R H (j_pa x0) 10) : Value) = .null then j_wp b 11 7 [x0, x1, .int x2, u3] [] H Q else j_wp b 11 11 [x0, x1, .int x2, u3] [] H Q) := Eq.trans (s_aload_n r11_0 rfl (j_isr_vc h0 rfl)) (Eq.trans (s_getfr r11_1 (j_al1 h0 rfl) rfl) (s_ifnonnull r11_4 rfl (j_isr_rf _) h1))
theorem b11_7 {b : Nat} {x0 : Value} {x1 : Value} {x2 : Int32} {u3 : Value} {H : j_H} {Q : Option Value → j_H → Prop}  : j_wp b 11 7 [x0, x1, .int x2, u3] [] H Q = j_wp b 11 28 [x0, x1, .int x2, u3] [.int (Int32.ofInt 0)] H Q := Eq.trans (s_iconst r11_7) (s_goto r11_8 rfl)
theorem b11_11 {b : Nat} {x0 : Value} {x1 : Value} {x2 : Int32} {u3 : Value} {H : j_H} {Q : Option Value → j_H → Prop} (h0 : j_vc H x0 = 0) (h1 : j_isr x1 = true) : j_wp (b + 1) 11 11 [x0, x1, .int x2, u3] [] H Q = j_wp b 201 0 [.int (j_I H (j_pa x0) 5)] [] H (j_k (b + 1) 11 25 [x0, x1, .int x2, u3] [.int x2, x1, .int (Int32.ofInt 0), va_rf (j_R H (j_pa x0) 10)] Q) := Eq.trans (s_aload_n r11_11 rfl (j_isr_vc h0 rfl)) (Eq.trans (s_getfr r11_12 (j_al1 h0 rfl) rfl) (Eq.trans (s_iconst r11_15) (Eq.trans (s_aload_n r11_16 rfl h1) (Eq.trans (s_iload_n r11_17 rfl) (Eq.trans (s_aload_n r11_18 rfl (j_isr_vc h0 rfl)) (Eq.trans (s_getfi r11_19 (j_al1 h0 rfl) rfl rfl rfl) (j_cll (as := [.int (j_I H (j_pa x0) 5)]) (es := [.int (j_I H (j_pa x0) 5)]) (s_c0 r11_22 (j_dok (s := [.int (j_I H (j_pa x0) 5), .int x2, x1, .int (Int32.ofInt 0), va_rf (j_R H (j_pa x0) 10)]) (as := [.int (j_I H (j_pa x0) 5)]) (rest := [.int x2, x1, .int (Int32.ofInt 0), va_rf (j_R H (j_pa x0) 10)]) (es := [.int (j_I H (j_pa x0) 5)]) rfl rfl rfl rfl rfl rfl)) rfl rfl)))))))
theorem b11_25 {b : Nat} {x0 : Value} {x1 : Value} {x2 : Int32} {u3 : Value} {y0 : Int32} {y1 : Int32} {y2 : Value} {y3 : Int32} {y4 : Value} {H : j_H} {Q : Option Value → j_H → Prop} (h0 : j_vc H y4 = 3) (h1 : j_isr y2 = true) : j_wp (b + 1) 11 25 [x0, x1, .int x2, u3] [.int y0, .int y1, y2, .int y3, y4] H Q = j_wp b 23 0 [y4, .int y3, y2, .int y1, .int y0, j_u, j_u, j_u] [] H (j_k (b + 1) 11 28 [x0, x1, .int x2, u3] [] Q) := j_cll (as := [y4, .int y3, y2, .int y1, .int y0]) (es := [y4, .int y3, y2, .int y1, .int y0]) (s_c2 r11_25 rfl h0 rfl rfl (j_dok (s := [.int y0, .int y1, y2, .int y3, y4]) (as := [y4, .int y3, y2, .int y1, .int y0]) (rest := []) (es := [y4, .int y3, y2, .int y1, .int y0]) rfl rfl rfl rfl (j_slc (j_c1r (j_isr_vc h0 rfl)) (j_slc rfl (j_slc (j_c1r h1) rfl))) rfl)) (j_slc (j_c1r (j_isr_vc h0 rfl)) (j_slc rfl (j_slc (j_c1r h1) rfl))) rfl
theorem b11_28 {b : Nat} {x0 : Value} {x1 : Value} {x2 : Int32} {u3 : Value} {y0 : Int32} {H : j_H} {Q : Option Value → j_H → Prop}  : j_wp (b + 1) 11 28 [x0, x1, .int x2, u3] [.int y0] H Q = j_wp b 203 0 [.int ((Int32.ofInt 5) + y0), .int (Int32.ofInt 10)] [] H (j_k (b + 1) 11 37 [x0, x1, .int x2, .int y0] [] Q) := Eq.trans (s_istore_n r11_28 (Nat.le_of_ble_eq_true rfl) rfl) (Eq.trans (s_iconst r11_29) (Eq.trans (s_iload_n r11_30 rfl) (Eq.trans (s_iadd r11_31) (Eq.trans (s_bipush r11_32) (j_cll (as := [.int ((Int32.ofInt 5) + y0), .int (Int32.ofInt 10)]) (es := [.int ((Int32.ofInt 5) + y0), .int (Int32.ofInt 10)]) (s_c0 r11_34 (j_dok (s := [.int (Int32.ofInt 10), .int ((Int32.ofInt 5) + y0)]) (as := [.int ((Int32.ofInt 5) + y0), .int (Int32.ofInt 10)]) (rest := []) (es := [.int ((Int32.ofInt 5) + y0), .int (Int32.ofInt 10)]) rfl rfl rfl rfl rfl rfl)) rfl rfl)))))
theorem b11_37 {b : Nat} {x0 : Value} {x1 : Value} {x2 : Int32} {x3 : Int32} {y0 : Int32} {H : j_H} {Q : Option Value → j_H → Prop}  : j_wp b 11 37 [x0, x1, .int x2, .int x3] [.int y0] H Q = Q (some (.int y0)) H := s_ireturn r11_37 (j_rok1 rfl)
-- X0_worth
theorem r12_0 : j_at 12 0 = some (0, .aload_n 0, 1, []) := by decide +kernel
theorem r12_1 : j_at 12 1 = some (1, .getfield 46, 3, [123, 0, 2, 10, 0, 0]) := by decide +kernel
theorem r12_4 : j_at 12 4 = some (4, .ifnull 13, 3, []) := by decide +kernel
theorem r12_7 : j_at 12 7 = some (7, .aload_n 0, 1, []) := by decide +kernel
theorem r12_8 : j_at 12 8 = some (8, .getfield 46, 3, [123, 0, 2, 10, 0, 0]) := by decide +kernel
theorem r12_11 : j_at 12 11 = some (11, .getfield 91, 3, [145, 3, 0, 1, 0, 3]) := by decide +kernel
theorem r12_14 : j_at 12 14 = some (14, .ifCond .ne 5, 3, []) := by decide +kernel
theorem r12_17 : j_at 12 17 = some (17, .iconst 1, 1, []) := by decide +kernel
theorem r12_18 : j_at 12 18 = some (18, .ireturn, 1, []) := by decide +kernel
theorem r12_19 : j_at 12 19 = some (19, .aload_n 0, 1, []) := by decide +kernel
theorem r12_20 : j_at 12 20 = some (20, .getfield 46, 3, [123, 0, 2, 10, 0, 0]) := by decide +kernel
theorem r12_23 : j_at 12 23 = some (23, .iconst 1, 1, []) := by decide +kernel
theorem r12_24 : j_at 12 24 = some (24, .aload_n 1, 1, []) := by decide +kernel
theorem r12_25 : j_at 12 25 = some (25, .iload_n 2, 1, []) := by decide +kernel
theorem r12_26 : j_at 12 26 = some (26, .iload_n 3, 1, []) := by decide +kernel
theorem r12_27 : j_at 12 27 = some (27, .invokestatic 79, 3, [0, 1, 201, 349, 234, 80, 0]) := by decide +kernel
theorem r12_30 : j_at 12 30 = some (30, .invokevirtual 84, 3, [2, 5, 23, 350, 351, 352, 74, 0, 3]) := by decide +kernel
theorem r12_33 : j_at 12 33 = some (33, .ireturn, 1, []) := by decide +kernel
theorem b12_0 {b : Nat} {x0 : Value} {x1 : Value} {x2 : Int32} {x3 : Int32} {H : j_H} {Q : Option Value → j_H → Prop} (h0 : j_vc H x0 = 0) (h1 : ¬ (va_rf (j_R H (j_pa x0) 10) : Value) = .ref 11) : j_wp b 12 0 [x0, x1, .int x2, .int x3] [] H Q = (if (va_rf (j_R H (j_pa x0) 10) : Value) = .null then j_wp b 12 17 [x0, x1, .int x2, .int x3] [] H Q else j_wp b 12 7 [x0, x1, .int x2, .int x3] [] H Q) := Eq.trans (s_aload_n r12_0 rfl (j_isr_vc h0 rfl)) (Eq.trans (s_getfr r12_1 (j_al1 h0 rfl) rfl) (s_ifnull r12_4 rfl (j_isr_rf _) h1))
theorem b12_7 {b : Nat} {x0 : Value} {x1 : Value} {x2 : Int32} {x3 : Int32} {H : j_H} {Q : Option Value → j_H → Prop} (h0 : j_vc H x0 = 0) (h1 : j_vc H (va_rf (j_R H (j_pa x0) 10)) = 3) : j_wp b 12 7 [x0, x1, .int x2, .int x3] [] H Q = (if ¬ (j_I H (j_pa (va_rf (j_R H (j_pa x0) 10))) 1).toInt = 0 then j_wp b 12 19 [x0, x1, .int x2, .int x3] [] H Q else j_wp b 12 17 [x0, x1, .int x2, .int x3] [] H Q) := Eq.trans (s_aload_n r12_7 rfl (j_isr_vc h0 rfl)) (Eq.trans (s_getfr r12_8 (j_al1 h0 rfl) rfl) (Eq.trans (s_getfi r12_11 (j_al1 h1 rfl) rfl rfl rfl) (s_ifne r12_14 rfl rfl)))
theorem b12_17 {b : Nat} {x0 : Value} {x1 : Value} {x2 : Int32} {x3 : Int32} {H : j_H} {Q : Option Value → j_H → Prop}  : j_wp b 12 17 [x0, x1, .int x2, .int x3] [] H Q = Q (some (.int (Int32.ofInt 1))) H := Eq.trans (s_iconst r12_17) (s_ireturn r12_18 (j_rok1 rfl))
theorem b12_19 {b : Nat} {x0 : Value} {x1 : Value} {x2 : Int32} {x3 : Int32} {H : j_H} {Q : Option Value → j_H → Prop} (h0 : j_vc H x0 = 0) (h1 : j_isr x1 = true) : j_wp (b + 1) 12 19 [x0, x1, .int x2, .int x3] [] H Q = j_wp b 201 0 [.int x3] [] H (j_k (b + 1) 12 30 [x0, x1, .int x2, .int x3] [.int x2, x1, .int (Int32.ofInt 1), va_rf (j_R H (j_pa x0) 10)] Q) := Eq.trans (s_aload_n r12_19 rfl (j_isr_vc h0 rfl)) (Eq.trans (s_getfr r12_20 (j_al1 h0 rfl) rfl) (Eq.trans (s_iconst r12_23) (Eq.trans (s_aload_n r12_24 rfl h1) (Eq.trans (s_iload_n r12_25 rfl) (Eq.trans (s_iload_n r12_26 rfl) (j_cll (as := [.int x3]) (es := [.int x3]) (s_c0 r12_27 (j_dok (s := [.int x3, .int x2, x1, .int (Int32.ofInt 1), va_rf (j_R H (j_pa x0) 10)]) (as := [.int x3]) (rest := [.int x2, x1, .int (Int32.ofInt 1), va_rf (j_R H (j_pa x0) 10)]) (es := [.int x3]) rfl rfl rfl rfl rfl rfl)) rfl rfl))))))
theorem b12_30 {b : Nat} {x0 : Value} {x1 : Value} {x2 : Int32} {x3 : Int32} {y0 : Int32} {y1 : Int32} {y2 : Value} {y3 : Int32} {y4 : Value} {H : j_H} {Q : Option Value → j_H → Prop} (h0 : j_vc H y4 = 3) (h1 : j_isr y2 = true) : j_wp (b + 1) 12 30 [x0, x1, .int x2, .int x3] [.int y0, .int y1, y2, .int y3, y4] H Q = j_wp b 23 0 [y4, .int y3, y2, .int y1, .int y0, j_u, j_u, j_u] [] H (j_k (b + 1) 12 33 [x0, x1, .int x2, .int x3] [] Q) := j_cll (as := [y4, .int y3, y2, .int y1, .int y0]) (es := [y4, .int y3, y2, .int y1, .int y0]) (s_c2 r12_30 rfl h0 rfl rfl (j_dok (s := [.int y0, .int y1, y2, .int y3, y4]) (as := [y4, .int y3, y2, .int y1, .int y0]) (rest := []) (es := [y4, .int y3, y2, .int y1, .int y0]) rfl rfl rfl rfl (j_slc (j_c1r (j_isr_vc h0 rfl)) (j_slc rfl (j_slc (j_c1r h1) rfl))) rfl)) (j_slc (j_c1r (j_isr_vc h0 rfl)) (j_slc rfl (j_slc (j_c1r h1) rfl))) rfl
theorem b12_33 {b : Nat} {x0 : Value} {x1 : Value} {x2 : Int32} {x3 : Int32} {y0 : Int32} {H : j_H} {Q : Option Value → j_H → Prop}  : j_wp b 12 33 [x0, x1, .int x2, .int x3] [.int y0] H Q = Q (some (.int y0)) H := s_ireturn r12_33 (j_rok1 rfl)
-- X1_init
theorem r13_0 : j_at 13 0 = some (0, .aload_n 0, 1, []) := by decide +kernel
theorem r13_1 : j_at 13 1 = some (1, .iload_n 1, 1, []) := by decide +kernel
theorem r13_2 : j_at 13 2 = some (2, .iload_n 2, 1, []) := by decide +kernel
theorem r13_3 : j_at 13 3 = some (3, .iload_n 3, 1, []) := by decide +kernel
theorem r13_4 : j_at 13 4 = some (4, .iload 4, 2, []) := by decide +kernel
theorem r13_6 : j_at 13 6 = some (6, .invokespecial 1, 3, [1, 5, 42, 311, 277, 81, 0]) := by decide +kernel
theorem r13_9 : j_at 13 9 = some (9, .return_, 1, []) := by decide +kernel
theorem b13_0 {b : Nat} {x0 : Value} {x1 : Int32} {x2 : Int32} {x3 : Int32} {x4 : Int32} {H : j_H} {Q : Option Value → j_H → Prop} (h0 : j_vc H x0 = 1) (h1 : ¬ (x0 : Value) = .ref 11) : j_wp (b + 1) 13 0 [x0, .int x1, .int x2, .int x3, .int x4] [] H Q = j_wp b 42 0 [x0, .int x1, .int x2, .int x3, .int x4] [] H (j_k (b + 1) 13 9 [x0, .int x1, .int x2, .int x3, .int x4] [] Q) := Eq.trans (s_aload_n r13_0 rfl (j_isr_vc h0 rfl)) (Eq.trans (s_iload_n r13_1 rfl) (Eq.trans (s_iload_n r13_2 rfl) (Eq.trans (s_iload_n r13_3 rfl) (Eq.trans (s_iload r13_4 rfl) (j_cll (as := [x0, .int x1, .int x2, .int x3, .int x4]) (es := [x0, .int x1, .int x2, .int x3, .int x4]) (s_c1 r13_6 rfl (j_vc_lt h0 rfl) h1 rfl (j_dok (s := [.int x4, .int x3, .int x2, .int x1, x0]) (as := [x0, .int x1, .int x2, .int x3, .int x4]) (rest := []) (es := [x0, .int x1, .int x2, .int x3, .int x4]) rfl rfl rfl rfl (j_slc (j_c1r (j_isr_vc h0 rfl)) rfl) rfl)) (j_slc (j_c1r (j_isr_vc h0 rfl)) rfl) rfl)))))
theorem b13_9 {b : Nat} {x0 : Value} {x1 : Int32} {x2 : Int32} {x3 : Int32} {x4 : Int32} {H : j_H} {Q : Option Value → j_H → Prop}  : j_wp b 13 9 [x0, .int x1, .int x2, .int x3, .int x4] [] H Q = Q none H := s_return r13_9 rfl
-- X1_says
theorem r14_0 : j_at 14 0 = some (0, .aload_n 0, 1, []) := by decide +kernel
theorem r14_1 : j_at 14 1 = some (1, .aload_n 1, 1, []) := by decide +kernel
theorem r14_2 : j_at 14 2 = some (2, .iload_n 2, 1, []) := by decide +kernel
theorem r14_3 : j_at 14 3 = some (3, .iload_n 3, 1, []) := by decide +kernel
theorem r14_4 : j_at 14 4 = some (4, .invokespecial 7, 3, [4, 4, 43, 43, 367, 1022, 317, 368, 81, 0, 0, 0, 1]) := by decide +kernel
theorem r14_7 : j_at 14 7 = some (7, .istore 4, 2, []) := by decide +kernel
theorem r14_9 : j_at 14 9 = some (9, .aload_n 1, 1, []) := by decide +kernel
theorem r14_10 : j_at 14 10 = some (10, .aload_n 0, 1, []) := by decide +kernel
theorem r14_11 : j_at 14 11 = some (11, .iload_n 2, 1, []) := by decide +kernel
theorem r14_12 : j_at 14 12 = some (12, .iload_n 3, 1, []) := by decide +kernel
theorem r14_13 : j_at 14 13 = some (13, .invokevirtual 11, 3, [2, 4, 12, 369, 359, 360, 73, 0, 0]) := by decide +kernel
theorem r14_16 : j_at 14 16 = some (16, .iconst 5, 1, []) := by decide +kernel
theorem r14_17 : j_at 14 17 = some (17, .if_icmp .le 10, 3, []) := by decide +kernel
theorem r14_20 : j_at 14 20 = some (20, .iconst 1, 1, []) := by decide +kernel
theorem r14_21 : j_at 14 21 = some (21, .iload 4, 2, []) := by decide +kernel
theorem r14_23 : j_at 14 23 = some (23, .isub, 1, []) := by decide +kernel
theorem r14_24 : j_at 14 24 = some (24, .goto 5, 3, []) := by decide +kernel
theorem r14_27 : j_at 14 27 = some (27, .iload 4, 2, []) := by decide +kernel
theorem r14_29 : j_at 14 29 = some (29, .ireturn, 1, []) := by decide +kernel
theorem b14_0 {b : Nat} {x0 : Value} {x1 : Value} {x2 : Int32} {x3 : Int32} {u4 : Value} {H : j_H} {Q : Option Value → j_H → Prop} (h0 : j_vc H x0 = 1) (h1 : j_isr x1 = true) : j_wp (b + 1) 14 0 [x0, x1, .int x2, .int x3, u4] [] H Q = j_wp b 43 0 [x0, x1, .int x2, .int x3] [] H (j_k (b + 1) 14 7 [x0, x1, .int x2, .int x3, u4] [] Q) := Eq.trans (s_aload_n r14_0 rfl (j_isr_vc h0 rfl)) (Eq.trans (s_aload_n r14_1 rfl h1) (Eq.trans (s_iload_n r14_2 rfl) (Eq.trans (s_iload_n r14_3 rfl) (j_cll (as := [x0, x1, .int x2, .int x3]) (es := [x0, x1, .int x2, .int x3]) (s_c4 r14_4 rfl (j_al1 h0 rfl) rfl rfl (j_dok (s := [.int x3, .int x2, x1, x0]) (as := [x0, x1, .int x2, .int x3]) (rest := []) (es := [x0, x1, .int x2, .int x3]) rfl rfl rfl rfl (j_slc (j_c1r (j_isr_vc h0 rfl)) (j_slc (j_c1r h1) rfl)) rfl)) (j_slc (j_c1r (j_isr_vc h0 rfl)) (j_slc (j_c1r h1) rfl)) rfl))))
theorem b14_7 {b : Nat} {x0 : Value} {x1 : Value} {x2 : Int32} {x3 : Int32} {u4 : Value} {y0 : Int32} {H : j_H} {Q : Option Value → j_H → Prop} (h0 : j_vc H x1 = 0) (h1 : j_isr x0 = true) : j_wp (b + 1) 14 7 [x0, x1, .int x2, .int x3, u4] [.int y0] H Q = j_wp b 12 0 [x1, x0, .int x2, .int x3] [] H (j_k (b + 1) 14 16 [x0, x1, .int x2, .int x3, .int y0] [] Q) := Eq.trans (s_istore r14_7 (Nat.le_of_ble_eq_true rfl) rfl) (Eq.trans (s_aload_n r14_9 rfl (j_isr_vc h0 rfl)) (Eq.trans (s_aload_n r14_10 rfl h1) (Eq.trans (s_iload_n r14_11 rfl) (Eq.trans (s_iload_n r14_12 rfl) (j_cll (as := [x1, x0, .int x2, .int x3]) (es := [x1, x0, .int x2, .int x3]) (s_c2 r14_13 rfl h0 rfl rfl (j_dok (s := [.int x3, .int x2, x0, x1]) (as := [x1, x0, .int x2, .int x3]) (rest := []) (es := [x1, x0, .int x2, .int x3]) rfl rfl rfl rfl (j_slc (j_c1r (j_isr_vc h0 rfl)) (j_slc (j_c1r h1) rfl)) rfl)) (j_slc (j_c1r (j_isr_vc h0 rfl)) (j_slc (j_c1r h1) rfl)) rfl)))))
theorem b14_16 {b : Nat} {x0 : Value} {x1 : Value} {x2 : Int32} {x3 : Int32} {x4 : Int32} {y0 : Int32} {H : j_H} {Q : Option Value → j_H → Prop}  : j_wp b 14 16 [x0, x1, .int x2, .int x3, .int x4] [.int y0] H Q = (if y0.toInt ≤ 5 then j_wp b 14 27 [x0, x1, .int x2, .int x3, .int x4] [] H Q else j_wp b 14 20 [x0, x1, .int x2, .int x3, .int x4] [] H Q) := Eq.trans (s_iconst r14_16) (s_icle r14_17 rfl rfl rfl)
theorem b14_20 {b : Nat} {x0 : Value} {x1 : Value} {x2 : Int32} {x3 : Int32} {x4 : Int32} {H : j_H} {Q : Option Value → j_H → Prop}  : j_wp b 14 20 [x0, x1, .int x2, .int x3, .int x4] [] H Q = j_wp b 14 29 [x0, x1, .int x2, .int x3, .int x4] [.int ((Int32.ofInt 1) - x4)] H Q := Eq.trans (s_iconst r14_20) (Eq.trans (s_iload r14_21 rfl) (Eq.trans (s_isub r14_23) (s_goto r14_24 rfl)))
theorem b14_27 {b : Nat} {x0 : Value} {x1 : Value} {x2 : Int32} {x3 : Int32} {x4 : Int32} {H : j_H} {Q : Option Value → j_H → Prop}  : j_wp b 14 27 [x0, x1, .int x2, .int x3, .int x4] [] H Q = j_wp b 14 29 [x0, x1, .int x2, .int x3, .int x4] [.int x4] H Q := s_iload r14_27 rfl
theorem b14_29 {b : Nat} {x0 : Value} {x1 : Value} {x2 : Int32} {x3 : Int32} {x4 : Int32} {y0 : Int32} {H : j_H} {Q : Option Value → j_H → Prop}  : j_wp b 14 29 [x0, x1, .int x2, .int x3, .int x4] [.int y0] H Q = Q (some (.int y0)) H := s_ireturn r14_29 (j_rok1 rfl)
-- X1_tells
theorem r15_0 : j_at 15 0 = some (0, .aload_n 2, 1, []) := by decide +kernel
theorem r15_1 : j_at 15 1 = some (1, .bipush 60, 2, []) := by decide +kernel
theorem r15_3 : j_at 15 3 = some (3, .invokevirtual 19, 3, [2, 2, 63, 646, 604, 605, 76, 0, 10]) := by decide +kernel
theorem r15_6 : j_at 15 6 = some (6, .aload_n 0, 1, []) := by decide +kernel
theorem r15_7 : j_at 15 7 = some (7, .iload_n 1, 1, []) := by decide +kernel
theorem r15_8 : j_at 15 8 = some (8, .aload_n 0, 1, []) := by decide +kernel
theorem r15_9 : j_at 15 9 = some (9, .getfield 25, 3, [254, 1, 0, 1, 255, 1]) := by decide +kernel
theorem r15_12 : j_at 15 12 = some (12, .isub, 1, []) := by decide +kernel
theorem r15_13 : j_at 15 13 = some (13, .aload_n 2, 1, []) := by decide +kernel
theorem r15_14 : j_at 15 14 = some (14, .invokespecial 29, 3, [4, 3, 20, 215, 647, 648, 317, 641, 78, 0, 1, 284, 1]) := by decide +kernel
theorem r15_17 : j_at 15 17 = some (17, .ireturn, 1, []) := by decide +kernel
theorem b15_0 {b : Nat} {x0 : Value} {x1 : Int32} {x2 : Value} {H : j_H} {Q : Option Value → j_H → Prop} (h0 : j_vc H x2 = 10) : j_wp (b + 1) 15 0 [x0, .int x1, x2] [] H Q = j_wp b 63 0 [x2, .int (Int32.ofInt 60)] [] H (j_k (b + 1) 15 6 [x0, .int x1, x2] [] Q) := Eq.trans (s_aload_n r15_0 rfl (j_isr_vc h0 rfl)) (Eq.trans (s_bipush r15_1) (j_cll (as := [x2, .int (Int32.ofInt 60)]) (es := [x2, .int (Int32.ofInt 60)]) (s_c2 r15_3 rfl h0 rfl rfl (j_dok (s := [.int (Int32.ofInt 60), x2]) (as := [x2, .int (Int32.ofInt 60)]) (rest := []) (es := [x2, .int (Int32.ofInt 60)]) rfl rfl rfl rfl (j_slc (j_c1r (j_isr_vc h0 rfl)) rfl) rfl)) (j_slc (j_c1r (j_isr_vc h0 rfl)) rfl) rfl))
theorem b15_6 {b : Nat} {x0 : Value} {x1 : Int32} {x2 : Value} {H : j_H} {Q : Option Value → j_H → Prop} (h0 : j_vc H x0 = 1) (h1 : j_isr x2 = true) : j_wp (b + 1) 15 6 [x0, .int x1, x2] [] H Q = j_wp b 20 0 [x0, .int (x1 - (j_I H (j_pa x0) 1)), x2] [] H (j_k (b + 1) 15 17 [x0, .int x1, x2] [] Q) := Eq.trans (s_aload_n r15_6 rfl (j_isr_vc h0 rfl)) (Eq.trans (s_iload_n r15_7 rfl) (Eq.trans (s_aload_n r15_8 rfl (j_isr_vc h0 rfl)) (Eq.trans (s_getfi r15_9 (j_al1 h0 rfl) rfl rfl rfl) (Eq.trans (s_isub r15_12) (Eq.trans (s_aload_n r15_13 rfl h1) (j_cll (as := [x0, .int (x1 - (j_I H (j_pa x0) 1)), x2]) (es := [x0, .int (x1 - (j_I H (j_pa x0) 1)), x2]) (s_c4 r15_14 rfl (j_al1 h0 rfl) rfl rfl (j_dok (s := [x2, .int (x1 - (j_I H (j_pa x0) 1)), x0]) (as := [x0, .int (x1 - (j_I H (j_pa x0) 1)), x2]) (rest := []) (es := [x0, .int (x1 - (j_I H (j_pa x0) 1)), x2]) rfl rfl rfl rfl (j_slc (j_c1r (j_isr_vc h0 rfl)) (j_slc rfl (j_slc (j_c1r h1) rfl))) rfl)) (j_slc (j_c1r (j_isr_vc h0 rfl)) (j_slc rfl (j_slc (j_c1r h1) rfl))) rfl))))))
theorem b15_17 {b : Nat} {x0 : Value} {x1 : Int32} {x2 : Value} {y0 : Int32} {H : j_H} {Q : Option Value → j_H → Prop}  : j_wp b 15 17 [x0, .int x1, x2] [.int y0] H Q = Q (some (.int y0)) H := s_ireturn r15_17 (j_rok1 rfl)
-- X2_init
theorem r16_0 : j_at 16 0 = some (0, .aload_n 0, 1, []) := by decide +kernel
theorem r16_1 : j_at 16 1 = some (1, .invokespecial 1, 3, [5, 1, 232, 97, 98]) := by decide +kernel
theorem r16_4 : j_at 16 4 = some (4, .aload_n 0, 1, []) := by decide +kernel
theorem r16_5 : j_at 16 5 = some (5, .iload_n 1, 1, []) := by decide +kernel
theorem r16_6 : j_at 16 6 = some (6, .putfield 7, 3, [238, 2, 0, 0, 0, 1, 1, 2, 4, 5, 6, 7, 9]) := by decide +kernel
theorem r16_9 : j_at 16 9 = some (9, .aload_n 0, 1, []) := by decide +kernel
theorem r16_10 : j_at 16 10 = some (10, .iload_n 2, 1, []) := by decide +kernel
theorem r16_11 : j_at 16 11 = some (11, .putfield 13, 3, [244, 2, 0, 1, 0, 1, 1, 2, 4, 5, 6, 7, 9]) := by decide +kernel
theorem r16_14 : j_at 16 14 = some (14, .aload_n 0, 1, []) := by decide +kernel
theorem r16_15 : j_at 16 15 = some (15, .iload_n 3, 1, []) := by decide +kernel
theorem r16_16 : j_at 16 16 = some (16, .putfield 16, 3, [257, 2, 0, 2, 0, 1, 1, 2, 4, 5, 6, 7, 9]) := by decide +kernel
theorem r16_19 : j_at 16 19 = some (19, .aload_n 0, 1, []) := by decide +kernel
theorem r16_20 : j_at 16 20 = some (20, .iload 4, 2, []) := by decide +kernel
theorem r16_22 : j_at 16 22 = some (22, .putfield 19, 3, [262, 2, 0, 3, 0, 1, 1, 2, 4, 5, 6, 7, 9]) := by decide +kernel
theorem r16_25 : j_at 16 25 = some (25, .aload_n 0, 1, []) := by decide +kernel
theorem r16_26 : j_at 16 26 = some (26, .iload 4, 2, []) := by decide +kernel
theorem r16_28 : j_at 16 28 = some (28, .invokestatic 22, 3, [0, 1, 201, 233, 234, 80, 0]) := by decide +kernel
theorem r16_31 : j_at 16 31 = some (31, .putfield 28, 3, [266, 2, 0, 4, 0, 1, 1, 2, 4, 5, 6, 7, 9]) := by decide +kernel
theorem r16_34 : j_at 16 34 = some (34, .return_, 1, []) := by decide +kernel
theorem b16_0 {b : Nat} {x0 : Value} {x1 : Int32} {x2 : Int32} {x3 : Int32} {x4 : Int32} {H : j_H} {Q : Option Value → j_H → Prop} (h0 : [2, 1, 4, 5, 6, 7, 9].contains (j_vc H x0) = true) (h1 : ¬ (x0 : Value) = .ref 11) (h2 : [1, 2, 4, 5, 6, 7, 9].contains (j_vc H x0) = true) : j_wp b 16 0 [x0, .int x1, .int x2, .int x3, .int x4] [] H Q = j_wp b 16 9 [x0, .int x1, .int x2, .int x3, .int x4] [] (j_sI H (j_pa x0) 0 x1) Q := Eq.trans (s_aload_n r16_0 rfl (j_isr_al h0 rfl)) (Eq.trans (s_oinit r16_1 (j_vc_al h0 rfl) h1 rfl) (Eq.trans (s_aload_n r16_4 rfl (j_isr_al h0 rfl)) (Eq.trans (s_iload_n r16_5 rfl) (s_put r16_6 h2 rfl j_putI))))
theorem b16_9 {b : Nat} {x0 : Value} {x1 : Int32} {x2 : Int32} {x3 : Int32} {x4 : Int32} {H : j_H} {Q : Option Value → j_H → Prop} (h0 : [1, 2, 4, 5, 6, 7, 9].contains (j_vc H x0) = true) : j_wp b 16 9 [x0, .int x1, .int x2, .int x3, .int x4] [] H Q = j_wp b 16 14 [x0, .int x1, .int x2, .int x3, .int x4] [] (j_sI H (j_pa x0) 1 x2) Q := Eq.trans (s_aload_n r16_9 rfl (j_isr_al h0 rfl)) (Eq.trans (s_iload_n r16_10 rfl) (s_put r16_11 h0 rfl j_putI))
theorem b16_14 {b : Nat} {x0 : Value} {x1 : Int32} {x2 : Int32} {x3 : Int32} {x4 : Int32} {H : j_H} {Q : Option Value → j_H → Prop} (h0 : [1, 2, 4, 5, 6, 7, 9].contains (j_vc H x0) = true) : j_wp b 16 14 [x0, .int x1, .int x2, .int x3, .int x4] [] H Q = j_wp b 16 19 [x0, .int x1, .int x2, .int x3, .int x4] [] (j_sI H (j_pa x0) 2 x3) Q := Eq.trans (s_aload_n r16_14 rfl (j_isr_al h0 rfl)) (Eq.trans (s_iload_n r16_15 rfl) (s_put r16_16 h0 rfl j_putI))
theorem b16_19 {b : Nat} {x0 : Value} {x1 : Int32} {x2 : Int32} {x3 : Int32} {x4 : Int32} {H : j_H} {Q : Option Value → j_H → Prop} (h0 : [1, 2, 4, 5, 6, 7, 9].contains (j_vc H x0) = true) : j_wp b 16 19 [x0, .int x1, .int x2, .int x3, .int x4] [] H Q = j_wp b 16 25 [x0, .int x1, .int x2, .int x3, .int x4] [] (j_sI H (j_pa x0) 3 x4) Q := Eq.trans (s_aload_n r16_19 rfl (j_isr_al h0 rfl)) (Eq.trans (s_iload r16_20 rfl) (s_put r16_22 h0 rfl j_putI))
theorem b16_25 {b : Nat} {x0 : Value} {x1 : Int32} {x2 : Int32} {x3 : Int32} {x4 : Int32} {H : j_H} {Q : Option Value → j_H → Prop} (h0 : j_isr x0 = true) : j_wp (b + 1) 16 25 [x0, .int x1, .int x2, .int x3, .int x4] [] H Q = j_wp b 201 0 [.int x4] [] H (j_k (b + 1) 16 31 [x0, .int x1, .int x2, .int x3, .int x4] [x0] Q) := Eq.trans (s_aload_n r16_25 rfl h0) (Eq.trans (s_iload r16_26 rfl) (j_cll (as := [.int x4]) (es := [.int x4]) (s_c0 r16_28 (j_dok (s := [.int x4, x0]) (as := [.int x4]) (rest := [x0]) (es := [.int x4]) rfl rfl rfl rfl rfl rfl)) rfl rfl))
theorem b16_31 {b : Nat} {x0 : Value} {x1 : Int32} {x2 : Int32} {x3 : Int32} {x4 : Int32} {y0 : Int32} {y1 : Value} {H : j_H} {Q : Option Value → j_H → Prop} (h0 : [1, 2, 4, 5, 6, 7, 9].contains (j_vc H y1) = true) : j_wp b 16 31 [x0, .int x1, .int x2, .int x3, .int x4] [.int y0, y1] H Q = j_wp b 16 34 [x0, .int x1, .int x2, .int x3, .int x4] [] (j_sI H (j_pa y1) 4 y0) Q := s_put r16_31 h0 rfl j_putI
theorem b16_34 {b : Nat} {x0 : Value} {x1 : Int32} {x2 : Int32} {x3 : Int32} {x4 : Int32} {H : j_H} {Q : Option Value → j_H → Prop}  : j_wp b 16 34 [x0, .int x1, .int x2, .int x3, .int x4] [] H Q = Q none H := s_return r16_34 rfl
-- X2_says
theorem r17_0 : j_at 17 0 = some (0, .iconst 1, 1, []) := by decide +kernel
theorem r17_1 : j_at 17 1 = some (1, .ireturn, 1, []) := by decide +kernel
theorem b17_0 {b : Nat} {x0 : Value} {x1 : Value} {x2 : Int32} {x3 : Int32} {H : j_H} {Q : Option Value → j_H → Prop}  : j_wp b 17 0 [x0, x1, .int x2, .int x3] [] H Q = Q (some (.int (Int32.ofInt 1))) H := Eq.trans (s_iconst r17_0) (s_ireturn r17_1 (j_rok1 rfl))
-- X2_speaks
theorem r18_0 : j_at 18 0 = some (0, .aload_n 2, 1, []) := by decide +kernel
theorem r18_1 : j_at 18 1 = some (1, .bipush 10, 2, []) := by decide +kernel
theorem r18_3 : j_at 18 3 = some (3, .invokevirtual 31, 3, [2, 2, 63, 620, 604, 605, 76, 0, 10]) := by decide +kernel
theorem r18_6 : j_at 18 6 = some (6, .iload_n 1, 1, []) := by decide +kernel
theorem r18_7 : j_at 18 7 = some (7, .aload_n 0, 1, []) := by decide +kernel
theorem r18_8 : j_at 18 8 = some (8, .getfield 13, 3, [244, 2, 0, 1, 0, 1, 2, 4, 5, 6, 7, 9]) := by decide +kernel
theorem r18_11 : j_at 18 11 = some (11, .iadd, 1, []) := by decide +kernel
theorem r18_12 : j_at 18 12 = some (12, .ireturn, 1, []) := by decide +kernel
theorem b18_0 {b : Nat} {x0 : Value} {x1 : Int32} {x2 : Value} {H : j_H} {Q : Option Value → j_H → Prop} (h0 : j_vc H x2 = 10) : j_wp (b + 1) 18 0 [x0, .int x1, x2] [] H Q = j_wp b 63 0 [x2, .int (Int32.ofInt 10)] [] H (j_k (b + 1) 18 6 [x0, .int x1, x2] [] Q) := Eq.trans (s_aload_n r18_0 rfl (j_isr_vc h0 rfl)) (Eq.trans (s_bipush r18_1) (j_cll (as := [x2, .int (Int32.ofInt 10)]) (es := [x2, .int (Int32.ofInt 10)]) (s_c2 r18_3 rfl h0 rfl rfl (j_dok (s := [.int (Int32.ofInt 10), x2]) (as := [x2, .int (Int32.ofInt 10)]) (rest := []) (es := [x2, .int (Int32.ofInt 10)]) rfl rfl rfl rfl (j_slc (j_c1r (j_isr_vc h0 rfl)) rfl) rfl)) (j_slc (j_c1r (j_isr_vc h0 rfl)) rfl) rfl))
theorem b18_6 {b : Nat} {x0 : Value} {x1 : Int32} {x2 : Value} {H : j_H} {Q : Option Value → j_H → Prop} (h0 : [1, 2, 4, 5, 6, 7, 9].contains (j_vc H x0) = true) : j_wp b 18 6 [x0, .int x1, x2] [] H Q = Q (some (.int (x1 + (j_I H (j_pa x0) 1)))) H := Eq.trans (s_iload_n r18_6 rfl) (Eq.trans (s_aload_n r18_7 rfl (j_isr_al h0 rfl)) (Eq.trans (s_getfi r18_8 h0 rfl rfl rfl) (Eq.trans (s_iadd r18_11) (s_ireturn r18_12 (j_rok1 rfl)))))
-- X2_passes
theorem r19_0 : j_at 19 0 = some (0, .aload_n 2, 1, []) := by decide +kernel
theorem r19_1 : j_at 19 1 = some (1, .bipush 11, 2, []) := by decide +kernel
theorem r19_3 : j_at 19 3 = some (3, .invokevirtual 31, 3, [2, 2, 63, 620, 604, 605, 76, 0, 10]) := by decide +kernel
theorem r19_6 : j_at 19 6 = some (6, .aload_n 0, 1, []) := by decide +kernel
theorem r19_7 : j_at 19 7 = some (7, .iload_n 1, 1, []) := by decide +kernel
theorem r19_8 : j_at 19 8 = some (8, .aload_n 2, 1, []) := by decide +kernel
theorem r19_9 : j_at 19 9 = some (9, .invokevirtual 37, 3, [3, 3, 18, 18, 639, 600, 598, 0, 1, 44, 601, 602, 81, 0, 2, 18, 599, 598, 78, 0, 4, 18, 607, 598, 78, 0, 5, 18, 608, 598, 78, 0, 6, 44, 609, 602, 81, 0, 7, 47, 610, 611, 83, 0, 9, 60, 615, 616, 85, 0]) := by decide +kernel
theorem r19_12 : j_at 19 12 = some (12, .aload_n 0, 1, []) := by decide +kernel
theorem r19_13 : j_at 19 13 = some (13, .getfield 16, 3, [257, 2, 0, 2, 0, 1, 2, 4, 5, 6, 7, 9]) := by decide +kernel
theorem r19_16 : j_at 19 16 = some (16, .isub, 1, []) := by decide +kernel
theorem r19_17 : j_at 19 17 = some (17, .ireturn, 1, []) := by decide +kernel
theorem b19_0 {b : Nat} {x0 : Value} {x1 : Int32} {x2 : Value} {H : j_H} {Q : Option Value → j_H → Prop} (h0 : j_vc H x2 = 10) : j_wp (b + 1) 19 0 [x0, .int x1, x2] [] H Q = j_wp b 63 0 [x2, .int (Int32.ofInt 11)] [] H (j_k (b + 1) 19 6 [x0, .int x1, x2] [] Q) := Eq.trans (s_aload_n r19_0 rfl (j_isr_vc h0 rfl)) (Eq.trans (s_bipush r19_1) (j_cll (as := [x2, .int (Int32.ofInt 11)]) (es := [x2, .int (Int32.ofInt 11)]) (s_c2 r19_3 rfl h0 rfl rfl (j_dok (s := [.int (Int32.ofInt 11), x2]) (as := [x2, .int (Int32.ofInt 11)]) (rest := []) (es := [x2, .int (Int32.ofInt 11)]) rfl rfl rfl rfl (j_slc (j_c1r (j_isr_vc h0 rfl)) rfl) rfl)) (j_slc (j_c1r (j_isr_vc h0 rfl)) rfl) rfl))
theorem b19_6_1 {b : Nat} {x0 : Value} {x1 : Int32} {x2 : Value} {H : j_H} {Q : Option Value → j_H → Prop} (h0 : j_vc H x0 = 1) (h1 : j_isr x2 = true) : j_wp (b + 1) 19 6 [x0, .int x1, x2] [] H Q = j_wp b 44 0 [x0, .int x1, x2] [] H (j_k (b + 1) 19 12 [x0, .int x1, x2] [] Q) := Eq.trans (s_aload_n r19_6 rfl (j_isr_vc h0 rfl)) (Eq.trans (s_iload_n r19_7 rfl) (Eq.trans (s_aload_n r19_8 rfl h1) (j_cll (as := [x0, .int x1, x2]) (es := [x0, .int x1, x2]) (s_c3 r19_9 rfl h0 rfl rfl rfl (j_dok (s := [x2, .int x1, x0]) (as := [x0, .int x1, x2]) (rest := []) (es := [x0, .int x1, x2]) rfl rfl rfl rfl (j_slc (j_c1r (j_isr_vc h0 rfl)) (j_slc rfl (j_slc (j_c1r h1) rfl))) rfl)) (j_slc (j_c1r (j_isr_vc h0 rfl)) (j_slc rfl (j_slc (j_c1r h1) rfl))) rfl)))
theorem b19_6_2 {b : Nat} {x0 : Value} {x1 : Int32} {x2 : Value} {H : j_H} {Q : Option Value → j_H → Prop} (h0 : j_vc H x0 = 2) (h1 : j_isr x2 = true) : j_wp (b + 1) 19 6 [x0, .int x1, x2] [] H Q = j_wp b 18 0 [x0, .int x1, x2] [] H (j_k (b + 1) 19 12 [x0, .int x1, x2] [] Q) := Eq.trans (s_aload_n r19_6 rfl (j_isr_vc h0 rfl)) (Eq.trans (s_iload_n r19_7 rfl) (Eq.trans (s_aload_n r19_8 rfl h1) (j_cll (as := [x0, .int x1, x2]) (es := [x0, .int x1, x2]) (s_c3 r19_9 rfl h0 rfl rfl rfl (j_dok (s := [x2, .int x1, x0]) (as := [x0, .int x1, x2]) (rest := []) (es := [x0, .int x1, x2]) rfl rfl rfl rfl (j_slc (j_c1r (j_isr_vc h0 rfl)) (j_slc rfl (j_slc (j_c1r h1) rfl))) rfl)) (j_slc (j_c1r (j_isr_vc h0 rfl)) (j_slc rfl (j_slc (j_c1r h1) rfl))) rfl)))
theorem b19_6_4 {b : Nat} {x0 : Value} {x1 : Int32} {x2 : Value} {H : j_H} {Q : Option Value → j_H → Prop} (h0 : j_vc H x0 = 4) (h1 : j_isr x2 = true) : j_wp (b + 1) 19 6 [x0, .int x1, x2] [] H Q = j_wp b 18 0 [x0, .int x1, x2] [] H (j_k (b + 1) 19 12 [x0, .int x1, x2] [] Q) := Eq.trans (s_aload_n r19_6 rfl (j_isr_vc h0 rfl)) (Eq.trans (s_iload_n r19_7 rfl) (Eq.trans (s_aload_n r19_8 rfl h1) (j_cll (as := [x0, .int x1, x2]) (es := [x0, .int x1, x2]) (s_c3 r19_9 rfl h0 rfl rfl rfl (j_dok (s := [x2, .int x1, x0]) (as := [x0, .int x1, x2]) (rest := []) (es := [x0, .int x1, x2]) rfl rfl rfl rfl (j_slc (j_c1r (j_isr_vc h0 rfl)) (j_slc rfl (j_slc (j_c1r h1) rfl))) rfl)) (j_slc (j_c1r (j_isr_vc h0 rfl)) (j_slc rfl (j_slc (j_c1r h1) rfl))) rfl)))
theorem b19_6_5 {b : Nat} {x0 : Value} {x1 : Int32} {x2 : Value} {H : j_H} {Q : Option Value → j_H → Prop} (h0 : j_vc H x0 = 5) (h1 : j_isr x2 = true) : j_wp (b + 1) 19 6 [x0, .int x1, x2] [] H Q = j_wp b 18 0 [x0, .int x1, x2] [] H (j_k (b + 1) 19 12 [x0, .int x1, x2] [] Q) := Eq.trans (s_aload_n r19_6 rfl (j_isr_vc h0 rfl)) (Eq.trans (s_iload_n r19_7 rfl) (Eq.trans (s_aload_n r19_8 rfl h1) (j_cll (as := [x0, .int x1, x2]) (es := [x0, .int x1, x2]) (s_c3 r19_9 rfl h0 rfl rfl rfl (j_dok (s := [x2, .int x1, x0]) (as := [x0, .int x1, x2]) (rest := []) (es := [x0, .int x1, x2]) rfl rfl rfl rfl (j_slc (j_c1r (j_isr_vc h0 rfl)) (j_slc rfl (j_slc (j_c1r h1) rfl))) rfl)) (j_slc (j_c1r (j_isr_vc h0 rfl)) (j_slc rfl (j_slc (j_c1r h1) rfl))) rfl)))
theorem b19_6_6 {b : Nat} {x0 : Value} {x1 : Int32} {x2 : Value} {H : j_H} {Q : Option Value → j_H → Prop} (h0 : j_vc H x0 = 6) (h1 : j_isr x2 = true) : j_wp (b + 1) 19 6 [x0, .int x1, x2] [] H Q = j_wp b 44 0 [x0, .int x1, x2] [] H (j_k (b + 1) 19 12 [x0, .int x1, x2] [] Q) := Eq.trans (s_aload_n r19_6 rfl (j_isr_vc h0 rfl)) (Eq.trans (s_iload_n r19_7 rfl) (Eq.trans (s_aload_n r19_8 rfl h1) (j_cll (as := [x0, .int x1, x2]) (es := [x0, .int x1, x2]) (s_c3 r19_9 rfl h0 rfl rfl rfl (j_dok (s := [x2, .int x1, x0]) (as := [x0, .int x1, x2]) (rest := []) (es := [x0, .int x1, x2]) rfl rfl rfl rfl (j_slc (j_c1r (j_isr_vc h0 rfl)) (j_slc rfl (j_slc (j_c1r h1) rfl))) rfl)) (j_slc (j_c1r (j_isr_vc h0 rfl)) (j_slc rfl (j_slc (j_c1r h1) rfl))) rfl)))
theorem b19_6_7 {b : Nat} {x0 : Value} {x1 : Int32} {x2 : Value} {H : j_H} {Q : Option Value → j_H → Prop} (h0 : j_vc H x0 = 7) (h1 : j_isr x2 = true) : j_wp (b + 1) 19 6 [x0, .int x1, x2] [] H Q = j_wp b 47 0 [x0, .int x1, x2] [] H (j_k (b + 1) 19 12 [x0, .int x1, x2] [] Q) := Eq.trans (s_aload_n r19_6 rfl (j_isr_vc h0 rfl)) (Eq.trans (s_iload_n r19_7 rfl) (Eq.trans (s_aload_n r19_8 rfl h1) (j_cll (as := [x0, .int x1, x2]) (es := [x0, .int x1, x2]) (s_c3 r19_9 rfl h0 rfl rfl rfl (j_dok (s := [x2, .int x1, x0]) (as := [x0, .int x1, x2]) (rest := []) (es := [x0, .int x1, x2]) rfl rfl rfl rfl (j_slc (j_c1r (j_isr_vc h0 rfl)) (j_slc rfl (j_slc (j_c1r h1) rfl))) rfl)) (j_slc (j_c1r (j_isr_vc h0 rfl)) (j_slc rfl (j_slc (j_c1r h1) rfl))) rfl)))
theorem b19_6_9 {b : Nat} {x0 : Value} {x1 : Int32} {x2 : Value} {H : j_H} {Q : Option Value → j_H → Prop} (h0 : j_vc H x0 = 9) (h1 : j_isr x2 = true) : j_wp (b + 1) 19 6 [x0, .int x1, x2] [] H Q = j_wp b 60 0 [x0, .int x1, x2] [] H (j_k (b + 1) 19 12 [x0, .int x1, x2] [] Q) := Eq.trans (s_aload_n r19_6 rfl (j_isr_vc h0 rfl)) (Eq.trans (s_iload_n r19_7 rfl) (Eq.trans (s_aload_n r19_8 rfl h1) (j_cll (as := [x0, .int x1, x2]) (es := [x0, .int x1, x2]) (s_c3 r19_9 rfl h0 rfl rfl rfl (j_dok (s := [x2, .int x1, x0]) (as := [x0, .int x1, x2]) (rest := []) (es := [x0, .int x1, x2]) rfl rfl rfl rfl (j_slc (j_c1r (j_isr_vc h0 rfl)) (j_slc rfl (j_slc (j_c1r h1) rfl))) rfl)) (j_slc (j_c1r (j_isr_vc h0 rfl)) (j_slc rfl (j_slc (j_c1r h1) rfl))) rfl)))
theorem b19_12 {b : Nat} {x0 : Value} {x1 : Int32} {x2 : Value} {y0 : Int32} {H : j_H} {Q : Option Value → j_H → Prop} (h0 : [1, 2, 4, 5, 6, 7, 9].contains (j_vc H x0) = true) : j_wp b 19 12 [x0, .int x1, x2] [.int y0] H Q = Q (some (.int (y0 - (j_I H (j_pa x0) 2)))) H := Eq.trans (s_aload_n r19_12 rfl (j_isr_al h0 rfl)) (Eq.trans (s_getfi r19_13 h0 rfl rfl rfl) (Eq.trans (s_isub r19_16) (s_ireturn r19_17 (j_rok1 rfl))))
-- X2_tells
theorem r20_0 : j_at 20 0 = some (0, .aload_n 2, 1, []) := by decide +kernel
theorem r20_1 : j_at 20 1 = some (1, .bipush 12, 2, []) := by decide +kernel
theorem r20_3 : j_at 20 3 = some (3, .invokevirtual 31, 3, [2, 2, 63, 620, 604, 605, 76, 0, 10]) := by decide +kernel
theorem r20_6 : j_at 20 6 = some (6, .aload_n 0, 1, []) := by decide +kernel
theorem r20_7 : j_at 20 7 = some (7, .iload_n 1, 1, []) := by decide +kernel
theorem r20_8 : j_at 20 8 = some (8, .aload_n 2, 1, []) := by decide +kernel
theorem r20_9 : j_at 20 9 = some (9, .invokevirtual 41, 3, [3, 3, 19, 19, 660, 624, 622, 0, 1, 19, 625, 622, 78, 0, 2, 19, 623, 622, 78, 0, 4, 38, 626, 627, 79, 0, 5, 19, 630, 622, 78, 0, 6, 19, 631, 622, 78, 0, 7, 48, 632, 633, 83, 0, 9, 59, 635, 636, 85, 0]) := by decide +kernel
theorem r20_12 : j_at 20 12 = some (12, .iconst 2, 1, []) := by decide +kernel
theorem r20_13 : j_at 20 13 = some (13, .imul, 1, []) := by decide +kernel
theorem r20_14 : j_at 20 14 = some (14, .ireturn, 1, []) := by decide +kernel
theorem b20_0 {b : Nat} {x0 : Value} {x1 : Int32} {x2 : Value} {H : j_H} {Q : Option Value → j_H → Prop} (h0 : j_vc H x2 = 10) : j_wp (b + 1) 20 0 [x0, .int x1, x2] [] H Q = j_wp b 63 0 [x2, .int (Int32.ofInt 12)] [] H (j_k (b + 1) 20 6 [x0, .int x1, x2] [] Q) := Eq.trans (s_aload_n r20_0 rfl (j_isr_vc h0 rfl)) (Eq.trans (s_bipush r20_1) (j_cll (as := [x2, .int (Int32.ofInt 12)]) (es := [x2, .int (Int32.ofInt 12)]) (s_c2 r20_3 rfl h0 rfl rfl (j_dok (s := [.int (Int32.ofInt 12), x2]) (as := [x2, .int (Int32.ofInt 12)]) (rest := []) (es := [x2, .int (Int32.ofInt 12)]) rfl rfl rfl rfl (j_slc (j_c1r (j_isr_vc h0 rfl)) rfl) rfl)) (j_slc (j_c1r (j_isr_vc h0 rfl)) rfl) rfl))
theorem b20_6_1 {b : Nat} {x0 : Value} {x1 : Int32} {x2 : Value} {H : j_H} {Q : Option Value → j_H → Prop} (h0 : j_vc H x0 = 1) (h1 : j_isr x2 = true) : j_wp (b + 1) 20 6 [x0, .int x1, x2] [] H Q = j_wp b 19 0 [x0, .int x1, x2] [] H (j_k (b + 1) 20 12 [x0, .int x1, x2] [] Q) := Eq.trans (s_aload_n r20_6 rfl (j_isr_vc h0 rfl)) (Eq.trans (s_iload_n r20_7 rfl) (Eq.trans (s_aload_n r20_8 rfl h1) (j_cll (as := [x0, .int x1, x2]) (es := [x0, .int x1, x2]) (s_c3 r20_9 rfl h0 rfl rfl rfl (j_dok (s := [x2, .int x1, x0]) (as := [x0, .int x1, x2]) (rest := []) (es := [x0, .int x1, x2]) rfl rfl rfl rfl (j_slc (j_c1r (j_isr_vc h0 rfl)) (j_slc rfl (j_slc (j_c1r h1) rfl))) rfl)) (j_slc (j_c1r (j_isr_vc h0 rfl)) (j_slc rfl (j_slc (j_c1r h1) rfl))) rfl)))
theorem b20_6_2 {b : Nat} {x0 : Value} {x1 : Int32} {x2 : Value} {H : j_H} {Q : Option Value → j_H → Prop} (h0 : j_vc H x0 = 2) (h1 : j_isr x2 = true) : j_wp (b + 1) 20 6 [x0, .int x1, x2] [] H Q = j_wp b 19 0 [x0, .int x1, x2] [] H (j_k (b + 1) 20 12 [x0, .int x1, x2] [] Q) := Eq.trans (s_aload_n r20_6 rfl (j_isr_vc h0 rfl)) (Eq.trans (s_iload_n r20_7 rfl) (Eq.trans (s_aload_n r20_8 rfl h1) (j_cll (as := [x0, .int x1, x2]) (es := [x0, .int x1, x2]) (s_c3 r20_9 rfl h0 rfl rfl rfl (j_dok (s := [x2, .int x1, x0]) (as := [x0, .int x1, x2]) (rest := []) (es := [x0, .int x1, x2]) rfl rfl rfl rfl (j_slc (j_c1r (j_isr_vc h0 rfl)) (j_slc rfl (j_slc (j_c1r h1) rfl))) rfl)) (j_slc (j_c1r (j_isr_vc h0 rfl)) (j_slc rfl (j_slc (j_c1r h1) rfl))) rfl)))
theorem b20_6_4 {b : Nat} {x0 : Value} {x1 : Int32} {x2 : Value} {H : j_H} {Q : Option Value → j_H → Prop} (h0 : j_vc H x0 = 4) (h1 : j_isr x2 = true) : j_wp (b + 1) 20 6 [x0, .int x1, x2] [] H Q = j_wp b 38 0 [x0, .int x1, x2] [] H (j_k (b + 1) 20 12 [x0, .int x1, x2] [] Q) := Eq.trans (s_aload_n r20_6 rfl (j_isr_vc h0 rfl)) (Eq.trans (s_iload_n r20_7 rfl) (Eq.trans (s_aload_n r20_8 rfl h1) (j_cll (as := [x0, .int x1, x2]) (es := [x0, .int x1, x2]) (s_c3 r20_9 rfl h0 rfl rfl rfl (j_dok (s := [x2, .int x1, x0]) (as := [x0, .int x1, x2]) (rest := []) (es := [x0, .int x1, x2]) rfl rfl rfl rfl (j_slc (j_c1r (j_isr_vc h0 rfl)) (j_slc rfl (j_slc (j_c1r h1) rfl))) rfl)) (j_slc (j_c1r (j_isr_vc h0 rfl)) (j_slc rfl (j_slc (j_c1r h1) rfl))) rfl)))
theorem b20_6_5 {b : Nat} {x0 : Value} {x1 : Int32} {x2 : Value} {H : j_H} {Q : Option Value → j_H → Prop} (h0 : j_vc H x0 = 5) (h1 : j_isr x2 = true) : j_wp (b + 1) 20 6 [x0, .int x1, x2] [] H Q = j_wp b 19 0 [x0, .int x1, x2] [] H (j_k (b + 1) 20 12 [x0, .int x1, x2] [] Q) := Eq.trans (s_aload_n r20_6 rfl (j_isr_vc h0 rfl)) (Eq.trans (s_iload_n r20_7 rfl) (Eq.trans (s_aload_n r20_8 rfl h1) (j_cll (as := [x0, .int x1, x2]) (es := [x0, .int x1, x2]) (s_c3 r20_9 rfl h0 rfl rfl rfl (j_dok (s := [x2, .int x1, x0]) (as := [x0, .int x1, x2]) (rest := []) (es := [x0, .int x1, x2]) rfl rfl rfl rfl (j_slc (j_c1r (j_isr_vc h0 rfl)) (j_slc rfl (j_slc (j_c1r h1) rfl))) rfl)) (j_slc (j_c1r (j_isr_vc h0 rfl)) (j_slc rfl (j_slc (j_c1r h1) rfl))) rfl)))
theorem b20_6_6 {b : Nat} {x0 : Value} {x1 : Int32} {x2 : Value} {H : j_H} {Q : Option Value → j_H → Prop} (h0 : j_vc H x0 = 6) (h1 : j_isr x2 = true) : j_wp (b + 1) 20 6 [x0, .int x1, x2] [] H Q = j_wp b 19 0 [x0, .int x1, x2] [] H (j_k (b + 1) 20 12 [x0, .int x1, x2] [] Q) := Eq.trans (s_aload_n r20_6 rfl (j_isr_vc h0 rfl)) (Eq.trans (s_iload_n r20_7 rfl) (Eq.trans (s_aload_n r20_8 rfl h1) (j_cll (as := [x0, .int x1, x2]) (es := [x0, .int x1, x2]) (s_c3 r20_9 rfl h0 rfl rfl rfl (j_dok (s := [x2, .int x1, x0]) (as := [x0, .int x1, x2]) (rest := []) (es := [x0, .int x1, x2]) rfl rfl rfl rfl (j_slc (j_c1r (j_isr_vc h0 rfl)) (j_slc rfl (j_slc (j_c1r h1) rfl))) rfl)) (j_slc (j_c1r (j_isr_vc h0 rfl)) (j_slc rfl (j_slc (j_c1r h1) rfl))) rfl)))
theorem b20_6_7 {b : Nat} {x0 : Value} {x1 : Int32} {x2 : Value} {H : j_H} {Q : Option Value → j_H → Prop} (h0 : j_vc H x0 = 7) (h1 : j_isr x2 = true) : j_wp (b + 1) 20 6 [x0, .int x1, x2] [] H Q = j_wp b 48 0 [x0, .int x1, x2] [] H (j_k (b + 1) 20 12 [x0, .int x1, x2] [] Q) := Eq.trans (s_aload_n r20_6 rfl (j_isr_vc h0 rfl)) (Eq.trans (s_iload_n r20_7 rfl) (Eq.trans (s_aload_n r20_8 rfl h1) (j_cll (as := [x0, .int x1, x2]) (es := [x0, .int x1, x2]) (s_c3 r20_9 rfl h0 rfl rfl rfl (j_dok (s := [x2, .int x1, x0]) (as := [x0, .int x1, x2]) (rest := []) (es := [x0, .int x1, x2]) rfl rfl rfl rfl (j_slc (j_c1r (j_isr_vc h0 rfl)) (j_slc rfl (j_slc (j_c1r h1) rfl))) rfl)) (j_slc (j_c1r (j_isr_vc h0 rfl)) (j_slc rfl (j_slc (j_c1r h1) rfl))) rfl)))
theorem b20_6_9 {b : Nat} {x0 : Value} {x1 : Int32} {x2 : Value} {H : j_H} {Q : Option Value → j_H → Prop} (h0 : j_vc H x0 = 9) (h1 : j_isr x2 = true) : j_wp (b + 1) 20 6 [x0, .int x1, x2] [] H Q = j_wp b 59 0 [x0, .int x1, x2] [] H (j_k (b + 1) 20 12 [x0, .int x1, x2] [] Q) := Eq.trans (s_aload_n r20_6 rfl (j_isr_vc h0 rfl)) (Eq.trans (s_iload_n r20_7 rfl) (Eq.trans (s_aload_n r20_8 rfl h1) (j_cll (as := [x0, .int x1, x2]) (es := [x0, .int x1, x2]) (s_c3 r20_9 rfl h0 rfl rfl rfl (j_dok (s := [x2, .int x1, x0]) (as := [x0, .int x1, x2]) (rest := []) (es := [x0, .int x1, x2]) rfl rfl rfl rfl (j_slc (j_c1r (j_isr_vc h0 rfl)) (j_slc rfl (j_slc (j_c1r h1) rfl))) rfl)) (j_slc (j_c1r (j_isr_vc h0 rfl)) (j_slc rfl (j_slc (j_c1r h1) rfl))) rfl)))
theorem b20_12 {b : Nat} {x0 : Value} {x1 : Int32} {x2 : Value} {y0 : Int32} {H : j_H} {Q : Option Value → j_H → Prop}  : j_wp b 20 12 [x0, .int x1, x2] [.int y0] H Q = Q (some (.int (y0 * (Int32.ofInt 2)))) H := Eq.trans (s_iconst r20_12) (Eq.trans (s_imul r20_13) (s_ireturn r20_14 (j_rok1 rfl)))
-- X3_init
theorem r21_0 : j_at 21 0 = some (0, .aload_n 0, 1, []) := by decide +kernel
theorem r21_1 : j_at 21 1 = some (1, .invokespecial 3, 3, [5, 1, 141, 97, 98]) := by decide +kernel
theorem r21_4 : j_at 21 4 = some (4, .aload_n 0, 1, []) := by decide +kernel
theorem r21_5 : j_at 21 5 = some (5, .iconst 1, 1, []) := by decide +kernel
theorem r21_6 : j_at 21 6 = some (6, .putfield 9, 3, [142, 3, 0, 0, 0, 0, 3]) := by decide +kernel
theorem r21_9 : j_at 21 9 = some (9, .aload_n 0, 1, []) := by decide +kernel
theorem r21_10 : j_at 21 10 = some (10, .bipush 10, 2, []) := by decide +kernel
theorem r21_12 : j_at 21 12 = some (12, .newarray .int, 2, [136, 0]) := by decide +kernel
theorem r21_14 : j_at 21 14 = some (14, .putfield 15, 3, [146, 3, 2, 2, 0, 1, 3]) := by decide +kernel
theorem r21_17 : j_at 21 17 = some (17, .aload_n 0, 1, []) := by decide +kernel
theorem r21_18 : j_at 21 18 = some (18, .bipush 10, 2, []) := by decide +kernel
theorem r21_20 : j_at 21 20 = some (20, .newarray .int, 2, [136, 0]) := by decide +kernel
theorem r21_22 : j_at 21 22 = some (22, .putfield 19, 3, [147, 3, 2, 3, 0, 1, 3]) := by decide +kernel
theorem r21_25 : j_at 21 25 = some (25, .aload_n 0, 1, []) := by decide +kernel
theorem r21_26 : j_at 21 26 = some (26, .bipush 10, 2, []) := by decide +kernel
theorem r21_28 : j_at 21 28 = some (28, .newarray .int, 2, [136, 0]) := by decide +kernel
theorem r21_30 : j_at 21 30 = some (30, .putfield 22, 3, [148, 3, 2, 4, 0, 1, 3]) := by decide +kernel
theorem r21_33 : j_at 21 33 = some (33, .aload_n 0, 1, []) := by decide +kernel
theorem r21_34 : j_at 21 34 = some (34, .bipush 100, 2, []) := by decide +kernel
theorem r21_36 : j_at 21 36 = some (36, .newarray .int, 2, [136, 0]) := by decide +kernel
theorem r21_38 : j_at 21 38 = some (38, .putfield 25, 3, [150, 3, 2, 6, 0, 1, 3]) := by decide +kernel
theorem r21_41 : j_at 21 41 = some (41, .aload_n 0, 1, []) := by decide +kernel
theorem r21_42 : j_at 21 42 = some (42, .bipush 6, 2, []) := by decide +kernel
theorem r21_44 : j_at 21 44 = some (44, .newarray .int, 2, [136, 0]) := by decide +kernel
theorem r21_46 : j_at 21 46 = some (46, .putfield 28, 3, [152, 3, 2, 8, 0, 1, 3]) := by decide +kernel
theorem r21_49 : j_at 21 49 = some (49, .return_, 1, []) := by decide +kernel
theorem b21_0 {b : Nat} {x0 : Value} {H : j_H} {Q : Option Value → j_H → Prop} (h0 : j_vc H x0 = 3) (h1 : ¬ (x0 : Value) = .ref 11) : j_wp b 21 0 [x0] [] H Q = j_wp b 21 9 [x0] [] (j_sI H (j_pa x0) 0 (Int32.ofInt 1)) Q := Eq.trans (s_aload_n r21_0 rfl (j_isr_vc h0 rfl)) (Eq.trans (s_oinit r21_1 (j_vc_lt h0 rfl) h1 rfl) (Eq.trans (s_aload_n r21_4 rfl (j_isr_vc h0 rfl)) (Eq.trans (s_iconst r21_5) (s_put r21_6 (j_al1 h0 rfl) rfl j_putI))))
theorem b21_9 {b : Nat} {x0 : Value} {H : j_H} {Q : Option Value → j_H → Prop} (h0 : j_vc H x0 = 3) : j_wp b 21 9 [x0] [] H Q = j_wp b 21 17 [x0] [] (j_sR (j_nw H (.inr (0, j_ix (Int32.ofInt 10)))) (j_pa x0) 2 (some H.1.length)) Q := Eq.trans (s_aload_n r21_9 rfl (j_isr_vc h0 rfl)) (Eq.trans (s_bipush r21_10) (Eq.trans (s_newa r21_12 (by decide)) (s_put r21_14 (j_al1 (j_vcn h0) rfl) rfl (j_putR rfl))))
theorem b21_17 {b : Nat} {x0 : Value} {H : j_H} {Q : Option Value → j_H → Prop} (h0 : j_vc H x0 = 3) : j_wp b 21 17 [x0] [] H Q = j_wp b 21 25 [x0] [] (j_sR (j_nw H (.inr (0, j_ix (Int32.ofInt 10)))) (j_pa x0) 3 (some H.1.length)) Q := Eq.trans (s_aload_n r21_17 rfl (j_isr_vc h0 rfl)) (Eq.trans (s_bipush r21_18) (Eq.trans (s_newa r21_20 (by decide)) (s_put r21_22 (j_al1 (j_vcn h0) rfl) rfl (j_putR rfl))))
theorem b21_25 {b : Nat} {x0 : Value} {H : j_H} {Q : Option Value → j_H → Prop} (h0 : j_vc H x0 = 3) : j_wp b 21 25 [x0] [] H Q = j_wp b 21 33 [x0] [] (j_sR (j_nw H (.inr (0, j_ix (Int32.ofInt 10)))) (j_pa x0) 4 (some H.1.length)) Q := Eq.trans (s_aload_n r21_25 rfl (j_isr_vc h0 rfl)) (Eq.trans (s_bipush r21_26) (Eq.trans (s_newa r21_28 (by decide)) (s_put r21_30 (j_al1 (j_vcn h0) rfl) rfl (j_putR rfl))))
theorem b21_33 {b : Nat} {x0 : Value} {H : j_H} {Q : Option Value → j_H → Prop} (h0 : j_vc H x0 = 3) : j_wp b 21 33 [x0] [] H Q = j_wp b 21 41 [x0] [] (j_sR (j_nw H (.inr (0, j_ix (Int32.ofInt 100)))) (j_pa x0) 6 (some H.1.length)) Q := Eq.trans (s_aload_n r21_33 rfl (j_isr_vc h0 rfl)) (Eq.trans (s_bipush r21_34) (Eq.trans (s_newa r21_36 (by decide)) (s_put r21_38 (j_al1 (j_vcn h0) rfl) rfl (j_putR rfl))))
theorem b21_41 {b : Nat} {x0 : Value} {H : j_H} {Q : Option Value → j_H → Prop} (h0 : j_vc H x0 = 3) : j_wp b 21 41 [x0] [] H Q = j_wp b 21 49 [x0] [] (j_sR (j_nw H (.inr (0, j_ix (Int32.ofInt 6)))) (j_pa x0) 8 (some H.1.length)) Q := Eq.trans (s_aload_n r21_41 rfl (j_isr_vc h0 rfl)) (Eq.trans (s_bipush r21_42) (Eq.trans (s_newa r21_44 (by decide)) (s_put r21_46 (j_al1 (j_vcn h0) rfl) rfl (j_putR rfl))))
theorem b21_49 {b : Nat} {x0 : Value} {H : j_H} {Q : Option Value → j_H → Prop}  : j_wp b 21 49 [x0] [] H Q = Q none H := s_return r21_49 rfl
-- X3_parse
theorem r22_0 : j_at 22 0 = some (0, .aload_n 0, 1, []) := by decide +kernel
theorem r22_1 : j_at 22 1 = some (1, .aload_n 1, 1, []) := by decide +kernel
theorem r22_2 : j_at 22 2 = some (2, .putfield 31, 3, [153, 3, 2, 9, 0, 0, 3]) := by decide +kernel
theorem r22_5 : j_at 22 5 = some (5, .aload_n 0, 1, []) := by decide +kernel
theorem r22_6 : j_at 22 6 = some (6, .iload_n 2, 1, []) := by decide +kernel
theorem r22_7 : j_at 22 7 = some (7, .putfield 35, 3, [154, 3, 0, 10, 0, 0, 3]) := by decide +kernel
theorem r22_10 : j_at 22 10 = some (10, .aload_n 0, 1, []) := by decide +kernel
theorem r22_11 : j_at 22 11 = some (11, .iconst 0, 1, []) := by decide +kernel
theorem r22_12 : j_at 22 12 = some (12, .putfield 38, 3, [155, 3, 0, 11, 0, 0, 3]) := by decide +kernel
theorem r22_15 : j_at 22 15 = some (15, .aload_n 0, 1, []) := by decide +kernel
theorem r22_16 : j_at 22 16 = some (16, .iconst 1, 1, []) := by decide +kernel
theorem r22_17 : j_at 22 17 = some (17, .putfield 9, 3, [142, 3, 0, 0, 0, 0, 3]) := by decide +kernel
theorem r22_20 : j_at 22 20 = some (20, .aload_n 0, 1, []) := by decide +kernel
theorem r22_21 : j_at 22 21 = some (21, .iconst 0, 1, []) := by decide +kernel
theorem r22_22 : j_at 22 22 = some (22, .putfield 41, 3, [144, 3, 3, 1, 0, 0, 3]) := by decide +kernel
theorem r22_25 : j_at 22 25 = some (25, .aload_n 0, 1, []) := by decide +kernel
theorem r22_26 : j_at 22 26 = some (26, .iconst 0, 1, []) := by decide +kernel
theorem r22_27 : j_at 22 27 = some (27, .putfield 45, 3, [149, 3, 0, 5, 0, 0, 3]) := by decide +kernel
theorem r22_30 : j_at 22 30 = some (30, .aload_n 0, 1, []) := by decide +kernel
theorem r22_31 : j_at 22 31 = some (31, .iconst 0, 1, []) := by decide +kernel
theorem r22_32 : j_at 22 32 = some (32, .putfield 48, 3, [151, 3, 0, 7, 0, 0, 3]) := by decide +kernel
theorem r22_35 : j_at 22 35 = some (35, .iconst 1, 1, []) := by decide +kernel
theorem r22_36 : j_at 22 36 = some (36, .istore_n 3, 1, []) := by decide +kernel
theorem r22_37 : j_at 22 37 = some (37, .iload_n 3, 1, []) := by decide +kernel
theorem r22_38 : j_at 22 38 = some (38, .bipush 10, 2, []) := by decide +kernel
theorem r22_40 : j_at 22 40 = some (40, .if_icmp .gt 51, 3, []) := by decide +kernel
theorem r22_43 : j_at 22 43 = some (43, .aload_n 0, 1, []) := by decide +kernel
theorem r22_44 : j_at 22 44 = some (44, .invokevirtual 51, 3, [2, 1, 25, 416, 417, 2, 74, 0, 3]) := by decide +kernel
theorem r22_47 : j_at 22 47 = some (47, .ifCond .ne 8, 3, []) := by decide +kernel
theorem r22_50 : j_at 22 50 = some (50, .aload_n 0, 1, []) := by decide +kernel
theorem r22_51 : j_at 22 51 = some (51, .getfield 38, 3, [155, 3, 0, 11, 0, 3]) := by decide +kernel
theorem r22_54 : j_at 22 54 = some (54, .ireturn, 1, []) := by decide +kernel
theorem r22_55 : j_at 22 55 = some (55, .aload_n 0, 1, []) := by decide +kernel
theorem r22_56 : j_at 22 56 = some (56, .invokevirtual 55, 3, [2, 1, 30, 418, 419, 3, 74, 0, 3]) := by decide +kernel
theorem r22_59 : j_at 22 59 = some (59, .iconst (-1), 1, []) := by decide +kernel
theorem r22_60 : j_at 22 60 = some (60, .if_icmp .ne 5, 3, []) := by decide +kernel
theorem r22_63 : j_at 22 63 = some (63, .iconst (-1), 1, []) := by decide +kernel
theorem r22_64 : j_at 22 64 = some (64, .ireturn, 1, []) := by decide +kernel
theorem r22_65 : j_at 22 65 = some (65, .iload_n 3, 1, []) := by decide +kernel
theorem r22_66 : j_at 22 66 = some (66, .bipush 10, 2, []) := by decide +kernel
theorem r22_68 : j_at 22 68 = some (68, .if_icmp .eq 12, 3, []) := by decide +kernel
theorem r22_71 : j_at 22 71 = some (71, .aload_n 0, 1, []) := by decide +kernel
theorem r22_72 : j_at 22 72 = some (72, .bipush 59, 2, []) := by decide +kernel
theorem r22_74 : j_at 22 74 = some (74, .invokevirtual 59, 3, [2, 2, 31, 449, 450, 5, 74, 0, 3]) := by decide +kernel
theorem r22_77 : j_at 22 77 = some (77, .ifCond .ne 8, 3, []) := by decide +kernel
theorem r22_80 : j_at 22 80 = some (80, .aload_n 0, 1, []) := by decide +kernel
theorem r22_81 : j_at 22 81 = some (81, .getfield 38, 3, [155, 3, 0, 11, 0, 3]) := by decide +kernel
theorem r22_84 : j_at 22 84 = some (84, .ireturn, 1, []) := by decide +kernel
theorem r22_85 : j_at 22 85 = some (85, .iinc 3 1, 3, []) := by decide +kernel
theorem r22_88 : j_at 22 88 = some (88, .goto (-51), 3, []) := by decide +kernel
theorem r22_91 : j_at 22 91 = some (91, .aload_n 0, 1, []) := by decide +kernel
theorem r22_92 : j_at 22 92 = some (92, .getfield 38, 3, [155, 3, 0, 11, 0, 3]) := by decide +kernel
theorem r22_95 : j_at 22 95 = some (95, .ireturn, 1, []) := by decide +kernel
theorem b22_0 {b : Nat} {x0 : Value} {x1 : Value} {x2 : Int32} {u3 : Value} {H : j_H} {Q : Option Value → j_H → Prop} (h0 : j_vc H x0 = 3) (h1 : j_isr x1 = true) : j_wp b 22 0 [x0, x1, .int x2, u3] [] H Q = j_wp b 22 5 [x0, x1, .int x2, u3] [] (j_sR H (j_pa x0) 9 (j_po x1)) Q := Eq.trans (s_aload_n r22_0 rfl (j_isr_vc h0 rfl)) (Eq.trans (s_aload_n r22_1 rfl h1) (s_put r22_2 (j_al1 h0 rfl) rfl (j_putR h1)))
theorem b22_5 {b : Nat} {x0 : Value} {x1 : Value} {x2 : Int32} {u3 : Value} {H : j_H} {Q : Option Value → j_H → Prop} (h0 : j_vc H x0 = 3) : j_wp b 22 5 [x0, x1, .int x2, u3] [] H Q = j_wp b 22 10 [x0, x1, .int x2, u3] [] (j_sI H (j_pa x0) 10 x2) Q := Eq.trans (s_aload_n r22_5 rfl (j_isr_vc h0 rfl)) (Eq.trans (s_iload_n r22_6 rfl) (s_put r22_7 (j_al1 h0 rfl) rfl j_putI))
theorem b22_10 {b : Nat} {x0 : Value} {x1 : Value} {x2 : Int32} {u3 : Value} {H : j_H} {Q : Option Value → j_H → Prop} (h0 : j_vc H x0 = 3) : j_wp b 22 10 [x0, x1, .int x2, u3] [] H Q = j_wp b 22 15 [x0, x1, .int x2, u3] [] (j_sI H (j_pa x0) 11 (Int32.ofInt 0)) Q := Eq.trans (s_aload_n r22_10 rfl (j_isr_vc h0 rfl)) (Eq.trans (s_iconst r22_11) (s_put r22_12 (j_al1 h0 rfl) rfl j_putI))
theorem b22_15 {b : Nat} {x0 : Value} {x1 : Value} {x2 : Int32} {u3 : Value} {H : j_H} {Q : Option Value → j_H → Prop} (h0 : j_vc H x0 = 3) : j_wp b 22 15 [x0, x1, .int x2, u3] [] H Q = j_wp b 22 20 [x0, x1, .int x2, u3] [] (j_sI H (j_pa x0) 0 (Int32.ofInt 1)) Q := Eq.trans (s_aload_n r22_15 rfl (j_isr_vc h0 rfl)) (Eq.trans (s_iconst r22_16) (s_put r22_17 (j_al1 h0 rfl) rfl j_putI))
theorem b22_20 {b : Nat} {x0 : Value} {x1 : Value} {x2 : Int32} {u3 : Value} {H : j_H} {Q : Option Value → j_H → Prop} (h0 : j_vc H x0 = 3) : j_wp b 22 20 [x0, x1, .int x2, u3] [] H Q = j_wp b 22 25 [x0, x1, .int x2, u3] [] (j_sI H (j_pa x0) 1 (Int32.ofInt 0)) Q := Eq.trans (s_aload_n r22_20 rfl (j_isr_vc h0 rfl)) (Eq.trans (s_iconst r22_21) (s_put r22_22 (j_al1 h0 rfl) rfl (j_putZ (j_b01 (z := 0) rfl (by decide)))))
theorem b22_25 {b : Nat} {x0 : Value} {x1 : Value} {x2 : Int32} {u3 : Value} {H : j_H} {Q : Option Value → j_H → Prop} (h0 : j_vc H x0 = 3) : j_wp b 22 25 [x0, x1, .int x2, u3] [] H Q = j_wp b 22 30 [x0, x1, .int x2, u3] [] (j_sI H (j_pa x0) 5 (Int32.ofInt 0)) Q := Eq.trans (s_aload_n r22_25 rfl (j_isr_vc h0 rfl)) (Eq.trans (s_iconst r22_26) (s_put r22_27 (j_al1 h0 rfl) rfl j_putI))
theorem b22_30 {b : Nat} {x0 : Value} {x1 : Value} {x2 : Int32} {u3 : Value} {H : j_H} {Q : Option Value → j_H → Prop} (h0 : j_vc H x0 = 3) : j_wp b 22 30 [x0, x1, .int x2, u3] [] H Q = j_wp b 22 35 [x0, x1, .int x2, u3] [] (j_sI H (j_pa x0) 7 (Int32.ofInt 0)) Q := Eq.trans (s_aload_n r22_30 rfl (j_isr_vc h0 rfl)) (Eq.trans (s_iconst r22_31) (s_put r22_32 (j_al1 h0 rfl) rfl j_putI))
theorem b22_35 {b : Nat} {x0 : Value} {x1 : Value} {x2 : Int32} {u3 : Value} {H : j_H} {Q : Option Value → j_H → Prop}  : j_wp b 22 35 [x0, x1, .int x2, u3] [] H Q = j_wp b 22 37 [x0, x1, .int x2, .int (Int32.ofInt 1)] [] H Q := Eq.trans (s_iconst r22_35) (s_istore_n r22_36 (Nat.le_of_ble_eq_true rfl) rfl)
theorem b22_37 {b : Nat} {x0 : Value} {x1 : Value} {x2 : Int32} {x3 : Int32} {H : j_H} {Q : Option Value → j_H → Prop}  : j_wp b 22 37 [x0, x1, .int x2, .int x3] [] H Q = (if 10 < x3.toInt then j_wp b 22 91 [x0, x1, .int x2, .int x3] [] H Q else j_wp b 22 43 [x0, x1, .int x2, .int x3] [] H Q) := Eq.trans (s_iload_n r22_37 rfl) (Eq.trans (s_bipush r22_38) (s_icgt r22_40 rfl rfl rfl))
theorem b22_43 {b : Nat} {x0 : Value} {x1 : Value} {x2 : Int32} {x3 : Int32} {H : j_H} {Q : Option Value → j_H → Prop} (h0 : j_vc H x0 = 3) : j_wp (b + 1) 22 43 [x0, x1, .int x2, .int x3] [] H Q = j_wp b 25 0 [x0, j_u, j_u, j_u] [] H (j_k (b + 1) 22 47 [x0, x1, .int x2, .int x3] [] Q) := Eq.trans (s_aload_n r22_43 rfl (j_isr_vc h0 rfl)) (j_cll (as := [x0]) (es := [x0]) (s_c2 r22_44 rfl h0 rfl rfl (j_dok (s := [x0]) (as := [x0]) (rest := []) (es := [x0]) rfl rfl rfl rfl (j_slc (j_c1r (j_isr_vc h0 rfl)) rfl) rfl)) (j_slc (j_c1r (j_isr_vc h0 rfl)) rfl) rfl)
theorem b22_47 {b : Nat} {x0 : Value} {x1 : Value} {x2 : Int32} {x3 : Int32} {y0 : Int32} {H : j_H} {Q : Option Value → j_H → Prop}  : j_wp b 22 47 [x0, x1, .int x2, .int x3] [.int y0] H Q = (if ¬ y0.toInt = 0 then j_wp b 22 55 [x0, x1, .int x2, .int x3] [] H Q else j_wp b 22 50 [x0, x1, .int x2, .int x3] [] H Q) := s_ifne r22_47 rfl rfl
theorem b22_50 {b : Nat} {x0 : Value} {x1 : Value} {x2 : Int32} {x3 : Int32} {H : j_H} {Q : Option Value → j_H → Prop} (h0 : j_vc H x0 = 3) : j_wp b 22 50 [x0, x1, .int x2, .int x3] [] H Q = Q (some (.int (j_I H (j_pa x0) 11))) H := Eq.trans (s_aload_n r22_50 rfl (j_isr_vc h0 rfl)) (Eq.trans (s_getfi r22_51 (j_al1 h0 rfl) rfl rfl rfl) (s_ireturn r22_54 (j_rok1 rfl)))
theorem b22_55 {b : Nat} {x0 : Value} {x1 : Value} {x2 : Int32} {x3 : Int32} {H : j_H} {Q : Option Value → j_H → Prop} (h0 : j_vc H x0 = 3) : j_wp (b + 1) 22 55 [x0, x1, .int x2, .int x3] [] H Q = j_wp b 30 0 [x0] [] H (j_k (b + 1) 22 59 [x0, x1, .int x2, .int x3] [] Q) := Eq.trans (s_aload_n r22_55 rfl (j_isr_vc h0 rfl)) (j_cll (as := [x0]) (es := [x0]) (s_c2 r22_56 rfl h0 rfl rfl (j_dok (s := [x0]) (as := [x0]) (rest := []) (es := [x0]) rfl rfl rfl rfl (j_slc (j_c1r (j_isr_vc h0 rfl)) rfl) rfl)) (j_slc (j_c1r (j_isr_vc h0 rfl)) rfl) rfl)
theorem b22_59 {b : Nat} {x0 : Value} {x1 : Value} {x2 : Int32} {x3 : Int32} {y0 : Int32} {H : j_H} {Q : Option Value → j_H → Prop}  : j_wp b 22 59 [x0, x1, .int x2, .int x3] [.int y0] H Q = (if ¬ y0.toInt = (-1) then j_wp b 22 65 [x0, x1, .int x2, .int x3] [] H Q else j_wp b 22 63 [x0, x1, .int x2, .int x3] [] H Q) := Eq.trans (s_iconst r22_59) (s_icne r22_60 rfl rfl rfl)
theorem b22_63 {b : Nat} {x0 : Value} {x1 : Value} {x2 : Int32} {x3 : Int32} {H : j_H} {Q : Option Value → j_H → Prop}  : j_wp b 22 63 [x0, x1, .int x2, .int x3] [] H Q = Q (some (.int (Int32.ofInt (-1)))) H := Eq.trans (s_iconst r22_63) (s_ireturn r22_64 (j_rok1 rfl))
theorem b22_65 {b : Nat} {x0 : Value} {x1 : Value} {x2 : Int32} {x3 : Int32} {H : j_H} {Q : Option Value → j_H → Prop}  : j_wp b 22 65 [x0, x1, .int x2, .int x3] [] H Q = (if x3.toInt = 10 then j_wp b 22 80 [x0, x1, .int x2, .int x3] [] H Q else j_wp b 22 71 [x0, x1, .int x2, .int x3] [] H Q) := Eq.trans (s_iload_n r22_65 rfl) (Eq.trans (s_bipush r22_66) (s_iceq r22_68 rfl rfl rfl))
theorem b22_71 {b : Nat} {x0 : Value} {x1 : Value} {x2 : Int32} {x3 : Int32} {H : j_H} {Q : Option Value → j_H → Prop} (h0 : j_vc H x0 = 3) : j_wp (b + 1) 22 71 [x0, x1, .int x2, .int x3] [] H Q = j_wp b 31 0 [x0, .int (Int32.ofInt 59)] [] H (j_k (b + 1) 22 77 [x0, x1, .int x2, .int x3] [] Q) := Eq.trans (s_aload_n r22_71 rfl (j_isr_vc h0 rfl)) (Eq.trans (s_bipush r22_72) (j_cll (as := [x0, .int (Int32.ofInt 59)]) (es := [x0, .int (Int32.ofInt 59)]) (s_c2 r22_74 rfl h0 rfl rfl (j_dok (s := [.int (Int32.ofInt 59), x0]) (as := [x0, .int (Int32.ofInt 59)]) (rest := []) (es := [x0, .int (Int32.ofInt 59)]) rfl rfl rfl rfl (j_slc (j_c1r (j_isr_vc h0 rfl)) rfl) rfl)) (j_slc (j_c1r (j_isr_vc h0 rfl)) rfl) rfl))
theorem b22_77 {b : Nat} {x0 : Value} {x1 : Value} {x2 : Int32} {x3 : Int32} {y0 : Int32} {H : j_H} {Q : Option Value → j_H → Prop}  : j_wp b 22 77 [x0, x1, .int x2, .int x3] [.int y0] H Q = (if ¬ y0.toInt = 0 then j_wp b 22 85 [x0, x1, .int x2, .int x3] [] H Q else j_wp b 22 80 [x0, x1, .int x2, .int x3] [] H Q) := s_ifne r22_77 rfl rfl
theorem b22_80 {b : Nat} {x0 : Value} {x1 : Value} {x2 : Int32} {x3 : Int32} {H : j_H} {Q : Option Value → j_H → Prop} (h0 : j_vc H x0 = 3) : j_wp b 22 80 [x0, x1, .int x2, .int x3] [] H Q = Q (some (.int (j_I H (j_pa x0) 11))) H := Eq.trans (s_aload_n r22_80 rfl (j_isr_vc h0 rfl)) (Eq.trans (s_getfi r22_81 (j_al1 h0 rfl) rfl rfl rfl) (s_ireturn r22_84 (j_rok1 rfl)))
theorem b22_85 {b : Nat} {x0 : Value} {x1 : Value} {x2 : Int32} {x3 : Int32} {H : j_H} {Q : Option Value → j_H → Prop}  : j_wp b 22 85 [x0, x1, .int x2, .int x3] [] H Q = j_wp b 22 37 [x0, x1, .int x2, .int (x3 + Int32.ofInt 1)] [] H Q := Eq.trans (s_iinc r22_85 rfl rfl) (s_goto r22_88 rfl)
theorem b22_91 {b : Nat} {x0 : Value} {x1 : Value} {x2 : Int32} {x3 : Int32} {H : j_H} {Q : Option Value → j_H → Prop} (h0 : j_vc H x0 = 3) : j_wp b 22 91 [x0, x1, .int x2, .int x3] [] H Q = Q (some (.int (j_I H (j_pa x0) 11))) H := Eq.trans (s_aload_n r22_91 rfl (j_isr_vc h0 rfl)) (Eq.trans (s_getfi r22_92 (j_al1 h0 rfl) rfl rfl rfl) (s_ireturn r22_95 (j_rok1 rfl)))
-- X3_sum
theorem r23_0 : j_at 23 0 = some (0, .aload_n 0, 1, []) := by decide +kernel
theorem r23_1 : j_at 23 1 = some (1, .getfield 28, 3, [152, 3, 2, 8, 0, 3]) := by decide +kernel
theorem r23_4 : j_at 23 4 = some (4, .iconst 0, 1, []) := by decide +kernel
theorem r23_5 : j_at 23 5 = some (5, .aload_n 2, 1, []) := by decide +kernel
theorem r23_6 : j_at 23 6 = some (6, .getfield 63, 3, [253, 2, 0, 1, 0, 1, 2, 4, 5, 6, 7, 9]) := by decide +kernel
theorem r23_9 : j_at 23 9 = some (9, .iastore, 1, []) := by decide +kernel
theorem r23_10 : j_at 23 10 = some (10, .aload_n 0, 1, []) := by decide +kernel
theorem r23_11 : j_at 23 11 = some (11, .getfield 28, 3, [152, 3, 2, 8, 0, 3]) := by decide +kernel
theorem r23_14 : j_at 23 14 = some (14, .iconst 1, 1, []) := by decide +kernel
theorem r23_15 : j_at 23 15 = some (15, .aload_n 2, 1, []) := by decide +kernel
theorem r23_16 : j_at 23 16 = some (16, .getfield 68, 3, [241, 2, 0, 0, 0, 1, 2, 4, 5, 6, 7, 9]) := by decide +kernel
theorem r23_19 : j_at 23 19 = some (19, .iastore, 1, []) := by decide +kernel
theorem r23_20 : j_at 23 20 = some (20, .aload_n 0, 1, []) := by decide +kernel
theorem r23_21 : j_at 23 21 = some (21, .getfield 28, 3, [152, 3, 2, 8, 0, 3]) := by decide +kernel
theorem r23_24 : j_at 23 24 = some (24, .iconst 2, 1, []) := by decide +kernel
theorem r23_25 : j_at 23 25 = some (25, .aload_n 2, 1, []) := by decide +kernel
theorem r23_26 : j_at 23 26 = some (26, .getfield 71, 3, [258, 2, 0, 2, 0, 1, 2, 4, 5, 6, 7, 9]) := by decide +kernel
theorem r23_29 : j_at 23 29 = some (29, .iastore, 1, []) := by decide +kernel
theorem r23_30 : j_at 23 30 = some (30, .aload_n 0, 1, []) := by decide +kernel
theorem r23_31 : j_at 23 31 = some (31, .getfield 28, 3, [152, 3, 2, 8, 0, 3]) := by decide +kernel
theorem r23_34 : j_at 23 34 = some (34, .iconst 3, 1, []) := by decide +kernel
theorem r23_35 : j_at 23 35 = some (35, .iload_n 3, 1, []) := by decide +kernel
theorem r23_36 : j_at 23 36 = some (36, .bipush 12, 2, []) := by decide +kernel
theorem r23_38 : j_at 23 38 = some (38, .irem, 1, []) := by decide +kernel
theorem r23_39 : j_at 23 39 = some (39, .iastore, 1, []) := by decide +kernel
theorem r23_40 : j_at 23 40 = some (40, .aload_n 0, 1, []) := by decide +kernel
theorem r23_41 : j_at 23 41 = some (41, .getfield 28, 3, [152, 3, 2, 8, 0, 3]) := by decide +kernel
theorem r23_44 : j_at 23 44 = some (44, .iconst 4, 1, []) := by decide +kernel
theorem r23_45 : j_at 23 45 = some (45, .aload_n 2, 1, []) := by decide +kernel
theorem r23_46 : j_at 23 46 = some (46, .getfield 74, 3, [267, 2, 0, 4, 0, 1, 2, 4, 5, 6, 7, 9]) := by decide +kernel
theorem r23_49 : j_at 23 49 = some (49, .iastore, 1, []) := by decide +kernel
theorem r23_50 : j_at 23 50 = some (50, .aload_n 0, 1, []) := by decide +kernel
theorem r23_51 : j_at 23 51 = some (51, .getfield 28, 3, [152, 3, 2, 8, 0, 3]) := by decide +kernel
theorem r23_54 : j_at 23 54 = some (54, .iconst 5, 1, []) := by decide +kernel
theorem r23_55 : j_at 23 55 = some (55, .iload 4, 2, []) := by decide +kernel
theorem r23_57 : j_at 23 57 = some (57, .iastore, 1, []) := by decide +kernel
theorem r23_58 : j_at 23 58 = some (58, .iconst 0, 1, []) := by decide +kernel
theorem r23_59 : j_at 23 59 = some (59, .istore 5, 2, []) := by decide +kernel
theorem r23_61 : j_at 23 61 = some (61, .iconst 0, 1, []) := by decide +kernel
theorem r23_62 : j_at 23 62 = some (62, .istore 6, 2, []) := by decide +kernel
theorem r23_64 : j_at 23 64 = some (64, .iconst 0, 1, []) := by decide +kernel
theorem r23_65 : j_at 23 65 = some (65, .istore 7, 2, []) := by decide +kernel
theorem r23_67 : j_at 23 67 = some (67, .iload 7, 2, []) := by decide +kernel
theorem r23_69 : j_at 23 69 = some (69, .aload_n 0, 1, []) := by decide +kernel
theorem r23_70 : j_at 23 70 = some (70, .getfield 45, 3, [149, 3, 0, 5, 0, 3]) := by decide +kernel
theorem r23_73 : j_at 23 73 = some (73, .if_icmp .ge 64, 3, []) := by decide +kernel
theorem r23_76 : j_at 23 76 = some (76, .iload 7, 2, []) := by decide +kernel
theorem r23_78 : j_at 23 78 = some (78, .bipush 10, 2, []) := by decide +kernel
theorem r23_80 : j_at 23 80 = some (80, .if_icmp .ge 57, 3, []) := by decide +kernel
theorem r23_83 : j_at 23 83 = some (83, .aload_n 0, 1, []) := by decide +kernel
theorem r23_84 : j_at 23 84 = some (84, .getfield 15, 3, [146, 3, 2, 2, 0, 3]) := by decide +kernel
theorem r23_87 : j_at 23 87 = some (87, .iload 7, 2, []) := by decide +kernel
theorem r23_89 : j_at 23 89 = some (89, .iaload, 1, []) := by decide +kernel
theorem r23_90 : j_at 23 90 = some (90, .iload_n 1, 1, []) := by decide +kernel
theorem r23_91 : j_at 23 91 = some (91, .if_icmp .ne 31, 3, []) := by decide +kernel
theorem r23_94 : j_at 23 94 = some (94, .aload_n 0, 1, []) := by decide +kernel
theorem r23_95 : j_at 23 95 = some (95, .iload 6, 2, []) := by decide +kernel
theorem r23_97 : j_at 23 97 = some (97, .aload_n 0, 1, []) := by decide +kernel
theorem r23_98 : j_at 23 98 = some (98, .getfield 22, 3, [148, 3, 2, 4, 0, 3]) := by decide +kernel
theorem r23_101 : j_at 23 101 = some (101, .iload 7, 2, []) := by decide +kernel
theorem r23_103 : j_at 23 103 = some (103, .iaload, 1, []) := by decide +kernel
theorem r23_104 : j_at 23 104 = some (104, .invokevirtual 77, 3, [2, 3, 24, 353, 354, 0, 74, 0, 3]) := by decide +kernel
theorem r23_107 : j_at 23 107 = some (107, .ifCond .eq 15, 3, []) := by decide +kernel
theorem r23_110 : j_at 23 110 = some (110, .iload 5, 2, []) := by decide +kernel
theorem r23_112 : j_at 23 112 = some (112, .aload_n 0, 1, []) := by decide +kernel
theorem r23_113 : j_at 23 113 = some (113, .getfield 19, 3, [147, 3, 2, 3, 0, 3]) := by decide +kernel
theorem r23_116 : j_at 23 116 = some (116, .iload 7, 2, []) := by decide +kernel
theorem r23_118 : j_at 23 118 = some (118, .iaload, 1, []) := by decide +kernel
theorem r23_119 : j_at 23 119 = some (119, .iadd, 1, []) := by decide +kernel
theorem r23_120 : j_at 23 120 = some (120, .istore 5, 2, []) := by decide +kernel
theorem r23_122 : j_at 23 122 = some (122, .aload_n 0, 1, []) := by decide +kernel
theorem r23_123 : j_at 23 123 = some (123, .getfield 22, 3, [148, 3, 2, 4, 0, 3]) := by decide +kernel
theorem r23_126 : j_at 23 126 = some (126, .iload 7, 2, []) := by decide +kernel
theorem r23_128 : j_at 23 128 = some (128, .iaload, 1, []) := by decide +kernel
theorem r23_129 : j_at 23 129 = some (129, .istore 6, 2, []) := by decide +kernel
theorem r23_131 : j_at 23 131 = some (131, .iinc 7 1, 3, []) := by decide +kernel
theorem r23_134 : j_at 23 134 = some (134, .goto (-67), 3, []) := by decide +kernel
theorem r23_137 : j_at 23 137 = some (137, .iload 5, 2, []) := by decide +kernel
theorem r23_139 : j_at 23 139 = some (139, .ireturn, 1, []) := by decide +kernel
theorem b23_0 {b : Nat} {x0 : Value} {x1 : Int32} {x2 : Value} {x3 : Int32} {x4 : Int32} {u5 : Value} {u6 : Value} {u7 : Value} {H : j_H} {Q : Option Value → j_H → Prop} (h0 : j_vc H x0 = 3) (h1 : [1, 2, 4, 5, 6, 7, 9].contains (j_vc H x2) = true) (h2 : j_vt H (va_rf (j_R H (j_pa x0) 8)) = 0) (h3 : 0 < ((j_vl H (va_rf (j_R H (j_pa x0) 8)) : Nat) : Int)) : j_wp b 23 0 [x0, .int x1, x2, .int x3, .int x4, u5, u6, u7] [] H Q = j_wp b 23 10 [x0, .int x1, x2, .int x3, .int x4, u5, u6, u7] [] (j_sI H (j_pa (va_rf (j_R H (j_pa x0) 8))) (j_ix (Int32.ofInt 0)) (j_I H (j_pa x2) 1)) Q := Eq.trans (s_aload_n r23_0 rfl (j_isr_vc h0 rfl)) (Eq.trans (s_getfr r23_1 (j_al1 h0 rfl) rfl) (Eq.trans (s_iconst r23_4) (Eq.trans (s_aload_n r23_5 rfl (j_isr_al h1 rfl)) (Eq.trans (s_getfi r23_6 h1 rfl rfl rfl) (s_iast r23_9 h2 (j_ib_of (z := 0) rfl (by decide) h3))))))
theorem b23_10 {b : Nat} {x0 : Value} {x1 : Int32} {x2 : Value} {x3 : Int32} {x4 : Int32} {u5 : Value} {u6 : Value} {u7 : Value} {H : j_H} {Q : Option Value → j_H → Prop} (h0 : j_vc H x0 = 3) (h1 : [1, 2, 4, 5, 6, 7, 9].contains (j_vc H x2) = true) (h2 : j_vt H (va_rf (j_R H (j_pa x0) 8)) = 0) (h3 : 1 < ((j_vl H (va_rf (j_R H (j_pa x0) 8)) : Nat) : Int)) : j_wp b 23 10 [x0, .int x1, x2, .int x3, .int x4, u5, u6, u7] [] H Q = j_wp b 23 20 [x0, .int x1, x2, .int x3, .int x4, u5, u6, u7] [] (j_sI H (j_pa (va_rf (j_R H (j_pa x0) 8))) (j_ix (Int32.ofInt 1)) (j_I H (j_pa x2) 0)) Q := Eq.trans (s_aload_n r23_10 rfl (j_isr_vc h0 rfl)) (Eq.trans (s_getfr r23_11 (j_al1 h0 rfl) rfl) (Eq.trans (s_iconst r23_14) (Eq.trans (s_aload_n r23_15 rfl (j_isr_al h1 rfl)) (Eq.trans (s_getfi r23_16 h1 rfl rfl rfl) (s_iast r23_19 h2 (j_ib_of (z := 1) rfl (by decide) h3))))))
theorem b23_20 {b : Nat} {x0 : Value} {x1 : Int32} {x2 : Value} {x3 : Int32} {x4 : Int32} {u5 : Value} {u6 : Value} {u7 : Value} {H : j_H} {Q : Option Value → j_H → Prop} (h0 : j_vc H x0 = 3) (h1 : [1, 2, 4, 5, 6, 7, 9].contains (j_vc H x2) = true) (h2 : j_vt H (va_rf (j_R H (j_pa x0) 8)) = 0) (h3 : 2 < ((j_vl H (va_rf (j_R H (j_pa x0) 8)) : Nat) : Int)) : j_wp b 23 20 [x0, .int x1, x2, .int x3, .int x4, u5, u6, u7] [] H Q = j_wp b 23 30 [x0, .int x1, x2, .int x3, .int x4, u5, u6, u7] [] (j_sI H (j_pa (va_rf (j_R H (j_pa x0) 8))) (j_ix (Int32.ofInt 2)) (j_I H (j_pa x2) 2)) Q := Eq.trans (s_aload_n r23_20 rfl (j_isr_vc h0 rfl)) (Eq.trans (s_getfr r23_21 (j_al1 h0 rfl) rfl) (Eq.trans (s_iconst r23_24) (Eq.trans (s_aload_n r23_25 rfl (j_isr_al h1 rfl)) (Eq.trans (s_getfi r23_26 h1 rfl rfl rfl) (s_iast r23_29 h2 (j_ib_of (z := 2) rfl (by decide) h3))))))
theorem b23_30 {b : Nat} {x0 : Value} {x1 : Int32} {x2 : Value} {x3 : Int32} {x4 : Int32} {u5 : Value} {u6 : Value} {u7 : Value} {H : j_H} {Q : Option Value → j_H → Prop} (h0 : j_vc H x0 = 3) (h1 : j_vt H (va_rf (j_R H (j_pa x0) 8)) = 0) (h2 : 3 < ((j_vl H (va_rf (j_R H (j_pa x0) 8)) : Nat) : Int)) : j_wp b 23 30 [x0, .int x1, x2, .int x3, .int x4, u5, u6, u7] [] H Q = j_wp b 23 40 [x0, .int x1, x2, .int x3, .int x4, u5, u6, u7] [] (j_sI H (j_pa (va_rf (j_R H (j_pa x0) 8))) (j_ix (Int32.ofInt 3)) (j_rem x3 (Int32.ofInt 12))) Q := Eq.trans (s_aload_n r23_30 rfl (j_isr_vc h0 rfl)) (Eq.trans (s_getfr r23_31 (j_al1 h0 rfl) rfl) (Eq.trans (s_iconst r23_34) (Eq.trans (s_iload_n r23_35 rfl) (Eq.trans (s_bipush r23_36) (Eq.trans (s_irem r23_38 (by decide)) (s_iast r23_39 h1 (j_ib_of (z := 3) rfl (by decide) h2)))))))
theorem b23_40 {b : Nat} {x0 : Value} {x1 : Int32} {x2 : Value} {x3 : Int32} {x4 : Int32} {u5 : Value} {u6 : Value} {u7 : Value} {H : j_H} {Q : Option Value → j_H → Prop} (h0 : j_vc H x0 = 3) (h1 : [1, 2, 4, 5, 6, 7, 9].contains (j_vc H x2) = true) (h2 : j_vt H (va_rf (j_R H (j_pa x0) 8)) = 0) (h3 : 4 < ((j_vl H (va_rf (j_R H (j_pa x0) 8)) : Nat) : Int)) : j_wp b 23 40 [x0, .int x1, x2, .int x3, .int x4, u5, u6, u7] [] H Q = j_wp b 23 50 [x0, .int x1, x2, .int x3, .int x4, u5, u6, u7] [] (j_sI H (j_pa (va_rf (j_R H (j_pa x0) 8))) (j_ix (Int32.ofInt 4)) (j_I H (j_pa x2) 4)) Q := Eq.trans (s_aload_n r23_40 rfl (j_isr_vc h0 rfl)) (Eq.trans (s_getfr r23_41 (j_al1 h0 rfl) rfl) (Eq.trans (s_iconst r23_44) (Eq.trans (s_aload_n r23_45 rfl (j_isr_al h1 rfl)) (Eq.trans (s_getfi r23_46 h1 rfl rfl rfl) (s_iast r23_49 h2 (j_ib_of (z := 4) rfl (by decide) h3))))))
theorem b23_50 {b : Nat} {x0 : Value} {x1 : Int32} {x2 : Value} {x3 : Int32} {x4 : Int32} {u5 : Value} {u6 : Value} {u7 : Value} {H : j_H} {Q : Option Value → j_H → Prop} (h0 : j_vc H x0 = 3) (h1 : j_vt H (va_rf (j_R H (j_pa x0) 8)) = 0) (h2 : 5 < ((j_vl H (va_rf (j_R H (j_pa x0) 8)) : Nat) : Int)) : j_wp b 23 50 [x0, .int x1, x2, .int x3, .int x4, u5, u6, u7] [] H Q = j_wp b 23 58 [x0, .int x1, x2, .int x3, .int x4, u5, u6, u7] [] (j_sI H (j_pa (va_rf (j_R H (j_pa x0) 8))) (j_ix (Int32.ofInt 5)) x4) Q := Eq.trans (s_aload_n r23_50 rfl (j_isr_vc h0 rfl)) (Eq.trans (s_getfr r23_51 (j_al1 h0 rfl) rfl) (Eq.trans (s_iconst r23_54) (Eq.trans (s_iload r23_55 rfl) (s_iast r23_57 h1 (j_ib_of (z := 5) rfl (by decide) h2)))))
theorem b23_58 {b : Nat} {x0 : Value} {x1 : Int32} {x2 : Value} {x3 : Int32} {x4 : Int32} {u5 : Value} {u6 : Value} {u7 : Value} {H : j_H} {Q : Option Value → j_H → Prop}  : j_wp b 23 58 [x0, .int x1, x2, .int x3, .int x4, u5, u6, u7] [] H Q = j_wp b 23 67 [x0, .int x1, x2, .int x3, .int x4, .int (Int32.ofInt 0), .int (Int32.ofInt 0), .int (Int32.ofInt 0)] [] H Q := Eq.trans (s_iconst r23_58) (Eq.trans (s_istore r23_59 (Nat.le_of_ble_eq_true rfl) rfl) (Eq.trans (s_iconst r23_61) (Eq.trans (s_istore r23_62 (Nat.le_of_ble_eq_true rfl) rfl) (Eq.trans (s_iconst r23_64) (s_istore r23_65 (Nat.le_of_ble_eq_true rfl) rfl)))))
theorem b23_67 {b : Nat} {x0 : Value} {x1 : Int32} {x2 : Value} {x3 : Int32} {x4 : Int32} {x5 : Int32} {x6 : Int32} {x7 : Int32} {H : j_H} {Q : Option Value → j_H → Prop} (h0 : j_vc H x0 = 3) : j_wp b 23 67 [x0, .int x1, x2, .int x3, .int x4, .int x5, .int x6, .int x7] [] H Q = (if (j_I H (j_pa x0) 5).toInt ≤ x7.toInt then j_wp b 23 137 [x0, .int x1, x2, .int x3, .int x4, .int x5, .int x6, .int x7] [] H Q else j_wp b 23 76 [x0, .int x1, x2, .int x3, .int x4, .int x5, .int x6, .int x7] [] H Q) := Eq.trans (s_iload r23_67 rfl) (Eq.trans (s_aload_n r23_69 rfl (j_isr_vc h0 rfl)) (Eq.trans (s_getfi r23_70 (j_al1 h0 rfl) rfl rfl rfl) (s_icge r23_73 rfl rfl rfl)))
theorem b23_76 {b : Nat} {x0 : Value} {x1 : Int32} {x2 : Value} {x3 : Int32} {x4 : Int32} {x5 : Int32} {x6 : Int32} {x7 : Int32} {H : j_H} {Q : Option Value → j_H → Prop}  : j_wp b 23 76 [x0, .int x1, x2, .int x3, .int x4, .int x5, .int x6, .int x7] [] H Q = (if 10 ≤ x7.toInt then j_wp b 23 137 [x0, .int x1, x2, .int x3, .int x4, .int x5, .int x6, .int x7] [] H Q else j_wp b 23 83 [x0, .int x1, x2, .int x3, .int x4, .int x5, .int x6, .int x7] [] H Q) := Eq.trans (s_iload r23_76 rfl) (Eq.trans (s_bipush r23_78) (s_icge r23_80 rfl rfl rfl))
theorem b23_83 {b : Nat} {x0 : Value} {x1 : Int32} {x2 : Value} {x3 : Int32} {x4 : Int32} {x5 : Int32} {x6 : Int32} {x7 : Int32} {H : j_H} {Q : Option Value → j_H → Prop} (h0 : j_vc H x0 = 3) (h1 : j_vt H (va_rf (j_R H (j_pa x0) 2)) = 0) (h2 : 0 ≤ x7.toInt) (h3 : x7.toInt < ((j_vl H (va_rf (j_R H (j_pa x0) 2)) : Nat) : Int)) : j_wp b 23 83 [x0, .int x1, x2, .int x3, .int x4, .int x5, .int x6, .int x7] [] H Q = (if ¬ (j_I H (j_pa (va_rf (j_R H (j_pa x0) 2))) (j_ix x7)).toInt = x1.toInt then j_wp b 23 122 [x0, .int x1, x2, .int x3, .int x4, .int x5, .int x6, .int x7] [] H Q else j_wp b 23 94 [x0, .int x1, x2, .int x3, .int x4, .int x5, .int x6, .int x7] [] H Q) := Eq.trans (s_aload_n r23_83 rfl (j_isr_vc h0 rfl)) (Eq.trans (s_getfr r23_84 (j_al1 h0 rfl) rfl) (Eq.trans (s_iload r23_87 rfl) (Eq.trans (s_iald r23_89 h1 (by decide) (j_ib_of (z := x7.toInt) rfl h2 h3)) (Eq.trans (s_iload_n r23_90 rfl) (s_icne r23_91 rfl rfl rfl)))))
theorem b23_94 {b : Nat} {x0 : Value} {x1 : Int32} {x2 : Value} {x3 : Int32} {x4 : Int32} {x5 : Int32} {x6 : Int32} {x7 : Int32} {H : j_H} {Q : Option Value → j_H → Prop} (h0 : j_vc H x0 = 3) (h1 : j_vt H (va_rf (j_R H (j_pa x0) 4)) = 0) (h2 : 0 ≤ x7.toInt) (h3 : x7.toInt < ((j_vl H (va_rf (j_R H (j_pa x0) 4)) : Nat) : Int)) : j_wp (b + 1) 23 94 [x0, .int x1, x2, .int x3, .int x4, .int x5, .int x6, .int x7] [] H Q = j_wp b 24 0 [x0, .int x6, .int (j_I H (j_pa (va_rf (j_R H (j_pa x0) 4))) (j_ix x7)), j_u, j_u, j_u, j_u, j_u, j_u, j_u, j_u, j_u] [] H (j_k (b + 1) 23 107 [x0, .int x1, x2, .int x3, .int x4, .int x5, .int x6, .int x7] [] Q) := Eq.trans (s_aload_n r23_94 rfl (j_isr_vc h0 rfl)) (Eq.trans (s_iload r23_95 rfl) (Eq.trans (s_aload_n r23_97 rfl (j_isr_vc h0 rfl)) (Eq.trans (s_getfr r23_98 (j_al1 h0 rfl) rfl) (Eq.trans (s_iload r23_101 rfl) (Eq.trans (s_iald r23_103 h1 (by decide) (j_ib_of (z := x7.toInt) rfl h2 h3)) (j_cll (as := [x0, .int x6, .int (j_I H (j_pa (va_rf (j_R H (j_pa x0) 4))) (j_ix x7))]) (es := [x0, .int x6, .int (j_I H (j_pa (va_rf (j_R H (j_pa x0) 4))) (j_ix x7))]) (s_c2 r23_104 rfl h0 rfl rfl (j_dok (s := [.int (j_I H (j_pa (va_rf (j_R H (j_pa x0) 4))) (j_ix x7)), .int x6, x0]) (as := [x0, .int x6, .int (j_I H (j_pa (va_rf (j_R H (j_pa x0) 4))) (j_ix x7))]) (rest := []) (es := [x0, .int x6, .int (j_I H (j_pa (va_rf (j_R H (j_pa x0) 4))) (j_ix x7))]) rfl rfl rfl rfl (j_slc (j_c1r (j_isr_vc h0 rfl)) rfl) rfl)) (j_slc (j_c1r (j_isr_vc h0 rfl)) rfl) rfl))))))
theorem b23_107 {b : Nat} {x0 : Value} {x1 : Int32} {x2 : Value} {x3 : Int32} {x4 : Int32} {x5 : Int32} {x6 : Int32} {x7 : Int32} {y0 : Int32} {H : j_H} {Q : Option Value → j_H → Prop}  : j_wp b 23 107 [x0, .int x1, x2, .int x3, .int x4, .int x5, .int x6, .int x7] [.int y0] H Q = (if y0.toInt = 0 then j_wp b 23 122 [x0, .int x1, x2, .int x3, .int x4, .int x5, .int x6, .int x7] [] H Q else j_wp b 23 110 [x0, .int x1, x2, .int x3, .int x4, .int x5, .int x6, .int x7] [] H Q) := s_ifeq r23_107 rfl rfl
theorem b23_110 {b : Nat} {x0 : Value} {x1 : Int32} {x2 : Value} {x3 : Int32} {x4 : Int32} {x5 : Int32} {x6 : Int32} {x7 : Int32} {H : j_H} {Q : Option Value → j_H → Prop} (h0 : j_vc H x0 = 3) (h1 : j_vt H (va_rf (j_R H (j_pa x0) 3)) = 0) (h2 : 0 ≤ x7.toInt) (h3 : x7.toInt < ((j_vl H (va_rf (j_R H (j_pa x0) 3)) : Nat) : Int)) : j_wp b 23 110 [x0, .int x1, x2, .int x3, .int x4, .int x5, .int x6, .int x7] [] H Q = j_wp b 23 122 [x0, .int x1, x2, .int x3, .int x4, .int (x5 + (j_I H (j_pa (va_rf (j_R H (j_pa x0) 3))) (j_ix x7))), .int x6, .int x7] [] H Q := Eq.trans (s_iload r23_110 rfl) (Eq.trans (s_aload_n r23_112 rfl (j_isr_vc h0 rfl)) (Eq.trans (s_getfr r23_113 (j_al1 h0 rfl) rfl) (Eq.trans (s_iload r23_116 rfl) (Eq.trans (s_iald r23_118 h1 (by decide) (j_ib_of (z := x7.toInt) rfl h2 h3)) (Eq.trans (s_iadd r23_119) (s_istore r23_120 (Nat.le_of_ble_eq_true rfl) rfl))))))
theorem b23_122 {b : Nat} {x0 : Value} {x1 : Int32} {x2 : Value} {x3 : Int32} {x4 : Int32} {x5 : Int32} {x6 : Int32} {x7 : Int32} {H : j_H} {Q : Option Value → j_H → Prop} (h0 : j_vc H x0 = 3) (h1 : j_vt H (va_rf (j_R H (j_pa x0) 4)) = 0) (h2 : 0 ≤ x7.toInt) (h3 : x7.toInt < ((j_vl H (va_rf (j_R H (j_pa x0) 4)) : Nat) : Int)) : j_wp b 23 122 [x0, .int x1, x2, .int x3, .int x4, .int x5, .int x6, .int x7] [] H Q = j_wp b 23 67 [x0, .int x1, x2, .int x3, .int x4, .int x5, .int (j_I H (j_pa (va_rf (j_R H (j_pa x0) 4))) (j_ix x7)), .int (x7 + Int32.ofInt 1)] [] H Q := Eq.trans (s_aload_n r23_122 rfl (j_isr_vc h0 rfl)) (Eq.trans (s_getfr r23_123 (j_al1 h0 rfl) rfl) (Eq.trans (s_iload r23_126 rfl) (Eq.trans (s_iald r23_128 h1 (by decide) (j_ib_of (z := x7.toInt) rfl h2 h3)) (Eq.trans (s_istore r23_129 (Nat.le_of_ble_eq_true rfl) rfl) (Eq.trans (s_iinc r23_131 rfl rfl) (s_goto r23_134 rfl))))))
theorem b23_137 {b : Nat} {x0 : Value} {x1 : Int32} {x2 : Value} {x3 : Int32} {x4 : Int32} {x5 : Int32} {x6 : Int32} {x7 : Int32} {H : j_H} {Q : Option Value → j_H → Prop}  : j_wp b 23 137 [x0, .int x1, x2, .int x3, .int x4, .int x5, .int x6, .int x7] [] H Q = Q (some (.int x5)) H := Eq.trans (s_iload r23_137 rfl) (s_ireturn r23_139 (j_rok1 rfl))
-- X3_holds
theorem r24_0 : j_at 24 0 = some (0, .lconst 0, 1, []) := by decide +kernel
theorem r24_1 : j_at 24 1 = some (1, .lstore_n 3, 1, []) := by decide +kernel
theorem r24_2 : j_at 24 2 = some (2, .iload_n 1, 1, []) := by decide +kernel
theorem r24_3 : j_at 24 3 = some (3, .istore 5, 2, []) := by decide +kernel
theorem r24_5 : j_at 24 5 = some (5, .iload 5, 2, []) := by decide +kernel
theorem r24_7 : j_at 24 7 = some (7, .ifCond .lt 210, 3, []) := by decide +kernel
theorem r24_10 : j_at 24 10 = some (10, .iload 5, 2, []) := by decide +kernel
theorem r24_12 : j_at 24 12 = some (12, .iload_n 2, 1, []) := by decide +kernel
theorem r24_13 : j_at 24 13 = some (13, .if_icmp .ge 204, 3, []) := by decide +kernel
theorem r24_16 : j_at 24 16 = some (16, .iload 5, 2, []) := by decide +kernel
theorem r24_18 : j_at 24 18 = some (18, .aload_n 0, 1, []) := by decide +kernel
theorem r24_19 : j_at 24 19 = some (19, .getfield 25, 3, [150, 3, 2, 6, 0, 3]) := by decide +kernel
theorem r24_22 : j_at 24 22 = some (22, .arraylength, 1, []) := by decide +kernel
theorem r24_23 : j_at 24 23 = some (23, .if_icmp .ge 194, 3, []) := by decide +kernel
theorem r24_26 : j_at 24 26 = some (26, .aload_n 0, 1, []) := by decide +kernel
theorem r24_27 : j_at 24 27 = some (27, .getfield 25, 3, [150, 3, 2, 6, 0, 3]) := by decide +kernel
theorem r24_30 : j_at 24 30 = some (30, .iload 5, 2, []) := by decide +kernel
theorem r24_32 : j_at 24 32 = some (32, .iaload, 1, []) := by decide +kernel
theorem r24_33 : j_at 24 33 = some (33, .istore 6, 2, []) := by decide +kernel
theorem r24_35 : j_at 24 35 = some (35, .iload 6, 2, []) := by decide +kernel
theorem r24_37 : j_at 24 37 = some (37, .iconst (-1), 1, []) := by decide +kernel
theorem r24_38 : j_at 24 38 = some (38, .if_icmp .ne 10, 3, []) := by decide +kernel
theorem r24_41 : j_at 24 41 = some (41, .lload_n 3, 1, []) := by decide +kernel
theorem r24_42 : j_at 24 42 = some (42, .lconst 1, 1, []) := by decide +kernel
theorem r24_43 : j_at 24 43 = some (43, .lxor, 1, []) := by decide +kernel
theorem r24_44 : j_at 24 44 = some (44, .lstore_n 3, 1, []) := by decide +kernel
theorem r24_45 : j_at 24 45 = some (45, .goto 166, 3, []) := by decide +kernel
theorem r24_48 : j_at 24 48 = some (48, .iload 6, 2, []) := by decide +kernel
theorem r24_50 : j_at 24 50 = some (50, .bipush (-2), 2, []) := by decide +kernel
theorem r24_52 : j_at 24 52 = some (52, .if_icmp .ne 16, 3, []) := by decide +kernel
theorem r24_55 : j_at 24 55 = some (55, .lload_n 3, 1, []) := by decide +kernel
theorem r24_56 : j_at 24 56 = some (56, .iconst 1, 1, []) := by decide +kernel
theorem r24_57 : j_at 24 57 = some (57, .lshr, 1, []) := by decide +kernel
theorem r24_58 : j_at 24 58 = some (58, .lload_n 3, 1, []) := by decide +kernel
theorem r24_59 : j_at 24 59 = some (59, .ldc2_w 81, 3, [355, 1, 2]) := by decide +kernel
theorem r24_62 : j_at 24 62 = some (62, .lor, 1, []) := by decide +kernel
theorem r24_63 : j_at 24 63 = some (63, .land, 1, []) := by decide +kernel
theorem r24_64 : j_at 24 64 = some (64, .lstore_n 3, 1, []) := by decide +kernel
theorem r24_65 : j_at 24 65 = some (65, .goto 146, 3, []) := by decide +kernel
theorem r24_68 : j_at 24 68 = some (68, .iload 6, 2, []) := by decide +kernel
theorem r24_70 : j_at 24 70 = some (70, .bipush (-3), 2, []) := by decide +kernel
theorem r24_72 : j_at 24 72 = some (72, .if_icmp .ne 14, 3, []) := by decide +kernel
theorem r24_75 : j_at 24 75 = some (75, .lload_n 3, 1, []) := by decide +kernel
theorem r24_76 : j_at 24 76 = some (76, .iconst 1, 1, []) := by decide +kernel
theorem r24_77 : j_at 24 77 = some (77, .lshr, 1, []) := by decide +kernel
theorem r24_78 : j_at 24 78 = some (78, .lload_n 3, 1, []) := by decide +kernel
theorem r24_79 : j_at 24 79 = some (79, .lconst 1, 1, []) := by decide +kernel
theorem r24_80 : j_at 24 80 = some (80, .land, 1, []) := by decide +kernel
theorem r24_81 : j_at 24 81 = some (81, .lor, 1, []) := by decide +kernel
theorem r24_82 : j_at 24 82 = some (82, .lstore_n 3, 1, []) := by decide +kernel
theorem r24_83 : j_at 24 83 = some (83, .goto 128, 3, []) := by decide +kernel
theorem r24_86 : j_at 24 86 = some (86, .iload 6, 2, []) := by decide +kernel
theorem r24_88 : j_at 24 88 = some (88, .sipush 300, 3, []) := by decide +kernel
theorem r24_91 : j_at 24 91 = some (91, .idiv, 1, []) := by decide +kernel
theorem r24_92 : j_at 24 92 = some (92, .istore 7, 2, []) := by decide +kernel
theorem r24_94 : j_at 24 94 = some (94, .iload 7, 2, []) := by decide +kernel
theorem r24_96 : j_at 24 96 = some (96, .ifCond .lt 23, 3, []) := by decide +kernel
theorem r24_99 : j_at 24 99 = some (99, .iload 7, 2, []) := by decide +kernel
theorem r24_101 : j_at 24 101 = some (101, .aload_n 0, 1, []) := by decide +kernel
theorem r24_102 : j_at 24 102 = some (102, .getfield 28, 3, [152, 3, 2, 8, 0, 3]) := by decide +kernel
theorem r24_105 : j_at 24 105 = some (105, .arraylength, 1, []) := by decide +kernel
theorem r24_106 : j_at 24 106 = some (106, .if_icmp .ge 13, 3, []) := by decide +kernel
theorem r24_109 : j_at 24 109 = some (109, .aload_n 0, 1, []) := by decide +kernel
theorem r24_110 : j_at 24 110 = some (110, .getfield 28, 3, [152, 3, 2, 8, 0, 3]) := by decide +kernel
theorem r24_113 : j_at 24 113 = some (113, .iload 7, 2, []) := by decide +kernel
theorem r24_115 : j_at 24 115 = some (115, .iaload, 1, []) := by decide +kernel
theorem r24_116 : j_at 24 116 = some (116, .goto 4, 3, []) := by decide +kernel
theorem r24_119 : j_at 24 119 = some (119, .iconst 0, 1, []) := by decide +kernel
theorem r24_120 : j_at 24 120 = some (120, .istore 8, 2, []) := by decide +kernel
theorem r24_122 : j_at 24 122 = some (122, .iload 6, 2, []) := by decide +kernel
theorem r24_124 : j_at 24 124 = some (124, .sipush 300, 3, []) := by decide +kernel
theorem r24_127 : j_at 24 127 = some (127, .irem, 1, []) := by decide +kernel
theorem r24_128 : j_at 24 128 = some (128, .bipush 100, 2, []) := by decide +kernel
theorem r24_130 : j_at 24 130 = some (130, .idiv, 1, []) := by decide +kernel
theorem r24_131 : j_at 24 131 = some (131, .istore 9, 2, []) := by decide +kernel
theorem r24_133 : j_at 24 133 = some (133, .iload 6, 2, []) := by decide +kernel
theorem r24_135 : j_at 24 135 = some (135, .bipush 100, 2, []) := by decide +kernel
theorem r24_137 : j_at 24 137 = some (137, .irem, 1, []) := by decide +kernel
theorem r24_138 : j_at 24 138 = some (138, .istore 10, 2, []) := by decide +kernel
theorem r24_140 : j_at 24 140 = some (140, .iload 9, 2, []) := by decide +kernel
theorem r24_142 : j_at 24 142 = some (142, .ifCond .ne 18, 3, []) := by decide +kernel
theorem r24_145 : j_at 24 145 = some (145, .iload 8, 2, []) := by decide +kernel
theorem r24_147 : j_at 24 147 = some (147, .iload 10, 2, []) := by decide +kernel
theorem r24_149 : j_at 24 149 = some (149, .if_icmp .ge 7, 3, []) := by decide +kernel
theorem r24_152 : j_at 24 152 = some (152, .iconst 1, 1, []) := by decide +kernel
theorem r24_153 : j_at 24 153 = some (153, .goto 40, 3, []) := by decide +kernel
theorem r24_156 : j_at 24 156 = some (156, .iconst 0, 1, []) := by decide +kernel
theorem r24_157 : j_at 24 157 = some (157, .goto 36, 3, []) := by decide +kernel
theorem r24_160 : j_at 24 160 = some (160, .iload 9, 2, []) := by decide +kernel
theorem r24_162 : j_at 24 162 = some (162, .iconst 1, 1, []) := by decide +kernel
theorem r24_163 : j_at 24 163 = some (163, .if_icmp .ne 18, 3, []) := by decide +kernel
theorem r24_166 : j_at 24 166 = some (166, .iload 8, 2, []) := by decide +kernel
theorem r24_168 : j_at 24 168 = some (168, .iload 10, 2, []) := by decide +kernel
theorem r24_170 : j_at 24 170 = some (170, .if_icmp .ne 7, 3, []) := by decide +kernel
theorem r24_173 : j_at 24 173 = some (173, .iconst 1, 1, []) := by decide +kernel
theorem r24_174 : j_at 24 174 = some (174, .goto 19, 3, []) := by decide +kernel
theorem r24_177 : j_at 24 177 = some (177, .iconst 0, 1, []) := by decide +kernel
theorem r24_178 : j_at 24 178 = some (178, .goto 15, 3, []) := by decide +kernel
theorem r24_181 : j_at 24 181 = some (181, .iload 8, 2, []) := by decide +kernel
theorem r24_183 : j_at 24 183 = some (183, .iload 10, 2, []) := by decide +kernel
theorem r24_185 : j_at 24 185 = some (185, .if_icmp .le 7, 3, []) := by decide +kernel
theorem r24_188 : j_at 24 188 = some (188, .iconst 1, 1, []) := by decide +kernel
theorem r24_189 : j_at 24 189 = some (189, .goto 4, 3, []) := by decide +kernel
theorem r24_192 : j_at 24 192 = some (192, .iconst 0, 1, []) := by decide +kernel
theorem r24_193 : j_at 24 193 = some (193, .istore 11, 2, []) := by decide +kernel
theorem r24_195 : j_at 24 195 = some (195, .lload_n 3, 1, []) := by decide +kernel
theorem r24_196 : j_at 24 196 = some (196, .iconst 1, 1, []) := by decide +kernel
theorem r24_197 : j_at 24 197 = some (197, .lshl, 1, []) := by decide +kernel
theorem r24_198 : j_at 24 198 = some (198, .iload 11, 2, []) := by decide +kernel
theorem r24_200 : j_at 24 200 = some (200, .ifCond .eq 7, 3, []) := by decide +kernel
theorem r24_203 : j_at 24 203 = some (203, .iconst 1, 1, []) := by decide +kernel
theorem r24_204 : j_at 24 204 = some (204, .goto 4, 3, []) := by decide +kernel
theorem r24_207 : j_at 24 207 = some (207, .iconst 0, 1, []) := by decide +kernel
theorem r24_208 : j_at 24 208 = some (208, .i2l, 1, []) := by decide +kernel
theorem r24_209 : j_at 24 209 = some (209, .lor, 1, []) := by decide +kernel
theorem r24_210 : j_at 24 210 = some (210, .lstore_n 3, 1, []) := by decide +kernel
theorem r24_211 : j_at 24 211 = some (211, .iinc 5 1, 3, []) := by decide +kernel
theorem r24_214 : j_at 24 214 = some (214, .goto (-209), 3, []) := by decide +kernel
theorem r24_217 : j_at 24 217 = some (217, .lload_n 3, 1, []) := by decide +kernel
theorem r24_218 : j_at 24 218 = some (218, .lconst 1, 1, []) := by decide +kernel
theorem r24_219 : j_at 24 219 = some (219, .land, 1, []) := by decide +kernel
theorem r24_220 : j_at 24 220 = some (220, .lconst 1, 1, []) := by decide +kernel
theorem r24_221 : j_at 24 221 = some (221, .lcmp, 1, []) := by decide +kernel
theorem r24_222 : j_at 24 222 = some (222, .ifCond .ne 7, 3, []) := by decide +kernel
theorem r24_225 : j_at 24 225 = some (225, .iconst 1, 1, []) := by decide +kernel
theorem r24_226 : j_at 24 226 = some (226, .goto 4, 3, []) := by decide +kernel
theorem r24_229 : j_at 24 229 = some (229, .iconst 0, 1, []) := by decide +kernel
theorem r24_230 : j_at 24 230 = some (230, .ireturn, 1, []) := by decide +kernel
theorem b24_0 {b : Nat} {x0 : Value} {x1 : Int32} {x2 : Int32} {u3 : Value} {u4 : Value} {u5 : Value} {u6 : Value} {u7 : Value} {u8 : Value} {u9 : Value} {u10 : Value} {u11 : Value} {H : j_H} {Q : Option Value → j_H → Prop}  : j_wp b 24 0 [x0, .int x1, .int x2, u3, u4, u5, u6, u7, u8, u9, u10, u11] [] H Q = j_wp b 24 5 [x0, .int x1, .int x2, .long (Int64.ofInt 0), j_u, .int x1, u6, u7, u8, u9, u10, u11] [] H Q := Eq.trans (s_lconst r24_0 rfl) (Eq.trans (s_lstore_n r24_1 (Nat.le_of_ble_eq_true rfl) rfl) (Eq.trans (s_iload_n r24_2 rfl) (s_istore r24_3 (Nat.le_of_ble_eq_true rfl) rfl)))
theorem b24_5 {b : Nat} {x0 : Value} {x1 : Int32} {x2 : Int32} {x3 : Int64} {x5 : Int32} {u6 : Value} {u7 : Value} {u8 : Value} {u9 : Value} {u10 : Value} {u11 : Value} {H : j_H} {Q : Option Value → j_H → Prop}  : j_wp b 24 5 [x0, .int x1, .int x2, .long x3, j_u, .int x5, u6, u7, u8, u9, u10, u11] [] H Q = (if x5.toInt < 0 then j_wp b 24 217 [x0, .int x1, .int x2, .long x3, j_u, .int x5, u6, u7, u8, u9, u10, u11] [] H Q else j_wp b 24 10 [x0, .int x1, .int x2, .long x3, j_u, .int x5, u6, u7, u8, u9, u10, u11] [] H Q) := Eq.trans (s_iload r24_5 rfl) (s_iflt r24_7 rfl rfl)
theorem b24_10 {b : Nat} {x0 : Value} {x1 : Int32} {x2 : Int32} {x3 : Int64} {x5 : Int32} {u6 : Value} {u7 : Value} {u8 : Value} {u9 : Value} {u10 : Value} {u11 : Value} {H : j_H} {Q : Option Value → j_H → Prop}  : j_wp b 24 10 [x0, .int x1, .int x2, .long x3, j_u, .int x5, u6, u7, u8, u9, u10, u11] [] H Q = (if x2.toInt ≤ x5.toInt then j_wp b 24 217 [x0, .int x1, .int x2, .long x3, j_u, .int x5, u6, u7, u8, u9, u10, u11] [] H Q else j_wp b 24 16 [x0, .int x1, .int x2, .long x3, j_u, .int x5, u6, u7, u8, u9, u10, u11] [] H Q) := Eq.trans (s_iload r24_10 rfl) (Eq.trans (s_iload_n r24_12 rfl) (s_icge r24_13 rfl rfl rfl))
theorem b24_16 {b : Nat} {x0 : Value} {x1 : Int32} {x2 : Int32} {x3 : Int64} {x5 : Int32} {u6 : Value} {u7 : Value} {u8 : Value} {u9 : Value} {u10 : Value} {u11 : Value} {H : j_H} {Q : Option Value → j_H → Prop} (h0 : j_vc H x0 = 3) (h1 : j_vt H (va_rf (j_R H (j_pa x0) 6)) = 0) : j_wp b 24 16 [x0, .int x1, .int x2, .long x3, j_u, .int x5, u6, u7, u8, u9, u10, u11] [] H Q = (if (Int32.ofInt (j_vl H (va_rf (j_R H (j_pa x0) 6)) : Nat)).toInt ≤ x5.toInt then j_wp b 24 217 [x0, .int x1, .int x2, .long x3, j_u, .int x5, u6, u7, u8, u9, u10, u11] [] H Q else j_wp b 24 26 [x0, .int x1, .int x2, .long x3, j_u, .int x5, u6, u7, u8, u9, u10, u11] [] H Q) := Eq.trans (s_iload r24_16 rfl) (Eq.trans (s_aload_n r24_18 rfl (j_isr_vc h0 rfl)) (Eq.trans (s_getfr r24_19 (j_al1 h0 rfl) rfl) (Eq.trans (s_alen r24_22 h1 (by decide)) (s_icge r24_23 rfl rfl rfl))))
theorem b24_26 {b : Nat} {x0 : Value} {x1 : Int32} {x2 : Int32} {x3 : Int64} {x5 : Int32} {u6 : Value} {u7 : Value} {u8 : Value} {u9 : Value} {u10 : Value} {u11 : Value} {H : j_H} {Q : Option Value → j_H → Prop} (h0 : j_vc H x0 = 3) (h1 : j_vt H (va_rf (j_R H (j_pa x0) 6)) = 0) (h2 : 0 ≤ x5.toInt) (h3 : x5.toInt < ((j_vl H (va_rf (j_R H (j_pa x0) 6)) : Nat) : Int)) : j_wp b 24 26 [x0, .int x1, .int x2, .long x3, j_u, .int x5, u6, u7, u8, u9, u10, u11] [] H Q = (if ¬ (j_I H (j_pa (va_rf (j_R H (j_pa x0) 6))) (j_ix x5)).toInt = (-1) then j_wp b 24 48 [x0, .int x1, .int x2, .long x3, j_u, .int x5, .int (j_I H (j_pa (va_rf (j_R H (j_pa x0) 6))) (j_ix x5)), u7, u8, u9, u10, u11] [] H Q else j_wp b 24 41 [x0, .int x1, .int x2, .long x3, j_u, .int x5, .int (j_I H (j_pa (va_rf (j_R H (j_pa x0) 6))) (j_ix x5)), u7, u8, u9, u10, u11] [] H Q) := Eq.trans (s_aload_n r24_26 rfl (j_isr_vc h0 rfl)) (Eq.trans (s_getfr r24_27 (j_al1 h0 rfl) rfl) (Eq.trans (s_iload r24_30 rfl) (Eq.trans (s_iald r24_32 h1 (by decide) (j_ib_of (z := x5.toInt) rfl h2 h3)) (Eq.trans (s_istore r24_33 (Nat.le_of_ble_eq_true rfl) rfl) (Eq.trans (s_iload r24_35 rfl) (Eq.trans (s_iconst r24_37) (s_icne r24_38 rfl rfl rfl)))))))
theorem b24_41 {b : Nat} {x0 : Value} {x1 : Int32} {x2 : Int32} {x3 : Int64} {x5 : Int32} {x6 : Int32} {u7 : Value} {u8 : Value} {u9 : Value} {u10 : Value} {u11 : Value} {H : j_H} {Q : Option Value → j_H → Prop}  : j_wp b 24 41 [x0, .int x1, .int x2, .long x3, j_u, .int x5, .int x6, u7, u8, u9, u10, u11] [] H Q = j_wp b 24 211 [x0, .int x1, .int x2, .long (x3 ^^^ (Int64.ofInt 1)), j_u, .int x5, .int x6, u7, u8, u9, u10, u11] [] H Q := Eq.trans (s_lload_n r24_41 rfl) (Eq.trans (s_lconst r24_42 rfl) (Eq.trans (s_lxor r24_43) (Eq.trans (s_lstore_n r24_44 (Nat.le_of_ble_eq_true rfl) rfl) (s_goto r24_45 rfl))))
theorem b24_48 {b : Nat} {x0 : Value} {x1 : Int32} {x2 : Int32} {x3 : Int64} {x5 : Int32} {x6 : Int32} {u7 : Value} {u8 : Value} {u9 : Value} {u10 : Value} {u11 : Value} {H : j_H} {Q : Option Value → j_H → Prop}  : j_wp b 24 48 [x0, .int x1, .int x2, .long x3, j_u, .int x5, .int x6, u7, u8, u9, u10, u11] [] H Q = (if ¬ x6.toInt = (-2) then j_wp b 24 68 [x0, .int x1, .int x2, .long x3, j_u, .int x5, .int x6, u7, u8, u9, u10, u11] [] H Q else j_wp b 24 55 [x0, .int x1, .int x2, .long x3, j_u, .int x5, .int x6, u7, u8, u9, u10, u11] [] H Q) := Eq.trans (s_iload r24_48 rfl) (Eq.trans (s_bipush r24_50) (s_icne r24_52 rfl rfl rfl))
theorem b24_55 {b : Nat} {x0 : Value} {x1 : Int32} {x2 : Int32} {x3 : Int64} {x5 : Int32} {x6 : Int32} {u7 : Value} {u8 : Value} {u9 : Value} {u10 : Value} {u11 : Value} {H : j_H} {Q : Option Value → j_H → Prop}  : j_wp b 24 55 [x0, .int x1, .int x2, .long x3, j_u, .int x5, .int x6, u7, u8, u9, u10, u11] [] H Q = j_wp b 24 211 [x0, .int x1, .int x2, .long ((j_lshr x3 (Int32.ofInt 1)) &&& (x3 ||| (Int64.ofInt (-2)))), j_u, .int x5, .int x6, u7, u8, u9, u10, u11] [] H Q := Eq.trans (s_lload_n r24_55 rfl) (Eq.trans (s_iconst r24_56) (Eq.trans (s_lshr r24_57) (Eq.trans (s_lload_n r24_58 rfl) (Eq.trans (s_ldc2 r24_59 rfl) (Eq.trans (s_lor r24_62) (Eq.trans (s_land r24_63) (Eq.trans (s_lstore_n r24_64 (Nat.le_of_ble_eq_true rfl) rfl) (s_goto r24_65 rfl))))))))
theorem b24_68 {b : Nat} {x0 : Value} {x1 : Int32} {x2 : Int32} {x3 : Int64} {x5 : Int32} {x6 : Int32} {u7 : Value} {u8 : Value} {u9 : Value} {u10 : Value} {u11 : Value} {H : j_H} {Q : Option Value → j_H → Prop}  : j_wp b 24 68 [x0, .int x1, .int x2, .long x3, j_u, .int x5, .int x6, u7, u8, u9, u10, u11] [] H Q = (if ¬ x6.toInt = (-3) then j_wp b 24 86 [x0, .int x1, .int x2, .long x3, j_u, .int x5, .int x6, u7, u8, u9, u10, u11] [] H Q else j_wp b 24 75 [x0, .int x1, .int x2, .long x3, j_u, .int x5, .int x6, u7, u8, u9, u10, u11] [] H Q) := Eq.trans (s_iload r24_68 rfl) (Eq.trans (s_bipush r24_70) (s_icne r24_72 rfl rfl rfl))
theorem b24_75 {b : Nat} {x0 : Value} {x1 : Int32} {x2 : Int32} {x3 : Int64} {x5 : Int32} {x6 : Int32} {u7 : Value} {u8 : Value} {u9 : Value} {u10 : Value} {u11 : Value} {H : j_H} {Q : Option Value → j_H → Prop}  : j_wp b 24 75 [x0, .int x1, .int x2, .long x3, j_u, .int x5, .int x6, u7, u8, u9, u10, u11] [] H Q = j_wp b 24 211 [x0, .int x1, .int x2, .long ((j_lshr x3 (Int32.ofInt 1)) ||| (x3 &&& (Int64.ofInt 1))), j_u, .int x5, .int x6, u7, u8, u9, u10, u11] [] H Q := Eq.trans (s_lload_n r24_75 rfl) (Eq.trans (s_iconst r24_76) (Eq.trans (s_lshr r24_77) (Eq.trans (s_lload_n r24_78 rfl) (Eq.trans (s_lconst r24_79 rfl) (Eq.trans (s_land r24_80) (Eq.trans (s_lor r24_81) (Eq.trans (s_lstore_n r24_82 (Nat.le_of_ble_eq_true rfl) rfl) (s_goto r24_83 rfl))))))))
theorem b24_86 {b : Nat} {x0 : Value} {x1 : Int32} {x2 : Int32} {x3 : Int64} {x5 : Int32} {x6 : Int32} {u7 : Value} {u8 : Value} {u9 : Value} {u10 : Value} {u11 : Value} {H : j_H} {Q : Option Value → j_H → Prop}  : j_wp b 24 86 [x0, .int x1, .int x2, .long x3, j_u, .int x5, .int x6, u7, u8, u9, u10, u11] [] H Q = (if (x6 / (Int32.ofInt 300)).toInt < 0 then j_wp b 24 119 [x0, .int x1, .int x2, .long x3, j_u, .int x5, .int x6, .int (x6 / (Int32.ofInt 300)), u8, u9, u10, u11] [] H Q else j_wp b 24 99 [x0, .int x1, .int x2, .long x3, j_u, .int x5, .int x6, .int (x6 / (Int32.ofInt 300)), u8, u9, u10, u11] [] H Q) := Eq.trans (s_iload r24_86 rfl) (Eq.trans (s_sipush r24_88) (Eq.trans (s_idiv r24_91 (by decide)) (Eq.trans (s_istore r24_92 (Nat.le_of_ble_eq_true rfl) rfl) (Eq.trans (s_iload r24_94 rfl) (s_iflt r24_96 rfl rfl)))))
theorem b24_99 {b : Nat} {x0 : Value} {x1 : Int32} {x2 : Int32} {x3 : Int64} {x5 : Int32} {x6 : Int32} {x7 : Int32} {u8 : Value} {u9 : Value} {u10 : Value} {u11 : Value} {H : j_H} {Q : Option Value → j_H → Prop} (h0 : j_vc H x0 = 3) (h1 : j_vt H (va_rf (j_R H (j_pa x0) 8)) = 0) : j_wp b 24 99 [x0, .int x1, .int x2, .long x3, j_u, .int x5, .int x6, .int x7, u8, u9, u10, u11] [] H Q = (if (Int32.ofInt (j_vl H (va_rf (j_R H (j_pa x0) 8)) : Nat)).toInt ≤ x7.toInt then j_wp b 24 119 [x0, .int x1, .int x2, .long x3, j_u, .int x5, .int x6, .int x7, u8, u9, u10, u11] [] H Q else j_wp b 24 109 [x0, .int x1, .int x2, .long x3, j_u, .int x5, .int x6, .int x7, u8, u9, u10, u11] [] H Q) := Eq.trans (s_iload r24_99 rfl) (Eq.trans (s_aload_n r24_101 rfl (j_isr_vc h0 rfl)) (Eq.trans (s_getfr r24_102 (j_al1 h0 rfl) rfl) (Eq.trans (s_alen r24_105 h1 (by decide)) (s_icge r24_106 rfl rfl rfl))))
theorem b24_109 {b : Nat} {x0 : Value} {x1 : Int32} {x2 : Int32} {x3 : Int64} {x5 : Int32} {x6 : Int32} {x7 : Int32} {u8 : Value} {u9 : Value} {u10 : Value} {u11 : Value} {H : j_H} {Q : Option Value → j_H → Prop} (h0 : j_vc H x0 = 3) (h1 : j_vt H (va_rf (j_R H (j_pa x0) 8)) = 0) (h2 : 0 ≤ x7.toInt) (h3 : x7.toInt < ((j_vl H (va_rf (j_R H (j_pa x0) 8)) : Nat) : Int)) : j_wp b 24 109 [x0, .int x1, .int x2, .long x3, j_u, .int x5, .int x6, .int x7, u8, u9, u10, u11] [] H Q = j_wp b 24 120 [x0, .int x1, .int x2, .long x3, j_u, .int x5, .int x6, .int x7, u8, u9, u10, u11] [.int (j_I H (j_pa (va_rf (j_R H (j_pa x0) 8))) (j_ix x7))] H Q := Eq.trans (s_aload_n r24_109 rfl (j_isr_vc h0 rfl)) (Eq.trans (s_getfr r24_110 (j_al1 h0 rfl) rfl) (Eq.trans (s_iload r24_113 rfl) (Eq.trans (s_iald r24_115 h1 (by decide) (j_ib_of (z := x7.toInt) rfl h2 h3)) (s_goto r24_116 rfl))))
theorem b24_119 {b : Nat} {x0 : Value} {x1 : Int32} {x2 : Int32} {x3 : Int64} {x5 : Int32} {x6 : Int32} {x7 : Int32} {u8 : Value} {u9 : Value} {u10 : Value} {u11 : Value} {H : j_H} {Q : Option Value → j_H → Prop}  : j_wp b 24 119 [x0, .int x1, .int x2, .long x3, j_u, .int x5, .int x6, .int x7, u8, u9, u10, u11] [] H Q = j_wp b 24 120 [x0, .int x1, .int x2, .long x3, j_u, .int x5, .int x6, .int x7, u8, u9, u10, u11] [.int (Int32.ofInt 0)] H Q := s_iconst r24_119
theorem b24_120 {b : Nat} {x0 : Value} {x1 : Int32} {x2 : Int32} {x3 : Int64} {x5 : Int32} {x6 : Int32} {x7 : Int32} {u8 : Value} {u9 : Value} {u10 : Value} {u11 : Value} {y0 : Int32} {H : j_H} {Q : Option Value → j_H → Prop}  : j_wp b 24 120 [x0, .int x1, .int x2, .long x3, j_u, .int x5, .int x6, .int x7, u8, u9, u10, u11] [.int y0] H Q = (if ¬ ((j_rem x6 (Int32.ofInt 300)) / (Int32.ofInt 100)).toInt = 0 then j_wp b 24 160 [x0, .int x1, .int x2, .long x3, j_u, .int x5, .int x6, .int x7, .int y0, .int ((j_rem x6 (Int32.ofInt 300)) / (Int32.ofInt 100)), .int (j_rem x6 (Int32.ofInt 100)), u11] [] H Q else j_wp b 24 145 [x0, .int x1, .int x2, .long x3, j_u, .int x5, .int x6, .int x7, .int y0, .int ((j_rem x6 (Int32.ofInt 300)) / (Int32.ofInt 100)), .int (j_rem x6 (Int32.ofInt 100)), u11] [] H Q) := Eq.trans (s_istore r24_120 (Nat.le_of_ble_eq_true rfl) rfl) (Eq.trans (s_iload r24_122 rfl) (Eq.trans (s_sipush r24_124) (Eq.trans (s_irem r24_127 (by decide)) (Eq.trans (s_bipush r24_128) (Eq.trans (s_idiv r24_130 (by decide)) (Eq.trans (s_istore r24_131 (Nat.le_of_ble_eq_true rfl) rfl) (Eq.trans (s_iload r24_133 rfl) (Eq.trans (s_bipush r24_135) (Eq.trans (s_irem r24_137 (by decide)) (Eq.trans (s_istore r24_138 (Nat.le_of_ble_eq_true rfl) rfl) (Eq.trans (s_iload r24_140 rfl) (s_ifne r24_142 rfl rfl))))))))))))
theorem b24_145 {b : Nat} {x0 : Value} {x1 : Int32} {x2 : Int32} {x3 : Int64} {x5 : Int32} {x6 : Int32} {x7 : Int32} {x8 : Int32} {x9 : Int32} {x10 : Int32} {u11 : Value} {H : j_H} {Q : Option Value → j_H → Prop}  : j_wp b 24 145 [x0, .int x1, .int x2, .long x3, j_u, .int x5, .int x6, .int x7, .int x8, .int x9, .int x10, u11] [] H Q = (if x10.toInt ≤ x8.toInt then j_wp b 24 156 [x0, .int x1, .int x2, .long x3, j_u, .int x5, .int x6, .int x7, .int x8, .int x9, .int x10, u11] [] H Q else j_wp b 24 152 [x0, .int x1, .int x2, .long x3, j_u, .int x5, .int x6, .int x7, .int x8, .int x9, .int x10, u11] [] H Q) := Eq.trans (s_iload r24_145 rfl) (Eq.trans (s_iload r24_147 rfl) (s_icge r24_149 rfl rfl rfl))
theorem b24_152 {b : Nat} {x0 : Value} {x1 : Int32} {x2 : Int32} {x3 : Int64} {x5 : Int32} {x6 : Int32} {x7 : Int32} {x8 : Int32} {x9 : Int32} {x10 : Int32} {u11 : Value} {H : j_H} {Q : Option Value → j_H → Prop}  : j_wp b 24 152 [x0, .int x1, .int x2, .long x3, j_u, .int x5, .int x6, .int x7, .int x8, .int x9, .int x10, u11] [] H Q = j_wp b 24 193 [x0, .int x1, .int x2, .long x3, j_u, .int x5, .int x6, .int x7, .int x8, .int x9, .int x10, u11] [.int (Int32.ofInt 1)] H Q := Eq.trans (s_iconst r24_152) (s_goto r24_153 rfl)
theorem b24_156 {b : Nat} {x0 : Value} {x1 : Int32} {x2 : Int32} {x3 : Int64} {x5 : Int32} {x6 : Int32} {x7 : Int32} {x8 : Int32} {x9 : Int32} {x10 : Int32} {u11 : Value} {H : j_H} {Q : Option Value → j_H → Prop}  : j_wp b 24 156 [x0, .int x1, .int x2, .long x3, j_u, .int x5, .int x6, .int x7, .int x8, .int x9, .int x10, u11] [] H Q = j_wp b 24 193 [x0, .int x1, .int x2, .long x3, j_u, .int x5, .int x6, .int x7, .int x8, .int x9, .int x10, u11] [.int (Int32.ofInt 0)] H Q := Eq.trans (s_iconst r24_156) (s_goto r24_157 rfl)
theorem b24_160 {b : Nat} {x0 : Value} {x1 : Int32} {x2 : Int32} {x3 : Int64} {x5 : Int32} {x6 : Int32} {x7 : Int32} {x8 : Int32} {x9 : Int32} {x10 : Int32} {u11 : Value} {H : j_H} {Q : Option Value → j_H → Prop}  : j_wp b 24 160 [x0, .int x1, .int x2, .long x3, j_u, .int x5, .int x6, .int x7, .int x8, .int x9, .int x10, u11] [] H Q = (if ¬ x9.toInt = 1 then j_wp b 24 181 [x0, .int x1, .int x2, .long x3, j_u, .int x5, .int x6, .int x7, .int x8, .int x9, .int x10, u11] [] H Q else j_wp b 24 166 [x0, .int x1, .int x2, .long x3, j_u, .int x5, .int x6, .int x7, .int x8, .int x9, .int x10, u11] [] H Q) := Eq.trans (s_iload r24_160 rfl) (Eq.trans (s_iconst r24_162) (s_icne r24_163 rfl rfl rfl))
theorem b24_166 {b : Nat} {x0 : Value} {x1 : Int32} {x2 : Int32} {x3 : Int64} {x5 : Int32} {x6 : Int32} {x7 : Int32} {x8 : Int32} {x9 : Int32} {x10 : Int32} {u11 : Value} {H : j_H} {Q : Option Value → j_H → Prop}  : j_wp b 24 166 [x0, .int x1, .int x2, .long x3, j_u, .int x5, .int x6, .int x7, .int x8, .int x9, .int x10, u11] [] H Q = (if ¬ x8.toInt = x10.toInt then j_wp b 24 177 [x0, .int x1, .int x2, .long x3, j_u, .int x5, .int x6, .int x7, .int x8, .int x9, .int x10, u11] [] H Q else j_wp b 24 173 [x0, .int x1, .int x2, .long x3, j_u, .int x5, .int x6, .int x7, .int x8, .int x9, .int x10, u11] [] H Q) := Eq.trans (s_iload r24_166 rfl) (Eq.trans (s_iload r24_168 rfl) (s_icne r24_170 rfl rfl rfl))
theorem b24_173 {b : Nat} {x0 : Value} {x1 : Int32} {x2 : Int32} {x3 : Int64} {x5 : Int32} {x6 : Int32} {x7 : Int32} {x8 : Int32} {x9 : Int32} {x10 : Int32} {u11 : Value} {H : j_H} {Q : Option Value → j_H → Prop}  : j_wp b 24 173 [x0, .int x1, .int x2, .long x3, j_u, .int x5, .int x6, .int x7, .int x8, .int x9, .int x10, u11] [] H Q = j_wp b 24 193 [x0, .int x1, .int x2, .long x3, j_u, .int x5, .int x6, .int x7, .int x8, .int x9, .int x10, u11] [.int (Int32.ofInt 1)] H Q := Eq.trans (s_iconst r24_173) (s_goto r24_174 rfl)
theorem b24_177 {b : Nat} {x0 : Value} {x1 : Int32} {x2 : Int32} {x3 : Int64} {x5 : Int32} {x6 : Int32} {x7 : Int32} {x8 : Int32} {x9 : Int32} {x10 : Int32} {u11 : Value} {H : j_H} {Q : Option Value → j_H → Prop}  : j_wp b 24 177 [x0, .int x1, .int x2, .long x3, j_u, .int x5, .int x6, .int x7, .int x8, .int x9, .int x10, u11] [] H Q = j_wp b 24 193 [x0, .int x1, .int x2, .long x3, j_u, .int x5, .int x6, .int x7, .int x8, .int x9, .int x10, u11] [.int (Int32.ofInt 0)] H Q := Eq.trans (s_iconst r24_177) (s_goto r24_178 rfl)
theorem b24_181 {b : Nat} {x0 : Value} {x1 : Int32} {x2 : Int32} {x3 : Int64} {x5 : Int32} {x6 : Int32} {x7 : Int32} {x8 : Int32} {x9 : Int32} {x10 : Int32} {u11 : Value} {H : j_H} {Q : Option Value → j_H → Prop}  : j_wp b 24 181 [x0, .int x1, .int x2, .long x3, j_u, .int x5, .int x6, .int x7, .int x8, .int x9, .int x10, u11] [] H Q = (if x8.toInt ≤ x10.toInt then j_wp b 24 192 [x0, .int x1, .int x2, .long x3, j_u, .int x5, .int x6, .int x7, .int x8, .int x9, .int x10, u11] [] H Q else j_wp b 24 188 [x0, .int x1, .int x2, .long x3, j_u, .int x5, .int x6, .int x7, .int x8, .int x9, .int x10, u11] [] H Q) := Eq.trans (s_iload r24_181 rfl) (Eq.trans (s_iload r24_183 rfl) (s_icle r24_185 rfl rfl rfl))
theorem b24_188 {b : Nat} {x0 : Value} {x1 : Int32} {x2 : Int32} {x3 : Int64} {x5 : Int32} {x6 : Int32} {x7 : Int32} {x8 : Int32} {x9 : Int32} {x10 : Int32} {u11 : Value} {H : j_H} {Q : Option Value → j_H → Prop}  : j_wp b 24 188 [x0, .int x1, .int x2, .long x3, j_u, .int x5, .int x6, .int x7, .int x8, .int x9, .int x10, u11] [] H Q = j_wp b 24 193 [x0, .int x1, .int x2, .long x3, j_u, .int x5, .int x6, .int x7, .int x8, .int x9, .int x10, u11] [.int (Int32.ofInt 1)] H Q := Eq.trans (s_iconst r24_188) (s_goto r24_189 rfl)
theorem b24_192 {b : Nat} {x0 : Value} {x1 : Int32} {x2 : Int32} {x3 : Int64} {x5 : Int32} {x6 : Int32} {x7 : Int32} {x8 : Int32} {x9 : Int32} {x10 : Int32} {u11 : Value} {H : j_H} {Q : Option Value → j_H → Prop}  : j_wp b 24 192 [x0, .int x1, .int x2, .long x3, j_u, .int x5, .int x6, .int x7, .int x8, .int x9, .int x10, u11] [] H Q = j_wp b 24 193 [x0, .int x1, .int x2, .long x3, j_u, .int x5, .int x6, .int x7, .int x8, .int x9, .int x10, u11] [.int (Int32.ofInt 0)] H Q := s_iconst r24_192
theorem b24_193 {b : Nat} {x0 : Value} {x1 : Int32} {x2 : Int32} {x3 : Int64} {x5 : Int32} {x6 : Int32} {x7 : Int32} {x8 : Int32} {x9 : Int32} {x10 : Int32} {u11 : Value} {y0 : Int32} {H : j_H} {Q : Option Value → j_H → Prop}  : j_wp b 24 193 [x0, .int x1, .int x2, .long x3, j_u, .int x5, .int x6, .int x7, .int x8, .int x9, .int x10, u11] [.int y0] H Q = (if y0.toInt = 0 then j_wp b 24 207 [x0, .int x1, .int x2, .long x3, j_u, .int x5, .int x6, .int x7, .int x8, .int x9, .int x10, .int y0] [.long (j_lshl x3 (Int32.ofInt 1))] H Q else j_wp b 24 203 [x0, .int x1, .int x2, .long x3, j_u, .int x5, .int x6, .int x7, .int x8, .int x9, .int x10, .int y0] [.long (j_lshl x3 (Int32.ofInt 1))] H Q) := Eq.trans (s_istore r24_193 (Nat.le_of_ble_eq_true rfl) rfl) (Eq.trans (s_lload_n r24_195 rfl) (Eq.trans (s_iconst r24_196) (Eq.trans (s_lshl r24_197) (Eq.trans (s_iload r24_198 rfl) (s_ifeq r24_200 rfl rfl)))))
theorem b24_203 {b : Nat} {x0 : Value} {x1 : Int32} {x2 : Int32} {x3 : Int64} {x5 : Int32} {x6 : Int32} {x7 : Int32} {x8 : Int32} {x9 : Int32} {x10 : Int32} {x11 : Int32} {y0 : Int64} {H : j_H} {Q : Option Value → j_H → Prop}  : j_wp b 24 203 [x0, .int x1, .int x2, .long x3, j_u, .int x5, .int x6, .int x7, .int x8, .int x9, .int x10, .int x11] [.long y0] H Q = j_wp b 24 208 [x0, .int x1, .int x2, .long x3, j_u, .int x5, .int x6, .int x7, .int x8, .int x9, .int x10, .int x11] [.int (Int32.ofInt 1), .long y0] H Q := Eq.trans (s_iconst r24_203) (s_goto r24_204 rfl)
theorem b24_207 {b : Nat} {x0 : Value} {x1 : Int32} {x2 : Int32} {x3 : Int64} {x5 : Int32} {x6 : Int32} {x7 : Int32} {x8 : Int32} {x9 : Int32} {x10 : Int32} {x11 : Int32} {y0 : Int64} {H : j_H} {Q : Option Value → j_H → Prop}  : j_wp b 24 207 [x0, .int x1, .int x2, .long x3, j_u, .int x5, .int x6, .int x7, .int x8, .int x9, .int x10, .int x11] [.long y0] H Q = j_wp b 24 208 [x0, .int x1, .int x2, .long x3, j_u, .int x5, .int x6, .int x7, .int x8, .int x9, .int x10, .int x11] [.int (Int32.ofInt 0), .long y0] H Q := s_iconst r24_207
theorem b24_208 {b : Nat} {x0 : Value} {x1 : Int32} {x2 : Int32} {x3 : Int64} {x5 : Int32} {x6 : Int32} {x7 : Int32} {x8 : Int32} {x9 : Int32} {x10 : Int32} {x11 : Int32} {y0 : Int32} {y1 : Int64} {H : j_H} {Q : Option Value → j_H → Prop}  : j_wp b 24 208 [x0, .int x1, .int x2, .long x3, j_u, .int x5, .int x6, .int x7, .int x8, .int x9, .int x10, .int x11] [.int y0, .long y1] H Q = j_wp b 24 211 [x0, .int x1, .int x2, .long (y1 ||| y0.toInt64), j_u, .int x5, .int x6, .int x7, .int x8, .int x9, .int x10, .int x11] [] H Q := Eq.trans (s_i2l r24_208) (Eq.trans (s_lor r24_209) (s_lstore_n r24_210 (Nat.le_of_ble_eq_true rfl) rfl))
theorem b24_211 {b : Nat} {x0 : Value} {x1 : Int32} {x2 : Int32} {x3 : Int64} {x5 : Int32} {x6 : Int32} {u7 : Value} {u8 : Value} {u9 : Value} {u10 : Value} {u11 : Value} {H : j_H} {Q : Option Value → j_H → Prop}  : j_wp b 24 211 [x0, .int x1, .int x2, .long x3, j_u, .int x5, .int x6, u7, u8, u9, u10, u11] [] H Q = j_wp b 24 5 [x0, .int x1, .int x2, .long x3, j_u, .int (x5 + Int32.ofInt 1), .int x6, u7, u8, u9, u10, u11] [] H Q := Eq.trans (s_iinc r24_211 rfl rfl) (s_goto r24_214 rfl)
theorem b24_217 {b : Nat} {x0 : Value} {x1 : Int32} {x2 : Int32} {x3 : Int64} {x5 : Int32} {u6 : Value} {u7 : Value} {u8 : Value} {u9 : Value} {u10 : Value} {u11 : Value} {H : j_H} {Q : Option Value → j_H → Prop}  : j_wp b 24 217 [x0, .int x1, .int x2, .long x3, j_u, .int x5, u6, u7, u8, u9, u10, u11] [] H Q = (if ¬ (lg_cmp (x3 &&& (Int64.ofInt 1)) (Int64.ofInt 1)).toInt = 0 then j_wp b 24 229 [x0, .int x1, .int x2, .long x3, j_u, .int x5, u6, u7, u8, u9, u10, u11] [] H Q else j_wp b 24 225 [x0, .int x1, .int x2, .long x3, j_u, .int x5, u6, u7, u8, u9, u10, u11] [] H Q) := Eq.trans (s_lload_n r24_217 rfl) (Eq.trans (s_lconst r24_218 rfl) (Eq.trans (s_land r24_219) (Eq.trans (s_lconst r24_220 rfl) (Eq.trans (s_lcmp r24_221) (s_ifne r24_222 rfl rfl)))))
theorem b24_225 {b : Nat} {x0 : Value} {x1 : Int32} {x2 : Int32} {x3 : Int64} {x5 : Int32} {u6 : Value} {u7 : Value} {u8 : Value} {u9 : Value} {u10 : Value} {u11 : Value} {H : j_H} {Q : Option Value → j_H → Prop}  : j_wp b 24 225 [x0, .int x1, .int x2, .long x3, j_u, .int x5, u6, u7, u8, u9, u10, u11] [] H Q = j_wp b 24 230 [x0, .int x1, .int x2, .long x3, j_u, .int x5, u6, u7, u8, u9, u10, u11] [.int (Int32.ofInt 1)] H Q := Eq.trans (s_iconst r24_225) (s_goto r24_226 rfl)
theorem b24_229 {b : Nat} {x0 : Value} {x1 : Int32} {x2 : Int32} {x3 : Int64} {x5 : Int32} {u6 : Value} {u7 : Value} {u8 : Value} {u9 : Value} {u10 : Value} {u11 : Value} {H : j_H} {Q : Option Value → j_H → Prop}  : j_wp b 24 229 [x0, .int x1, .int x2, .long x3, j_u, .int x5, u6, u7, u8, u9, u10, u11] [] H Q = j_wp b 24 230 [x0, .int x1, .int x2, .long x3, j_u, .int x5, u6, u7, u8, u9, u10, u11] [.int (Int32.ofInt 0)] H Q := s_iconst r24_229
theorem b24_230 {b : Nat} {x0 : Value} {x1 : Int32} {x2 : Int32} {x3 : Int64} {x5 : Int32} {u6 : Value} {u7 : Value} {u8 : Value} {u9 : Value} {u10 : Value} {u11 : Value} {y0 : Int32} {H : j_H} {Q : Option Value → j_H → Prop} (h0 : y0.toInt = 0 ∨ y0.toInt = 1) : j_wp b 24 230 [x0, .int x1, .int x2, .long x3, j_u, .int x5, u6, u7, u8, u9, u10, u11] [.int y0] H Q = Q (some (.int y0)) H := s_ireturn r24_230 (j_rok4 (z := y0.toInt) rfl rfl h0)
-- X3_clause
theorem r25_0 : j_at 25 0 = some (0, .aload_n 0, 1, []) := by decide +kernel
theorem r25_1 : j_at 25 1 = some (1, .invokevirtual 55, 3, [2, 1, 30, 418, 419, 3, 74, 0, 3]) := by decide +kernel
theorem r25_4 : j_at 25 4 = some (4, .istore_n 1, 1, []) := by decide +kernel
theorem r25_5 : j_at 25 5 = some (5, .iload_n 1, 1, []) := by decide +kernel
theorem r25_6 : j_at 25 6 = some (6, .bipush 108, 2, []) := by decide +kernel
theorem r25_8 : j_at 25 8 = some (8, .if_icmp .ne 8, 3, []) := by decide +kernel
theorem r25_11 : j_at 25 11 = some (11, .ldc 83, 2, [1, 0]) := by decide +kernel
theorem r25_13 : j_at 25 13 = some (13, .goto 16, 3, []) := by decide +kernel
theorem r25_16 : j_at 25 16 = some (16, .iload_n 1, 1, []) := by decide +kernel
theorem r25_17 : j_at 25 17 = some (17, .bipush 119, 2, []) := by decide +kernel
theorem r25_19 : j_at 25 19 = some (19, .if_icmp .ne 8, 3, []) := by decide +kernel
theorem r25_22 : j_at 25 22 = some (22, .ldc 85, 2, [1, 1]) := by decide +kernel
theorem r25_24 : j_at 25 24 = some (24, .goto 5, 3, []) := by decide +kernel
theorem r25_27 : j_at 25 27 = some (27, .ldc 87, 2, [1, 2]) := by decide +kernel
theorem r25_29 : j_at 25 29 = some (29, .astore_n 2, 1, []) := by decide +kernel
theorem r25_30 : j_at 25 30 = some (30, .aload_n 0, 1, []) := by decide +kernel
theorem r25_31 : j_at 25 31 = some (31, .aload_n 2, 1, []) := by decide +kernel
theorem r25_32 : j_at 25 32 = some (32, .invokevirtual 88, 3, [2, 2, 32, 420, 421, 4, 74, 0, 3]) := by decide +kernel
theorem r25_35 : j_at 25 35 = some (35, .ifCond .eq 12, 3, []) := by decide +kernel
theorem r25_38 : j_at 25 38 = some (38, .aload_n 0, 1, []) := by decide +kernel
theorem r25_39 : j_at 25 39 = some (39, .bipush 32, 2, []) := by decide +kernel
theorem r25_41 : j_at 25 41 = some (41, .invokevirtual 59, 3, [2, 2, 31, 449, 450, 5, 74, 0, 3]) := by decide +kernel
theorem r25_44 : j_at 25 44 = some (44, .ifCond .ne 5, 3, []) := by decide +kernel
theorem r25_47 : j_at 25 47 = some (47, .iconst 0, 1, []) := by decide +kernel
theorem r25_48 : j_at 25 48 = some (48, .ireturn, 1, []) := by decide +kernel
theorem r25_49 : j_at 25 49 = some (49, .aload_n 0, 1, []) := by decide +kernel
theorem r25_50 : j_at 25 50 = some (50, .invokevirtual 92, 3, [2, 1, 29, 451, 452, 6, 74, 0, 3]) := by decide +kernel
theorem r25_53 : j_at 25 53 = some (53, .istore_n 3, 1, []) := by decide +kernel
theorem r25_54 : j_at 25 54 = some (54, .iload_n 3, 1, []) := by decide +kernel
theorem r25_55 : j_at 25 55 = some (55, .iconst (-1), 1, []) := by decide +kernel
theorem r25_56 : j_at 25 56 = some (56, .if_icmp .ne 5, 3, []) := by decide +kernel
theorem r25_59 : j_at 25 59 = some (59, .iconst 0, 1, []) := by decide +kernel
theorem r25_60 : j_at 25 60 = some (60, .ireturn, 1, []) := by decide +kernel
theorem r25_61 : j_at 25 61 = some (61, .iload_n 1, 1, []) := by decide +kernel
theorem r25_62 : j_at 25 62 = some (62, .bipush 102, 2, []) := by decide +kernel
theorem r25_64 : j_at 25 64 = some (64, .if_icmp .ne 10, 3, []) := by decide +kernel
theorem r25_67 : j_at 25 67 = some (67, .aload_n 0, 1, []) := by decide +kernel
theorem r25_68 : j_at 25 68 = some (68, .iload_n 3, 1, []) := by decide +kernel
theorem r25_69 : j_at 25 69 = some (69, .putfield 9, 3, [142, 3, 0, 0, 0, 0, 3]) := by decide +kernel
theorem r25_72 : j_at 25 72 = some (72, .iconst 1, 1, []) := by decide +kernel
theorem r25_73 : j_at 25 73 = some (73, .ireturn, 1, []) := by decide +kernel
theorem r25_74 : j_at 25 74 = some (74, .aload_n 0, 1, []) := by decide +kernel
theorem r25_75 : j_at 25 75 = some (75, .bipush 32, 2, []) := by decide +kernel
theorem r25_77 : j_at 25 77 = some (77, .invokevirtual 59, 3, [2, 2, 31, 449, 450, 5, 74, 0, 3]) := by decide +kernel
theorem r25_80 : j_at 25 80 = some (80, .ifCond .eq 11, 3, []) := by decide +kernel
theorem r25_83 : j_at 25 83 = some (83, .aload_n 0, 1, []) := by decide +kernel
theorem r25_84 : j_at 25 84 = some (84, .iconst 0, 1, []) := by decide +kernel
theorem r25_85 : j_at 25 85 = some (85, .invokevirtual 94, 3, [2, 2, 26, 453, 454, 7, 74, 0, 3]) := by decide +kernel
theorem r25_88 : j_at 25 88 = some (88, .ifCond .ne 5, 3, []) := by decide +kernel
theorem r25_91 : j_at 25 91 = some (91, .iconst 0, 1, []) := by decide +kernel
theorem r25_92 : j_at 25 92 = some (92, .ireturn, 1, []) := by decide +kernel
theorem r25_93 : j_at 25 93 = some (93, .aload_n 0, 1, []) := by decide +kernel
theorem r25_94 : j_at 25 94 = some (94, .iload_n 1, 1, []) := by decide +kernel
theorem r25_95 : j_at 25 95 = some (95, .bipush 119, 2, []) := by decide +kernel
theorem r25_97 : j_at 25 97 = some (97, .if_icmp .ne 7, 3, []) := by decide +kernel
theorem r25_100 : j_at 25 100 = some (100, .iconst 1, 1, []) := by decide +kernel
theorem r25_101 : j_at 25 101 = some (101, .goto 4, 3, []) := by decide +kernel
theorem r25_104 : j_at 25 104 = some (104, .iconst 0, 1, []) := by decide +kernel
theorem r25_105 : j_at 25 105 = some (105, .iload_n 3, 1, []) := by decide +kernel
theorem r25_106 : j_at 25 106 = some (106, .invokevirtual 97, 3, [2, 3, 35, 463, 464, 12, 74, 0, 3]) := by decide +kernel
theorem r25_109 : j_at 25 109 = some (109, .iconst 1, 1, []) := by decide +kernel
theorem r25_110 : j_at 25 110 = some (110, .ireturn, 1, []) := by decide +kernel
theorem b25_0 {b : Nat} {x0 : Value} {u1 : Value} {u2 : Value} {u3 : Value} {H : j_H} {Q : Option Value → j_H → Prop} (h0 : j_vc H x0 = 3) : j_wp (b + 1) 25 0 [x0, u1, u2, u3] [] H Q = j_wp b 30 0 [x0] [] H (j_k (b + 1) 25 4 [x0, u1, u2, u3] [] Q) := Eq.trans (s_aload_n r25_0 rfl (j_isr_vc h0 rfl)) (j_cll (as := [x0]) (es := [x0]) (s_c2 r25_1 rfl h0 rfl rfl (j_dok (s := [x0]) (as := [x0]) (rest := []) (es := [x0]) rfl rfl rfl rfl (j_slc (j_c1r (j_isr_vc h0 rfl)) rfl) rfl)) (j_slc (j_c1r (j_isr_vc h0 rfl)) rfl) rfl)
theorem b25_4 {b : Nat} {x0 : Value} {u1 : Value} {u2 : Value} {u3 : Value} {y0 : Int32} {H : j_H} {Q : Option Value → j_H → Prop} (h0 : j_isr x0 = true) : j_wp b 25 4 [x0, u1, u2, u3] [.int y0] H Q = (if ¬ y0.toInt = 108 then j_wp b 25 16 [x0, .int y0, u2, u3] [] H Q else j_wp b 25 11 [x0, .int y0, u2, u3] [] H Q) := Eq.trans (s_istore_n r25_4 (Nat.le_of_ble_eq_true rfl) (j_stc (j_c1r h0) rfl)) (Eq.trans (s_iload_n r25_5 rfl) (Eq.trans (s_bipush r25_6) (s_icne r25_8 rfl rfl rfl)))
theorem b25_11 {b : Nat} {x0 : Value} {x1 : Int32} {u2 : Value} {u3 : Value} {H : j_H} {Q : Option Value → j_H → Prop}  : j_wp b 25 11 [x0, .int x1, u2, u3] [] H Q = j_wp b 25 29 [x0, .int x1, u2, u3] [.ref 0] H Q := Eq.trans (s_ldcs r25_11 (by decide)) (s_goto r25_13 rfl)
theorem b25_16 {b : Nat} {x0 : Value} {x1 : Int32} {u2 : Value} {u3 : Value} {H : j_H} {Q : Option Value → j_H → Prop}  : j_wp b 25 16 [x0, .int x1, u2, u3] [] H Q = (if ¬ x1.toInt = 119 then j_wp b 25 27 [x0, .int x1, u2, u3] [] H Q else j_wp b 25 22 [x0, .int x1, u2, u3] [] H Q) := Eq.trans (s_iload_n r25_16 rfl) (Eq.trans (s_bipush r25_17) (s_icne r25_19 rfl rfl rfl))
theorem b25_22 {b : Nat} {x0 : Value} {x1 : Int32} {u2 : Value} {u3 : Value} {H : j_H} {Q : Option Value → j_H → Prop}  : j_wp b 25 22 [x0, .int x1, u2, u3] [] H Q = j_wp b 25 29 [x0, .int x1, u2, u3] [.ref 1] H Q := Eq.trans (s_ldcs r25_22 (by decide)) (s_goto r25_24 rfl)
theorem b25_27 {b : Nat} {x0 : Value} {x1 : Int32} {u2 : Value} {u3 : Value} {H : j_H} {Q : Option Value → j_H → Prop}  : j_wp b 25 27 [x0, .int x1, u2, u3] [] H Q = j_wp b 25 29 [x0, .int x1, u2, u3] [.ref 2] H Q := s_ldcs r25_27 (by decide)
theorem b25_29 {b : Nat} {x0 : Value} {x1 : Int32} {u2 : Value} {u3 : Value} {y0 : Value} {H : j_H} {Q : Option Value → j_H → Prop} (h0 : j_isr y0 = true) (h1 : ¬ (y0 : Value) = .ref 11) (h2 : j_vc H x0 = 3) : j_wp (b + 1) 25 29 [x0, .int x1, u2, u3] [y0] H Q = j_wp b 32 0 [x0, y0, j_u] [] H (j_k (b + 1) 25 35 [x0, .int x1, y0, u3] [] Q) := Eq.trans (s_astore_n r25_29 (Nat.le_of_ble_eq_true rfl) h0 h1 rfl) (Eq.trans (s_aload_n r25_30 rfl (j_isr_vc h2 rfl)) (Eq.trans (s_aload_n r25_31 rfl h0) (j_cll (as := [x0, y0]) (es := [x0, y0]) (s_c2 r25_32 rfl h2 rfl rfl (j_dok (s := [y0, x0]) (as := [x0, y0]) (rest := []) (es := [x0, y0]) rfl rfl rfl rfl (j_slc (j_c1r (j_isr_vc h2 rfl)) (j_slc (j_c1r h0) rfl)) rfl)) (j_slc (j_c1r (j_isr_vc h2 rfl)) (j_slc (j_c1r h0) rfl)) rfl)))
theorem b25_35 {b : Nat} {x0 : Value} {x1 : Int32} {x2 : Value} {u3 : Value} {y0 : Int32} {H : j_H} {Q : Option Value → j_H → Prop}  : j_wp b 25 35 [x0, .int x1, x2, u3] [.int y0] H Q = (if y0.toInt = 0 then j_wp b 25 47 [x0, .int x1, x2, u3] [] H Q else j_wp b 25 38 [x0, .int x1, x2, u3] [] H Q) := s_ifeq r25_35 rfl rfl
theorem b25_38 {b : Nat} {x0 : Value} {x1 : Int32} {x2 : Value} {u3 : Value} {H : j_H} {Q : Option Value → j_H → Prop} (h0 : j_vc H x0 = 3) : j_wp (b + 1) 25 38 [x0, .int x1, x2, u3] [] H Q = j_wp b 31 0 [x0, .int (Int32.ofInt 32)] [] H (j_k (b + 1) 25 44 [x0, .int x1, x2, u3] [] Q) := Eq.trans (s_aload_n r25_38 rfl (j_isr_vc h0 rfl)) (Eq.trans (s_bipush r25_39) (j_cll (as := [x0, .int (Int32.ofInt 32)]) (es := [x0, .int (Int32.ofInt 32)]) (s_c2 r25_41 rfl h0 rfl rfl (j_dok (s := [.int (Int32.ofInt 32), x0]) (as := [x0, .int (Int32.ofInt 32)]) (rest := []) (es := [x0, .int (Int32.ofInt 32)]) rfl rfl rfl rfl (j_slc (j_c1r (j_isr_vc h0 rfl)) rfl) rfl)) (j_slc (j_c1r (j_isr_vc h0 rfl)) rfl) rfl))
theorem b25_44 {b : Nat} {x0 : Value} {x1 : Int32} {x2 : Value} {u3 : Value} {y0 : Int32} {H : j_H} {Q : Option Value → j_H → Prop}  : j_wp b 25 44 [x0, .int x1, x2, u3] [.int y0] H Q = (if ¬ y0.toInt = 0 then j_wp b 25 49 [x0, .int x1, x2, u3] [] H Q else j_wp b 25 47 [x0, .int x1, x2, u3] [] H Q) := s_ifne r25_44 rfl rfl
theorem b25_47 {b : Nat} {x0 : Value} {x1 : Int32} {x2 : Value} {u3 : Value} {H : j_H} {Q : Option Value → j_H → Prop}  : j_wp b 25 47 [x0, .int x1, x2, u3] [] H Q = Q (some (.int (Int32.ofInt 0))) H := Eq.trans (s_iconst r25_47) (s_ireturn r25_48 (j_rok4 (z := 0) rfl rfl (by decide)))
theorem b25_49 {b : Nat} {x0 : Value} {x1 : Int32} {x2 : Value} {u3 : Value} {H : j_H} {Q : Option Value → j_H → Prop} (h0 : j_vc H x0 = 3) : j_wp (b + 1) 25 49 [x0, .int x1, x2, u3] [] H Q = j_wp b 29 0 [x0, j_u, j_u] [] H (j_k (b + 1) 25 53 [x0, .int x1, x2, u3] [] Q) := Eq.trans (s_aload_n r25_49 rfl (j_isr_vc h0 rfl)) (j_cll (as := [x0]) (es := [x0]) (s_c2 r25_50 rfl h0 rfl rfl (j_dok (s := [x0]) (as := [x0]) (rest := []) (es := [x0]) rfl rfl rfl rfl (j_slc (j_c1r (j_isr_vc h0 rfl)) rfl) rfl)) (j_slc (j_c1r (j_isr_vc h0 rfl)) rfl) rfl)
theorem b25_53 {b : Nat} {x0 : Value} {x1 : Int32} {x2 : Value} {u3 : Value} {y0 : Int32} {H : j_H} {Q : Option Value → j_H → Prop} (h0 : j_isr x2 = true) : j_wp b 25 53 [x0, .int x1, x2, u3] [.int y0] H Q = (if ¬ y0.toInt = (-1) then j_wp b 25 61 [x0, .int x1, x2, .int y0] [] H Q else j_wp b 25 59 [x0, .int x1, x2, .int y0] [] H Q) := Eq.trans (s_istore_n r25_53 (Nat.le_of_ble_eq_true rfl) (j_stc (j_c1r h0) rfl)) (Eq.trans (s_iload_n r25_54 rfl) (Eq.trans (s_iconst r25_55) (s_icne r25_56 rfl rfl rfl)))
theorem b25_59 {b : Nat} {x0 : Value} {x1 : Int32} {x2 : Value} {x3 : Int32} {H : j_H} {Q : Option Value → j_H → Prop}  : j_wp b 25 59 [x0, .int x1, x2, .int x3] [] H Q = Q (some (.int (Int32.ofInt 0))) H := Eq.trans (s_iconst r25_59) (s_ireturn r25_60 (j_rok4 (z := 0) rfl rfl (by decide)))
theorem b25_61 {b : Nat} {x0 : Value} {x1 : Int32} {x2 : Value} {x3 : Int32} {H : j_H} {Q : Option Value → j_H → Prop}  : j_wp b 25 61 [x0, .int x1, x2, .int x3] [] H Q = (if ¬ x1.toInt = 102 then j_wp b 25 74 [x0, .int x1, x2, .int x3] [] H Q else j_wp b 25 67 [x0, .int x1, x2, .int x3] [] H Q) := Eq.trans (s_iload_n r25_61 rfl) (Eq.trans (s_bipush r25_62) (s_icne r25_64 rfl rfl rfl))
theorem b25_67 {b : Nat} {x0 : Value} {x1 : Int32} {x2 : Value} {x3 : Int32} {H : j_H} {Q : Option Value → j_H → Prop} (h0 : j_vc H x0 = 3) : j_wp b 25 67 [x0, .int x1, x2, .int x3] [] H Q = j_wp b 25 72 [x0, .int x1, x2, .int x3] [] (j_sI H (j_pa x0) 0 x3) Q := Eq.trans (s_aload_n r25_67 rfl (j_isr_vc h0 rfl)) (Eq.trans (s_iload_n r25_68 rfl) (s_put r25_69 (j_al1 h0 rfl) rfl j_putI))
theorem b25_72 {b : Nat} {x0 : Value} {x1 : Int32} {x2 : Value} {x3 : Int32} {H : j_H} {Q : Option Value → j_H → Prop}  : j_wp b 25 72 [x0, .int x1, x2, .int x3] [] H Q = Q (some (.int (Int32.ofInt 1))) H := Eq.trans (s_iconst r25_72) (s_ireturn r25_73 (j_rok4 (z := 1) rfl rfl (by decide)))
theorem b25_74 {b : Nat} {x0 : Value} {x1 : Int32} {x2 : Value} {x3 : Int32} {H : j_H} {Q : Option Value → j_H → Prop} (h0 : j_vc H x0 = 3) : j_wp (b + 1) 25 74 [x0, .int x1, x2, .int x3] [] H Q = j_wp b 31 0 [x0, .int (Int32.ofInt 32)] [] H (j_k (b + 1) 25 80 [x0, .int x1, x2, .int x3] [] Q) := Eq.trans (s_aload_n r25_74 rfl (j_isr_vc h0 rfl)) (Eq.trans (s_bipush r25_75) (j_cll (as := [x0, .int (Int32.ofInt 32)]) (es := [x0, .int (Int32.ofInt 32)]) (s_c2 r25_77 rfl h0 rfl rfl (j_dok (s := [.int (Int32.ofInt 32), x0]) (as := [x0, .int (Int32.ofInt 32)]) (rest := []) (es := [x0, .int (Int32.ofInt 32)]) rfl rfl rfl rfl (j_slc (j_c1r (j_isr_vc h0 rfl)) rfl) rfl)) (j_slc (j_c1r (j_isr_vc h0 rfl)) rfl) rfl))
theorem b25_80 {b : Nat} {x0 : Value} {x1 : Int32} {x2 : Value} {x3 : Int32} {y0 : Int32} {H : j_H} {Q : Option Value → j_H → Prop}  : j_wp b 25 80 [x0, .int x1, x2, .int x3] [.int y0] H Q = (if y0.toInt = 0 then j_wp b 25 91 [x0, .int x1, x2, .int x3] [] H Q else j_wp b 25 83 [x0, .int x1, x2, .int x3] [] H Q) := s_ifeq r25_80 rfl rfl
theorem b25_83 {b : Nat} {x0 : Value} {x1 : Int32} {x2 : Value} {x3 : Int32} {H : j_H} {Q : Option Value → j_H → Prop} (h0 : j_vc H x0 = 3) : j_wp (b + 1) 25 83 [x0, .int x1, x2, .int x3] [] H Q = j_wp b 26 0 [x0, .int (Int32.ofInt 0), j_u] [] H (j_k (b + 1) 25 88 [x0, .int x1, x2, .int x3] [] Q) := Eq.trans (s_aload_n r25_83 rfl (j_isr_vc h0 rfl)) (Eq.trans (s_iconst r25_84) (j_cll (as := [x0, .int (Int32.ofInt 0)]) (es := [x0, .int (Int32.ofInt 0)]) (s_c2 r25_85 rfl h0 rfl rfl (j_dok (s := [.int (Int32.ofInt 0), x0]) (as := [x0, .int (Int32.ofInt 0)]) (rest := []) (es := [x0, .int (Int32.ofInt 0)]) rfl rfl rfl rfl (j_slc (j_c1r (j_isr_vc h0 rfl)) rfl) rfl)) (j_slc (j_c1r (j_isr_vc h0 rfl)) rfl) rfl))
theorem b25_88 {b : Nat} {x0 : Value} {x1 : Int32} {x2 : Value} {x3 : Int32} {y0 : Int32} {H : j_H} {Q : Option Value → j_H → Prop}  : j_wp b 25 88 [x0, .int x1, x2, .int x3] [.int y0] H Q = (if ¬ y0.toInt = 0 then j_wp b 25 93 [x0, .int x1, x2, .int x3] [] H Q else j_wp b 25 91 [x0, .int x1, x2, .int x3] [] H Q) := s_ifne r25_88 rfl rfl
theorem b25_91 {b : Nat} {x0 : Value} {x1 : Int32} {x2 : Value} {x3 : Int32} {H : j_H} {Q : Option Value → j_H → Prop}  : j_wp b 25 91 [x0, .int x1, x2, .int x3] [] H Q = Q (some (.int (Int32.ofInt 0))) H := Eq.trans (s_iconst r25_91) (s_ireturn r25_92 (j_rok4 (z := 0) rfl rfl (by decide)))
theorem b25_93 {b : Nat} {x0 : Value} {x1 : Int32} {x2 : Value} {x3 : Int32} {H : j_H} {Q : Option Value → j_H → Prop} (h0 : j_isr x0 = true) : j_wp b 25 93 [x0, .int x1, x2, .int x3] [] H Q = (if ¬ x1.toInt = 119 then j_wp b 25 104 [x0, .int x1, x2, .int x3] [x0] H Q else j_wp b 25 100 [x0, .int x1, x2, .int x3] [x0] H Q) := Eq.trans (s_aload_n r25_93 rfl h0) (Eq.trans (s_iload_n r25_94 rfl) (Eq.trans (s_bipush r25_95) (s_icne r25_97 rfl rfl rfl)))
theorem b25_100 {b : Nat} {x0 : Value} {x1 : Int32} {x2 : Value} {x3 : Int32} {y0 : Value} {H : j_H} {Q : Option Value → j_H → Prop}  : j_wp b 25 100 [x0, .int x1, x2, .int x3] [y0] H Q = j_wp b 25 105 [x0, .int x1, x2, .int x3] [.int (Int32.ofInt 1), y0] H Q := Eq.trans (s_iconst r25_100) (s_goto r25_101 rfl)
theorem b25_104 {b : Nat} {x0 : Value} {x1 : Int32} {x2 : Value} {x3 : Int32} {y0 : Value} {H : j_H} {Q : Option Value → j_H → Prop}  : j_wp b 25 104 [x0, .int x1, x2, .int x3] [y0] H Q = j_wp b 25 105 [x0, .int x1, x2, .int x3] [.int (Int32.ofInt 0), y0] H Q := s_iconst r25_104
theorem b25_105 {b : Nat} {x0 : Value} {x1 : Int32} {x2 : Value} {x3 : Int32} {y0 : Int32} {y1 : Value} {H : j_H} {Q : Option Value → j_H → Prop} (h0 : j_vc H y1 = 3) : j_wp (b + 1) 25 105 [x0, .int x1, x2, .int x3] [.int y0, y1] H Q = j_wp b 35 0 [y1, .int y0, .int x3] [] H (j_k (b + 1) 25 109 [x0, .int x1, x2, .int x3] [] Q) := Eq.trans (s_iload_n r25_105 rfl) (j_cll (as := [y1, .int y0, .int x3]) (es := [y1, .int y0, .int x3]) (s_c2 r25_106 rfl h0 rfl rfl (j_dok (s := [.int x3, .int y0, y1]) (as := [y1, .int y0, .int x3]) (rest := []) (es := [y1, .int y0, .int x3]) rfl rfl rfl rfl (j_slc (j_c1r (j_isr_vc h0 rfl)) rfl) rfl)) (j_slc (j_c1r (j_isr_vc h0 rfl)) rfl) rfl)
theorem b25_109 {b : Nat} {x0 : Value} {x1 : Int32} {x2 : Value} {x3 : Int32} {H : j_H} {Q : Option Value → j_H → Prop}  : j_wp b 25 109 [x0, .int x1, x2, .int x3] [] H Q = Q (some (.int (Int32.ofInt 1))) H := Eq.trans (s_iconst r25_109) (s_ireturn r25_110 (j_rok4 (z := 1) rfl rfl (by decide)))
-- X3_either
theorem r26_0 : j_at 26 0 = some (0, .aload_n 0, 1, []) := by decide +kernel
theorem r26_1 : j_at 26 1 = some (1, .iload_n 1, 1, []) := by decide +kernel
theorem r26_2 : j_at 26 2 = some (2, .invokevirtual 101, 3, [2, 2, 27, 455, 456, 8, 74, 0, 3]) := by decide +kernel
theorem r26_5 : j_at 26 5 = some (5, .ifCond .ne 5, 3, []) := by decide +kernel
theorem r26_8 : j_at 26 8 = some (8, .iconst 0, 1, []) := by decide +kernel
theorem r26_9 : j_at 26 9 = some (9, .ireturn, 1, []) := by decide +kernel
theorem r26_10 : j_at 26 10 = some (10, .iconst 0, 1, []) := by decide +kernel
theorem r26_11 : j_at 26 11 = some (11, .istore_n 2, 1, []) := by decide +kernel
theorem r26_12 : j_at 26 12 = some (12, .iload_n 2, 1, []) := by decide +kernel
theorem r26_13 : j_at 26 13 = some (13, .bipush 100, 2, []) := by decide +kernel
theorem r26_15 : j_at 26 15 = some (15, .if_icmp .ge 34, 3, []) := by decide +kernel
theorem r26_18 : j_at 26 18 = some (18, .aload_n 0, 1, []) := by decide +kernel
theorem r26_19 : j_at 26 19 = some (19, .bipush 124, 2, []) := by decide +kernel
theorem r26_21 : j_at 26 21 = some (21, .invokevirtual 59, 3, [2, 2, 31, 449, 450, 5, 74, 0, 3]) := by decide +kernel
theorem r26_24 : j_at 26 24 = some (24, .ifCond .eq 25, 3, []) := by decide +kernel
theorem r26_27 : j_at 26 27 = some (27, .aload_n 0, 1, []) := by decide +kernel
theorem r26_28 : j_at 26 28 = some (28, .iload_n 1, 1, []) := by decide +kernel
theorem r26_29 : j_at 26 29 = some (29, .invokevirtual 101, 3, [2, 2, 27, 455, 456, 8, 74, 0, 3]) := by decide +kernel
theorem r26_32 : j_at 26 32 = some (32, .ifCond .ne 5, 3, []) := by decide +kernel
theorem r26_35 : j_at 26 35 = some (35, .iconst 0, 1, []) := by decide +kernel
theorem r26_36 : j_at 26 36 = some (36, .ireturn, 1, []) := by decide +kernel
theorem r26_37 : j_at 26 37 = some (37, .aload_n 0, 1, []) := by decide +kernel
theorem r26_38 : j_at 26 38 = some (38, .bipush (-3), 2, []) := by decide +kernel
theorem r26_40 : j_at 26 40 = some (40, .invokevirtual 104, 3, [2, 2, 34, 459, 460, 10, 74, 0, 3]) := by decide +kernel
theorem r26_43 : j_at 26 43 = some (43, .iinc 2 1, 3, []) := by decide +kernel
theorem r26_46 : j_at 26 46 = some (46, .goto (-34), 3, []) := by decide +kernel
theorem r26_49 : j_at 26 49 = some (49, .iconst 1, 1, []) := by decide +kernel
theorem r26_50 : j_at 26 50 = some (50, .ireturn, 1, []) := by decide +kernel
theorem b26_0 {b : Nat} {x0 : Value} {x1 : Int32} {u2 : Value} {H : j_H} {Q : Option Value → j_H → Prop} (h0 : j_vc H x0 = 3) : j_wp (b + 1) 26 0 [x0, .int x1, u2] [] H Q = j_wp b 27 0 [x0, .int x1, j_u] [] H (j_k (b + 1) 26 5 [x0, .int x1, u2] [] Q) := Eq.trans (s_aload_n r26_0 rfl (j_isr_vc h0 rfl)) (Eq.trans (s_iload_n r26_1 rfl) (j_cll (as := [x0, .int x1]) (es := [x0, .int x1]) (s_c2 r26_2 rfl h0 rfl rfl (j_dok (s := [.int x1, x0]) (as := [x0, .int x1]) (rest := []) (es := [x0, .int x1]) rfl rfl rfl rfl (j_slc (j_c1r (j_isr_vc h0 rfl)) rfl) rfl)) (j_slc (j_c1r (j_isr_vc h0 rfl)) rfl) rfl))
theorem b26_5 {b : Nat} {x0 : Value} {x1 : Int32} {u2 : Value} {y0 : Int32} {H : j_H} {Q : Option Value → j_H → Prop}  : j_wp b 26 5 [x0, .int x1, u2] [.int y0] H Q = (if ¬ y0.toInt = 0 then j_wp b 26 10 [x0, .int x1, u2] [] H Q else j_wp b 26 8 [x0, .int x1, u2] [] H Q) := s_ifne r26_5 rfl rfl
theorem b26_8 {b : Nat} {x0 : Value} {x1 : Int32} {u2 : Value} {H : j_H} {Q : Option Value → j_H → Prop}  : j_wp b 26 8 [x0, .int x1, u2] [] H Q = Q (some (.int (Int32.ofInt 0))) H := Eq.trans (s_iconst r26_8) (s_ireturn r26_9 (j_rok4 (z := 0) rfl rfl (by decide)))
theorem b26_10 {b : Nat} {x0 : Value} {x1 : Int32} {u2 : Value} {H : j_H} {Q : Option Value → j_H → Prop}  : j_wp b 26 10 [x0, .int x1, u2] [] H Q = j_wp b 26 12 [x0, .int x1, .int (Int32.ofInt 0)] [] H Q := Eq.trans (s_iconst r26_10) (s_istore_n r26_11 (Nat.le_of_ble_eq_true rfl) rfl)
theorem b26_12 {b : Nat} {x0 : Value} {x1 : Int32} {x2 : Int32} {H : j_H} {Q : Option Value → j_H → Prop}  : j_wp b 26 12 [x0, .int x1, .int x2] [] H Q = (if 100 ≤ x2.toInt then j_wp b 26 49 [x0, .int x1, .int x2] [] H Q else j_wp b 26 18 [x0, .int x1, .int x2] [] H Q) := Eq.trans (s_iload_n r26_12 rfl) (Eq.trans (s_bipush r26_13) (s_icge r26_15 rfl rfl rfl))
theorem b26_18 {b : Nat} {x0 : Value} {x1 : Int32} {x2 : Int32} {H : j_H} {Q : Option Value → j_H → Prop} (h0 : j_vc H x0 = 3) : j_wp (b + 1) 26 18 [x0, .int x1, .int x2] [] H Q = j_wp b 31 0 [x0, .int (Int32.ofInt 124)] [] H (j_k (b + 1) 26 24 [x0, .int x1, .int x2] [] Q) := Eq.trans (s_aload_n r26_18 rfl (j_isr_vc h0 rfl)) (Eq.trans (s_bipush r26_19) (j_cll (as := [x0, .int (Int32.ofInt 124)]) (es := [x0, .int (Int32.ofInt 124)]) (s_c2 r26_21 rfl h0 rfl rfl (j_dok (s := [.int (Int32.ofInt 124), x0]) (as := [x0, .int (Int32.ofInt 124)]) (rest := []) (es := [x0, .int (Int32.ofInt 124)]) rfl rfl rfl rfl (j_slc (j_c1r (j_isr_vc h0 rfl)) rfl) rfl)) (j_slc (j_c1r (j_isr_vc h0 rfl)) rfl) rfl))
theorem b26_24 {b : Nat} {x0 : Value} {x1 : Int32} {x2 : Int32} {y0 : Int32} {H : j_H} {Q : Option Value → j_H → Prop}  : j_wp b 26 24 [x0, .int x1, .int x2] [.int y0] H Q = (if y0.toInt = 0 then j_wp b 26 49 [x0, .int x1, .int x2] [] H Q else j_wp b 26 27 [x0, .int x1, .int x2] [] H Q) := s_ifeq r26_24 rfl rfl
theorem b26_27 {b : Nat} {x0 : Value} {x1 : Int32} {x2 : Int32} {H : j_H} {Q : Option Value → j_H → Prop} (h0 : j_vc H x0 = 3) : j_wp (b + 1) 26 27 [x0, .int x1, .int x2] [] H Q = j_wp b 27 0 [x0, .int x1, j_u] [] H (j_k (b + 1) 26 32 [x0, .int x1, .int x2] [] Q) := Eq.trans (s_aload_n r26_27 rfl (j_isr_vc h0 rfl)) (Eq.trans (s_iload_n r26_28 rfl) (j_cll (as := [x0, .int x1]) (es := [x0, .int x1]) (s_c2 r26_29 rfl h0 rfl rfl (j_dok (s := [.int x1, x0]) (as := [x0, .int x1]) (rest := []) (es := [x0, .int x1]) rfl rfl rfl rfl (j_slc (j_c1r (j_isr_vc h0 rfl)) rfl) rfl)) (j_slc (j_c1r (j_isr_vc h0 rfl)) rfl) rfl))
theorem b26_32 {b : Nat} {x0 : Value} {x1 : Int32} {x2 : Int32} {y0 : Int32} {H : j_H} {Q : Option Value → j_H → Prop}  : j_wp b 26 32 [x0, .int x1, .int x2] [.int y0] H Q = (if ¬ y0.toInt = 0 then j_wp b 26 37 [x0, .int x1, .int x2] [] H Q else j_wp b 26 35 [x0, .int x1, .int x2] [] H Q) := s_ifne r26_32 rfl rfl
theorem b26_35 {b : Nat} {x0 : Value} {x1 : Int32} {x2 : Int32} {H : j_H} {Q : Option Value → j_H → Prop}  : j_wp b 26 35 [x0, .int x1, .int x2] [] H Q = Q (some (.int (Int32.ofInt 0))) H := Eq.trans (s_iconst r26_35) (s_ireturn r26_36 (j_rok4 (z := 0) rfl rfl (by decide)))
theorem b26_37 {b : Nat} {x0 : Value} {x1 : Int32} {x2 : Int32} {H : j_H} {Q : Option Value → j_H → Prop} (h0 : j_vc H x0 = 3) : j_wp (b + 1) 26 37 [x0, .int x1, .int x2] [] H Q = j_wp b 34 0 [x0, .int (Int32.ofInt (-3))] [] H (j_k (b + 1) 26 43 [x0, .int x1, .int x2] [] Q) := Eq.trans (s_aload_n r26_37 rfl (j_isr_vc h0 rfl)) (Eq.trans (s_bipush r26_38) (j_cll (as := [x0, .int (Int32.ofInt (-3))]) (es := [x0, .int (Int32.ofInt (-3))]) (s_c2 r26_40 rfl h0 rfl rfl (j_dok (s := [.int (Int32.ofInt (-3)), x0]) (as := [x0, .int (Int32.ofInt (-3))]) (rest := []) (es := [x0, .int (Int32.ofInt (-3))]) rfl rfl rfl rfl (j_slc (j_c1r (j_isr_vc h0 rfl)) rfl) rfl)) (j_slc (j_c1r (j_isr_vc h0 rfl)) rfl) rfl))
theorem b26_43 {b : Nat} {x0 : Value} {x1 : Int32} {x2 : Int32} {H : j_H} {Q : Option Value → j_H → Prop}  : j_wp b 26 43 [x0, .int x1, .int x2] [] H Q = j_wp b 26 12 [x0, .int x1, .int (x2 + Int32.ofInt 1)] [] H Q := Eq.trans (s_iinc r26_43 rfl rfl) (s_goto r26_46 rfl)
theorem b26_49 {b : Nat} {x0 : Value} {x1 : Int32} {x2 : Int32} {H : j_H} {Q : Option Value → j_H → Prop}  : j_wp b 26 49 [x0, .int x1, .int x2] [] H Q = Q (some (.int (Int32.ofInt 1))) H := Eq.trans (s_iconst r26_49) (s_ireturn r26_50 (j_rok4 (z := 1) rfl rfl (by decide)))
-- X3_both
theorem r27_0 : j_at 27 0 = some (0, .aload_n 0, 1, []) := by decide +kernel
theorem r27_1 : j_at 27 1 = some (1, .iload_n 1, 1, []) := by decide +kernel
theorem r27_2 : j_at 27 2 = some (2, .invokevirtual 108, 3, [2, 2, 28, 457, 458, 9, 74, 0, 3]) := by decide +kernel
theorem r27_5 : j_at 27 5 = some (5, .ifCond .ne 5, 3, []) := by decide +kernel
theorem r27_8 : j_at 27 8 = some (8, .iconst 0, 1, []) := by decide +kernel
theorem r27_9 : j_at 27 9 = some (9, .ireturn, 1, []) := by decide +kernel
theorem r27_10 : j_at 27 10 = some (10, .iconst 0, 1, []) := by decide +kernel
theorem r27_11 : j_at 27 11 = some (11, .istore_n 2, 1, []) := by decide +kernel
theorem r27_12 : j_at 27 12 = some (12, .iload_n 2, 1, []) := by decide +kernel
theorem r27_13 : j_at 27 13 = some (13, .bipush 100, 2, []) := by decide +kernel
theorem r27_15 : j_at 27 15 = some (15, .if_icmp .ge 34, 3, []) := by decide +kernel
theorem r27_18 : j_at 27 18 = some (18, .aload_n 0, 1, []) := by decide +kernel
theorem r27_19 : j_at 27 19 = some (19, .bipush 38, 2, []) := by decide +kernel
theorem r27_21 : j_at 27 21 = some (21, .invokevirtual 59, 3, [2, 2, 31, 449, 450, 5, 74, 0, 3]) := by decide +kernel
theorem r27_24 : j_at 27 24 = some (24, .ifCond .eq 25, 3, []) := by decide +kernel
theorem r27_27 : j_at 27 27 = some (27, .aload_n 0, 1, []) := by decide +kernel
theorem r27_28 : j_at 27 28 = some (28, .iload_n 1, 1, []) := by decide +kernel
theorem r27_29 : j_at 27 29 = some (29, .invokevirtual 108, 3, [2, 2, 28, 457, 458, 9, 74, 0, 3]) := by decide +kernel
theorem r27_32 : j_at 27 32 = some (32, .ifCond .ne 5, 3, []) := by decide +kernel
theorem r27_35 : j_at 27 35 = some (35, .iconst 0, 1, []) := by decide +kernel
theorem r27_36 : j_at 27 36 = some (36, .ireturn, 1, []) := by decide +kernel
theorem r27_37 : j_at 27 37 = some (37, .aload_n 0, 1, []) := by decide +kernel
theorem r27_38 : j_at 27 38 = some (38, .bipush (-2), 2, []) := by decide +kernel
theorem r27_40 : j_at 27 40 = some (40, .invokevirtual 104, 3, [2, 2, 34, 459, 460, 10, 74, 0, 3]) := by decide +kernel
theorem r27_43 : j_at 27 43 = some (43, .iinc 2 1, 3, []) := by decide +kernel
theorem r27_46 : j_at 27 46 = some (46, .goto (-34), 3, []) := by decide +kernel
theorem r27_49 : j_at 27 49 = some (49, .iconst 1, 1, []) := by decide +kernel
theorem r27_50 : j_at 27 50 = some (50, .ireturn, 1, []) := by decide +kernel
theorem b27_0 {b : Nat} {x0 : Value} {x1 : Int32} {u2 : Value} {H : j_H} {Q : Option Value → j_H → Prop} (h0 : j_vc H x0 = 3) : j_wp (b + 1) 27 0 [x0, .int x1, u2] [] H Q = j_wp b 28 0 [x0, .int x1, j_u, j_u, j_u, j_u] [] H (j_k (b + 1) 27 5 [x0, .int x1, u2] [] Q) := Eq.trans (s_aload_n r27_0 rfl (j_isr_vc h0 rfl)) (Eq.trans (s_iload_n r27_1 rfl) (j_cll (as := [x0, .int x1]) (es := [x0, .int x1]) (s_c2 r27_2 rfl h0 rfl rfl (j_dok (s := [.int x1, x0]) (as := [x0, .int x1]) (rest := []) (es := [x0, .int x1]) rfl rfl rfl rfl (j_slc (j_c1r (j_isr_vc h0 rfl)) rfl) rfl)) (j_slc (j_c1r (j_isr_vc h0 rfl)) rfl) rfl))
theorem b27_5 {b : Nat} {x0 : Value} {x1 : Int32} {u2 : Value} {y0 : Int32} {H : j_H} {Q : Option Value → j_H → Prop}  : j_wp b 27 5 [x0, .int x1, u2] [.int y0] H Q = (if ¬ y0.toInt = 0 then j_wp b 27 10 [x0, .int x1, u2] [] H Q else j_wp b 27 8 [x0, .int x1, u2] [] H Q) := s_ifne r27_5 rfl rfl
theorem b27_8 {b : Nat} {x0 : Value} {x1 : Int32} {u2 : Value} {H : j_H} {Q : Option Value → j_H → Prop}  : j_wp b 27 8 [x0, .int x1, u2] [] H Q = Q (some (.int (Int32.ofInt 0))) H := Eq.trans (s_iconst r27_8) (s_ireturn r27_9 (j_rok4 (z := 0) rfl rfl (by decide)))
theorem b27_10 {b : Nat} {x0 : Value} {x1 : Int32} {u2 : Value} {H : j_H} {Q : Option Value → j_H → Prop}  : j_wp b 27 10 [x0, .int x1, u2] [] H Q = j_wp b 27 12 [x0, .int x1, .int (Int32.ofInt 0)] [] H Q := Eq.trans (s_iconst r27_10) (s_istore_n r27_11 (Nat.le_of_ble_eq_true rfl) rfl)
theorem b27_12 {b : Nat} {x0 : Value} {x1 : Int32} {x2 : Int32} {H : j_H} {Q : Option Value → j_H → Prop}  : j_wp b 27 12 [x0, .int x1, .int x2] [] H Q = (if 100 ≤ x2.toInt then j_wp b 27 49 [x0, .int x1, .int x2] [] H Q else j_wp b 27 18 [x0, .int x1, .int x2] [] H Q) := Eq.trans (s_iload_n r27_12 rfl) (Eq.trans (s_bipush r27_13) (s_icge r27_15 rfl rfl rfl))
theorem b27_18 {b : Nat} {x0 : Value} {x1 : Int32} {x2 : Int32} {H : j_H} {Q : Option Value → j_H → Prop} (h0 : j_vc H x0 = 3) : j_wp (b + 1) 27 18 [x0, .int x1, .int x2] [] H Q = j_wp b 31 0 [x0, .int (Int32.ofInt 38)] [] H (j_k (b + 1) 27 24 [x0, .int x1, .int x2] [] Q) := Eq.trans (s_aload_n r27_18 rfl (j_isr_vc h0 rfl)) (Eq.trans (s_bipush r27_19) (j_cll (as := [x0, .int (Int32.ofInt 38)]) (es := [x0, .int (Int32.ofInt 38)]) (s_c2 r27_21 rfl h0 rfl rfl (j_dok (s := [.int (Int32.ofInt 38), x0]) (as := [x0, .int (Int32.ofInt 38)]) (rest := []) (es := [x0, .int (Int32.ofInt 38)]) rfl rfl rfl rfl (j_slc (j_c1r (j_isr_vc h0 rfl)) rfl) rfl)) (j_slc (j_c1r (j_isr_vc h0 rfl)) rfl) rfl))
theorem b27_24 {b : Nat} {x0 : Value} {x1 : Int32} {x2 : Int32} {y0 : Int32} {H : j_H} {Q : Option Value → j_H → Prop}  : j_wp b 27 24 [x0, .int x1, .int x2] [.int y0] H Q = (if y0.toInt = 0 then j_wp b 27 49 [x0, .int x1, .int x2] [] H Q else j_wp b 27 27 [x0, .int x1, .int x2] [] H Q) := s_ifeq r27_24 rfl rfl
theorem b27_27 {b : Nat} {x0 : Value} {x1 : Int32} {x2 : Int32} {H : j_H} {Q : Option Value → j_H → Prop} (h0 : j_vc H x0 = 3) : j_wp (b + 1) 27 27 [x0, .int x1, .int x2] [] H Q = j_wp b 28 0 [x0, .int x1, j_u, j_u, j_u, j_u] [] H (j_k (b + 1) 27 32 [x0, .int x1, .int x2] [] Q) := Eq.trans (s_aload_n r27_27 rfl (j_isr_vc h0 rfl)) (Eq.trans (s_iload_n r27_28 rfl) (j_cll (as := [x0, .int x1]) (es := [x0, .int x1]) (s_c2 r27_29 rfl h0 rfl rfl (j_dok (s := [.int x1, x0]) (as := [x0, .int x1]) (rest := []) (es := [x0, .int x1]) rfl rfl rfl rfl (j_slc (j_c1r (j_isr_vc h0 rfl)) rfl) rfl)) (j_slc (j_c1r (j_isr_vc h0 rfl)) rfl) rfl))
theorem b27_32 {b : Nat} {x0 : Value} {x1 : Int32} {x2 : Int32} {y0 : Int32} {H : j_H} {Q : Option Value → j_H → Prop}  : j_wp b 27 32 [x0, .int x1, .int x2] [.int y0] H Q = (if ¬ y0.toInt = 0 then j_wp b 27 37 [x0, .int x1, .int x2] [] H Q else j_wp b 27 35 [x0, .int x1, .int x2] [] H Q) := s_ifne r27_32 rfl rfl
theorem b27_35 {b : Nat} {x0 : Value} {x1 : Int32} {x2 : Int32} {H : j_H} {Q : Option Value → j_H → Prop}  : j_wp b 27 35 [x0, .int x1, .int x2] [] H Q = Q (some (.int (Int32.ofInt 0))) H := Eq.trans (s_iconst r27_35) (s_ireturn r27_36 (j_rok4 (z := 0) rfl rfl (by decide)))
theorem b27_37 {b : Nat} {x0 : Value} {x1 : Int32} {x2 : Int32} {H : j_H} {Q : Option Value → j_H → Prop} (h0 : j_vc H x0 = 3) : j_wp (b + 1) 27 37 [x0, .int x1, .int x2] [] H Q = j_wp b 34 0 [x0, .int (Int32.ofInt (-2))] [] H (j_k (b + 1) 27 43 [x0, .int x1, .int x2] [] Q) := Eq.trans (s_aload_n r27_37 rfl (j_isr_vc h0 rfl)) (Eq.trans (s_bipush r27_38) (j_cll (as := [x0, .int (Int32.ofInt (-2))]) (es := [x0, .int (Int32.ofInt (-2))]) (s_c2 r27_40 rfl h0 rfl rfl (j_dok (s := [.int (Int32.ofInt (-2)), x0]) (as := [x0, .int (Int32.ofInt (-2))]) (rest := []) (es := [x0, .int (Int32.ofInt (-2))]) rfl rfl rfl rfl (j_slc (j_c1r (j_isr_vc h0 rfl)) rfl) rfl)) (j_slc (j_c1r (j_isr_vc h0 rfl)) rfl) rfl))
theorem b27_43 {b : Nat} {x0 : Value} {x1 : Int32} {x2 : Int32} {H : j_H} {Q : Option Value → j_H → Prop}  : j_wp b 27 43 [x0, .int x1, .int x2] [] H Q = j_wp b 27 12 [x0, .int x1, .int (x2 + Int32.ofInt 1)] [] H Q := Eq.trans (s_iinc r27_43 rfl rfl) (s_goto r27_46 rfl)
theorem b27_49 {b : Nat} {x0 : Value} {x1 : Int32} {x2 : Int32} {H : j_H} {Q : Option Value → j_H → Prop}  : j_wp b 27 49 [x0, .int x1, .int x2] [] H Q = Q (some (.int (Int32.ofInt 1))) H := Eq.trans (s_iconst r27_49) (s_ireturn r27_50 (j_rok4 (z := 1) rfl rfl (by decide)))
-- X3_factor
theorem r28_0 : j_at 28 0 = some (0, .aload_n 0, 1, []) := by decide +kernel
theorem r28_1 : j_at 28 1 = some (1, .invokevirtual 55, 3, [2, 1, 30, 418, 419, 3, 74, 0, 3]) := by decide +kernel
theorem r28_4 : j_at 28 4 = some (4, .istore_n 2, 1, []) := by decide +kernel
theorem r28_5 : j_at 28 5 = some (5, .iload_n 2, 1, []) := by decide +kernel
theorem r28_6 : j_at 28 6 = some (6, .bipush 40, 2, []) := by decide +kernel
theorem r28_8 : j_at 28 8 = some (8, .if_icmp .eq 9, 3, []) := by decide +kernel
theorem r28_11 : j_at 28 11 = some (11, .iload_n 2, 1, []) := by decide +kernel
theorem r28_12 : j_at 28 12 = some (12, .bipush 33, 2, []) := by decide +kernel
theorem r28_14 : j_at 28 14 = some (14, .if_icmp .ne 70, 3, []) := by decide +kernel
theorem r28_17 : j_at 28 17 = some (17, .iload_n 1, 1, []) := by decide +kernel
theorem r28_18 : j_at 28 18 = some (18, .iconst 4, 1, []) := by decide +kernel
theorem r28_19 : j_at 28 19 = some (19, .if_icmp .lt 5, 3, []) := by decide +kernel
theorem r28_22 : j_at 28 22 = some (22, .iconst 0, 1, []) := by decide +kernel
theorem r28_23 : j_at 28 23 = some (23, .ireturn, 1, []) := by decide +kernel
theorem r28_24 : j_at 28 24 = some (24, .aload_n 0, 1, []) := by decide +kernel
theorem r28_25 : j_at 28 25 = some (25, .dup, 1, []) := by decide +kernel
theorem r28_26 : j_at 28 26 = some (26, .getfield 38, 3, [155, 3, 0, 11, 0, 3]) := by decide +kernel
theorem r28_29 : j_at 28 29 = some (29, .iconst 1, 1, []) := by decide +kernel
theorem r28_30 : j_at 28 30 = some (30, .iadd, 1, []) := by decide +kernel
theorem r28_31 : j_at 28 31 = some (31, .putfield 38, 3, [155, 3, 0, 11, 0, 0, 3]) := by decide +kernel
theorem r28_34 : j_at 28 34 = some (34, .iload_n 2, 1, []) := by decide +kernel
theorem r28_35 : j_at 28 35 = some (35, .bipush 40, 2, []) := by decide +kernel
theorem r28_37 : j_at 28 37 = some (37, .if_icmp .ne 28, 3, []) := by decide +kernel
theorem r28_40 : j_at 28 40 = some (40, .aload_n 0, 1, []) := by decide +kernel
theorem r28_41 : j_at 28 41 = some (41, .iload_n 1, 1, []) := by decide +kernel
theorem r28_42 : j_at 28 42 = some (42, .iconst 1, 1, []) := by decide +kernel
theorem r28_43 : j_at 28 43 = some (43, .iadd, 1, []) := by decide +kernel
theorem r28_44 : j_at 28 44 = some (44, .invokevirtual 94, 3, [2, 2, 26, 453, 454, 7, 74, 0, 3]) := by decide +kernel
theorem r28_47 : j_at 28 47 = some (47, .ifCond .eq 16, 3, []) := by decide +kernel
theorem r28_50 : j_at 28 50 = some (50, .aload_n 0, 1, []) := by decide +kernel
theorem r28_51 : j_at 28 51 = some (51, .bipush 41, 2, []) := by decide +kernel
theorem r28_53 : j_at 28 53 = some (53, .invokevirtual 59, 3, [2, 2, 31, 449, 450, 5, 74, 0, 3]) := by decide +kernel
theorem r28_56 : j_at 28 56 = some (56, .ifCond .eq 7, 3, []) := by decide +kernel
theorem r28_59 : j_at 28 59 = some (59, .iconst 1, 1, []) := by decide +kernel
theorem r28_60 : j_at 28 60 = some (60, .goto 4, 3, []) := by decide +kernel
theorem r28_63 : j_at 28 63 = some (63, .iconst 0, 1, []) := by decide +kernel
theorem r28_64 : j_at 28 64 = some (64, .ireturn, 1, []) := by decide +kernel
theorem r28_65 : j_at 28 65 = some (65, .aload_n 0, 1, []) := by decide +kernel
theorem r28_66 : j_at 28 66 = some (66, .iload_n 1, 1, []) := by decide +kernel
theorem r28_67 : j_at 28 67 = some (67, .iconst 1, 1, []) := by decide +kernel
theorem r28_68 : j_at 28 68 = some (68, .iadd, 1, []) := by decide +kernel
theorem r28_69 : j_at 28 69 = some (69, .invokevirtual 108, 3, [2, 2, 28, 457, 458, 9, 74, 0, 3]) := by decide +kernel
theorem r28_72 : j_at 28 72 = some (72, .ifCond .ne 5, 3, []) := by decide +kernel
theorem r28_75 : j_at 28 75 = some (75, .iconst 0, 1, []) := by decide +kernel
theorem r28_76 : j_at 28 76 = some (76, .ireturn, 1, []) := by decide +kernel
theorem r28_77 : j_at 28 77 = some (77, .aload_n 0, 1, []) := by decide +kernel
theorem r28_78 : j_at 28 78 = some (78, .iconst (-1), 1, []) := by decide +kernel
theorem r28_79 : j_at 28 79 = some (79, .invokevirtual 104, 3, [2, 2, 34, 459, 460, 10, 74, 0, 3]) := by decide +kernel
theorem r28_82 : j_at 28 82 = some (82, .iconst 1, 1, []) := by decide +kernel
theorem r28_83 : j_at 28 83 = some (83, .ireturn, 1, []) := by decide +kernel
theorem r28_84 : j_at 28 84 = some (84, .aload_n 0, 1, []) := by decide +kernel
theorem r28_85 : j_at 28 85 = some (85, .ldc 111, 2, [1, 3]) := by decide +kernel
theorem r28_87 : j_at 28 87 = some (87, .invokevirtual 113, 3, [2, 2, 33, 461, 462, 11, 74, 0, 3]) := by decide +kernel
theorem r28_90 : j_at 28 90 = some (90, .istore_n 3, 1, []) := by decide +kernel
theorem r28_91 : j_at 28 91 = some (91, .iload_n 3, 1, []) := by decide +kernel
theorem r28_92 : j_at 28 92 = some (92, .ifCond .ge 5, 3, []) := by decide +kernel
theorem r28_95 : j_at 28 95 = some (95, .iconst 0, 1, []) := by decide +kernel
theorem r28_96 : j_at 28 96 = some (96, .ireturn, 1, []) := by decide +kernel
theorem r28_97 : j_at 28 97 = some (97, .aload_n 0, 1, []) := by decide +kernel
theorem r28_98 : j_at 28 98 = some (98, .ldc 117, 2, [1, 4]) := by decide +kernel
theorem r28_100 : j_at 28 100 = some (100, .invokevirtual 113, 3, [2, 2, 33, 461, 462, 11, 74, 0, 3]) := by decide +kernel
theorem r28_103 : j_at 28 103 = some (103, .istore 4, 2, []) := by decide +kernel
theorem r28_105 : j_at 28 105 = some (105, .iload 4, 2, []) := by decide +kernel
theorem r28_107 : j_at 28 107 = some (107, .ifCond .ge 5, 3, []) := by decide +kernel
theorem r28_110 : j_at 28 110 = some (110, .iconst 0, 1, []) := by decide +kernel
theorem r28_111 : j_at 28 111 = some (111, .ireturn, 1, []) := by decide +kernel
theorem r28_112 : j_at 28 112 = some (112, .aload_n 0, 1, []) := by decide +kernel
theorem r28_113 : j_at 28 113 = some (113, .invokevirtual 92, 3, [2, 1, 29, 451, 452, 6, 74, 0, 3]) := by decide +kernel
theorem r28_116 : j_at 28 116 = some (116, .istore 5, 2, []) := by decide +kernel
theorem r28_118 : j_at 28 118 = some (118, .iload 5, 2, []) := by decide +kernel
theorem r28_120 : j_at 28 120 = some (120, .iconst (-1), 1, []) := by decide +kernel
theorem r28_121 : j_at 28 121 = some (121, .if_icmp .ne 5, 3, []) := by decide +kernel
theorem r28_124 : j_at 28 124 = some (124, .iconst 0, 1, []) := by decide +kernel
theorem r28_125 : j_at 28 125 = some (125, .ireturn, 1, []) := by decide +kernel
theorem r28_126 : j_at 28 126 = some (126, .aload_n 0, 1, []) := by decide +kernel
theorem r28_127 : j_at 28 127 = some (127, .iload_n 3, 1, []) := by decide +kernel
theorem r28_128 : j_at 28 128 = some (128, .sipush 300, 3, []) := by decide +kernel
theorem r28_131 : j_at 28 131 = some (131, .imul, 1, []) := by decide +kernel
theorem r28_132 : j_at 28 132 = some (132, .iload 4, 2, []) := by decide +kernel
theorem r28_134 : j_at 28 134 = some (134, .bipush 100, 2, []) := by decide +kernel
theorem r28_136 : j_at 28 136 = some (136, .imul, 1, []) := by decide +kernel
theorem r28_137 : j_at 28 137 = some (137, .iadd, 1, []) := by decide +kernel
theorem r28_138 : j_at 28 138 = some (138, .iload 5, 2, []) := by decide +kernel
theorem r28_140 : j_at 28 140 = some (140, .iadd, 1, []) := by decide +kernel
theorem r28_141 : j_at 28 141 = some (141, .invokevirtual 104, 3, [2, 2, 34, 459, 460, 10, 74, 0, 3]) := by decide +kernel
theorem r28_144 : j_at 28 144 = some (144, .iconst 1, 1, []) := by decide +kernel
theorem r28_145 : j_at 28 145 = some (145, .ireturn, 1, []) := by decide +kernel
theorem b28_0 {b : Nat} {x0 : Value} {x1 : Int32} {u2 : Value} {u3 : Value} {u4 : Value} {u5 : Value} {H : j_H} {Q : Option Value → j_H → Prop} (h0 : j_vc H x0 = 3) : j_wp (b + 1) 28 0 [x0, .int x1, u2, u3, u4, u5] [] H Q = j_wp b 30 0 [x0] [] H (j_k (b + 1) 28 4 [x0, .int x1, u2, u3, u4, u5] [] Q) := Eq.trans (s_aload_n r28_0 rfl (j_isr_vc h0 rfl)) (j_cll (as := [x0]) (es := [x0]) (s_c2 r28_1 rfl h0 rfl rfl (j_dok (s := [x0]) (as := [x0]) (rest := []) (es := [x0]) rfl rfl rfl rfl (j_slc (j_c1r (j_isr_vc h0 rfl)) rfl) rfl)) (j_slc (j_c1r (j_isr_vc h0 rfl)) rfl) rfl)
theorem b28_4 {b : Nat} {x0 : Value} {x1 : Int32} {u2 : Value} {u3 : Value} {u4 : Value} {u5 : Value} {y0 : Int32} {H : j_H} {Q : Option Value → j_H → Prop}  : j_wp b 28 4 [x0, .int x1, u2, u3, u4, u5] [.int y0] H Q = (if y0.toInt = 40 then j_wp b 28 17 [x0, .int x1, .int y0, u3, u4, u5] [] H Q else j_wp b 28 11 [x0, .int x1, .int y0, u3, u4, u5] [] H Q) := Eq.trans (s_istore_n r28_4 (Nat.le_of_ble_eq_true rfl) rfl) (Eq.trans (s_iload_n r28_5 rfl) (Eq.trans (s_bipush r28_6) (s_iceq r28_8 rfl rfl rfl)))
theorem b28_11 {b : Nat} {x0 : Value} {x1 : Int32} {x2 : Int32} {u3 : Value} {u4 : Value} {u5 : Value} {H : j_H} {Q : Option Value → j_H → Prop}  : j_wp b 28 11 [x0, .int x1, .int x2, u3, u4, u5] [] H Q = (if ¬ x2.toInt = 33 then j_wp b 28 84 [x0, .int x1, .int x2, u3, u4, u5] [] H Q else j_wp b 28 17 [x0, .int x1, .int x2, u3, u4, u5] [] H Q) := Eq.trans (s_iload_n r28_11 rfl) (Eq.trans (s_bipush r28_12) (s_icne r28_14 rfl rfl rfl))
theorem b28_17 {b : Nat} {x0 : Value} {x1 : Int32} {x2 : Int32} {u3 : Value} {u4 : Value} {u5 : Value} {H : j_H} {Q : Option Value → j_H → Prop}  : j_wp b 28 17 [x0, .int x1, .int x2, u3, u4, u5] [] H Q = (if x1.toInt < 4 then j_wp b 28 24 [x0, .int x1, .int x2, u3, u4, u5] [] H Q else j_wp b 28 22 [x0, .int x1, .int x2, u3, u4, u5] [] H Q) := Eq.trans (s_iload_n r28_17 rfl) (Eq.trans (s_iconst r28_18) (s_iclt r28_19 rfl rfl rfl))
theorem b28_22 {b : Nat} {x0 : Value} {x1 : Int32} {x2 : Int32} {u3 : Value} {u4 : Value} {u5 : Value} {H : j_H} {Q : Option Value → j_H → Prop}  : j_wp b 28 22 [x0, .int x1, .int x2, u3, u4, u5] [] H Q = Q (some (.int (Int32.ofInt 0))) H := Eq.trans (s_iconst r28_22) (s_ireturn r28_23 (j_rok4 (z := 0) rfl rfl (by decide)))
theorem b28_24 {b : Nat} {x0 : Value} {x1 : Int32} {x2 : Int32} {u3 : Value} {u4 : Value} {u5 : Value} {H : j_H} {Q : Option Value → j_H → Prop} (h0 : j_vc H x0 = 3) : j_wp b 28 24 [x0, .int x1, .int x2, u3, u4, u5] [] H Q = j_wp b 28 34 [x0, .int x1, .int x2, u3, u4, u5] [] (j_sI H (j_pa x0) 11 ((j_I H (j_pa x0) 11) + (Int32.ofInt 1))) Q := Eq.trans (s_aload_n r28_24 rfl (j_isr_vc h0 rfl)) (Eq.trans (s_dup r28_25 (j_vc_lt h0 rfl)) (Eq.trans (s_getfi r28_26 (j_al1 h0 rfl) rfl rfl rfl) (Eq.trans (s_iconst r28_29) (Eq.trans (s_iadd r28_30) (s_put r28_31 (j_al1 h0 rfl) rfl j_putI)))))
theorem b28_34 {b : Nat} {x0 : Value} {x1 : Int32} {x2 : Int32} {u3 : Value} {u4 : Value} {u5 : Value} {H : j_H} {Q : Option Value → j_H → Prop}  : j_wp b 28 34 [x0, .int x1, .int x2, u3, u4, u5] [] H Q = (if ¬ x2.toInt = 40 then j_wp b 28 65 [x0, .int x1, .int x2, u3, u4, u5] [] H Q else j_wp b 28 40 [x0, .int x1, .int x2, u3, u4, u5] [] H Q) := Eq.trans (s_iload_n r28_34 rfl) (Eq.trans (s_bipush r28_35) (s_icne r28_37 rfl rfl rfl))
theorem b28_40 {b : Nat} {x0 : Value} {x1 : Int32} {x2 : Int32} {u3 : Value} {u4 : Value} {u5 : Value} {H : j_H} {Q : Option Value → j_H → Prop} (h0 : j_vc H x0 = 3) : j_wp (b + 1) 28 40 [x0, .int x1, .int x2, u3, u4, u5] [] H Q = j_wp b 26 0 [x0, .int (x1 + (Int32.ofInt 1)), j_u] [] H (j_k (b + 1) 28 47 [x0, .int x1, .int x2, u3, u4, u5] [] Q) := Eq.trans (s_aload_n r28_40 rfl (j_isr_vc h0 rfl)) (Eq.trans (s_iload_n r28_41 rfl) (Eq.trans (s_iconst r28_42) (Eq.trans (s_iadd r28_43) (j_cll (as := [x0, .int (x1 + (Int32.ofInt 1))]) (es := [x0, .int (x1 + (Int32.ofInt 1))]) (s_c2 r28_44 rfl h0 rfl rfl (j_dok (s := [.int (x1 + (Int32.ofInt 1)), x0]) (as := [x0, .int (x1 + (Int32.ofInt 1))]) (rest := []) (es := [x0, .int (x1 + (Int32.ofInt 1))]) rfl rfl rfl rfl (j_slc (j_c1r (j_isr_vc h0 rfl)) rfl) rfl)) (j_slc (j_c1r (j_isr_vc h0 rfl)) rfl) rfl))))
theorem b28_47 {b : Nat} {x0 : Value} {x1 : Int32} {x2 : Int32} {u3 : Value} {u4 : Value} {u5 : Value} {y0 : Int32} {H : j_H} {Q : Option Value → j_H → Prop}  : j_wp b 28 47 [x0, .int x1, .int x2, u3, u4, u5] [.int y0] H Q = (if y0.toInt = 0 then j_wp b 28 63 [x0, .int x1, .int x2, u3, u4, u5] [] H Q else j_wp b 28 50 [x0, .int x1, .int x2, u3, u4, u5] [] H Q) := s_ifeq r28_47 rfl rfl
theorem b28_50 {b : Nat} {x0 : Value} {x1 : Int32} {x2 : Int32} {u3 : Value} {u4 : Value} {u5 : Value} {H : j_H} {Q : Option Value → j_H → Prop} (h0 : j_vc H x0 = 3) : j_wp (b + 1) 28 50 [x0, .int x1, .int x2, u3, u4, u5] [] H Q = j_wp b 31 0 [x0, .int (Int32.ofInt 41)] [] H (j_k (b + 1) 28 56 [x0, .int x1, .int x2, u3, u4, u5] [] Q) := Eq.trans (s_aload_n r28_50 rfl (j_isr_vc h0 rfl)) (Eq.trans (s_bipush r28_51) (j_cll (as := [x0, .int (Int32.ofInt 41)]) (es := [x0, .int (Int32.ofInt 41)]) (s_c2 r28_53 rfl h0 rfl rfl (j_dok (s := [.int (Int32.ofInt 41), x0]) (as := [x0, .int (Int32.ofInt 41)]) (rest := []) (es := [x0, .int (Int32.ofInt 41)]) rfl rfl rfl rfl (j_slc (j_c1r (j_isr_vc h0 rfl)) rfl) rfl)) (j_slc (j_c1r (j_isr_vc h0 rfl)) rfl) rfl))
theorem b28_56 {b : Nat} {x0 : Value} {x1 : Int32} {x2 : Int32} {u3 : Value} {u4 : Value} {u5 : Value} {y0 : Int32} {H : j_H} {Q : Option Value → j_H → Prop}  : j_wp b 28 56 [x0, .int x1, .int x2, u3, u4, u5] [.int y0] H Q = (if y0.toInt = 0 then j_wp b 28 63 [x0, .int x1, .int x2, u3, u4, u5] [] H Q else j_wp b 28 59 [x0, .int x1, .int x2, u3, u4, u5] [] H Q) := s_ifeq r28_56 rfl rfl
theorem b28_59 {b : Nat} {x0 : Value} {x1 : Int32} {x2 : Int32} {u3 : Value} {u4 : Value} {u5 : Value} {H : j_H} {Q : Option Value → j_H → Prop}  : j_wp b 28 59 [x0, .int x1, .int x2, u3, u4, u5] [] H Q = j_wp b 28 64 [x0, .int x1, .int x2, u3, u4, u5] [.int (Int32.ofInt 1)] H Q := Eq.trans (s_iconst r28_59) (s_goto r28_60 rfl)
theorem b28_63 {b : Nat} {x0 : Value} {x1 : Int32} {x2 : Int32} {u3 : Value} {u4 : Value} {u5 : Value} {H : j_H} {Q : Option Value → j_H → Prop}  : j_wp b 28 63 [x0, .int x1, .int x2, u3, u4, u5] [] H Q = j_wp b 28 64 [x0, .int x1, .int x2, u3, u4, u5] [.int (Int32.ofInt 0)] H Q := s_iconst r28_63
theorem b28_64 {b : Nat} {x0 : Value} {x1 : Int32} {x2 : Int32} {u3 : Value} {u4 : Value} {u5 : Value} {y0 : Int32} {H : j_H} {Q : Option Value → j_H → Prop} (h0 : y0.toInt = 0 ∨ y0.toInt = 1) : j_wp b 28 64 [x0, .int x1, .int x2, u3, u4, u5] [.int y0] H Q = Q (some (.int y0)) H := s_ireturn r28_64 (j_rok4 (z := y0.toInt) rfl rfl h0)
theorem b28_65 {b : Nat} {x0 : Value} {x1 : Int32} {x2 : Int32} {u3 : Value} {u4 : Value} {u5 : Value} {H : j_H} {Q : Option Value → j_H → Prop} (h0 : j_vc H x0 = 3) : j_wp (b + 1) 28 65 [x0, .int x1, .int x2, u3, u4, u5] [] H Q = j_wp b 28 0 [x0, .int (x1 + (Int32.ofInt 1)), j_u, j_u, j_u, j_u] [] H (j_k (b + 1) 28 72 [x0, .int x1, .int x2, u3, u4, u5] [] Q) := Eq.trans (s_aload_n r28_65 rfl (j_isr_vc h0 rfl)) (Eq.trans (s_iload_n r28_66 rfl) (Eq.trans (s_iconst r28_67) (Eq.trans (s_iadd r28_68) (j_cll (as := [x0, .int (x1 + (Int32.ofInt 1))]) (es := [x0, .int (x1 + (Int32.ofInt 1))]) (s_c2 r28_69 rfl h0 rfl rfl (j_dok (s := [.int (x1 + (Int32.ofInt 1)), x0]) (as := [x0, .int (x1 + (Int32.ofInt 1))]) (rest := []) (es := [x0, .int (x1 + (Int32.ofInt 1))]) rfl rfl rfl rfl (j_slc (j_c1r (j_isr_vc h0 rfl)) rfl) rfl)) (j_slc (j_c1r (j_isr_vc h0 rfl)) rfl) rfl))))
theorem b28_72 {b : Nat} {x0 : Value} {x1 : Int32} {x2 : Int32} {u3 : Value} {u4 : Value} {u5 : Value} {y0 : Int32} {H : j_H} {Q : Option Value → j_H → Prop}  : j_wp b 28 72 [x0, .int x1, .int x2, u3, u4, u5] [.int y0] H Q = (if ¬ y0.toInt = 0 then j_wp b 28 77 [x0, .int x1, .int x2, u3, u4, u5] [] H Q else j_wp b 28 75 [x0, .int x1, .int x2, u3, u4, u5] [] H Q) := s_ifne r28_72 rfl rfl
theorem b28_75 {b : Nat} {x0 : Value} {x1 : Int32} {x2 : Int32} {u3 : Value} {u4 : Value} {u5 : Value} {H : j_H} {Q : Option Value → j_H → Prop}  : j_wp b 28 75 [x0, .int x1, .int x2, u3, u4, u5] [] H Q = Q (some (.int (Int32.ofInt 0))) H := Eq.trans (s_iconst r28_75) (s_ireturn r28_76 (j_rok4 (z := 0) rfl rfl (by decide)))
theorem b28_77 {b : Nat} {x0 : Value} {x1 : Int32} {x2 : Int32} {u3 : Value} {u4 : Value} {u5 : Value} {H : j_H} {Q : Option Value → j_H → Prop} (h0 : j_vc H x0 = 3) : j_wp (b + 1) 28 77 [x0, .int x1, .int x2, u3, u4, u5] [] H Q = j_wp b 34 0 [x0, .int (Int32.ofInt (-1))] [] H (j_k (b + 1) 28 82 [x0, .int x1, .int x2, u3, u4, u5] [] Q) := Eq.trans (s_aload_n r28_77 rfl (j_isr_vc h0 rfl)) (Eq.trans (s_iconst r28_78) (j_cll (as := [x0, .int (Int32.ofInt (-1))]) (es := [x0, .int (Int32.ofInt (-1))]) (s_c2 r28_79 rfl h0 rfl rfl (j_dok (s := [.int (Int32.ofInt (-1)), x0]) (as := [x0, .int (Int32.ofInt (-1))]) (rest := []) (es := [x0, .int (Int32.ofInt (-1))]) rfl rfl rfl rfl (j_slc (j_c1r (j_isr_vc h0 rfl)) rfl) rfl)) (j_slc (j_c1r (j_isr_vc h0 rfl)) rfl) rfl))
theorem b28_82 {b : Nat} {x0 : Value} {x1 : Int32} {x2 : Int32} {u3 : Value} {u4 : Value} {u5 : Value} {H : j_H} {Q : Option Value → j_H → Prop}  : j_wp b 28 82 [x0, .int x1, .int x2, u3, u4, u5] [] H Q = Q (some (.int (Int32.ofInt 1))) H := Eq.trans (s_iconst r28_82) (s_ireturn r28_83 (j_rok4 (z := 1) rfl rfl (by decide)))
theorem b28_84 {b : Nat} {x0 : Value} {x1 : Int32} {x2 : Int32} {u3 : Value} {u4 : Value} {u5 : Value} {H : j_H} {Q : Option Value → j_H → Prop} (h0 : j_vc H x0 = 3) : j_wp (b + 1) 28 84 [x0, .int x1, .int x2, u3, u4, u5] [] H Q = j_wp b 33 0 [x0, .ref 3, j_u, j_u] [] H (j_k (b + 1) 28 90 [x0, .int x1, .int x2, u3, u4, u5] [] Q) := Eq.trans (s_aload_n r28_84 rfl (j_isr_vc h0 rfl)) (Eq.trans (s_ldcs r28_85 (by decide)) (j_cll (as := [x0, .ref 3]) (es := [x0, .ref 3]) (s_c2 r28_87 rfl h0 rfl rfl (j_dok (s := [.ref 3, x0]) (as := [x0, .ref 3]) (rest := []) (es := [x0, .ref 3]) rfl rfl rfl rfl (j_slc (j_c1r (j_isr_vc h0 rfl)) (j_slc (j_c1r rfl) rfl)) rfl)) (j_slc (j_c1r (j_isr_vc h0 rfl)) (j_slc (j_c1r rfl) rfl)) rfl))
theorem b28_90 {b : Nat} {x0 : Value} {x1 : Int32} {x2 : Int32} {u3 : Value} {u4 : Value} {u5 : Value} {y0 : Int32} {H : j_H} {Q : Option Value → j_H → Prop}  : j_wp b 28 90 [x0, .int x1, .int x2, u3, u4, u5] [.int y0] H Q = (if 0 ≤ y0.toInt then j_wp b 28 97 [x0, .int x1, .int x2, .int y0, u4, u5] [] H Q else j_wp b 28 95 [x0, .int x1, .int x2, .int y0, u4, u5] [] H Q) := Eq.trans (s_istore_n r28_90 (Nat.le_of_ble_eq_true rfl) rfl) (Eq.trans (s_iload_n r28_91 rfl) (s_ifge r28_92 rfl rfl))
theorem b28_95 {b : Nat} {x0 : Value} {x1 : Int32} {x2 : Int32} {x3 : Int32} {u4 : Value} {u5 : Value} {H : j_H} {Q : Option Value → j_H → Prop}  : j_wp b 28 95 [x0, .int x1, .int x2, .int x3, u4, u5] [] H Q = Q (some (.int (Int32.ofInt 0))) H := Eq.trans (s_iconst r28_95) (s_ireturn r28_96 (j_rok4 (z := 0) rfl rfl (by decide)))
theorem b28_97 {b : Nat} {x0 : Value} {x1 : Int32} {x2 : Int32} {x3 : Int32} {u4 : Value} {u5 : Value} {H : j_H} {Q : Option Value → j_H → Prop} (h0 : j_vc H x0 = 3) : j_wp (b + 1) 28 97 [x0, .int x1, .int x2, .int x3, u4, u5] [] H Q = j_wp b 33 0 [x0, .ref 4, j_u, j_u] [] H (j_k (b + 1) 28 103 [x0, .int x1, .int x2, .int x3, u4, u5] [] Q) := Eq.trans (s_aload_n r28_97 rfl (j_isr_vc h0 rfl)) (Eq.trans (s_ldcs r28_98 (by decide)) (j_cll (as := [x0, .ref 4]) (es := [x0, .ref 4]) (s_c2 r28_100 rfl h0 rfl rfl (j_dok (s := [.ref 4, x0]) (as := [x0, .ref 4]) (rest := []) (es := [x0, .ref 4]) rfl rfl rfl rfl (j_slc (j_c1r (j_isr_vc h0 rfl)) (j_slc (j_c1r rfl) rfl)) rfl)) (j_slc (j_c1r (j_isr_vc h0 rfl)) (j_slc (j_c1r rfl) rfl)) rfl))
theorem b28_103 {b : Nat} {x0 : Value} {x1 : Int32} {x2 : Int32} {x3 : Int32} {u4 : Value} {u5 : Value} {y0 : Int32} {H : j_H} {Q : Option Value → j_H → Prop}  : j_wp b 28 103 [x0, .int x1, .int x2, .int x3, u4, u5] [.int y0] H Q = (if 0 ≤ y0.toInt then j_wp b 28 112 [x0, .int x1, .int x2, .int x3, .int y0, u5] [] H Q else j_wp b 28 110 [x0, .int x1, .int x2, .int x3, .int y0, u5] [] H Q) := Eq.trans (s_istore r28_103 (Nat.le_of_ble_eq_true rfl) rfl) (Eq.trans (s_iload r28_105 rfl) (s_ifge r28_107 rfl rfl))
theorem b28_110 {b : Nat} {x0 : Value} {x1 : Int32} {x2 : Int32} {x3 : Int32} {x4 : Int32} {u5 : Value} {H : j_H} {Q : Option Value → j_H → Prop}  : j_wp b 28 110 [x0, .int x1, .int x2, .int x3, .int x4, u5] [] H Q = Q (some (.int (Int32.ofInt 0))) H := Eq.trans (s_iconst r28_110) (s_ireturn r28_111 (j_rok4 (z := 0) rfl rfl (by decide)))
theorem b28_112 {b : Nat} {x0 : Value} {x1 : Int32} {x2 : Int32} {x3 : Int32} {x4 : Int32} {u5 : Value} {H : j_H} {Q : Option Value → j_H → Prop} (h0 : j_vc H x0 = 3) : j_wp (b + 1) 28 112 [x0, .int x1, .int x2, .int x3, .int x4, u5] [] H Q = j_wp b 29 0 [x0, j_u, j_u] [] H (j_k (b + 1) 28 116 [x0, .int x1, .int x2, .int x3, .int x4, u5] [] Q) := Eq.trans (s_aload_n r28_112 rfl (j_isr_vc h0 rfl)) (j_cll (as := [x0]) (es := [x0]) (s_c2 r28_113 rfl h0 rfl rfl (j_dok (s := [x0]) (as := [x0]) (rest := []) (es := [x0]) rfl rfl rfl rfl (j_slc (j_c1r (j_isr_vc h0 rfl)) rfl) rfl)) (j_slc (j_c1r (j_isr_vc h0 rfl)) rfl) rfl)
theorem b28_116 {b : Nat} {x0 : Value} {x1 : Int32} {x2 : Int32} {x3 : Int32} {x4 : Int32} {u5 : Value} {y0 : Int32} {H : j_H} {Q : Option Value → j_H → Prop}  : j_wp b 28 116 [x0, .int x1, .int x2, .int x3, .int x4, u5] [.int y0] H Q = (if ¬ y0.toInt = (-1) then j_wp b 28 126 [x0, .int x1, .int x2, .int x3, .int x4, .int y0] [] H Q else j_wp b 28 124 [x0, .int x1, .int x2, .int x3, .int x4, .int y0] [] H Q) := Eq.trans (s_istore r28_116 (Nat.le_of_ble_eq_true rfl) rfl) (Eq.trans (s_iload r28_118 rfl) (Eq.trans (s_iconst r28_120) (s_icne r28_121 rfl rfl rfl)))
theorem b28_124 {b : Nat} {x0 : Value} {x1 : Int32} {x2 : Int32} {x3 : Int32} {x4 : Int32} {x5 : Int32} {H : j_H} {Q : Option Value → j_H → Prop}  : j_wp b 28 124 [x0, .int x1, .int x2, .int x3, .int x4, .int x5] [] H Q = Q (some (.int (Int32.ofInt 0))) H := Eq.trans (s_iconst r28_124) (s_ireturn r28_125 (j_rok4 (z := 0) rfl rfl (by decide)))
theorem b28_126 {b : Nat} {x0 : Value} {x1 : Int32} {x2 : Int32} {x3 : Int32} {x4 : Int32} {x5 : Int32} {H : j_H} {Q : Option Value → j_H → Prop} (h0 : j_vc H x0 = 3) : j_wp (b + 1) 28 126 [x0, .int x1, .int x2, .int x3, .int x4, .int x5] [] H Q = j_wp b 34 0 [x0, .int (((x3 * (Int32.ofInt 300)) + (x4 * (Int32.ofInt 100))) + x5)] [] H (j_k (b + 1) 28 144 [x0, .int x1, .int x2, .int x3, .int x4, .int x5] [] Q) := Eq.trans (s_aload_n r28_126 rfl (j_isr_vc h0 rfl)) (Eq.trans (s_iload_n r28_127 rfl) (Eq.trans (s_sipush r28_128) (Eq.trans (s_imul r28_131) (Eq.trans (s_iload r28_132 rfl) (Eq.trans (s_bipush r28_134) (Eq.trans (s_imul r28_136) (Eq.trans (s_iadd r28_137) (Eq.trans (s_iload r28_138 rfl) (Eq.trans (s_iadd r28_140) (j_cll (as := [x0, .int (((x3 * (Int32.ofInt 300)) + (x4 * (Int32.ofInt 100))) + x5)]) (es := [x0, .int (((x3 * (Int32.ofInt 300)) + (x4 * (Int32.ofInt 100))) + x5)]) (s_c2 r28_141 rfl h0 rfl rfl (j_dok (s := [.int (((x3 * (Int32.ofInt 300)) + (x4 * (Int32.ofInt 100))) + x5), x0]) (as := [x0, .int (((x3 * (Int32.ofInt 300)) + (x4 * (Int32.ofInt 100))) + x5)]) (rest := []) (es := [x0, .int (((x3 * (Int32.ofInt 300)) + (x4 * (Int32.ofInt 100))) + x5)]) rfl rfl rfl rfl (j_slc (j_c1r (j_isr_vc h0 rfl)) rfl) rfl)) (j_slc (j_c1r (j_isr_vc h0 rfl)) rfl) rfl))))))))))
theorem b28_144 {b : Nat} {x0 : Value} {x1 : Int32} {x2 : Int32} {x3 : Int32} {x4 : Int32} {x5 : Int32} {H : j_H} {Q : Option Value → j_H → Prop}  : j_wp b 28 144 [x0, .int x1, .int x2, .int x3, .int x4, .int x5] [] H Q = Q (some (.int (Int32.ofInt 1))) H := Eq.trans (s_iconst r28_144) (s_ireturn r28_145 (j_rok4 (z := 1) rfl rfl (by decide)))
-- X3_number
theorem r29_0 : j_at 29 0 = some (0, .aload_n 0, 1, []) := by decide +kernel
theorem r29_1 : j_at 29 1 = some (1, .invokevirtual 55, 3, [2, 1, 30, 418, 419, 3, 74, 0, 3]) := by decide +kernel
theorem r29_4 : j_at 29 4 = some (4, .istore_n 1, 1, []) := by decide +kernel
theorem r29_5 : j_at 29 5 = some (5, .iload_n 1, 1, []) := by decide +kernel
theorem r29_6 : j_at 29 6 = some (6, .bipush 48, 2, []) := by decide +kernel
theorem r29_8 : j_at 29 8 = some (8, .if_icmp .lt 9, 3, []) := by decide +kernel
theorem r29_11 : j_at 29 11 = some (11, .iload_n 1, 1, []) := by decide +kernel
theorem r29_12 : j_at 29 12 = some (12, .bipush 57, 2, []) := by decide +kernel
theorem r29_14 : j_at 29 14 = some (14, .if_icmp .le 5, 3, []) := by decide +kernel
theorem r29_17 : j_at 29 17 = some (17, .iconst (-1), 1, []) := by decide +kernel
theorem r29_18 : j_at 29 18 = some (18, .ireturn, 1, []) := by decide +kernel
theorem r29_19 : j_at 29 19 = some (19, .aload_n 0, 1, []) := by decide +kernel
theorem r29_20 : j_at 29 20 = some (20, .dup, 1, []) := by decide +kernel
theorem r29_21 : j_at 29 21 = some (21, .getfield 38, 3, [155, 3, 0, 11, 0, 3]) := by decide +kernel
theorem r29_24 : j_at 29 24 = some (24, .iconst 1, 1, []) := by decide +kernel
theorem r29_25 : j_at 29 25 = some (25, .iadd, 1, []) := by decide +kernel
theorem r29_26 : j_at 29 26 = some (26, .putfield 38, 3, [155, 3, 0, 11, 0, 0, 3]) := by decide +kernel
theorem r29_29 : j_at 29 29 = some (29, .aload_n 0, 1, []) := by decide +kernel
theorem r29_30 : j_at 29 30 = some (30, .invokevirtual 55, 3, [2, 1, 30, 418, 419, 3, 74, 0, 3]) := by decide +kernel
theorem r29_33 : j_at 29 33 = some (33, .istore_n 2, 1, []) := by decide +kernel
theorem r29_34 : j_at 29 34 = some (34, .iload_n 2, 1, []) := by decide +kernel
theorem r29_35 : j_at 29 35 = some (35, .bipush 48, 2, []) := by decide +kernel
theorem r29_37 : j_at 29 37 = some (37, .if_icmp .lt 9, 3, []) := by decide +kernel
theorem r29_40 : j_at 29 40 = some (40, .iload_n 2, 1, []) := by decide +kernel
theorem r29_41 : j_at 29 41 = some (41, .bipush 57, 2, []) := by decide +kernel
theorem r29_43 : j_at 29 43 = some (43, .if_icmp .le 8, 3, []) := by decide +kernel
theorem r29_46 : j_at 29 46 = some (46, .iload_n 1, 1, []) := by decide +kernel
theorem r29_47 : j_at 29 47 = some (47, .bipush 48, 2, []) := by decide +kernel
theorem r29_49 : j_at 29 49 = some (49, .isub, 1, []) := by decide +kernel
theorem r29_50 : j_at 29 50 = some (50, .ireturn, 1, []) := by decide +kernel
theorem r29_51 : j_at 29 51 = some (51, .aload_n 0, 1, []) := by decide +kernel
theorem r29_52 : j_at 29 52 = some (52, .dup, 1, []) := by decide +kernel
theorem r29_53 : j_at 29 53 = some (53, .getfield 38, 3, [155, 3, 0, 11, 0, 3]) := by decide +kernel
theorem r29_56 : j_at 29 56 = some (56, .iconst 1, 1, []) := by decide +kernel
theorem r29_57 : j_at 29 57 = some (57, .iadd, 1, []) := by decide +kernel
theorem r29_58 : j_at 29 58 = some (58, .putfield 38, 3, [155, 3, 0, 11, 0, 0, 3]) := by decide +kernel
theorem r29_61 : j_at 29 61 = some (61, .iload_n 1, 1, []) := by decide +kernel
theorem r29_62 : j_at 29 62 = some (62, .bipush 48, 2, []) := by decide +kernel
theorem r29_64 : j_at 29 64 = some (64, .isub, 1, []) := by decide +kernel
theorem r29_65 : j_at 29 65 = some (65, .bipush 10, 2, []) := by decide +kernel
theorem r29_67 : j_at 29 67 = some (67, .imul, 1, []) := by decide +kernel
theorem r29_68 : j_at 29 68 = some (68, .iload_n 2, 1, []) := by decide +kernel
theorem r29_69 : j_at 29 69 = some (69, .iadd, 1, []) := by decide +kernel
theorem r29_70 : j_at 29 70 = some (70, .bipush 48, 2, []) := by decide +kernel
theorem r29_72 : j_at 29 72 = some (72, .isub, 1, []) := by decide +kernel
theorem r29_73 : j_at 29 73 = some (73, .ireturn, 1, []) := by decide +kernel
theorem b29_0 {b : Nat} {x0 : Value} {u1 : Value} {u2 : Value} {H : j_H} {Q : Option Value → j_H → Prop} (h0 : j_vc H x0 = 3) : j_wp (b + 1) 29 0 [x0, u1, u2] [] H Q = j_wp b 30 0 [x0] [] H (j_k (b + 1) 29 4 [x0, u1, u2] [] Q) := Eq.trans (s_aload_n r29_0 rfl (j_isr_vc h0 rfl)) (j_cll (as := [x0]) (es := [x0]) (s_c2 r29_1 rfl h0 rfl rfl (j_dok (s := [x0]) (as := [x0]) (rest := []) (es := [x0]) rfl rfl rfl rfl (j_slc (j_c1r (j_isr_vc h0 rfl)) rfl) rfl)) (j_slc (j_c1r (j_isr_vc h0 rfl)) rfl) rfl)
theorem b29_4 {b : Nat} {x0 : Value} {u1 : Value} {u2 : Value} {y0 : Int32} {H : j_H} {Q : Option Value → j_H → Prop} (h0 : j_isr x0 = true) : j_wp b 29 4 [x0, u1, u2] [.int y0] H Q = (if y0.toInt < 48 then j_wp b 29 17 [x0, .int y0, u2] [] H Q else j_wp b 29 11 [x0, .int y0, u2] [] H Q) := Eq.trans (s_istore_n r29_4 (Nat.le_of_ble_eq_true rfl) (j_stc (j_c1r h0) rfl)) (Eq.trans (s_iload_n r29_5 rfl) (Eq.trans (s_bipush r29_6) (s_iclt r29_8 rfl rfl rfl)))
theorem b29_11 {b : Nat} {x0 : Value} {x1 : Int32} {u2 : Value} {H : j_H} {Q : Option Value → j_H → Prop}  : j_wp b 29 11 [x0, .int x1, u2] [] H Q = (if x1.toInt ≤ 57 then j_wp b 29 19 [x0, .int x1, u2] [] H Q else j_wp b 29 17 [x0, .int x1, u2] [] H Q) := Eq.trans (s_iload_n r29_11 rfl) (Eq.trans (s_bipush r29_12) (s_icle r29_14 rfl rfl rfl))
theorem b29_17 {b : Nat} {x0 : Value} {x1 : Int32} {u2 : Value} {H : j_H} {Q : Option Value → j_H → Prop}  : j_wp b 29 17 [x0, .int x1, u2] [] H Q = Q (some (.int (Int32.ofInt (-1)))) H := Eq.trans (s_iconst r29_17) (s_ireturn r29_18 (j_rok1 rfl))
theorem b29_19 {b : Nat} {x0 : Value} {x1 : Int32} {u2 : Value} {H : j_H} {Q : Option Value → j_H → Prop} (h0 : j_vc H x0 = 3) : j_wp b 29 19 [x0, .int x1, u2] [] H Q = j_wp b 29 29 [x0, .int x1, u2] [] (j_sI H (j_pa x0) 11 ((j_I H (j_pa x0) 11) + (Int32.ofInt 1))) Q := Eq.trans (s_aload_n r29_19 rfl (j_isr_vc h0 rfl)) (Eq.trans (s_dup r29_20 (j_vc_lt h0 rfl)) (Eq.trans (s_getfi r29_21 (j_al1 h0 rfl) rfl rfl rfl) (Eq.trans (s_iconst r29_24) (Eq.trans (s_iadd r29_25) (s_put r29_26 (j_al1 h0 rfl) rfl j_putI)))))
theorem b29_29 {b : Nat} {x0 : Value} {x1 : Int32} {u2 : Value} {H : j_H} {Q : Option Value → j_H → Prop} (h0 : j_vc H x0 = 3) : j_wp (b + 1) 29 29 [x0, .int x1, u2] [] H Q = j_wp b 30 0 [x0] [] H (j_k (b + 1) 29 33 [x0, .int x1, u2] [] Q) := Eq.trans (s_aload_n r29_29 rfl (j_isr_vc h0 rfl)) (j_cll (as := [x0]) (es := [x0]) (s_c2 r29_30 rfl h0 rfl rfl (j_dok (s := [x0]) (as := [x0]) (rest := []) (es := [x0]) rfl rfl rfl rfl (j_slc (j_c1r (j_isr_vc h0 rfl)) rfl) rfl)) (j_slc (j_c1r (j_isr_vc h0 rfl)) rfl) rfl)
theorem b29_33 {b : Nat} {x0 : Value} {x1 : Int32} {u2 : Value} {y0 : Int32} {H : j_H} {Q : Option Value → j_H → Prop}  : j_wp b 29 33 [x0, .int x1, u2] [.int y0] H Q = (if y0.toInt < 48 then j_wp b 29 46 [x0, .int x1, .int y0] [] H Q else j_wp b 29 40 [x0, .int x1, .int y0] [] H Q) := Eq.trans (s_istore_n r29_33 (Nat.le_of_ble_eq_true rfl) rfl) (Eq.trans (s_iload_n r29_34 rfl) (Eq.trans (s_bipush r29_35) (s_iclt r29_37 rfl rfl rfl)))
theorem b29_40 {b : Nat} {x0 : Value} {x1 : Int32} {x2 : Int32} {H : j_H} {Q : Option Value → j_H → Prop}  : j_wp b 29 40 [x0, .int x1, .int x2] [] H Q = (if x2.toInt ≤ 57 then j_wp b 29 51 [x0, .int x1, .int x2] [] H Q else j_wp b 29 46 [x0, .int x1, .int x2] [] H Q) := Eq.trans (s_iload_n r29_40 rfl) (Eq.trans (s_bipush r29_41) (s_icle r29_43 rfl rfl rfl))
theorem b29_46 {b : Nat} {x0 : Value} {x1 : Int32} {x2 : Int32} {H : j_H} {Q : Option Value → j_H → Prop}  : j_wp b 29 46 [x0, .int x1, .int x2] [] H Q = Q (some (.int (x1 - (Int32.ofInt 48)))) H := Eq.trans (s_iload_n r29_46 rfl) (Eq.trans (s_bipush r29_47) (Eq.trans (s_isub r29_49) (s_ireturn r29_50 (j_rok1 rfl))))
theorem b29_51 {b : Nat} {x0 : Value} {x1 : Int32} {x2 : Int32} {H : j_H} {Q : Option Value → j_H → Prop} (h0 : j_vc H x0 = 3) : j_wp b 29 51 [x0, .int x1, .int x2] [] H Q = j_wp b 29 61 [x0, .int x1, .int x2] [] (j_sI H (j_pa x0) 11 ((j_I H (j_pa x0) 11) + (Int32.ofInt 1))) Q := Eq.trans (s_aload_n r29_51 rfl (j_isr_vc h0 rfl)) (Eq.trans (s_dup r29_52 (j_vc_lt h0 rfl)) (Eq.trans (s_getfi r29_53 (j_al1 h0 rfl) rfl rfl rfl) (Eq.trans (s_iconst r29_56) (Eq.trans (s_iadd r29_57) (s_put r29_58 (j_al1 h0 rfl) rfl j_putI)))))
theorem b29_61 {b : Nat} {x0 : Value} {x1 : Int32} {x2 : Int32} {H : j_H} {Q : Option Value → j_H → Prop}  : j_wp b 29 61 [x0, .int x1, .int x2] [] H Q = Q (some (.int ((((x1 - (Int32.ofInt 48)) * (Int32.ofInt 10)) + x2) - (Int32.ofInt 48)))) H := Eq.trans (s_iload_n r29_61 rfl) (Eq.trans (s_bipush r29_62) (Eq.trans (s_isub r29_64) (Eq.trans (s_bipush r29_65) (Eq.trans (s_imul r29_67) (Eq.trans (s_iload_n r29_68 rfl) (Eq.trans (s_iadd r29_69) (Eq.trans (s_bipush r29_70) (Eq.trans (s_isub r29_72) (s_ireturn r29_73 (j_rok1 rfl))))))))))
-- X3_here
theorem r30_0 : j_at 30 0 = some (0, .aload_n 0, 1, []) := by decide +kernel
theorem r30_1 : j_at 30 1 = some (1, .getfield 31, 3, [153, 3, 2, 9, 0, 3]) := by decide +kernel
theorem r30_4 : j_at 30 4 = some (4, .ifnull 33, 3, []) := by decide +kernel
theorem r30_7 : j_at 30 7 = some (7, .aload_n 0, 1, []) := by decide +kernel
theorem r30_8 : j_at 30 8 = some (8, .getfield 38, 3, [155, 3, 0, 11, 0, 3]) := by decide +kernel
theorem r30_11 : j_at 30 11 = some (11, .ifCond .lt 26, 3, []) := by decide +kernel
theorem r30_14 : j_at 30 14 = some (14, .aload_n 0, 1, []) := by decide +kernel
theorem r30_15 : j_at 30 15 = some (15, .getfield 38, 3, [155, 3, 0, 11, 0, 3]) := by decide +kernel
theorem r30_18 : j_at 30 18 = some (18, .aload_n 0, 1, []) := by decide +kernel
theorem r30_19 : j_at 30 19 = some (19, .getfield 35, 3, [154, 3, 0, 10, 0, 3]) := by decide +kernel
theorem r30_22 : j_at 30 22 = some (22, .if_icmp .ge 15, 3, []) := by decide +kernel
theorem r30_25 : j_at 30 25 = some (25, .aload_n 0, 1, []) := by decide +kernel
theorem r30_26 : j_at 30 26 = some (26, .getfield 38, 3, [155, 3, 0, 11, 0, 3]) := by decide +kernel
theorem r30_29 : j_at 30 29 = some (29, .aload_n 0, 1, []) := by decide +kernel
theorem r30_30 : j_at 30 30 = some (30, .getfield 31, 3, [153, 3, 2, 9, 0, 3]) := by decide +kernel
theorem r30_33 : j_at 30 33 = some (33, .arraylength, 1, []) := by decide +kernel
theorem r30_34 : j_at 30 34 = some (34, .if_icmp .lt 7, 3, []) := by decide +kernel
theorem r30_37 : j_at 30 37 = some (37, .iconst (-1), 1, []) := by decide +kernel
theorem r30_38 : j_at 30 38 = some (38, .goto 12, 3, []) := by decide +kernel
theorem r30_41 : j_at 30 41 = some (41, .aload_n 0, 1, []) := by decide +kernel
theorem r30_42 : j_at 30 42 = some (42, .getfield 31, 3, [153, 3, 2, 9, 0, 3]) := by decide +kernel
theorem r30_45 : j_at 30 45 = some (45, .aload_n 0, 1, []) := by decide +kernel
theorem r30_46 : j_at 30 46 = some (46, .getfield 38, 3, [155, 3, 0, 11, 0, 3]) := by decide +kernel
theorem r30_49 : j_at 30 49 = some (49, .baload, 1, [2]) := by decide +kernel
theorem r30_50 : j_at 30 50 = some (50, .ireturn, 1, []) := by decide +kernel
theorem b30_0 {b : Nat} {x0 : Value} {H : j_H} {Q : Option Value → j_H → Prop} (h0 : j_vc H x0 = 3) (h1 : ¬ (va_rf (j_R H (j_pa x0) 9) : Value) = .ref 11) : j_wp b 30 0 [x0] [] H Q = (if (va_rf (j_R H (j_pa x0) 9) : Value) = .null then j_wp b 30 37 [x0] [] H Q else j_wp b 30 7 [x0] [] H Q) := Eq.trans (s_aload_n r30_0 rfl (j_isr_vc h0 rfl)) (Eq.trans (s_getfr r30_1 (j_al1 h0 rfl) rfl) (s_ifnull r30_4 rfl (j_isr_rf _) h1))
theorem b30_7 {b : Nat} {x0 : Value} {H : j_H} {Q : Option Value → j_H → Prop} (h0 : j_vc H x0 = 3) : j_wp b 30 7 [x0] [] H Q = (if (j_I H (j_pa x0) 11).toInt < 0 then j_wp b 30 37 [x0] [] H Q else j_wp b 30 14 [x0] [] H Q) := Eq.trans (s_aload_n r30_7 rfl (j_isr_vc h0 rfl)) (Eq.trans (s_getfi r30_8 (j_al1 h0 rfl) rfl rfl rfl) (s_iflt r30_11 rfl rfl))
theorem b30_14 {b : Nat} {x0 : Value} {H : j_H} {Q : Option Value → j_H → Prop} (h0 : j_vc H x0 = 3) : j_wp b 30 14 [x0] [] H Q = (if (j_I H (j_pa x0) 10).toInt ≤ (j_I H (j_pa x0) 11).toInt then j_wp b 30 37 [x0] [] H Q else j_wp b 30 25 [x0] [] H Q) := Eq.trans (s_aload_n r30_14 rfl (j_isr_vc h0 rfl)) (Eq.trans (s_getfi r30_15 (j_al1 h0 rfl) rfl rfl rfl) (Eq.trans (s_aload_n r30_18 rfl (j_isr_vc h0 rfl)) (Eq.trans (s_getfi r30_19 (j_al1 h0 rfl) rfl rfl rfl) (s_icge r30_22 rfl rfl rfl))))
theorem b30_25 {b : Nat} {x0 : Value} {H : j_H} {Q : Option Value → j_H → Prop} (h0 : j_vc H x0 = 3) (h1 : j_vt H (va_rf (j_R H (j_pa x0) 9)) = 2) : j_wp b 30 25 [x0] [] H Q = (if (j_I H (j_pa x0) 11).toInt < (Int32.ofInt (j_vl H (va_rf (j_R H (j_pa x0) 9)) : Nat)).toInt then j_wp b 30 41 [x0] [] H Q else j_wp b 30 37 [x0] [] H Q) := Eq.trans (s_aload_n r30_25 rfl (j_isr_vc h0 rfl)) (Eq.trans (s_getfi r30_26 (j_al1 h0 rfl) rfl rfl rfl) (Eq.trans (s_aload_n r30_29 rfl (j_isr_vc h0 rfl)) (Eq.trans (s_getfr r30_30 (j_al1 h0 rfl) rfl) (Eq.trans (s_alen r30_33 h1 (by decide)) (s_iclt r30_34 rfl rfl rfl)))))
theorem b30_37 {b : Nat} {x0 : Value} {H : j_H} {Q : Option Value → j_H → Prop}  : j_wp b 30 37 [x0] [] H Q = j_wp b 30 50 [x0] [.int (Int32.ofInt (-1))] H Q := Eq.trans (s_iconst r30_37) (s_goto r30_38 rfl)
theorem b30_41 {b : Nat} {x0 : Value} {H : j_H} {Q : Option Value → j_H → Prop} (h0 : j_vc H x0 = 3) (h1 : j_vt H (va_rf (j_R H (j_pa x0) 9)) = 2) (h2 : 0 ≤ (j_I H (j_pa x0) 11).toInt) (h3 : (j_I H (j_pa x0) 11).toInt < ((j_vl H (va_rf (j_R H (j_pa x0) 9)) : Nat) : Int)) : j_wp b 30 41 [x0] [] H Q = j_wp b 30 50 [x0] [.int (j_I H (j_pa (va_rf (j_R H (j_pa x0) 9))) (j_ix (j_I H (j_pa x0) 11)))] H Q := Eq.trans (s_aload_n r30_41 rfl (j_isr_vc h0 rfl)) (Eq.trans (s_getfr r30_42 (j_al1 h0 rfl) rfl) (Eq.trans (s_aload_n r30_45 rfl (j_isr_vc h0 rfl)) (Eq.trans (s_getfi r30_46 (j_al1 h0 rfl) rfl rfl rfl) (s_bald r30_49 h1 (by decide) (j_ib_of (z := (j_I H (j_pa x0) 11).toInt) rfl h2 h3)))))
theorem b30_50 {b : Nat} {x0 : Value} {y0 : Int32} {H : j_H} {Q : Option Value → j_H → Prop}  : j_wp b 30 50 [x0] [.int y0] H Q = Q (some (.int y0)) H := s_ireturn r30_50 (j_rok1 rfl)
-- X3_takes
theorem r31_0 : j_at 31 0 = some (0, .aload_n 0, 1, []) := by decide +kernel
theorem r31_1 : j_at 31 1 = some (1, .invokevirtual 55, 3, [2, 1, 30, 418, 419, 3, 74, 0, 3]) := by decide +kernel
theorem r31_4 : j_at 31 4 = some (4, .iload_n 1, 1, []) := by decide +kernel
theorem r31_5 : j_at 31 5 = some (5, .if_icmp .eq 5, 3, []) := by decide +kernel
theorem r31_8 : j_at 31 8 = some (8, .iconst 0, 1, []) := by decide +kernel
theorem r31_9 : j_at 31 9 = some (9, .ireturn, 1, []) := by decide +kernel
theorem r31_10 : j_at 31 10 = some (10, .aload_n 0, 1, []) := by decide +kernel
theorem r31_11 : j_at 31 11 = some (11, .dup, 1, []) := by decide +kernel
theorem r31_12 : j_at 31 12 = some (12, .getfield 38, 3, [155, 3, 0, 11, 0, 3]) := by decide +kernel
theorem r31_15 : j_at 31 15 = some (15, .iconst 1, 1, []) := by decide +kernel
theorem r31_16 : j_at 31 16 = some (16, .iadd, 1, []) := by decide +kernel
theorem r31_17 : j_at 31 17 = some (17, .putfield 38, 3, [155, 3, 0, 11, 0, 0, 3]) := by decide +kernel
theorem r31_20 : j_at 31 20 = some (20, .iconst 1, 1, []) := by decide +kernel
theorem r31_21 : j_at 31 21 = some (21, .ireturn, 1, []) := by decide +kernel
theorem b31_0 {b : Nat} {x0 : Value} {x1 : Int32} {H : j_H} {Q : Option Value → j_H → Prop} (h0 : j_vc H x0 = 3) : j_wp (b + 1) 31 0 [x0, .int x1] [] H Q = j_wp b 30 0 [x0] [] H (j_k (b + 1) 31 4 [x0, .int x1] [] Q) := Eq.trans (s_aload_n r31_0 rfl (j_isr_vc h0 rfl)) (j_cll (as := [x0]) (es := [x0]) (s_c2 r31_1 rfl h0 rfl rfl (j_dok (s := [x0]) (as := [x0]) (rest := []) (es := [x0]) rfl rfl rfl rfl (j_slc (j_c1r (j_isr_vc h0 rfl)) rfl) rfl)) (j_slc (j_c1r (j_isr_vc h0 rfl)) rfl) rfl)
theorem b31_4 {b : Nat} {x0 : Value} {x1 : Int32} {y0 : Int32} {H : j_H} {Q : Option Value → j_H → Prop}  : j_wp b 31 4 [x0, .int x1] [.int y0] H Q = (if y0.toInt = x1.toInt then j_wp b 31 10 [x0, .int x1] [] H Q else j_wp b 31 8 [x0, .int x1] [] H Q) := Eq.trans (s_iload_n r31_4 rfl) (s_iceq r31_5 rfl rfl rfl)
theorem b31_8 {b : Nat} {x0 : Value} {x1 : Int32} {H : j_H} {Q : Option Value → j_H → Prop}  : j_wp b 31 8 [x0, .int x1] [] H Q = Q (some (.int (Int32.ofInt 0))) H := Eq.trans (s_iconst r31_8) (s_ireturn r31_9 (j_rok4 (z := 0) rfl rfl (by decide)))
theorem b31_10 {b : Nat} {x0 : Value} {x1 : Int32} {H : j_H} {Q : Option Value → j_H → Prop} (h0 : j_vc H x0 = 3) : j_wp b 31 10 [x0, .int x1] [] H Q = j_wp b 31 20 [x0, .int x1] [] (j_sI H (j_pa x0) 11 ((j_I H (j_pa x0) 11) + (Int32.ofInt 1))) Q := Eq.trans (s_aload_n r31_10 rfl (j_isr_vc h0 rfl)) (Eq.trans (s_dup r31_11 (j_vc_lt h0 rfl)) (Eq.trans (s_getfi r31_12 (j_al1 h0 rfl) rfl rfl rfl) (Eq.trans (s_iconst r31_15) (Eq.trans (s_iadd r31_16) (s_put r31_17 (j_al1 h0 rfl) rfl j_putI)))))
theorem b31_20 {b : Nat} {x0 : Value} {x1 : Int32} {H : j_H} {Q : Option Value → j_H → Prop}  : j_wp b 31 20 [x0, .int x1] [] H Q = Q (some (.int (Int32.ofInt 1))) H := Eq.trans (s_iconst r31_20) (s_ireturn r31_21 (j_rok4 (z := 1) rfl rfl (by decide)))
-- X3_takesWord
theorem r32_0 : j_at 32 0 = some (0, .iconst 0, 1, []) := by decide +kernel
theorem r32_1 : j_at 32 1 = some (1, .istore_n 2, 1, []) := by decide +kernel
theorem r32_2 : j_at 32 2 = some (2, .iload_n 2, 1, []) := by decide +kernel
theorem r32_3 : j_at 32 3 = some (3, .aload_n 1, 1, []) := by decide +kernel
theorem r32_4 : j_at 32 4 = some (4, .invokevirtual 119, 3, [2, 1, 204, 422, 423, 424, 87, 0, 14]) := by decide +kernel
theorem r32_7 : j_at 32 7 = some (7, .if_icmp .ge 23, 3, []) := by decide +kernel
theorem r32_10 : j_at 32 10 = some (10, .aload_n 0, 1, []) := by decide +kernel
theorem r32_11 : j_at 32 11 = some (11, .aload_n 1, 1, []) := by decide +kernel
theorem r32_12 : j_at 32 12 = some (12, .iload_n 2, 1, []) := by decide +kernel
theorem r32_13 : j_at 32 13 = some (13, .invokevirtual 123, 3, [2, 2, 205, 429, 430, 431, 87, 0, 14]) := by decide +kernel
theorem r32_16 : j_at 32 16 = some (16, .invokevirtual 59, 3, [2, 2, 31, 449, 450, 5, 74, 0, 3]) := by decide +kernel
theorem r32_19 : j_at 32 19 = some (19, .ifCond .ne 5, 3, []) := by decide +kernel
theorem r32_22 : j_at 32 22 = some (22, .iconst 0, 1, []) := by decide +kernel
theorem r32_23 : j_at 32 23 = some (23, .ireturn, 1, []) := by decide +kernel
theorem r32_24 : j_at 32 24 = some (24, .iinc 2 1, 3, []) := by decide +kernel
theorem r32_27 : j_at 32 27 = some (27, .goto (-25), 3, []) := by decide +kernel
theorem r32_30 : j_at 32 30 = some (30, .iconst 1, 1, []) := by decide +kernel
theorem r32_31 : j_at 32 31 = some (31, .ireturn, 1, []) := by decide +kernel
theorem b32_0 {b : Nat} {x0 : Value} {x1 : Value} {u2 : Value} {H : j_H} {Q : Option Value → j_H → Prop} (h0 : j_isr x1 = true) : j_wp b 32 0 [x0, x1, u2] [] H Q = j_wp b 32 2 [x0, x1, .int (Int32.ofInt 0)] [] H Q := Eq.trans (s_iconst r32_0) (s_istore_n r32_1 (Nat.le_of_ble_eq_true rfl) (j_stc (j_c1r h0) rfl))
theorem b32_2 {b : Nat} {x0 : Value} {x1 : Value} {x2 : Int32} {H : j_H} {Q : Option Value → j_H → Prop} (h0 : j_vc H x1 = 14) : j_wp (b + 1) 32 2 [x0, x1, .int x2] [] H Q = j_wp b 204 0 [x1] [] H (j_k (b + 1) 32 7 [x0, x1, .int x2] [.int x2] Q) := Eq.trans (s_iload_n r32_2 rfl) (Eq.trans (s_aload_n r32_3 rfl (j_isr_vc h0 rfl)) (j_cll (as := [x1]) (es := [x1]) (s_c2 r32_4 rfl h0 rfl rfl (j_dok (s := [x1, .int x2]) (as := [x1]) (rest := [.int x2]) (es := [x1]) rfl rfl rfl rfl (j_slc (j_c1r (j_isr_vc h0 rfl)) rfl) rfl)) (j_slc (j_c1r (j_isr_vc h0 rfl)) rfl) rfl))
theorem b32_7 {b : Nat} {x0 : Value} {x1 : Value} {x2 : Int32} {y0 : Int32} {y1 : Int32} {H : j_H} {Q : Option Value → j_H → Prop}  : j_wp b 32 7 [x0, x1, .int x2] [.int y0, .int y1] H Q = (if y0.toInt ≤ y1.toInt then j_wp b 32 30 [x0, x1, .int x2] [] H Q else j_wp b 32 10 [x0, x1, .int x2] [] H Q) := s_icge r32_7 rfl rfl rfl
theorem b32_10 {b : Nat} {x0 : Value} {x1 : Value} {x2 : Int32} {H : j_H} {Q : Option Value → j_H → Prop} (h0 : j_isr x0 = true) (h1 : j_vc H x1 = 14) : j_wp (b + 1) 32 10 [x0, x1, .int x2] [] H Q = j_wp b 205 0 [x1, .int x2] [] H (j_k (b + 1) 32 16 [x0, x1, .int x2] [x0] Q) := Eq.trans (s_aload_n r32_10 rfl h0) (Eq.trans (s_aload_n r32_11 rfl (j_isr_vc h1 rfl)) (Eq.trans (s_iload_n r32_12 rfl) (j_cll (as := [x1, .int x2]) (es := [x1, .int x2]) (s_c2 r32_13 rfl h1 rfl rfl (j_dok (s := [.int x2, x1, x0]) (as := [x1, .int x2]) (rest := [x0]) (es := [x1, .int x2]) rfl rfl rfl rfl (j_slc (j_c1r (j_isr_vc h1 rfl)) rfl) rfl)) (j_slc (j_c1r (j_isr_vc h1 rfl)) rfl) rfl)))
theorem b32_16 {b : Nat} {x0 : Value} {x1 : Value} {x2 : Int32} {y0 : Int32} {y1 : Value} {H : j_H} {Q : Option Value → j_H → Prop} (h0 : j_vc H y1 = 3) : j_wp (b + 1) 32 16 [x0, x1, .int x2] [.int y0, y1] H Q = j_wp b 31 0 [y1, .int y0] [] H (j_k (b + 1) 32 19 [x0, x1, .int x2] [] Q) := j_cll (as := [y1, .int y0]) (es := [y1, .int y0]) (s_c2 r32_16 rfl h0 rfl rfl (j_dok (s := [.int y0, y1]) (as := [y1, .int y0]) (rest := []) (es := [y1, .int y0]) rfl rfl rfl rfl (j_slc (j_c1r (j_isr_vc h0 rfl)) rfl) rfl)) (j_slc (j_c1r (j_isr_vc h0 rfl)) rfl) rfl
theorem b32_19 {b : Nat} {x0 : Value} {x1 : Value} {x2 : Int32} {y0 : Int32} {H : j_H} {Q : Option Value → j_H → Prop}  : j_wp b 32 19 [x0, x1, .int x2] [.int y0] H Q = (if ¬ y0.toInt = 0 then j_wp b 32 24 [x0, x1, .int x2] [] H Q else j_wp b 32 22 [x0, x1, .int x2] [] H Q) := s_ifne r32_19 rfl rfl
theorem b32_22 {b : Nat} {x0 : Value} {x1 : Value} {x2 : Int32} {H : j_H} {Q : Option Value → j_H → Prop}  : j_wp b 32 22 [x0, x1, .int x2] [] H Q = Q (some (.int (Int32.ofInt 0))) H := Eq.trans (s_iconst r32_22) (s_ireturn r32_23 (j_rok4 (z := 0) rfl rfl (by decide)))
theorem b32_24 {b : Nat} {x0 : Value} {x1 : Value} {x2 : Int32} {H : j_H} {Q : Option Value → j_H → Prop}  : j_wp b 32 24 [x0, x1, .int x2] [] H Q = j_wp b 32 2 [x0, x1, .int (x2 + Int32.ofInt 1)] [] H Q := Eq.trans (s_iinc r32_24 rfl rfl) (s_goto r32_27 rfl)
theorem b32_30 {b : Nat} {x0 : Value} {x1 : Value} {x2 : Int32} {H : j_H} {Q : Option Value → j_H → Prop}  : j_wp b 32 30 [x0, x1, .int x2] [] H Q = Q (some (.int (Int32.ofInt 1))) H := Eq.trans (s_iconst r32_30) (s_ireturn r32_31 (j_rok4 (z := 1) rfl rfl (by decide)))
-- X3_takesOneOf
theorem r33_0 : j_at 33 0 = some (0, .aload_n 0, 1, []) := by decide +kernel
theorem r33_1 : j_at 33 1 = some (1, .invokevirtual 55, 3, [2, 1, 30, 418, 419, 3, 74, 0, 3]) := by decide +kernel
theorem r33_4 : j_at 33 4 = some (4, .istore_n 2, 1, []) := by decide +kernel
theorem r33_5 : j_at 33 5 = some (5, .iconst 0, 1, []) := by decide +kernel
theorem r33_6 : j_at 33 6 = some (6, .istore_n 3, 1, []) := by decide +kernel
theorem r33_7 : j_at 33 7 = some (7, .iload_n 3, 1, []) := by decide +kernel
theorem r33_8 : j_at 33 8 = some (8, .aload_n 1, 1, []) := by decide +kernel
theorem r33_9 : j_at 33 9 = some (9, .invokevirtual 119, 3, [2, 1, 204, 422, 423, 424, 87, 0, 14]) := by decide +kernel
theorem r33_12 : j_at 33 12 = some (12, .if_icmp .ge 30, 3, []) := by decide +kernel
theorem r33_15 : j_at 33 15 = some (15, .aload_n 1, 1, []) := by decide +kernel
theorem r33_16 : j_at 33 16 = some (16, .iload_n 3, 1, []) := by decide +kernel
theorem r33_17 : j_at 33 17 = some (17, .invokevirtual 123, 3, [2, 2, 205, 429, 430, 431, 87, 0, 14]) := by decide +kernel
theorem r33_20 : j_at 33 20 = some (20, .iload_n 2, 1, []) := by decide +kernel
theorem r33_21 : j_at 33 21 = some (21, .if_icmp .ne 15, 3, []) := by decide +kernel
theorem r33_24 : j_at 33 24 = some (24, .aload_n 0, 1, []) := by decide +kernel
theorem r33_25 : j_at 33 25 = some (25, .dup, 1, []) := by decide +kernel
theorem r33_26 : j_at 33 26 = some (26, .getfield 38, 3, [155, 3, 0, 11, 0, 3]) := by decide +kernel
theorem r33_29 : j_at 33 29 = some (29, .iconst 1, 1, []) := by decide +kernel
theorem r33_30 : j_at 33 30 = some (30, .iadd, 1, []) := by decide +kernel
theorem r33_31 : j_at 33 31 = some (31, .putfield 38, 3, [155, 3, 0, 11, 0, 0, 3]) := by decide +kernel
theorem r33_34 : j_at 33 34 = some (34, .iload_n 3, 1, []) := by decide +kernel
theorem r33_35 : j_at 33 35 = some (35, .ireturn, 1, []) := by decide +kernel
theorem r33_36 : j_at 33 36 = some (36, .iinc 3 1, 3, []) := by decide +kernel
theorem r33_39 : j_at 33 39 = some (39, .goto (-32), 3, []) := by decide +kernel
theorem r33_42 : j_at 33 42 = some (42, .iconst (-1), 1, []) := by decide +kernel
theorem r33_43 : j_at 33 43 = some (43, .ireturn, 1, []) := by decide +kernel
theorem b33_0 {b : Nat} {x0 : Value} {x1 : Value} {u2 : Value} {u3 : Value} {H : j_H} {Q : Option Value → j_H → Prop} (h0 : j_vc H x0 = 3) : j_wp (b + 1) 33 0 [x0, x1, u2, u3] [] H Q = j_wp b 30 0 [x0] [] H (j_k (b + 1) 33 4 [x0, x1, u2, u3] [] Q) := Eq.trans (s_aload_n r33_0 rfl (j_isr_vc h0 rfl)) (j_cll (as := [x0]) (es := [x0]) (s_c2 r33_1 rfl h0 rfl rfl (j_dok (s := [x0]) (as := [x0]) (rest := []) (es := [x0]) rfl rfl rfl rfl (j_slc (j_c1r (j_isr_vc h0 rfl)) rfl) rfl)) (j_slc (j_c1r (j_isr_vc h0 rfl)) rfl) rfl)
theorem b33_4 {b : Nat} {x0 : Value} {x1 : Value} {u2 : Value} {u3 : Value} {y0 : Int32} {H : j_H} {Q : Option Value → j_H → Prop} (h0 : j_isr x1 = true) : j_wp b 33 4 [x0, x1, u2, u3] [.int y0] H Q = j_wp b 33 7 [x0, x1, .int y0, .int (Int32.ofInt 0)] [] H Q := Eq.trans (s_istore_n r33_4 (Nat.le_of_ble_eq_true rfl) (j_stc (j_c1r h0) rfl)) (Eq.trans (s_iconst r33_5) (s_istore_n r33_6 (Nat.le_of_ble_eq_true rfl) rfl))
theorem b33_7 {b : Nat} {x0 : Value} {x1 : Value} {x2 : Int32} {x3 : Int32} {H : j_H} {Q : Option Value → j_H → Prop} (h0 : j_vc H x1 = 14) : j_wp (b + 1) 33 7 [x0, x1, .int x2, .int x3] [] H Q = j_wp b 204 0 [x1] [] H (j_k (b + 1) 33 12 [x0, x1, .int x2, .int x3] [.int x3] Q) := Eq.trans (s_iload_n r33_7 rfl) (Eq.trans (s_aload_n r33_8 rfl (j_isr_vc h0 rfl)) (j_cll (as := [x1]) (es := [x1]) (s_c2 r33_9 rfl h0 rfl rfl (j_dok (s := [x1, .int x3]) (as := [x1]) (rest := [.int x3]) (es := [x1]) rfl rfl rfl rfl (j_slc (j_c1r (j_isr_vc h0 rfl)) rfl) rfl)) (j_slc (j_c1r (j_isr_vc h0 rfl)) rfl) rfl))
theorem b33_12 {b : Nat} {x0 : Value} {x1 : Value} {x2 : Int32} {x3 : Int32} {y0 : Int32} {y1 : Int32} {H : j_H} {Q : Option Value → j_H → Prop}  : j_wp b 33 12 [x0, x1, .int x2, .int x3] [.int y0, .int y1] H Q = (if y0.toInt ≤ y1.toInt then j_wp b 33 42 [x0, x1, .int x2, .int x3] [] H Q else j_wp b 33 15 [x0, x1, .int x2, .int x3] [] H Q) := s_icge r33_12 rfl rfl rfl
theorem b33_15 {b : Nat} {x0 : Value} {x1 : Value} {x2 : Int32} {x3 : Int32} {H : j_H} {Q : Option Value → j_H → Prop} (h0 : j_vc H x1 = 14) : j_wp (b + 1) 33 15 [x0, x1, .int x2, .int x3] [] H Q = j_wp b 205 0 [x1, .int x3] [] H (j_k (b + 1) 33 20 [x0, x1, .int x2, .int x3] [] Q) := Eq.trans (s_aload_n r33_15 rfl (j_isr_vc h0 rfl)) (Eq.trans (s_iload_n r33_16 rfl) (j_cll (as := [x1, .int x3]) (es := [x1, .int x3]) (s_c2 r33_17 rfl h0 rfl rfl (j_dok (s := [.int x3, x1]) (as := [x1, .int x3]) (rest := []) (es := [x1, .int x3]) rfl rfl rfl rfl (j_slc (j_c1r (j_isr_vc h0 rfl)) rfl) rfl)) (j_slc (j_c1r (j_isr_vc h0 rfl)) rfl) rfl))
theorem b33_20 {b : Nat} {x0 : Value} {x1 : Value} {x2 : Int32} {x3 : Int32} {y0 : Int32} {H : j_H} {Q : Option Value → j_H → Prop}  : j_wp b 33 20 [x0, x1, .int x2, .int x3] [.int y0] H Q = (if ¬ y0.toInt = x2.toInt then j_wp b 33 36 [x0, x1, .int x2, .int x3] [] H Q else j_wp b 33 24 [x0, x1, .int x2, .int x3] [] H Q) := Eq.trans (s_iload_n r33_20 rfl) (s_icne r33_21 rfl rfl rfl)
theorem b33_24 {b : Nat} {x0 : Value} {x1 : Value} {x2 : Int32} {x3 : Int32} {H : j_H} {Q : Option Value → j_H → Prop} (h0 : j_vc H x0 = 3) : j_wp b 33 24 [x0, x1, .int x2, .int x3] [] H Q = j_wp b 33 34 [x0, x1, .int x2, .int x3] [] (j_sI H (j_pa x0) 11 ((j_I H (j_pa x0) 11) + (Int32.ofInt 1))) Q := Eq.trans (s_aload_n r33_24 rfl (j_isr_vc h0 rfl)) (Eq.trans (s_dup r33_25 (j_vc_lt h0 rfl)) (Eq.trans (s_getfi r33_26 (j_al1 h0 rfl) rfl rfl rfl) (Eq.trans (s_iconst r33_29) (Eq.trans (s_iadd r33_30) (s_put r33_31 (j_al1 h0 rfl) rfl j_putI)))))
theorem b33_34 {b : Nat} {x0 : Value} {x1 : Value} {x2 : Int32} {x3 : Int32} {H : j_H} {Q : Option Value → j_H → Prop}  : j_wp b 33 34 [x0, x1, .int x2, .int x3] [] H Q = Q (some (.int x3)) H := Eq.trans (s_iload_n r33_34 rfl) (s_ireturn r33_35 (j_rok1 rfl))
theorem b33_36 {b : Nat} {x0 : Value} {x1 : Value} {x2 : Int32} {x3 : Int32} {H : j_H} {Q : Option Value → j_H → Prop}  : j_wp b 33 36 [x0, x1, .int x2, .int x3] [] H Q = j_wp b 33 7 [x0, x1, .int x2, .int (x3 + Int32.ofInt 1)] [] H Q := Eq.trans (s_iinc r33_36 rfl rfl) (s_goto r33_39 rfl)
theorem b33_42 {b : Nat} {x0 : Value} {x1 : Value} {x2 : Int32} {x3 : Int32} {H : j_H} {Q : Option Value → j_H → Prop}  : j_wp b 33 42 [x0, x1, .int x2, .int x3] [] H Q = Q (some (.int (Int32.ofInt (-1)))) H := Eq.trans (s_iconst r33_42) (s_ireturn r33_43 (j_rok1 rfl))
-- X3_step
theorem r34_0 : j_at 34 0 = some (0, .aload_n 0, 1, []) := by decide +kernel
theorem r34_1 : j_at 34 1 = some (1, .getfield 48, 3, [151, 3, 0, 7, 0, 3]) := by decide +kernel
theorem r34_4 : j_at 34 4 = some (4, .aload_n 0, 1, []) := by decide +kernel
theorem r34_5 : j_at 34 5 = some (5, .getfield 25, 3, [150, 3, 2, 6, 0, 3]) := by decide +kernel
theorem r34_8 : j_at 34 8 = some (8, .arraylength, 1, []) := by decide +kernel
theorem r34_9 : j_at 34 9 = some (9, .if_icmp .ge 23, 3, []) := by decide +kernel
theorem r34_12 : j_at 34 12 = some (12, .aload_n 0, 1, []) := by decide +kernel
theorem r34_13 : j_at 34 13 = some (13, .getfield 25, 3, [150, 3, 2, 6, 0, 3]) := by decide +kernel
theorem r34_16 : j_at 34 16 = some (16, .aload_n 0, 1, []) := by decide +kernel
theorem r34_17 : j_at 34 17 = some (17, .getfield 48, 3, [151, 3, 0, 7, 0, 3]) := by decide +kernel
theorem r34_20 : j_at 34 20 = some (20, .iload_n 1, 1, []) := by decide +kernel
theorem r34_21 : j_at 34 21 = some (21, .iastore, 1, []) := by decide +kernel
theorem r34_22 : j_at 34 22 = some (22, .aload_n 0, 1, []) := by decide +kernel
theorem r34_23 : j_at 34 23 = some (23, .dup, 1, []) := by decide +kernel
theorem r34_24 : j_at 34 24 = some (24, .getfield 48, 3, [151, 3, 0, 7, 0, 3]) := by decide +kernel
theorem r34_27 : j_at 34 27 = some (27, .iconst 1, 1, []) := by decide +kernel
theorem r34_28 : j_at 34 28 = some (28, .iadd, 1, []) := by decide +kernel
theorem r34_29 : j_at 34 29 = some (29, .putfield 48, 3, [151, 3, 0, 7, 0, 0, 3]) := by decide +kernel
theorem r34_32 : j_at 34 32 = some (32, .return_, 1, []) := by decide +kernel
theorem b34_0 {b : Nat} {x0 : Value} {x1 : Int32} {H : j_H} {Q : Option Value → j_H → Prop} (h0 : j_vc H x0 = 3) (h1 : j_vt H (va_rf (j_R H (j_pa x0) 6)) = 0) : j_wp b 34 0 [x0, .int x1] [] H Q = (if (Int32.ofInt (j_vl H (va_rf (j_R H (j_pa x0) 6)) : Nat)).toInt ≤ (j_I H (j_pa x0) 7).toInt then j_wp b 34 32 [x0, .int x1] [] H Q else j_wp b 34 12 [x0, .int x1] [] H Q) := Eq.trans (s_aload_n r34_0 rfl (j_isr_vc h0 rfl)) (Eq.trans (s_getfi r34_1 (j_al1 h0 rfl) rfl rfl rfl) (Eq.trans (s_aload_n r34_4 rfl (j_isr_vc h0 rfl)) (Eq.trans (s_getfr r34_5 (j_al1 h0 rfl) rfl) (Eq.trans (s_alen r34_8 h1 (by decide)) (s_icge r34_9 rfl rfl rfl)))))
theorem b34_12 {b : Nat} {x0 : Value} {x1 : Int32} {H : j_H} {Q : Option Value → j_H → Prop} (h0 : j_vc H x0 = 3) (h1 : j_vt H (va_rf (j_R H (j_pa x0) 6)) = 0) (h2 : 0 ≤ (j_I H (j_pa x0) 7).toInt) (h3 : (j_I H (j_pa x0) 7).toInt < ((j_vl H (va_rf (j_R H (j_pa x0) 6)) : Nat) : Int)) : j_wp b 34 12 [x0, .int x1] [] H Q = j_wp b 34 22 [x0, .int x1] [] (j_sI H (j_pa (va_rf (j_R H (j_pa x0) 6))) (j_ix (j_I H (j_pa x0) 7)) x1) Q := Eq.trans (s_aload_n r34_12 rfl (j_isr_vc h0 rfl)) (Eq.trans (s_getfr r34_13 (j_al1 h0 rfl) rfl) (Eq.trans (s_aload_n r34_16 rfl (j_isr_vc h0 rfl)) (Eq.trans (s_getfi r34_17 (j_al1 h0 rfl) rfl rfl rfl) (Eq.trans (s_iload_n r34_20 rfl) (s_iast r34_21 h1 (j_ib_of (z := (j_I H (j_pa x0) 7).toInt) rfl h2 h3))))))
theorem b34_22 {b : Nat} {x0 : Value} {x1 : Int32} {H : j_H} {Q : Option Value → j_H → Prop} (h0 : j_vc H x0 = 3) : j_wp b 34 22 [x0, .int x1] [] H Q = j_wp b 34 32 [x0, .int x1] [] (j_sI H (j_pa x0) 7 ((j_I H (j_pa x0) 7) + (Int32.ofInt 1))) Q := Eq.trans (s_aload_n r34_22 rfl (j_isr_vc h0 rfl)) (Eq.trans (s_dup r34_23 (j_vc_lt h0 rfl)) (Eq.trans (s_getfi r34_24 (j_al1 h0 rfl) rfl rfl rfl) (Eq.trans (s_iconst r34_27) (Eq.trans (s_iadd r34_28) (s_put r34_29 (j_al1 h0 rfl) rfl j_putI)))))
theorem b34_32 {b : Nat} {x0 : Value} {x1 : Int32} {H : j_H} {Q : Option Value → j_H → Prop}  : j_wp b 34 32 [x0, .int x1] [] H Q = Q none H := s_return r34_32 rfl
-- X3_keep
theorem r35_0 : j_at 35 0 = some (0, .aload_n 0, 1, []) := by decide +kernel
theorem r35_1 : j_at 35 1 = some (1, .getfield 45, 3, [149, 3, 0, 5, 0, 3]) := by decide +kernel
theorem r35_4 : j_at 35 4 = some (4, .bipush 10, 2, []) := by decide +kernel
theorem r35_6 : j_at 35 6 = some (6, .if_icmp .ge 67, 3, []) := by decide +kernel
theorem r35_9 : j_at 35 9 = some (9, .aload_n 0, 1, []) := by decide +kernel
theorem r35_10 : j_at 35 10 = some (10, .getfield 15, 3, [146, 3, 2, 2, 0, 3]) := by decide +kernel
theorem r35_13 : j_at 35 13 = some (13, .aload_n 0, 1, []) := by decide +kernel
theorem r35_14 : j_at 35 14 = some (14, .getfield 45, 3, [149, 3, 0, 5, 0, 3]) := by decide +kernel
theorem r35_17 : j_at 35 17 = some (17, .iload_n 1, 1, []) := by decide +kernel
theorem r35_18 : j_at 35 18 = some (18, .iastore, 1, []) := by decide +kernel
theorem r35_19 : j_at 35 19 = some (19, .aload_n 0, 1, []) := by decide +kernel
theorem r35_20 : j_at 35 20 = some (20, .getfield 19, 3, [147, 3, 2, 3, 0, 3]) := by decide +kernel
theorem r35_23 : j_at 35 23 = some (23, .aload_n 0, 1, []) := by decide +kernel
theorem r35_24 : j_at 35 24 = some (24, .getfield 45, 3, [149, 3, 0, 5, 0, 3]) := by decide +kernel
theorem r35_27 : j_at 35 27 = some (27, .iload_n 2, 1, []) := by decide +kernel
theorem r35_28 : j_at 35 28 = some (28, .iastore, 1, []) := by decide +kernel
theorem r35_29 : j_at 35 29 = some (29, .aload_n 0, 1, []) := by decide +kernel
theorem r35_30 : j_at 35 30 = some (30, .getfield 22, 3, [148, 3, 2, 4, 0, 3]) := by decide +kernel
theorem r35_33 : j_at 35 33 = some (33, .aload_n 0, 1, []) := by decide +kernel
theorem r35_34 : j_at 35 34 = some (34, .getfield 45, 3, [149, 3, 0, 5, 0, 3]) := by decide +kernel
theorem r35_37 : j_at 35 37 = some (37, .aload_n 0, 1, []) := by decide +kernel
theorem r35_38 : j_at 35 38 = some (38, .getfield 48, 3, [151, 3, 0, 7, 0, 3]) := by decide +kernel
theorem r35_41 : j_at 35 41 = some (41, .iastore, 1, []) := by decide +kernel
theorem r35_42 : j_at 35 42 = some (42, .aload_n 0, 1, []) := by decide +kernel
theorem r35_43 : j_at 35 43 = some (43, .dup, 1, []) := by decide +kernel
theorem r35_44 : j_at 35 44 = some (44, .getfield 45, 3, [149, 3, 0, 5, 0, 3]) := by decide +kernel
theorem r35_47 : j_at 35 47 = some (47, .iconst 1, 1, []) := by decide +kernel
theorem r35_48 : j_at 35 48 = some (48, .iadd, 1, []) := by decide +kernel
theorem r35_49 : j_at 35 49 = some (49, .putfield 45, 3, [149, 3, 0, 5, 0, 0, 3]) := by decide +kernel
theorem r35_52 : j_at 35 52 = some (52, .aload_n 0, 1, []) := by decide +kernel
theorem r35_53 : j_at 35 53 = some (53, .aload_n 0, 1, []) := by decide +kernel
theorem r35_54 : j_at 35 54 = some (54, .getfield 41, 3, [144, 3, 0, 1, 0, 3]) := by decide +kernel
theorem r35_57 : j_at 35 57 = some (57, .ifCond .ne 8, 3, []) := by decide +kernel
theorem r35_60 : j_at 35 60 = some (60, .iload_n 1, 1, []) := by decide +kernel
theorem r35_61 : j_at 35 61 = some (61, .iconst 1, 1, []) := by decide +kernel
theorem r35_62 : j_at 35 62 = some (62, .if_icmp .ne 7, 3, []) := by decide +kernel
theorem r35_65 : j_at 35 65 = some (65, .iconst 1, 1, []) := by decide +kernel
theorem r35_66 : j_at 35 66 = some (66, .goto 4, 3, []) := by decide +kernel
theorem r35_69 : j_at 35 69 = some (69, .iconst 0, 1, []) := by decide +kernel
theorem r35_70 : j_at 35 70 = some (70, .putfield 41, 3, [144, 3, 3, 1, 0, 0, 3]) := by decide +kernel
theorem r35_73 : j_at 35 73 = some (73, .return_, 1, []) := by decide +kernel
theorem b35_0 {b : Nat} {x0 : Value} {x1 : Int32} {x2 : Int32} {H : j_H} {Q : Option Value → j_H → Prop} (h0 : j_vc H x0 = 3) : j_wp b 35 0 [x0, .int x1, .int x2] [] H Q = (if 10 ≤ (j_I H (j_pa x0) 5).toInt then j_wp b 35 73 [x0, .int x1, .int x2] [] H Q else j_wp b 35 9 [x0, .int x1, .int x2] [] H Q) := Eq.trans (s_aload_n r35_0 rfl (j_isr_vc h0 rfl)) (Eq.trans (s_getfi r35_1 (j_al1 h0 rfl) rfl rfl rfl) (Eq.trans (s_bipush r35_4) (s_icge r35_6 rfl rfl rfl)))
theorem b35_9 {b : Nat} {x0 : Value} {x1 : Int32} {x2 : Int32} {H : j_H} {Q : Option Value → j_H → Prop} (h0 : j_vc H x0 = 3) (h1 : j_vt H (va_rf (j_R H (j_pa x0) 2)) = 0) (h2 : 0 ≤ (j_I H (j_pa x0) 5).toInt) (h3 : (j_I H (j_pa x0) 5).toInt < ((j_vl H (va_rf (j_R H (j_pa x0) 2)) : Nat) : Int)) : j_wp b 35 9 [x0, .int x1, .int x2] [] H Q = j_wp b 35 19 [x0, .int x1, .int x2] [] (j_sI H (j_pa (va_rf (j_R H (j_pa x0) 2))) (j_ix (j_I H (j_pa x0) 5)) x1) Q := Eq.trans (s_aload_n r35_9 rfl (j_isr_vc h0 rfl)) (Eq.trans (s_getfr r35_10 (j_al1 h0 rfl) rfl) (Eq.trans (s_aload_n r35_13 rfl (j_isr_vc h0 rfl)) (Eq.trans (s_getfi r35_14 (j_al1 h0 rfl) rfl rfl rfl) (Eq.trans (s_iload_n r35_17 rfl) (s_iast r35_18 h1 (j_ib_of (z := (j_I H (j_pa x0) 5).toInt) rfl h2 h3))))))
theorem b35_19 {b : Nat} {x0 : Value} {x1 : Int32} {x2 : Int32} {H : j_H} {Q : Option Value → j_H → Prop} (h0 : j_vc H x0 = 3) (h1 : j_vt H (va_rf (j_R H (j_pa x0) 3)) = 0) (h2 : 0 ≤ (j_I H (j_pa x0) 5).toInt) (h3 : (j_I H (j_pa x0) 5).toInt < ((j_vl H (va_rf (j_R H (j_pa x0) 3)) : Nat) : Int)) : j_wp b 35 19 [x0, .int x1, .int x2] [] H Q = j_wp b 35 29 [x0, .int x1, .int x2] [] (j_sI H (j_pa (va_rf (j_R H (j_pa x0) 3))) (j_ix (j_I H (j_pa x0) 5)) x2) Q := Eq.trans (s_aload_n r35_19 rfl (j_isr_vc h0 rfl)) (Eq.trans (s_getfr r35_20 (j_al1 h0 rfl) rfl) (Eq.trans (s_aload_n r35_23 rfl (j_isr_vc h0 rfl)) (Eq.trans (s_getfi r35_24 (j_al1 h0 rfl) rfl rfl rfl) (Eq.trans (s_iload_n r35_27 rfl) (s_iast r35_28 h1 (j_ib_of (z := (j_I H (j_pa x0) 5).toInt) rfl h2 h3))))))
theorem b35_29 {b : Nat} {x0 : Value} {x1 : Int32} {x2 : Int32} {H : j_H} {Q : Option Value → j_H → Prop} (h0 : j_vc H x0 = 3) (h1 : j_vt H (va_rf (j_R H (j_pa x0) 4)) = 0) (h2 : 0 ≤ (j_I H (j_pa x0) 5).toInt) (h3 : (j_I H (j_pa x0) 5).toInt < ((j_vl H (va_rf (j_R H (j_pa x0) 4)) : Nat) : Int)) : j_wp b 35 29 [x0, .int x1, .int x2] [] H Q = j_wp b 35 42 [x0, .int x1, .int x2] [] (j_sI H (j_pa (va_rf (j_R H (j_pa x0) 4))) (j_ix (j_I H (j_pa x0) 5)) (j_I H (j_pa x0) 7)) Q := Eq.trans (s_aload_n r35_29 rfl (j_isr_vc h0 rfl)) (Eq.trans (s_getfr r35_30 (j_al1 h0 rfl) rfl) (Eq.trans (s_aload_n r35_33 rfl (j_isr_vc h0 rfl)) (Eq.trans (s_getfi r35_34 (j_al1 h0 rfl) rfl rfl rfl) (Eq.trans (s_aload_n r35_37 rfl (j_isr_vc h0 rfl)) (Eq.trans (s_getfi r35_38 (j_al1 h0 rfl) rfl rfl rfl) (s_iast r35_41 h1 (j_ib_of (z := (j_I H (j_pa x0) 5).toInt) rfl h2 h3)))))))
theorem b35_42 {b : Nat} {x0 : Value} {x1 : Int32} {x2 : Int32} {H : j_H} {Q : Option Value → j_H → Prop} (h0 : j_vc H x0 = 3) : j_wp b 35 42 [x0, .int x1, .int x2] [] H Q = j_wp b 35 52 [x0, .int x1, .int x2] [] (j_sI H (j_pa x0) 5 ((j_I H (j_pa x0) 5) + (Int32.ofInt 1))) Q := Eq.trans (s_aload_n r35_42 rfl (j_isr_vc h0 rfl)) (Eq.trans (s_dup r35_43 (j_vc_lt h0 rfl)) (Eq.trans (s_getfi r35_44 (j_al1 h0 rfl) rfl rfl rfl) (Eq.trans (s_iconst r35_47) (Eq.trans (s_iadd r35_48) (s_put r35_49 (j_al1 h0 rfl) rfl j_putI)))))
theorem b35_52 {b : Nat} {x0 : Value} {x1 : Int32} {x2 : Int32} {H : j_H} {Q : Option Value → j_H → Prop} (h0 : j_vc H x0 = 3) : j_wp b 35 52 [x0, .int x1, .int x2] [] H Q = (if ¬ (j_I H (j_pa x0) 1).toInt = 0 then j_wp b 35 65 [x0, .int x1, .int x2] [x0] H Q else j_wp b 35 60 [x0, .int x1, .int x2] [x0] H Q) := Eq.trans (s_aload_n r35_52 rfl (j_isr_vc h0 rfl)) (Eq.trans (s_aload_n r35_53 rfl (j_isr_vc h0 rfl)) (Eq.trans (s_getfi r35_54 (j_al1 h0 rfl) rfl rfl rfl) (s_ifne r35_57 rfl rfl)))
theorem b35_60 {b : Nat} {x0 : Value} {x1 : Int32} {x2 : Int32} {y0 : Value} {H : j_H} {Q : Option Value → j_H → Prop}  : j_wp b 35 60 [x0, .int x1, .int x2] [y0] H Q = (if ¬ x1.toInt = 1 then j_wp b 35 69 [x0, .int x1, .int x2] [y0] H Q else j_wp b 35 65 [x0, .int x1, .int x2] [y0] H Q) := Eq.trans (s_iload_n r35_60 rfl) (Eq.trans (s_iconst r35_61) (s_icne r35_62 rfl rfl rfl))
theorem b35_65 {b : Nat} {x0 : Value} {x1 : Int32} {x2 : Int32} {y0 : Value} {H : j_H} {Q : Option Value → j_H → Prop}  : j_wp b 35 65 [x0, .int x1, .int x2] [y0] H Q = j_wp b 35 70 [x0, .int x1, .int x2] [.int (Int32.ofInt 1), y0] H Q := Eq.trans (s_iconst r35_65) (s_goto r35_66 rfl)
theorem b35_69 {b : Nat} {x0 : Value} {x1 : Int32} {x2 : Int32} {y0 : Value} {H : j_H} {Q : Option Value → j_H → Prop}  : j_wp b 35 69 [x0, .int x1, .int x2] [y0] H Q = j_wp b 35 70 [x0, .int x1, .int x2] [.int (Int32.ofInt 0), y0] H Q := s_iconst r35_69
theorem b35_70 {b : Nat} {x0 : Value} {x1 : Int32} {x2 : Int32} {y0 : Int32} {y1 : Value} {H : j_H} {Q : Option Value → j_H → Prop} (h0 : j_vc H y1 = 3) (h1 : y0.toInt = 0 ∨ y0.toInt = 1) : j_wp b 35 70 [x0, .int x1, .int x2] [.int y0, y1] H Q = j_wp b 35 73 [x0, .int x1, .int x2] [] (j_sI H (j_pa y1) 1 y0) Q := s_put r35_70 (j_al1 h0 rfl) rfl (j_putZ (j_b01 (z := y0.toInt) rfl h1))
theorem b35_73 {b : Nat} {x0 : Value} {x1 : Int32} {x2 : Int32} {H : j_H} {Q : Option Value → j_H → Prop}  : j_wp b 35 73 [x0, .int x1, .int x2] [] H Q = Q none H := s_return r35_73 rfl
-- X4_init
theorem r36_0 : j_at 36 0 = some (0, .aload_n 0, 1, []) := by decide +kernel
theorem r36_1 : j_at 36 1 = some (1, .iload_n 1, 1, []) := by decide +kernel
theorem r36_2 : j_at 36 2 = some (2, .iload_n 2, 1, []) := by decide +kernel
theorem r36_3 : j_at 36 3 = some (3, .iload_n 3, 1, []) := by decide +kernel
theorem r36_4 : j_at 36 4 = some (4, .iload 4, 2, []) := by decide +kernel
theorem r36_6 : j_at 36 6 = some (6, .invokespecial 1, 3, [1, 5, 16, 230, 231, 78, 0]) := by decide +kernel
theorem r36_9 : j_at 36 9 = some (9, .return_, 1, []) := by decide +kernel
theorem b36_0 {b : Nat} {x0 : Value} {x1 : Int32} {x2 : Int32} {x3 : Int32} {x4 : Int32} {H : j_H} {Q : Option Value → j_H → Prop} (h0 : [4, 7].contains (j_vc H x0) = true) (h1 : ¬ (x0 : Value) = .ref 11) : j_wp (b + 1) 36 0 [x0, .int x1, .int x2, .int x3, .int x4] [] H Q = j_wp b 16 0 [x0, .int x1, .int x2, .int x3, .int x4] [] H (j_k (b + 1) 36 9 [x0, .int x1, .int x2, .int x3, .int x4] [] Q) := Eq.trans (s_aload_n r36_0 rfl (j_isr_al h0 rfl)) (Eq.trans (s_iload_n r36_1 rfl) (Eq.trans (s_iload_n r36_2 rfl) (Eq.trans (s_iload_n r36_3 rfl) (Eq.trans (s_iload r36_4 rfl) (j_cll (as := [x0, .int x1, .int x2, .int x3, .int x4]) (es := [x0, .int x1, .int x2, .int x3, .int x4]) (s_c1 r36_6 rfl (j_vc_al h0 rfl) h1 rfl (j_dok (s := [.int x4, .int x3, .int x2, .int x1, x0]) (as := [x0, .int x1, .int x2, .int x3, .int x4]) (rest := []) (es := [x0, .int x1, .int x2, .int x3, .int x4]) rfl rfl rfl rfl (j_slc (j_c1r (j_isr_al h0 rfl)) rfl) rfl)) (j_slc (j_c1r (j_isr_al h0 rfl)) rfl) rfl)))))
theorem b36_9 {b : Nat} {x0 : Value} {x1 : Int32} {x2 : Int32} {x3 : Int32} {x4 : Int32} {H : j_H} {Q : Option Value → j_H → Prop}  : j_wp b 36 9 [x0, .int x1, .int x2, .int x3, .int x4] [] H Q = Q none H := s_return r36_9 rfl
-- X4_says
theorem r37_0 : j_at 37 0 = some (0, .iconst 0, 1, []) := by decide +kernel
theorem r37_1 : j_at 37 1 = some (1, .ireturn, 1, []) := by decide +kernel
theorem b37_0 {b : Nat} {x0 : Value} {x1 : Value} {x2 : Int32} {x3 : Int32} {H : j_H} {Q : Option Value → j_H → Prop}  : j_wp b 37 0 [x0, x1, .int x2, .int x3] [] H Q = Q (some (.int (Int32.ofInt 0))) H := Eq.trans (s_iconst r37_0) (s_ireturn r37_1 (j_rok1 rfl))
-- X4_passes
theorem r38_0 : j_at 38 0 = some (0, .aload_n 2, 1, []) := by decide +kernel
theorem r38_1 : j_at 38 1 = some (1, .bipush 20, 2, []) := by decide +kernel
theorem r38_3 : j_at 38 3 = some (3, .invokevirtual 7, 3, [2, 2, 63, 628, 604, 605, 76, 0, 10]) := by decide +kernel
theorem r38_6 : j_at 38 6 = some (6, .aload_n 0, 1, []) := by decide +kernel
theorem r38_7 : j_at 38 7 = some (7, .iload_n 1, 1, []) := by decide +kernel
theorem r38_8 : j_at 38 8 = some (8, .aload_n 2, 1, []) := by decide +kernel
theorem r38_9 : j_at 38 9 = some (9, .invokespecial 13, 3, [4, 3, 19, 19, 629, 624, 273, 622, 78, 0, 0, 0, 4, 7]) := by decide +kernel
theorem r38_12 : j_at 38 12 = some (12, .bipush 6, 2, []) := by decide +kernel
theorem r38_14 : j_at 38 14 = some (14, .ixor, 1, []) := by decide +kernel
theorem r38_15 : j_at 38 15 = some (15, .ireturn, 1, []) := by decide +kernel
theorem b38_0 {b : Nat} {x0 : Value} {x1 : Int32} {x2 : Value} {H : j_H} {Q : Option Value → j_H → Prop} (h0 : j_vc H x2 = 10) : j_wp (b + 1) 38 0 [x0, .int x1, x2] [] H Q = j_wp b 63 0 [x2, .int (Int32.ofInt 20)] [] H (j_k (b + 1) 38 6 [x0, .int x1, x2] [] Q) := Eq.trans (s_aload_n r38_0 rfl (j_isr_vc h0 rfl)) (Eq.trans (s_bipush r38_1) (j_cll (as := [x2, .int (Int32.ofInt 20)]) (es := [x2, .int (Int32.ofInt 20)]) (s_c2 r38_3 rfl h0 rfl rfl (j_dok (s := [.int (Int32.ofInt 20), x2]) (as := [x2, .int (Int32.ofInt 20)]) (rest := []) (es := [x2, .int (Int32.ofInt 20)]) rfl rfl rfl rfl (j_slc (j_c1r (j_isr_vc h0 rfl)) rfl) rfl)) (j_slc (j_c1r (j_isr_vc h0 rfl)) rfl) rfl))
theorem b38_6 {b : Nat} {x0 : Value} {x1 : Int32} {x2 : Value} {H : j_H} {Q : Option Value → j_H → Prop} (h0 : [4, 7].contains (j_vc H x0) = true) (h1 : j_isr x2 = true) : j_wp (b + 1) 38 6 [x0, .int x1, x2] [] H Q = j_wp b 19 0 [x0, .int x1, x2] [] H (j_k (b + 1) 38 12 [x0, .int x1, x2] [] Q) := Eq.trans (s_aload_n r38_6 rfl (j_isr_al h0 rfl)) (Eq.trans (s_iload_n r38_7 rfl) (Eq.trans (s_aload_n r38_8 rfl h1) (j_cll (as := [x0, .int x1, x2]) (es := [x0, .int x1, x2]) (s_c4 r38_9 rfl h0 rfl rfl (j_dok (s := [x2, .int x1, x0]) (as := [x0, .int x1, x2]) (rest := []) (es := [x0, .int x1, x2]) rfl rfl rfl rfl (j_slc (j_c1r (j_isr_al h0 rfl)) (j_slc rfl (j_slc (j_c1r h1) rfl))) rfl)) (j_slc (j_c1r (j_isr_al h0 rfl)) (j_slc rfl (j_slc (j_c1r h1) rfl))) rfl)))
theorem b38_12 {b : Nat} {x0 : Value} {x1 : Int32} {x2 : Value} {y0 : Int32} {H : j_H} {Q : Option Value → j_H → Prop}  : j_wp b 38 12 [x0, .int x1, x2] [.int y0] H Q = Q (some (.int (y0 ^^^ (Int32.ofInt 6)))) H := Eq.trans (s_bipush r38_12) (Eq.trans (s_ixor r38_14) (s_ireturn r38_15 (j_rok1 rfl)))
-- X5_init
theorem r39_0 : j_at 39 0 = some (0, .aload_n 0, 1, []) := by decide +kernel
theorem r39_1 : j_at 39 1 = some (1, .iload_n 1, 1, []) := by decide +kernel
theorem r39_2 : j_at 39 2 = some (2, .iload_n 2, 1, []) := by decide +kernel
theorem r39_3 : j_at 39 3 = some (3, .iload_n 3, 1, []) := by decide +kernel
theorem r39_4 : j_at 39 4 = some (4, .iload 4, 2, []) := by decide +kernel
theorem r39_6 : j_at 39 6 = some (6, .invokespecial 1, 3, [1, 5, 16, 289, 231, 78, 0]) := by decide +kernel
theorem r39_9 : j_at 39 9 = some (9, .return_, 1, []) := by decide +kernel
theorem b39_0 {b : Nat} {x0 : Value} {x1 : Int32} {x2 : Int32} {x3 : Int32} {x4 : Int32} {H : j_H} {Q : Option Value → j_H → Prop} (h0 : [5, 9].contains (j_vc H x0) = true) (h1 : ¬ (x0 : Value) = .ref 11) : j_wp (b + 1) 39 0 [x0, .int x1, .int x2, .int x3, .int x4] [] H Q = j_wp b 16 0 [x0, .int x1, .int x2, .int x3, .int x4] [] H (j_k (b + 1) 39 9 [x0, .int x1, .int x2, .int x3, .int x4] [] Q) := Eq.trans (s_aload_n r39_0 rfl (j_isr_al h0 rfl)) (Eq.trans (s_iload_n r39_1 rfl) (Eq.trans (s_iload_n r39_2 rfl) (Eq.trans (s_iload_n r39_3 rfl) (Eq.trans (s_iload r39_4 rfl) (j_cll (as := [x0, .int x1, .int x2, .int x3, .int x4]) (es := [x0, .int x1, .int x2, .int x3, .int x4]) (s_c1 r39_6 rfl (j_vc_al h0 rfl) h1 rfl (j_dok (s := [.int x4, .int x3, .int x2, .int x1, x0]) (as := [x0, .int x1, .int x2, .int x3, .int x4]) (rest := []) (es := [x0, .int x1, .int x2, .int x3, .int x4]) rfl rfl rfl rfl (j_slc (j_c1r (j_isr_al h0 rfl)) rfl) rfl)) (j_slc (j_c1r (j_isr_al h0 rfl)) rfl) rfl)))))
theorem b39_9 {b : Nat} {x0 : Value} {x1 : Int32} {x2 : Int32} {x3 : Int32} {x4 : Int32} {H : j_H} {Q : Option Value → j_H → Prop}  : j_wp b 39 9 [x0, .int x1, .int x2, .int x3, .int x4] [] H Q = Q none H := s_return r39_9 rfl
-- X5_says
theorem r40_0 : j_at 40 0 = some (0, .aload_n 1, 1, []) := by decide +kernel
theorem r40_1 : j_at 40 1 = some (1, .aload_n 0, 1, []) := by decide +kernel
theorem r40_2 : j_at 40 2 = some (2, .getfield 7, 3, [245, 5, 0, 1, 246, 5, 9]) := by decide +kernel
theorem r40_5 : j_at 40 5 = some (5, .iconst 1, 1, []) := by decide +kernel
theorem r40_6 : j_at 40 6 = some (6, .iadd, 1, []) := by decide +kernel
theorem r40_7 : j_at 40 7 = some (7, .invokevirtual 13, 3, [2, 2, 9, 374, 375, 376, 73, 0, 0]) := by decide +kernel
theorem r40_10 : j_at 40 10 = some (10, .istore 4, 2, []) := by decide +kernel
theorem r40_12 : j_at 40 12 = some (12, .iload 4, 2, []) := by decide +kernel
theorem r40_14 : j_at 40 14 = some (14, .ifCond .eq 16, 3, []) := by decide +kernel
theorem r40_17 : j_at 40 17 = some (17, .iload 4, 2, []) := by decide +kernel
theorem r40_19 : j_at 40 19 = some (19, .iconst 3, 1, []) := by decide +kernel
theorem r40_20 : j_at 40 20 = some (20, .if_icmp .eq 10, 3, []) := by decide +kernel
theorem r40_23 : j_at 40 23 = some (23, .iload 4, 2, []) := by decide +kernel
theorem r40_25 : j_at 40 25 = some (25, .bipush 6, 2, []) := by decide +kernel
theorem r40_27 : j_at 40 27 = some (27, .if_icmp .ne 7, 3, []) := by decide +kernel
theorem r40_30 : j_at 40 30 = some (30, .iconst 1, 1, []) := by decide +kernel
theorem r40_31 : j_at 40 31 = some (31, .goto 4, 3, []) := by decide +kernel
theorem r40_34 : j_at 40 34 = some (34, .iconst 0, 1, []) := by decide +kernel
theorem r40_35 : j_at 40 35 = some (35, .ireturn, 1, []) := by decide +kernel
theorem b40_0 {b : Nat} {x0 : Value} {x1 : Value} {x2 : Int32} {x3 : Int32} {u4 : Value} {H : j_H} {Q : Option Value → j_H → Prop} (h0 : j_vc H x1 = 0) (h1 : [5, 9].contains (j_vc H x0) = true) : j_wp (b + 1) 40 0 [x0, x1, .int x2, .int x3, u4] [] H Q = j_wp b 9 0 [x1, .int ((j_I H (j_pa x0) 1) + (Int32.ofInt 1)), j_u] [] H (j_k (b + 1) 40 10 [x0, x1, .int x2, .int x3, u4] [] Q) := Eq.trans (s_aload_n r40_0 rfl (j_isr_vc h0 rfl)) (Eq.trans (s_aload_n r40_1 rfl (j_isr_al h1 rfl)) (Eq.trans (s_getfi r40_2 h1 rfl rfl rfl) (Eq.trans (s_iconst r40_5) (Eq.trans (s_iadd r40_6) (j_cll (as := [x1, .int ((j_I H (j_pa x0) 1) + (Int32.ofInt 1))]) (es := [x1, .int ((j_I H (j_pa x0) 1) + (Int32.ofInt 1))]) (s_c2 r40_7 rfl h0 rfl rfl (j_dok (s := [.int ((j_I H (j_pa x0) 1) + (Int32.ofInt 1)), x1]) (as := [x1, .int ((j_I H (j_pa x0) 1) + (Int32.ofInt 1))]) (rest := []) (es := [x1, .int ((j_I H (j_pa x0) 1) + (Int32.ofInt 1))]) rfl rfl rfl rfl (j_slc (j_c1r (j_isr_vc h0 rfl)) rfl) rfl)) (j_slc (j_c1r (j_isr_vc h0 rfl)) rfl) rfl)))))
theorem b40_10 {b : Nat} {x0 : Value} {x1 : Value} {x2 : Int32} {x3 : Int32} {u4 : Value} {y0 : Int32} {H : j_H} {Q : Option Value → j_H → Prop}  : j_wp b 40 10 [x0, x1, .int x2, .int x3, u4] [.int y0] H Q = (if y0.toInt = 0 then j_wp b 40 30 [x0, x1, .int x2, .int x3, .int y0] [] H Q else j_wp b 40 17 [x0, x1, .int x2, .int x3, .int y0] [] H Q) := Eq.trans (s_istore r40_10 (Nat.le_of_ble_eq_true rfl) rfl) (Eq.trans (s_iload r40_12 rfl) (s_ifeq r40_14 rfl rfl))
theorem b40_17 {b : Nat} {x0 : Value} {x1 : Value} {x2 : Int32} {x3 : Int32} {x4 : Int32} {H : j_H} {Q : Option Value → j_H → Prop}  : j_wp b 40 17 [x0, x1, .int x2, .int x3, .int x4] [] H Q = (if x4.toInt = 3 then j_wp b 40 30 [x0, x1, .int x2, .int x3, .int x4] [] H Q else j_wp b 40 23 [x0, x1, .int x2, .int x3, .int x4] [] H Q) := Eq.trans (s_iload r40_17 rfl) (Eq.trans (s_iconst r40_19) (s_iceq r40_20 rfl rfl rfl))
theorem b40_23 {b : Nat} {x0 : Value} {x1 : Value} {x2 : Int32} {x3 : Int32} {x4 : Int32} {H : j_H} {Q : Option Value → j_H → Prop}  : j_wp b 40 23 [x0, x1, .int x2, .int x3, .int x4] [] H Q = (if ¬ x4.toInt = 6 then j_wp b 40 34 [x0, x1, .int x2, .int x3, .int x4] [] H Q else j_wp b 40 30 [x0, x1, .int x2, .int x3, .int x4] [] H Q) := Eq.trans (s_iload r40_23 rfl) (Eq.trans (s_bipush r40_25) (s_icne r40_27 rfl rfl rfl))
theorem b40_30 {b : Nat} {x0 : Value} {x1 : Value} {x2 : Int32} {x3 : Int32} {x4 : Int32} {H : j_H} {Q : Option Value → j_H → Prop}  : j_wp b 40 30 [x0, x1, .int x2, .int x3, .int x4] [] H Q = j_wp b 40 35 [x0, x1, .int x2, .int x3, .int x4] [.int (Int32.ofInt 1)] H Q := Eq.trans (s_iconst r40_30) (s_goto r40_31 rfl)
theorem b40_34 {b : Nat} {x0 : Value} {x1 : Value} {x2 : Int32} {x3 : Int32} {x4 : Int32} {H : j_H} {Q : Option Value → j_H → Prop}  : j_wp b 40 34 [x0, x1, .int x2, .int x3, .int x4] [] H Q = j_wp b 40 35 [x0, x1, .int x2, .int x3, .int x4] [.int (Int32.ofInt 0)] H Q := s_iconst r40_34
theorem b40_35 {b : Nat} {x0 : Value} {x1 : Value} {x2 : Int32} {x3 : Int32} {x4 : Int32} {y0 : Int32} {H : j_H} {Q : Option Value → j_H → Prop}  : j_wp b 40 35 [x0, x1, .int x2, .int x3, .int x4] [.int y0] H Q = Q (some (.int y0)) H := s_ireturn r40_35 (j_rok1 rfl)
-- X5_tells
theorem r41_0 : j_at 41 0 = some (0, .aload_n 2, 1, []) := by decide +kernel
theorem r41_1 : j_at 41 1 = some (1, .bipush 40, 2, []) := by decide +kernel
theorem r41_3 : j_at 41 3 = some (3, .invokevirtual 19, 3, [2, 2, 63, 652, 604, 605, 76, 0, 10]) := by decide +kernel
theorem r41_6 : j_at 41 6 = some (6, .aload_n 0, 1, []) := by decide +kernel
theorem r41_7 : j_at 41 7 = some (7, .iload_n 1, 1, []) := by decide +kernel
theorem r41_8 : j_at 41 8 = some (8, .aload_n 2, 1, []) := by decide +kernel
theorem r41_9 : j_at 41 9 = some (9, .invokespecial 25, 3, [4, 3, 20, 20, 653, 643, 295, 641, 78, 0, 0, 0, 5, 9]) := by decide +kernel
theorem r41_12 : j_at 41 12 = some (12, .aload_n 0, 1, []) := by decide +kernel
theorem r41_13 : j_at 41 13 = some (13, .iconst 1, 1, []) := by decide +kernel
theorem r41_14 : j_at 41 14 = some (14, .aload_n 2, 1, []) := by decide +kernel
theorem r41_15 : j_at 41 15 = some (15, .invokevirtual 29, 3, [3, 3, 216, 19, 654, 638, 622, 0, 5, 19, 655, 622, 78, 0, 9, 59, 656, 636, 85, 0]) := by decide +kernel
theorem r41_18 : j_at 41 18 = some (18, .iadd, 1, []) := by decide +kernel
theorem r41_19 : j_at 41 19 = some (19, .ireturn, 1, []) := by decide +kernel
theorem b41_0 {b : Nat} {x0 : Value} {x1 : Int32} {x2 : Value} {H : j_H} {Q : Option Value → j_H → Prop} (h0 : j_vc H x2 = 10) : j_wp (b + 1) 41 0 [x0, .int x1, x2] [] H Q = j_wp b 63 0 [x2, .int (Int32.ofInt 40)] [] H (j_k (b + 1) 41 6 [x0, .int x1, x2] [] Q) := Eq.trans (s_aload_n r41_0 rfl (j_isr_vc h0 rfl)) (Eq.trans (s_bipush r41_1) (j_cll (as := [x2, .int (Int32.ofInt 40)]) (es := [x2, .int (Int32.ofInt 40)]) (s_c2 r41_3 rfl h0 rfl rfl (j_dok (s := [.int (Int32.ofInt 40), x2]) (as := [x2, .int (Int32.ofInt 40)]) (rest := []) (es := [x2, .int (Int32.ofInt 40)]) rfl rfl rfl rfl (j_slc (j_c1r (j_isr_vc h0 rfl)) rfl) rfl)) (j_slc (j_c1r (j_isr_vc h0 rfl)) rfl) rfl))
theorem b41_6 {b : Nat} {x0 : Value} {x1 : Int32} {x2 : Value} {H : j_H} {Q : Option Value → j_H → Prop} (h0 : [5, 9].contains (j_vc H x0) = true) (h1 : j_isr x2 = true) : j_wp (b + 1) 41 6 [x0, .int x1, x2] [] H Q = j_wp b 20 0 [x0, .int x1, x2] [] H (j_k (b + 1) 41 12 [x0, .int x1, x2] [] Q) := Eq.trans (s_aload_n r41_6 rfl (j_isr_al h0 rfl)) (Eq.trans (s_iload_n r41_7 rfl) (Eq.trans (s_aload_n r41_8 rfl h1) (j_cll (as := [x0, .int x1, x2]) (es := [x0, .int x1, x2]) (s_c4 r41_9 rfl h0 rfl rfl (j_dok (s := [x2, .int x1, x0]) (as := [x0, .int x1, x2]) (rest := []) (es := [x0, .int x1, x2]) rfl rfl rfl rfl (j_slc (j_c1r (j_isr_al h0 rfl)) (j_slc rfl (j_slc (j_c1r h1) rfl))) rfl)) (j_slc (j_c1r (j_isr_al h0 rfl)) (j_slc rfl (j_slc (j_c1r h1) rfl))) rfl)))
theorem b41_12_5 {b : Nat} {x0 : Value} {x1 : Int32} {x2 : Value} {y0 : Int32} {H : j_H} {Q : Option Value → j_H → Prop} (h0 : j_vc H x0 = 5) (h1 : j_isr x2 = true) : j_wp (b + 1) 41 12 [x0, .int x1, x2] [.int y0] H Q = j_wp b 19 0 [x0, .int (Int32.ofInt 1), x2] [] H (j_k (b + 1) 41 18 [x0, .int x1, x2] [.int y0] Q) := Eq.trans (s_aload_n r41_12 rfl (j_isr_vc h0 rfl)) (Eq.trans (s_iconst r41_13) (Eq.trans (s_aload_n r41_14 rfl h1) (j_cll (as := [x0, .int (Int32.ofInt 1), x2]) (es := [x0, .int (Int32.ofInt 1), x2]) (s_c3 r41_15 rfl h0 rfl rfl rfl (j_dok (s := [x2, .int (Int32.ofInt 1), x0, .int y0]) (as := [x0, .int (Int32.ofInt 1), x2]) (rest := [.int y0]) (es := [x0, .int (Int32.ofInt 1), x2]) rfl rfl rfl rfl (j_slc (j_c1r (j_isr_vc h0 rfl)) (j_slc rfl (j_slc (j_c1r h1) rfl))) rfl)) (j_slc (j_c1r (j_isr_vc h0 rfl)) (j_slc rfl (j_slc (j_c1r h1) rfl))) rfl)))
theorem b41_12_9 {b : Nat} {x0 : Value} {x1 : Int32} {x2 : Value} {y0 : Int32} {H : j_H} {Q : Option Value → j_H → Prop} (h0 : j_vc H x0 = 9) (h1 : j_isr x2 = true) : j_wp (b + 1) 41 12 [x0, .int x1, x2] [.int y0] H Q = j_wp b 59 0 [x0, .int (Int32.ofInt 1), x2] [] H (j_k (b + 1) 41 18 [x0, .int x1, x2] [.int y0] Q) := Eq.trans (s_aload_n r41_12 rfl (j_isr_vc h0 rfl)) (Eq.trans (s_iconst r41_13) (Eq.trans (s_aload_n r41_14 rfl h1) (j_cll (as := [x0, .int (Int32.ofInt 1), x2]) (es := [x0, .int (Int32.ofInt 1), x2]) (s_c3 r41_15 rfl h0 rfl rfl rfl (j_dok (s := [x2, .int (Int32.ofInt 1), x0, .int y0]) (as := [x0, .int (Int32.ofInt 1), x2]) (rest := [.int y0]) (es := [x0, .int (Int32.ofInt 1), x2]) rfl rfl rfl rfl (j_slc (j_c1r (j_isr_vc h0 rfl)) (j_slc rfl (j_slc (j_c1r h1) rfl))) rfl)) (j_slc (j_c1r (j_isr_vc h0 rfl)) (j_slc rfl (j_slc (j_c1r h1) rfl))) rfl)))
theorem b41_18 {b : Nat} {x0 : Value} {x1 : Int32} {x2 : Value} {y0 : Int32} {y1 : Int32} {H : j_H} {Q : Option Value → j_H → Prop}  : j_wp b 41 18 [x0, .int x1, x2] [.int y0, .int y1] H Q = Q (some (.int (y1 + y0))) H := Eq.trans (s_iadd r41_18) (s_ireturn r41_19 (j_rok1 rfl))
-- X6_init
theorem r42_0 : j_at 42 0 = some (0, .aload_n 0, 1, []) := by decide +kernel
theorem r42_1 : j_at 42 1 = some (1, .iload_n 1, 1, []) := by decide +kernel
theorem r42_2 : j_at 42 2 = some (2, .iload_n 2, 1, []) := by decide +kernel
theorem r42_3 : j_at 42 3 = some (3, .iload_n 3, 1, []) := by decide +kernel
theorem r42_4 : j_at 42 4 = some (4, .iload 4, 2, []) := by decide +kernel
theorem r42_6 : j_at 42 6 = some (6, .invokespecial 3, 3, [1, 5, 16, 278, 231, 78, 0]) := by decide +kernel
theorem r42_9 : j_at 42 9 = some (9, .return_, 1, []) := by decide +kernel
theorem b42_0 {b : Nat} {x0 : Value} {x1 : Int32} {x2 : Int32} {x3 : Int32} {x4 : Int32} {H : j_H} {Q : Option Value → j_H → Prop} (h0 : [1, 6].contains (j_vc H x0) = true) (h1 : ¬ (x0 : Value) = .ref 11) : j_wp (b + 1) 42 0 [x0, .int x1, .int x2, .int x3, .int x4] [] H Q = j_wp b 16 0 [x0, .int x1, .int x2, .int x3, .int x4] [] H (j_k (b + 1) 42 9 [x0, .int x1, .int x2, .int x3, .int x4] [] Q) := Eq.trans (s_aload_n r42_0 rfl (j_isr_al h0 rfl)) (Eq.trans (s_iload_n r42_1 rfl) (Eq.trans (s_iload_n r42_2 rfl) (Eq.trans (s_iload_n r42_3 rfl) (Eq.trans (s_iload r42_4 rfl) (j_cll (as := [x0, .int x1, .int x2, .int x3, .int x4]) (es := [x0, .int x1, .int x2, .int x3, .int x4]) (s_c1 r42_6 rfl (j_vc_al h0 rfl) h1 rfl (j_dok (s := [.int x4, .int x3, .int x2, .int x1, x0]) (as := [x0, .int x1, .int x2, .int x3, .int x4]) (rest := []) (es := [x0, .int x1, .int x2, .int x3, .int x4]) rfl rfl rfl rfl (j_slc (j_c1r (j_isr_al h0 rfl)) rfl) rfl)) (j_slc (j_c1r (j_isr_al h0 rfl)) rfl) rfl)))))
theorem b42_9 {b : Nat} {x0 : Value} {x1 : Int32} {x2 : Int32} {x3 : Int32} {x4 : Int32} {H : j_H} {Q : Option Value → j_H → Prop}  : j_wp b 42 9 [x0, .int x1, .int x2, .int x3, .int x4] [] H Q = Q none H := s_return r42_9 rfl
-- X6_says
theorem r43_0 : j_at 43 0 = some (0, .aload_n 0, 1, []) := by decide +kernel
theorem r43_1 : j_at 43 1 = some (1, .getfield 9, 3, [263, 6, 0, 3, 264, 1, 6]) := by decide +kernel
theorem r43_4 : j_at 43 4 = some (4, .iload_n 3, 1, []) := by decide +kernel
theorem r43_5 : j_at 43 5 = some (5, .iand, 1, []) := by decide +kernel
theorem r43_6 : j_at 43 6 = some (6, .iload_n 2, 1, []) := by decide +kernel
theorem r43_7 : j_at 43 7 = some (7, .bipush 8, 2, []) := by decide +kernel
theorem r43_9 : j_at 43 9 = some (9, .irem, 1, []) := by decide +kernel
theorem r43_10 : j_at 43 10 = some (10, .ishr, 1, []) := by decide +kernel
theorem r43_11 : j_at 43 11 = some (11, .iconst 1, 1, []) := by decide +kernel
theorem r43_12 : j_at 43 12 = some (12, .iand, 1, []) := by decide +kernel
theorem r43_13 : j_at 43 13 = some (13, .ireturn, 1, []) := by decide +kernel
theorem b43_0 {b : Nat} {x0 : Value} {x1 : Value} {x2 : Int32} {x3 : Int32} {H : j_H} {Q : Option Value → j_H → Prop} (h0 : [1, 6].contains (j_vc H x0) = true) : j_wp b 43 0 [x0, x1, .int x2, .int x3] [] H Q = Q (some (.int ((j_shr ((j_I H (j_pa x0) 3) &&& x3) (j_rem x2 (Int32.ofInt 8))) &&& (Int32.ofInt 1)))) H := Eq.trans (s_aload_n r43_0 rfl (j_isr_al h0 rfl)) (Eq.trans (s_getfi r43_1 h0 rfl rfl rfl) (Eq.trans (s_iload_n r43_4 rfl) (Eq.trans (s_iand r43_5) (Eq.trans (s_iload_n r43_6 rfl) (Eq.trans (s_bipush r43_7) (Eq.trans (s_irem r43_9 (by decide)) (Eq.trans (s_ishr r43_10) (Eq.trans (s_iconst r43_11) (Eq.trans (s_iand r43_12) (s_ireturn r43_13 (j_rok1 rfl)))))))))))
-- X6_speaks
theorem r44_0 : j_at 44 0 = some (0, .aload_n 2, 1, []) := by decide +kernel
theorem r44_1 : j_at 44 1 = some (1, .bipush 30, 2, []) := by decide +kernel
theorem r44_3 : j_at 44 3 = some (3, .invokevirtual 15, 3, [2, 2, 63, 603, 604, 605, 76, 0, 10]) := by decide +kernel
theorem r44_6 : j_at 44 6 = some (6, .aload_n 0, 1, []) := by decide +kernel
theorem r44_7 : j_at 44 7 = some (7, .iload_n 1, 1, []) := by decide +kernel
theorem r44_8 : j_at 44 8 = some (8, .iconst 3, 1, []) := by decide +kernel
theorem r44_9 : j_at 44 9 = some (9, .imul, 1, []) := by decide +kernel
theorem r44_10 : j_at 44 10 = some (10, .aload_n 2, 1, []) := by decide +kernel
theorem r44_11 : j_at 44 11 = some (11, .invokespecial 21, 3, [4, 3, 18, 18, 606, 600, 284, 598, 78, 0, 0, 0, 1, 6]) := by decide +kernel
theorem r44_14 : j_at 44 14 = some (14, .ireturn, 1, []) := by decide +kernel
theorem b44_0 {b : Nat} {x0 : Value} {x1 : Int32} {x2 : Value} {H : j_H} {Q : Option Value → j_H → Prop} (h0 : j_vc H x2 = 10) : j_wp (b + 1) 44 0 [x0, .int x1, x2] [] H Q = j_wp b 63 0 [x2, .int (Int32.ofInt 30)] [] H (j_k (b + 1) 44 6 [x0, .int x1, x2] [] Q) := Eq.trans (s_aload_n r44_0 rfl (j_isr_vc h0 rfl)) (Eq.trans (s_bipush r44_1) (j_cll (as := [x2, .int (Int32.ofInt 30)]) (es := [x2, .int (Int32.ofInt 30)]) (s_c2 r44_3 rfl h0 rfl rfl (j_dok (s := [.int (Int32.ofInt 30), x2]) (as := [x2, .int (Int32.ofInt 30)]) (rest := []) (es := [x2, .int (Int32.ofInt 30)]) rfl rfl rfl rfl (j_slc (j_c1r (j_isr_vc h0 rfl)) rfl) rfl)) (j_slc (j_c1r (j_isr_vc h0 rfl)) rfl) rfl))
theorem b44_6 {b : Nat} {x0 : Value} {x1 : Int32} {x2 : Value} {H : j_H} {Q : Option Value → j_H → Prop} (h0 : [1, 6].contains (j_vc H x0) = true) (h1 : j_isr x2 = true) : j_wp (b + 1) 44 6 [x0, .int x1, x2] [] H Q = j_wp b 18 0 [x0, .int (x1 * (Int32.ofInt 3)), x2] [] H (j_k (b + 1) 44 14 [x0, .int x1, x2] [] Q) := Eq.trans (s_aload_n r44_6 rfl (j_isr_al h0 rfl)) (Eq.trans (s_iload_n r44_7 rfl) (Eq.trans (s_iconst r44_8) (Eq.trans (s_imul r44_9) (Eq.trans (s_aload_n r44_10 rfl h1) (j_cll (as := [x0, .int (x1 * (Int32.ofInt 3)), x2]) (es := [x0, .int (x1 * (Int32.ofInt 3)), x2]) (s_c4 r44_11 rfl h0 rfl rfl (j_dok (s := [x2, .int (x1 * (Int32.ofInt 3)), x0]) (as := [x0, .int (x1 * (Int32.ofInt 3)), x2]) (rest := []) (es := [x0, .int (x1 * (Int32.ofInt 3)), x2]) rfl rfl rfl rfl (j_slc (j_c1r (j_isr_al h0 rfl)) (j_slc rfl (j_slc (j_c1r h1) rfl))) rfl)) (j_slc (j_c1r (j_isr_al h0 rfl)) (j_slc rfl (j_slc (j_c1r h1) rfl))) rfl)))))
theorem b44_14 {b : Nat} {x0 : Value} {x1 : Int32} {x2 : Value} {y0 : Int32} {H : j_H} {Q : Option Value → j_H → Prop}  : j_wp b 44 14 [x0, .int x1, x2] [.int y0] H Q = Q (some (.int y0)) H := s_ireturn r44_14 (j_rok1 rfl)
-- X7_init
theorem r45_0 : j_at 45 0 = some (0, .aload_n 0, 1, []) := by decide +kernel
theorem r45_1 : j_at 45 1 = some (1, .iload_n 1, 1, []) := by decide +kernel
theorem r45_2 : j_at 45 2 = some (2, .iload_n 2, 1, []) := by decide +kernel
theorem r45_3 : j_at 45 3 = some (3, .iload_n 3, 1, []) := by decide +kernel
theorem r45_4 : j_at 45 4 = some (4, .iload 4, 2, []) := by decide +kernel
theorem r45_6 : j_at 45 6 = some (6, .invokespecial 1, 3, [1, 5, 36, 300, 229, 79, 0]) := by decide +kernel
theorem r45_9 : j_at 45 9 = some (9, .return_, 1, []) := by decide +kernel
theorem b45_0 {b : Nat} {x0 : Value} {x1 : Int32} {x2 : Int32} {x3 : Int32} {x4 : Int32} {H : j_H} {Q : Option Value → j_H → Prop} (h0 : j_vc H x0 = 7) (h1 : ¬ (x0 : Value) = .ref 11) : j_wp (b + 1) 45 0 [x0, .int x1, .int x2, .int x3, .int x4] [] H Q = j_wp b 36 0 [x0, .int x1, .int x2, .int x3, .int x4] [] H (j_k (b + 1) 45 9 [x0, .int x1, .int x2, .int x3, .int x4] [] Q) := Eq.trans (s_aload_n r45_0 rfl (j_isr_vc h0 rfl)) (Eq.trans (s_iload_n r45_1 rfl) (Eq.trans (s_iload_n r45_2 rfl) (Eq.trans (s_iload_n r45_3 rfl) (Eq.trans (s_iload r45_4 rfl) (j_cll (as := [x0, .int x1, .int x2, .int x3, .int x4]) (es := [x0, .int x1, .int x2, .int x3, .int x4]) (s_c1 r45_6 rfl (j_vc_lt h0 rfl) h1 rfl (j_dok (s := [.int x4, .int x3, .int x2, .int x1, x0]) (as := [x0, .int x1, .int x2, .int x3, .int x4]) (rest := []) (es := [x0, .int x1, .int x2, .int x3, .int x4]) rfl rfl rfl rfl (j_slc (j_c1r (j_isr_vc h0 rfl)) rfl) rfl)) (j_slc (j_c1r (j_isr_vc h0 rfl)) rfl) rfl)))))
theorem b45_9 {b : Nat} {x0 : Value} {x1 : Int32} {x2 : Int32} {x3 : Int32} {x4 : Int32} {H : j_H} {Q : Option Value → j_H → Prop}  : j_wp b 45 9 [x0, .int x1, .int x2, .int x3, .int x4] [] H Q = Q none H := s_return r45_9 rfl
-- X7_says
theorem r46_0 : j_at 46 0 = some (0, .aload_n 1, 1, []) := by decide +kernel
theorem r46_1 : j_at 46 1 = some (1, .aload_n 0, 1, []) := by decide +kernel
theorem r46_2 : j_at 46 2 = some (2, .getfield 7, 3, [247, 7, 0, 1, 248, 7]) := by decide +kernel
theorem r46_5 : j_at 46 5 = some (5, .iconst 1, 1, []) := by decide +kernel
theorem r46_6 : j_at 46 6 = some (6, .isub, 1, []) := by decide +kernel
theorem r46_7 : j_at 46 7 = some (7, .invokevirtual 13, 3, [2, 2, 9, 385, 375, 376, 73, 0, 0]) := by decide +kernel
theorem r46_10 : j_at 46 10 = some (10, .aload_n 0, 1, []) := by decide +kernel
theorem r46_11 : j_at 46 11 = some (11, .getfield 19, 3, [239, 7, 0, 0, 240, 7]) := by decide +kernel
theorem r46_14 : j_at 46 14 = some (14, .if_icmp .ne 7, 3, []) := by decide +kernel
theorem r46_17 : j_at 46 17 = some (17, .iconst 1, 1, []) := by decide +kernel
theorem r46_18 : j_at 46 18 = some (18, .goto 10, 3, []) := by decide +kernel
theorem r46_21 : j_at 46 21 = some (21, .aload_n 0, 1, []) := by decide +kernel
theorem r46_22 : j_at 46 22 = some (22, .aload_n 1, 1, []) := by decide +kernel
theorem r46_23 : j_at 46 23 = some (23, .iload_n 2, 1, []) := by decide +kernel
theorem r46_24 : j_at 46 24 = some (24, .iload_n 3, 1, []) := by decide +kernel
theorem r46_25 : j_at 46 25 = some (25, .invokespecial 22, 3, [4, 4, 37, 37, 386, 1023, 306, 371, 79, 0, 0, 0, 7]) := by decide +kernel
theorem r46_28 : j_at 46 28 = some (28, .ireturn, 1, []) := by decide +kernel
theorem b46_0 {b : Nat} {x0 : Value} {x1 : Value} {x2 : Int32} {x3 : Int32} {H : j_H} {Q : Option Value → j_H → Prop} (h0 : j_vc H x1 = 0) (h1 : j_vc H x0 = 7) : j_wp (b + 1) 46 0 [x0, x1, .int x2, .int x3] [] H Q = j_wp b 9 0 [x1, .int ((j_I H (j_pa x0) 1) - (Int32.ofInt 1)), j_u] [] H (j_k (b + 1) 46 10 [x0, x1, .int x2, .int x3] [] Q) := Eq.trans (s_aload_n r46_0 rfl (j_isr_vc h0 rfl)) (Eq.trans (s_aload_n r46_1 rfl (j_isr_vc h1 rfl)) (Eq.trans (s_getfi r46_2 (j_al1 h1 rfl) rfl rfl rfl) (Eq.trans (s_iconst r46_5) (Eq.trans (s_isub r46_6) (j_cll (as := [x1, .int ((j_I H (j_pa x0) 1) - (Int32.ofInt 1))]) (es := [x1, .int ((j_I H (j_pa x0) 1) - (Int32.ofInt 1))]) (s_c2 r46_7 rfl h0 rfl rfl (j_dok (s := [.int ((j_I H (j_pa x0) 1) - (Int32.ofInt 1)), x1]) (as := [x1, .int ((j_I H (j_pa x0) 1) - (Int32.ofInt 1))]) (rest := []) (es := [x1, .int ((j_I H (j_pa x0) 1) - (Int32.ofInt 1))]) rfl rfl rfl rfl (j_slc (j_c1r (j_isr_vc h0 rfl)) rfl) rfl)) (j_slc (j_c1r (j_isr_vc h0 rfl)) rfl) rfl)))))
theorem b46_10 {b : Nat} {x0 : Value} {x1 : Value} {x2 : Int32} {x3 : Int32} {y0 : Int32} {H : j_H} {Q : Option Value → j_H → Prop} (h0 : j_vc H x0 = 7) : j_wp b 46 10 [x0, x1, .int x2, .int x3] [.int y0] H Q = (if ¬ y0.toInt = (j_I H (j_pa x0) 0).toInt then j_wp b 46 21 [x0, x1, .int x2, .int x3] [] H Q else j_wp b 46 17 [x0, x1, .int x2, .int x3] [] H Q) := Eq.trans (s_aload_n r46_10 rfl (j_isr_vc h0 rfl)) (Eq.trans (s_getfi r46_11 (j_al1 h0 rfl) rfl rfl rfl) (s_icne r46_14 rfl rfl rfl))
theorem b46_17 {b : Nat} {x0 : Value} {x1 : Value} {x2 : Int32} {x3 : Int32} {H : j_H} {Q : Option Value → j_H → Prop}  : j_wp b 46 17 [x0, x1, .int x2, .int x3] [] H Q = j_wp b 46 28 [x0, x1, .int x2, .int x3] [.int (Int32.ofInt 1)] H Q := Eq.trans (s_iconst r46_17) (s_goto r46_18 rfl)
theorem b46_21 {b : Nat} {x0 : Value} {x1 : Value} {x2 : Int32} {x3 : Int32} {H : j_H} {Q : Option Value → j_H → Prop} (h0 : j_vc H x0 = 7) (h1 : j_isr x1 = true) : j_wp (b + 1) 46 21 [x0, x1, .int x2, .int x3] [] H Q = j_wp b 37 0 [x0, x1, .int x2, .int x3] [] H (j_k (b + 1) 46 28 [x0, x1, .int x2, .int x3] [] Q) := Eq.trans (s_aload_n r46_21 rfl (j_isr_vc h0 rfl)) (Eq.trans (s_aload_n r46_22 rfl h1) (Eq.trans (s_iload_n r46_23 rfl) (Eq.trans (s_iload_n r46_24 rfl) (j_cll (as := [x0, x1, .int x2, .int x3]) (es := [x0, x1, .int x2, .int x3]) (s_c4 r46_25 rfl (j_al1 h0 rfl) rfl rfl (j_dok (s := [.int x3, .int x2, x1, x0]) (as := [x0, x1, .int x2, .int x3]) (rest := []) (es := [x0, x1, .int x2, .int x3]) rfl rfl rfl rfl (j_slc (j_c1r (j_isr_vc h0 rfl)) (j_slc (j_c1r h1) rfl)) rfl)) (j_slc (j_c1r (j_isr_vc h0 rfl)) (j_slc (j_c1r h1) rfl)) rfl))))
theorem b46_28 {b : Nat} {x0 : Value} {x1 : Value} {x2 : Int32} {x3 : Int32} {y0 : Int32} {H : j_H} {Q : Option Value → j_H → Prop}  : j_wp b 46 28 [x0, x1, .int x2, .int x3] [.int y0] H Q = Q (some (.int y0)) H := s_ireturn r46_28 (j_rok1 rfl)
-- X7_speaks
theorem r47_0 : j_at 47 0 = some (0, .aload_n 2, 1, []) := by decide +kernel
theorem r47_1 : j_at 47 1 = some (1, .bipush 50, 2, []) := by decide +kernel
theorem r47_3 : j_at 47 3 = some (3, .invokevirtual 26, 3, [2, 2, 63, 612, 604, 605, 76, 0, 10]) := by decide +kernel
theorem r47_6 : j_at 47 6 = some (6, .aload_n 0, 1, []) := by decide +kernel
theorem r47_7 : j_at 47 7 = some (7, .iload_n 1, 1, []) := by decide +kernel
theorem r47_8 : j_at 47 8 = some (8, .aload_n 2, 1, []) := by decide +kernel
theorem r47_9 : j_at 47 9 = some (9, .invokespecial 32, 3, [4, 3, 18, 217, 613, 614, 306, 598, 78, 0, 1, 273, 7]) := by decide +kernel
theorem r47_12 : j_at 47 12 = some (12, .ineg, 1, []) := by decide +kernel
theorem r47_13 : j_at 47 13 = some (13, .ireturn, 1, []) := by decide +kernel
theorem b47_0 {b : Nat} {x0 : Value} {x1 : Int32} {x2 : Value} {H : j_H} {Q : Option Value → j_H → Prop} (h0 : j_vc H x2 = 10) : j_wp (b + 1) 47 0 [x0, .int x1, x2] [] H Q = j_wp b 63 0 [x2, .int (Int32.ofInt 50)] [] H (j_k (b + 1) 47 6 [x0, .int x1, x2] [] Q) := Eq.trans (s_aload_n r47_0 rfl (j_isr_vc h0 rfl)) (Eq.trans (s_bipush r47_1) (j_cll (as := [x2, .int (Int32.ofInt 50)]) (es := [x2, .int (Int32.ofInt 50)]) (s_c2 r47_3 rfl h0 rfl rfl (j_dok (s := [.int (Int32.ofInt 50), x2]) (as := [x2, .int (Int32.ofInt 50)]) (rest := []) (es := [x2, .int (Int32.ofInt 50)]) rfl rfl rfl rfl (j_slc (j_c1r (j_isr_vc h0 rfl)) rfl) rfl)) (j_slc (j_c1r (j_isr_vc h0 rfl)) rfl) rfl))
theorem b47_6 {b : Nat} {x0 : Value} {x1 : Int32} {x2 : Value} {H : j_H} {Q : Option Value → j_H → Prop} (h0 : j_vc H x0 = 7) (h1 : j_isr x2 = true) : j_wp (b + 1) 47 6 [x0, .int x1, x2] [] H Q = j_wp b 18 0 [x0, .int x1, x2] [] H (j_k (b + 1) 47 12 [x0, .int x1, x2] [] Q) := Eq.trans (s_aload_n r47_6 rfl (j_isr_vc h0 rfl)) (Eq.trans (s_iload_n r47_7 rfl) (Eq.trans (s_aload_n r47_8 rfl h1) (j_cll (as := [x0, .int x1, x2]) (es := [x0, .int x1, x2]) (s_c4 r47_9 rfl (j_al1 h0 rfl) rfl rfl (j_dok (s := [x2, .int x1, x0]) (as := [x0, .int x1, x2]) (rest := []) (es := [x0, .int x1, x2]) rfl rfl rfl rfl (j_slc (j_c1r (j_isr_vc h0 rfl)) (j_slc rfl (j_slc (j_c1r h1) rfl))) rfl)) (j_slc (j_c1r (j_isr_vc h0 rfl)) (j_slc rfl (j_slc (j_c1r h1) rfl))) rfl)))
theorem b47_12 {b : Nat} {x0 : Value} {x1 : Int32} {x2 : Value} {y0 : Int32} {H : j_H} {Q : Option Value → j_H → Prop}  : j_wp b 47 12 [x0, .int x1, x2] [.int y0] H Q = Q (some (.int (-y0))) H := Eq.trans (s_ineg r47_12) (s_ireturn r47_13 (j_rok1 rfl))
-- X7_passes
theorem r48_0 : j_at 48 0 = some (0, .aload_n 2, 1, []) := by decide +kernel
theorem r48_1 : j_at 48 1 = some (1, .bipush 51, 2, []) := by decide +kernel
theorem r48_3 : j_at 48 3 = some (3, .invokevirtual 26, 3, [2, 2, 63, 612, 604, 605, 76, 0, 10]) := by decide +kernel
theorem r48_6 : j_at 48 6 = some (6, .aload_n 0, 1, []) := by decide +kernel
theorem r48_7 : j_at 48 7 = some (7, .iload_n 1, 1, []) := by decide +kernel
theorem r48_8 : j_at 48 8 = some (8, .iconst 1, 1, []) := by decide +kernel
theorem r48_9 : j_at 48 9 = some (9, .iadd, 1, []) := by decide +kernel
theorem r48_10 : j_at 48 10 = some (10, .aload_n 2, 1, []) := by decide +kernel
theorem r48_11 : j_at 48 11 = some (11, .invokespecial 36, 3, [4, 3, 38, 38, 634, 1024, 306, 627, 79, 0, 0, 0, 7]) := by decide +kernel
theorem r48_14 : j_at 48 14 = some (14, .ireturn, 1, []) := by decide +kernel
theorem b48_0 {b : Nat} {x0 : Value} {x1 : Int32} {x2 : Value} {H : j_H} {Q : Option Value → j_H → Prop} (h0 : j_vc H x2 = 10) : j_wp (b + 1) 48 0 [x0, .int x1, x2] [] H Q = j_wp b 63 0 [x2, .int (Int32.ofInt 51)] [] H (j_k (b + 1) 48 6 [x0, .int x1, x2] [] Q) := Eq.trans (s_aload_n r48_0 rfl (j_isr_vc h0 rfl)) (Eq.trans (s_bipush r48_1) (j_cll (as := [x2, .int (Int32.ofInt 51)]) (es := [x2, .int (Int32.ofInt 51)]) (s_c2 r48_3 rfl h0 rfl rfl (j_dok (s := [.int (Int32.ofInt 51), x2]) (as := [x2, .int (Int32.ofInt 51)]) (rest := []) (es := [x2, .int (Int32.ofInt 51)]) rfl rfl rfl rfl (j_slc (j_c1r (j_isr_vc h0 rfl)) rfl) rfl)) (j_slc (j_c1r (j_isr_vc h0 rfl)) rfl) rfl))
theorem b48_6 {b : Nat} {x0 : Value} {x1 : Int32} {x2 : Value} {H : j_H} {Q : Option Value → j_H → Prop} (h0 : j_vc H x0 = 7) (h1 : j_isr x2 = true) : j_wp (b + 1) 48 6 [x0, .int x1, x2] [] H Q = j_wp b 38 0 [x0, .int (x1 + (Int32.ofInt 1)), x2] [] H (j_k (b + 1) 48 14 [x0, .int x1, x2] [] Q) := Eq.trans (s_aload_n r48_6 rfl (j_isr_vc h0 rfl)) (Eq.trans (s_iload_n r48_7 rfl) (Eq.trans (s_iconst r48_8) (Eq.trans (s_iadd r48_9) (Eq.trans (s_aload_n r48_10 rfl h1) (j_cll (as := [x0, .int (x1 + (Int32.ofInt 1)), x2]) (es := [x0, .int (x1 + (Int32.ofInt 1)), x2]) (s_c4 r48_11 rfl (j_al1 h0 rfl) rfl rfl (j_dok (s := [x2, .int (x1 + (Int32.ofInt 1)), x0]) (as := [x0, .int (x1 + (Int32.ofInt 1)), x2]) (rest := []) (es := [x0, .int (x1 + (Int32.ofInt 1)), x2]) rfl rfl rfl rfl (j_slc (j_c1r (j_isr_vc h0 rfl)) (j_slc rfl (j_slc (j_c1r h1) rfl))) rfl)) (j_slc (j_c1r (j_isr_vc h0 rfl)) (j_slc rfl (j_slc (j_c1r h1) rfl))) rfl)))))
theorem b48_14 {b : Nat} {x0 : Value} {x1 : Int32} {x2 : Value} {y0 : Int32} {H : j_H} {Q : Option Value → j_H → Prop}  : j_wp b 48 14 [x0, .int x1, x2] [.int y0] H Q = Q (some (.int y0)) H := s_ireturn r48_14 (j_rok1 rfl)
-- X8_init
theorem r49_0 : j_at 49 0 = some (0, .aload_n 0, 1, []) := by decide +kernel
theorem r49_1 : j_at 49 1 = some (1, .invokespecial 3, 3, [5, 1, 172, 97, 98]) := by decide +kernel
theorem r49_4 : j_at 49 4 = some (4, .aload_n 0, 1, []) := by decide +kernel
theorem r49_5 : j_at 49 5 = some (5, .bipush 60, 2, []) := by decide +kernel
theorem r49_7 : j_at 49 7 = some (7, .newarray .long, 2, [182, 1]) := by decide +kernel
theorem r49_9 : j_at 49 9 = some (9, .putfield 9, 3, [173, 8, 2, 0, 0, 1, 8]) := by decide +kernel
theorem r49_12 : j_at 49 12 = some (12, .aload_n 0, 1, []) := by decide +kernel
theorem r49_13 : j_at 49 13 = some (13, .iconst (-1), 1, []) := by decide +kernel
theorem r49_14 : j_at 49 14 = some (14, .putfield 15, 3, [175, 8, 0, 1, 0, 0, 8]) := by decide +kernel
theorem r49_17 : j_at 49 17 = some (17, .return_, 1, []) := by decide +kernel
theorem b49_0 {b : Nat} {x0 : Value} {H : j_H} {Q : Option Value → j_H → Prop} (h0 : j_vc H x0 = 8) (h1 : ¬ (x0 : Value) = .ref 11) : j_wp b 49 0 [x0] [] H Q = j_wp b 49 12 [x0] [] (j_sR (j_nw H (.inr (1, j_ix (Int32.ofInt 60)))) (j_pa x0) 0 (some H.1.length)) Q := Eq.trans (s_aload_n r49_0 rfl (j_isr_vc h0 rfl)) (Eq.trans (s_oinit r49_1 (j_vc_lt h0 rfl) h1 rfl) (Eq.trans (s_aload_n r49_4 rfl (j_isr_vc h0 rfl)) (Eq.trans (s_bipush r49_5) (Eq.trans (s_newa r49_7 (by decide)) (s_put r49_9 (j_al1 (j_vcn h0) rfl) rfl (j_putR rfl))))))
theorem b49_12 {b : Nat} {x0 : Value} {H : j_H} {Q : Option Value → j_H → Prop} (h0 : j_vc H x0 = 8) : j_wp b 49 12 [x0] [] H Q = j_wp b 49 17 [x0] [] (j_sI H (j_pa x0) 1 (Int32.ofInt (-1))) Q := Eq.trans (s_aload_n r49_12 rfl (j_isr_vc h0 rfl)) (Eq.trans (s_iconst r49_13) (s_put r49_14 (j_al1 h0 rfl) rfl j_putI))
theorem b49_17 {b : Nat} {x0 : Value} {H : j_H} {Q : Option Value → j_H → Prop}  : j_wp b 49 17 [x0] [] H Q = Q none H := s_return r49_17 rfl
-- X8_becomes
theorem r50_0 : j_at 50 0 = some (0, .aload_n 0, 1, []) := by decide +kernel
theorem r50_1 : j_at 50 1 = some (1, .getfield 9, 3, [173, 8, 2, 0, 0, 8]) := by decide +kernel
theorem r50_4 : j_at 50 4 = some (4, .lconst 0, 1, []) := by decide +kernel
theorem r50_5 : j_at 50 5 = some (5, .invokestatic 19, 3, [0, 2, 210, 681, 545, 90, 0]) := by decide +kernel
theorem r50_8 : j_at 50 8 = some (8, .aload_n 0, 1, []) := by decide +kernel
theorem r50_9 : j_at 50 9 = some (9, .iload_n 1, 1, []) := by decide +kernel
theorem r50_10 : j_at 50 10 = some (10, .putfield 15, 3, [175, 8, 0, 1, 0, 0, 8]) := by decide +kernel
theorem r50_13 : j_at 50 13 = some (13, .aload_n 0, 1, []) := by decide +kernel
theorem r50_14 : j_at 50 14 = some (14, .iload_n 2, 1, []) := by decide +kernel
theorem r50_15 : j_at 50 15 = some (15, .putfield 25, 3, [177, 8, 0, 2, 0, 0, 8]) := by decide +kernel
theorem r50_18 : j_at 50 18 = some (18, .return_, 1, []) := by decide +kernel
theorem b50_0 {b : Nat} {x0 : Value} {x1 : Int32} {x2 : Int32} {H : j_H} {Q : Option Value → j_H → Prop} (h0 : j_vc H x0 = 8) : j_wp (b + 1) 50 0 [x0, .int x1, .int x2] [] H Q = j_wp b 210 0 [va_rf (j_R H (j_pa x0) 0), .long (Int64.ofInt 0), j_u, j_u, j_u] [] H (j_k (b + 1) 50 8 [x0, .int x1, .int x2] [] Q) := Eq.trans (s_aload_n r50_0 rfl (j_isr_vc h0 rfl)) (Eq.trans (s_getfr r50_1 (j_al1 h0 rfl) rfl) (Eq.trans (s_lconst r50_4 rfl) (j_cll (as := [va_rf (j_R H (j_pa x0) 0), .long (Int64.ofInt 0)]) (es := [va_rf (j_R H (j_pa x0) 0), .long (Int64.ofInt 0), j_u]) (s_c0 r50_5 (j_dok (s := [.long (Int64.ofInt 0), va_rf (j_R H (j_pa x0) 0)]) (as := [va_rf (j_R H (j_pa x0) 0), .long (Int64.ofInt 0)]) (rest := []) (es := [va_rf (j_R H (j_pa x0) 0), .long (Int64.ofInt 0), j_u]) rfl rfl rfl rfl (j_slc (j_c1r (j_isr_rf _)) rfl) rfl)) (j_slc (j_c1r (j_isr_rf _)) rfl) rfl)))
theorem b50_8 {b : Nat} {x0 : Value} {x1 : Int32} {x2 : Int32} {H : j_H} {Q : Option Value → j_H → Prop} (h0 : j_vc H x0 = 8) : j_wp b 50 8 [x0, .int x1, .int x2] [] H Q = j_wp b 50 13 [x0, .int x1, .int x2] [] (j_sI H (j_pa x0) 1 x1) Q := Eq.trans (s_aload_n r50_8 rfl (j_isr_vc h0 rfl)) (Eq.trans (s_iload_n r50_9 rfl) (s_put r50_10 (j_al1 h0 rfl) rfl j_putI))
theorem b50_13 {b : Nat} {x0 : Value} {x1 : Int32} {x2 : Int32} {H : j_H} {Q : Option Value → j_H → Prop} (h0 : j_vc H x0 = 8) : j_wp b 50 13 [x0, .int x1, .int x2] [] H Q = j_wp b 50 18 [x0, .int x1, .int x2] [] (j_sI H (j_pa x0) 2 x2) Q := Eq.trans (s_aload_n r50_13 rfl (j_isr_vc h0 rfl)) (Eq.trans (s_iload_n r50_14 rfl) (s_put r50_15 (j_al1 h0 rfl) rfl j_putI))
theorem b50_18 {b : Nat} {x0 : Value} {x1 : Int32} {x2 : Int32} {H : j_H} {Q : Option Value → j_H → Prop}  : j_wp b 50 18 [x0, .int x1, .int x2] [] H Q = Q none H := s_return r50_18 rfl
-- X8_isEmpty
theorem r51_0 : j_at 51 0 = some (0, .aload_n 0, 1, []) := by decide +kernel
theorem r51_1 : j_at 51 1 = some (1, .getfield 15, 3, [175, 8, 0, 1, 0, 8]) := by decide +kernel
theorem r51_4 : j_at 51 4 = some (4, .iconst (-1), 1, []) := by decide +kernel
theorem r51_5 : j_at 51 5 = some (5, .if_icmp .ne 7, 3, []) := by decide +kernel
theorem r51_8 : j_at 51 8 = some (8, .iconst 1, 1, []) := by decide +kernel
theorem r51_9 : j_at 51 9 = some (9, .goto 4, 3, []) := by decide +kernel
theorem r51_12 : j_at 51 12 = some (12, .iconst 0, 1, []) := by decide +kernel
theorem r51_13 : j_at 51 13 = some (13, .ireturn, 1, []) := by decide +kernel
theorem b51_0 {b : Nat} {x0 : Value} {H : j_H} {Q : Option Value → j_H → Prop} (h0 : j_vc H x0 = 8) : j_wp b 51 0 [x0] [] H Q = (if ¬ (j_I H (j_pa x0) 1).toInt = (-1) then j_wp b 51 12 [x0] [] H Q else j_wp b 51 8 [x0] [] H Q) := Eq.trans (s_aload_n r51_0 rfl (j_isr_vc h0 rfl)) (Eq.trans (s_getfi r51_1 (j_al1 h0 rfl) rfl rfl rfl) (Eq.trans (s_iconst r51_4) (s_icne r51_5 rfl rfl rfl)))
theorem b51_8 {b : Nat} {x0 : Value} {H : j_H} {Q : Option Value → j_H → Prop}  : j_wp b 51 8 [x0] [] H Q = j_wp b 51 13 [x0] [.int (Int32.ofInt 1)] H Q := Eq.trans (s_iconst r51_8) (s_goto r51_9 rfl)
theorem b51_12 {b : Nat} {x0 : Value} {H : j_H} {Q : Option Value → j_H → Prop}  : j_wp b 51 12 [x0] [] H Q = j_wp b 51 13 [x0] [.int (Int32.ofInt 0)] H Q := s_iconst r51_12
theorem b51_13 {b : Nat} {x0 : Value} {y0 : Int32} {H : j_H} {Q : Option Value → j_H → Prop} (h0 : y0.toInt = 0 ∨ y0.toInt = 1) : j_wp b 51 13 [x0] [.int y0] H Q = Q (some (.int y0)) H := s_ireturn r51_13 (j_rok4 (z := y0.toInt) rfl rfl h0)
-- X8_has
theorem r52_0 : j_at 52 0 = some (0, .iload_n 1, 1, []) := by decide +kernel
theorem r52_1 : j_at 52 1 = some (1, .ifCond .lt 24, 3, []) := by decide +kernel
theorem r52_4 : j_at 52 4 = some (4, .iload_n 1, 1, []) := by decide +kernel
theorem r52_5 : j_at 52 5 = some (5, .aload_n 0, 1, []) := by decide +kernel
theorem r52_6 : j_at 52 6 = some (6, .getfield 25, 3, [177, 8, 0, 2, 0, 8]) := by decide +kernel
theorem r52_9 : j_at 52 9 = some (9, .if_icmp .ge 16, 3, []) := by decide +kernel
theorem r52_12 : j_at 52 12 = some (12, .iload_n 1, 1, []) := by decide +kernel
theorem r52_13 : j_at 52 13 = some (13, .aload_n 0, 1, []) := by decide +kernel
theorem r52_14 : j_at 52 14 = some (14, .getfield 9, 3, [173, 8, 2, 0, 0, 8]) := by decide +kernel
theorem r52_17 : j_at 52 17 = some (17, .arraylength, 1, []) := by decide +kernel
theorem r52_18 : j_at 52 18 = some (18, .if_icmp .ge 7, 3, []) := by decide +kernel
theorem r52_21 : j_at 52 21 = some (21, .iconst 1, 1, []) := by decide +kernel
theorem r52_22 : j_at 52 22 = some (22, .goto 4, 3, []) := by decide +kernel
theorem r52_25 : j_at 52 25 = some (25, .iconst 0, 1, []) := by decide +kernel
theorem r52_26 : j_at 52 26 = some (26, .ireturn, 1, []) := by decide +kernel
theorem b52_0 {b : Nat} {x0 : Value} {x1 : Int32} {H : j_H} {Q : Option Value → j_H → Prop}  : j_wp b 52 0 [x0, .int x1] [] H Q = (if x1.toInt < 0 then j_wp b 52 25 [x0, .int x1] [] H Q else j_wp b 52 4 [x0, .int x1] [] H Q) := Eq.trans (s_iload_n r52_0 rfl) (s_iflt r52_1 rfl rfl)
theorem b52_4 {b : Nat} {x0 : Value} {x1 : Int32} {H : j_H} {Q : Option Value → j_H → Prop} (h0 : j_vc H x0 = 8) : j_wp b 52 4 [x0, .int x1] [] H Q = (if (j_I H (j_pa x0) 2).toInt ≤ x1.toInt then j_wp b 52 25 [x0, .int x1] [] H Q else j_wp b 52 12 [x0, .int x1] [] H Q) := Eq.trans (s_iload_n r52_4 rfl) (Eq.trans (s_aload_n r52_5 rfl (j_isr_vc h0 rfl)) (Eq.trans (s_getfi r52_6 (j_al1 h0 rfl) rfl rfl rfl) (s_icge r52_9 rfl rfl rfl)))
theorem b52_12 {b : Nat} {x0 : Value} {x1 : Int32} {H : j_H} {Q : Option Value → j_H → Prop} (h0 : j_vc H x0 = 8) (h1 : j_vt H (va_rf (j_R H (j_pa x0) 0)) = 1) : j_wp b 52 12 [x0, .int x1] [] H Q = (if (Int32.ofInt (j_vl H (va_rf (j_R H (j_pa x0) 0)) : Nat)).toInt ≤ x1.toInt then j_wp b 52 25 [x0, .int x1] [] H Q else j_wp b 52 21 [x0, .int x1] [] H Q) := Eq.trans (s_iload_n r52_12 rfl) (Eq.trans (s_aload_n r52_13 rfl (j_isr_vc h0 rfl)) (Eq.trans (s_getfr r52_14 (j_al1 h0 rfl) rfl) (Eq.trans (s_alen r52_17 h1 (by decide)) (s_icge r52_18 rfl rfl rfl))))
theorem b52_21 {b : Nat} {x0 : Value} {x1 : Int32} {H : j_H} {Q : Option Value → j_H → Prop}  : j_wp b 52 21 [x0, .int x1] [] H Q = j_wp b 52 26 [x0, .int x1] [.int (Int32.ofInt 1)] H Q := Eq.trans (s_iconst r52_21) (s_goto r52_22 rfl)
theorem b52_25 {b : Nat} {x0 : Value} {x1 : Int32} {H : j_H} {Q : Option Value → j_H → Prop}  : j_wp b 52 25 [x0, .int x1] [] H Q = j_wp b 52 26 [x0, .int x1] [.int (Int32.ofInt 0)] H Q := s_iconst r52_25
theorem b52_26 {b : Nat} {x0 : Value} {x1 : Int32} {y0 : Int32} {H : j_H} {Q : Option Value → j_H → Prop} (h0 : y0.toInt = 0 ∨ y0.toInt = 1) : j_wp b 52 26 [x0, .int x1] [.int y0] H Q = Q (some (.int y0)) H := s_ireturn r52_26 (j_rok4 (z := y0.toInt) rfl rfl h0)
-- X8_spans
theorem r53_0 : j_at 53 0 = some (0, .iload_n 2, 1, []) := by decide +kernel
theorem r53_1 : j_at 53 1 = some (1, .ifCond .lt 21, 3, []) := by decide +kernel
theorem r53_4 : j_at 53 4 = some (4, .iload_n 1, 1, []) := by decide +kernel
theorem r53_5 : j_at 53 5 = some (5, .ifCond .lt 17, 3, []) := by decide +kernel
theorem r53_8 : j_at 53 8 = some (8, .iload_n 1, 1, []) := by decide +kernel
theorem r53_9 : j_at 53 9 = some (9, .aload_n 0, 1, []) := by decide +kernel
theorem r53_10 : j_at 53 10 = some (10, .getfield 25, 3, [177, 8, 0, 2, 0, 8]) := by decide +kernel
theorem r53_13 : j_at 53 13 = some (13, .iload_n 2, 1, []) := by decide +kernel
theorem r53_14 : j_at 53 14 = some (14, .isub, 1, []) := by decide +kernel
theorem r53_15 : j_at 53 15 = some (15, .if_icmp .gt 7, 3, []) := by decide +kernel
theorem r53_18 : j_at 53 18 = some (18, .iconst 1, 1, []) := by decide +kernel
theorem r53_19 : j_at 53 19 = some (19, .goto 4, 3, []) := by decide +kernel
theorem r53_22 : j_at 53 22 = some (22, .iconst 0, 1, []) := by decide +kernel
theorem r53_23 : j_at 53 23 = some (23, .ireturn, 1, []) := by decide +kernel
theorem b53_0 {b : Nat} {x0 : Value} {x1 : Int32} {x2 : Int32} {H : j_H} {Q : Option Value → j_H → Prop}  : j_wp b 53 0 [x0, .int x1, .int x2] [] H Q = (if x2.toInt < 0 then j_wp b 53 22 [x0, .int x1, .int x2] [] H Q else j_wp b 53 4 [x0, .int x1, .int x2] [] H Q) := Eq.trans (s_iload_n r53_0 rfl) (s_iflt r53_1 rfl rfl)
theorem b53_4 {b : Nat} {x0 : Value} {x1 : Int32} {x2 : Int32} {H : j_H} {Q : Option Value → j_H → Prop}  : j_wp b 53 4 [x0, .int x1, .int x2] [] H Q = (if x1.toInt < 0 then j_wp b 53 22 [x0, .int x1, .int x2] [] H Q else j_wp b 53 8 [x0, .int x1, .int x2] [] H Q) := Eq.trans (s_iload_n r53_4 rfl) (s_iflt r53_5 rfl rfl)
theorem b53_8 {b : Nat} {x0 : Value} {x1 : Int32} {x2 : Int32} {H : j_H} {Q : Option Value → j_H → Prop} (h0 : j_vc H x0 = 8) : j_wp b 53 8 [x0, .int x1, .int x2] [] H Q = (if ((j_I H (j_pa x0) 2) - x2).toInt < x1.toInt then j_wp b 53 22 [x0, .int x1, .int x2] [] H Q else j_wp b 53 18 [x0, .int x1, .int x2] [] H Q) := Eq.trans (s_iload_n r53_8 rfl) (Eq.trans (s_aload_n r53_9 rfl (j_isr_vc h0 rfl)) (Eq.trans (s_getfi r53_10 (j_al1 h0 rfl) rfl rfl rfl) (Eq.trans (s_iload_n r53_13 rfl) (Eq.trans (s_isub r53_14) (s_icgt r53_15 rfl rfl rfl)))))
theorem b53_18 {b : Nat} {x0 : Value} {x1 : Int32} {x2 : Int32} {H : j_H} {Q : Option Value → j_H → Prop}  : j_wp b 53 18 [x0, .int x1, .int x2] [] H Q = j_wp b 53 23 [x0, .int x1, .int x2] [.int (Int32.ofInt 1)] H Q := Eq.trans (s_iconst r53_18) (s_goto r53_19 rfl)
theorem b53_22 {b : Nat} {x0 : Value} {x1 : Int32} {x2 : Int32} {H : j_H} {Q : Option Value → j_H → Prop}  : j_wp b 53 22 [x0, .int x1, .int x2] [] H Q = j_wp b 53 23 [x0, .int x1, .int x2] [.int (Int32.ofInt 0)] H Q := s_iconst r53_22
theorem b53_23 {b : Nat} {x0 : Value} {x1 : Int32} {x2 : Int32} {y0 : Int32} {H : j_H} {Q : Option Value → j_H → Prop} (h0 : y0.toInt = 0 ∨ y0.toInt = 1) : j_wp b 53 23 [x0, .int x1, .int x2] [.int y0] H Q = Q (some (.int y0)) H := s_ireturn r53_23 (j_rok4 (z := y0.toInt) rfl rfl h0)
-- X8_get
theorem r54_0 : j_at 54 0 = some (0, .aload_n 0, 1, []) := by decide +kernel
theorem r54_1 : j_at 54 1 = some (1, .iload_n 1, 1, []) := by decide +kernel
theorem r54_2 : j_at 54 2 = some (2, .invokevirtual 28, 3, [2, 2, 52, 580, 575, 576, 75, 0, 8]) := by decide +kernel
theorem r54_5 : j_at 54 5 = some (5, .ifCond .eq 12, 3, []) := by decide +kernel
theorem r54_8 : j_at 54 8 = some (8, .aload_n 0, 1, []) := by decide +kernel
theorem r54_9 : j_at 54 9 = some (9, .getfield 9, 3, [173, 8, 2, 0, 0, 8]) := by decide +kernel
theorem r54_12 : j_at 54 12 = some (12, .iload_n 1, 1, []) := by decide +kernel
theorem r54_13 : j_at 54 13 = some (13, .laload, 1, []) := by decide +kernel
theorem r54_14 : j_at 54 14 = some (14, .goto 6, 3, []) := by decide +kernel
theorem r54_17 : j_at 54 17 = some (17, .ldc2_w 32, 3, [581, 1, 9223372036854775808]) := by decide +kernel
theorem r54_20 : j_at 54 20 = some (20, .lreturn, 1, []) := by decide +kernel
theorem b54_0 {b : Nat} {x0 : Value} {x1 : Int32} {H : j_H} {Q : Option Value → j_H → Prop} (h0 : j_vc H x0 = 8) : j_wp (b + 1) 54 0 [x0, .int x1] [] H Q = j_wp b 52 0 [x0, .int x1] [] H (j_k (b + 1) 54 5 [x0, .int x1] [] Q) := Eq.trans (s_aload_n r54_0 rfl (j_isr_vc h0 rfl)) (Eq.trans (s_iload_n r54_1 rfl) (j_cll (as := [x0, .int x1]) (es := [x0, .int x1]) (s_c2 r54_2 rfl h0 rfl rfl (j_dok (s := [.int x1, x0]) (as := [x0, .int x1]) (rest := []) (es := [x0, .int x1]) rfl rfl rfl rfl (j_slc (j_c1r (j_isr_vc h0 rfl)) rfl) rfl)) (j_slc (j_c1r (j_isr_vc h0 rfl)) rfl) rfl))
theorem b54_5 {b : Nat} {x0 : Value} {x1 : Int32} {y0 : Int32} {H : j_H} {Q : Option Value → j_H → Prop}  : j_wp b 54 5 [x0, .int x1] [.int y0] H Q = (if y0.toInt = 0 then j_wp b 54 17 [x0, .int x1] [] H Q else j_wp b 54 8 [x0, .int x1] [] H Q) := s_ifeq r54_5 rfl rfl
theorem b54_8 {b : Nat} {x0 : Value} {x1 : Int32} {H : j_H} {Q : Option Value → j_H → Prop} (h0 : j_vc H x0 = 8) (h1 : j_vt H (va_rf (j_R H (j_pa x0) 0)) = 1) (h2 : 0 ≤ x1.toInt) (h3 : x1.toInt < ((j_vl H (va_rf (j_R H (j_pa x0) 0)) : Nat) : Int)) : j_wp b 54 8 [x0, .int x1] [] H Q = j_wp b 54 20 [x0, .int x1] [.long (j_L H (j_pa (va_rf (j_R H (j_pa x0) 0))) (j_ix x1))] H Q := Eq.trans (s_aload_n r54_8 rfl (j_isr_vc h0 rfl)) (Eq.trans (s_getfr r54_9 (j_al1 h0 rfl) rfl) (Eq.trans (s_iload_n r54_12 rfl) (Eq.trans (s_lald r54_13 h1 (j_ib_of (z := x1.toInt) rfl h2 h3)) (s_goto r54_14 rfl))))
theorem b54_17 {b : Nat} {x0 : Value} {x1 : Int32} {H : j_H} {Q : Option Value → j_H → Prop}  : j_wp b 54 17 [x0, .int x1] [] H Q = j_wp b 54 20 [x0, .int x1] [.long (Int64.ofInt (-9223372036854775808))] H Q := s_ldc2 r54_17 rfl
theorem b54_20 {b : Nat} {x0 : Value} {x1 : Int32} {y0 : Int64} {H : j_H} {Q : Option Value → j_H → Prop}  : j_wp b 54 20 [x0, .int x1] [.long y0] H Q = Q (some (.long y0)) H := s_lreturn r54_20 rfl
-- X8_put
theorem r55_0 : j_at 55 0 = some (0, .aload_n 0, 1, []) := by decide +kernel
theorem r55_1 : j_at 55 1 = some (1, .iload_n 1, 1, []) := by decide +kernel
theorem r55_2 : j_at 55 2 = some (2, .invokevirtual 28, 3, [2, 2, 52, 580, 575, 576, 75, 0, 8]) := by decide +kernel
theorem r55_5 : j_at 55 5 = some (5, .ifCond .eq 14, 3, []) := by decide +kernel
theorem r55_8 : j_at 55 8 = some (8, .aload_n 0, 1, []) := by decide +kernel
theorem r55_9 : j_at 55 9 = some (9, .getfield 9, 3, [173, 8, 2, 0, 0, 8]) := by decide +kernel
theorem r55_12 : j_at 55 12 = some (12, .iload_n 1, 1, []) := by decide +kernel
theorem r55_13 : j_at 55 13 = some (13, .aload_n 0, 1, []) := by decide +kernel
theorem r55_14 : j_at 55 14 = some (14, .lload_n 2, 1, []) := by decide +kernel
theorem r55_15 : j_at 55 15 = some (15, .invokevirtual 34, 3, [2, 2, 56, 688, 689, 25, 75, 0, 8]) := by decide +kernel
theorem r55_18 : j_at 55 18 = some (18, .lastore, 1, []) := by decide +kernel
theorem r55_19 : j_at 55 19 = some (19, .return_, 1, []) := by decide +kernel
theorem b55_0 {b : Nat} {x0 : Value} {x1 : Int32} {x2 : Int64} {H : j_H} {Q : Option Value → j_H → Prop} (h0 : j_vc H x0 = 8) : j_wp (b + 1) 55 0 [x0, .int x1, .long x2, j_u] [] H Q = j_wp b 52 0 [x0, .int x1] [] H (j_k (b + 1) 55 5 [x0, .int x1, .long x2, j_u] [] Q) := Eq.trans (s_aload_n r55_0 rfl (j_isr_vc h0 rfl)) (Eq.trans (s_iload_n r55_1 rfl) (j_cll (as := [x0, .int x1]) (es := [x0, .int x1]) (s_c2 r55_2 rfl h0 rfl rfl (j_dok (s := [.int x1, x0]) (as := [x0, .int x1]) (rest := []) (es := [x0, .int x1]) rfl rfl rfl rfl (j_slc (j_c1r (j_isr_vc h0 rfl)) rfl) rfl)) (j_slc (j_c1r (j_isr_vc h0 rfl)) rfl) rfl))
theorem b55_5 {b : Nat} {x0 : Value} {x1 : Int32} {x2 : Int64} {y0 : Int32} {H : j_H} {Q : Option Value → j_H → Prop}  : j_wp b 55 5 [x0, .int x1, .long x2, j_u] [.int y0] H Q = (if y0.toInt = 0 then j_wp b 55 19 [x0, .int x1, .long x2, j_u] [] H Q else j_wp b 55 8 [x0, .int x1, .long x2, j_u] [] H Q) := s_ifeq r55_5 rfl rfl
theorem b55_8 {b : Nat} {x0 : Value} {x1 : Int32} {x2 : Int64} {H : j_H} {Q : Option Value → j_H → Prop} (h0 : j_vc H x0 = 8) : j_wp (b + 1) 55 8 [x0, .int x1, .long x2, j_u] [] H Q = j_wp b 56 0 [x0, .long x2, j_u] [] H (j_k (b + 1) 55 18 [x0, .int x1, .long x2, j_u] [.int x1, va_rf (j_R H (j_pa x0) 0)] Q) := Eq.trans (s_aload_n r55_8 rfl (j_isr_vc h0 rfl)) (Eq.trans (s_getfr r55_9 (j_al1 h0 rfl) rfl) (Eq.trans (s_iload_n r55_12 rfl) (Eq.trans (s_aload_n r55_13 rfl (j_isr_vc h0 rfl)) (Eq.trans (s_lload_n r55_14 rfl) (j_cll (as := [x0, .long x2]) (es := [x0, .long x2, j_u]) (s_c2 r55_15 rfl h0 rfl rfl (j_dok (s := [.long x2, x0, .int x1, va_rf (j_R H (j_pa x0) 0)]) (as := [x0, .long x2]) (rest := [.int x1, va_rf (j_R H (j_pa x0) 0)]) (es := [x0, .long x2, j_u]) rfl rfl rfl rfl (j_slc (j_c1r (j_isr_vc h0 rfl)) rfl) rfl)) (j_slc (j_c1r (j_isr_vc h0 rfl)) rfl) rfl)))))
theorem b55_18 {b : Nat} {x0 : Value} {x1 : Int32} {x2 : Int64} {y0 : Int64} {y1 : Int32} {y2 : Value} {H : j_H} {Q : Option Value → j_H → Prop} (h0 : j_vt H y2 = 1) (h1 : 0 ≤ y1.toInt) (h2 : y1.toInt < ((j_vl H y2 : Nat) : Int)) : j_wp b 55 18 [x0, .int x1, .long x2, j_u] [.long y0, .int y1, y2] H Q = j_wp b 55 19 [x0, .int x1, .long x2, j_u] [] (j_sL H (j_pa y2) (j_ix y1) y0) Q := s_last r55_18 h0 (j_ib_of (z := y1.toInt) rfl h1 h2)
theorem b55_19 {b : Nat} {x0 : Value} {x1 : Int32} {x2 : Int64} {H : j_H} {Q : Option Value → j_H → Prop}  : j_wp b 55 19 [x0, .int x1, .long x2, j_u] [] H Q = Q none H := s_return r55_19 rfl
-- X8_cut
theorem r56_0 : j_at 56 0 = some (0, .aload_n 0, 1, []) := by decide +kernel
theorem r56_1 : j_at 56 1 = some (1, .getfield 15, 3, [175, 8, 0, 1, 0, 8]) := by decide +kernel
theorem r56_4 : j_at 56 4 = some (4, .tableswitch 62 0 4 #[36, 41, 46, 62, 50], 36, []) := by decide +kernel
theorem r56_40 : j_at 56 40 = some (40, .lload_n 1, 1, []) := by decide +kernel
theorem r56_41 : j_at 56 41 = some (41, .l2i, 1, []) := by decide +kernel
theorem r56_42 : j_at 56 42 = some (42, .i2b, 1, []) := by decide +kernel
theorem r56_43 : j_at 56 43 = some (43, .i2l, 1, []) := by decide +kernel
theorem r56_44 : j_at 56 44 = some (44, .lreturn, 1, []) := by decide +kernel
theorem r56_45 : j_at 56 45 = some (45, .lload_n 1, 1, []) := by decide +kernel
theorem r56_46 : j_at 56 46 = some (46, .l2i, 1, []) := by decide +kernel
theorem r56_47 : j_at 56 47 = some (47, .i2s, 1, []) := by decide +kernel
theorem r56_48 : j_at 56 48 = some (48, .i2l, 1, []) := by decide +kernel
theorem r56_49 : j_at 56 49 = some (49, .lreturn, 1, []) := by decide +kernel
theorem r56_50 : j_at 56 50 = some (50, .lload_n 1, 1, []) := by decide +kernel
theorem r56_51 : j_at 56 51 = some (51, .l2i, 1, []) := by decide +kernel
theorem r56_52 : j_at 56 52 = some (52, .i2l, 1, []) := by decide +kernel
theorem r56_53 : j_at 56 53 = some (53, .lreturn, 1, []) := by decide +kernel
theorem r56_54 : j_at 56 54 = some (54, .lload_n 1, 1, []) := by decide +kernel
theorem r56_55 : j_at 56 55 = some (55, .lconst 0, 1, []) := by decide +kernel
theorem r56_56 : j_at 56 56 = some (56, .lcmp, 1, []) := by decide +kernel
theorem r56_57 : j_at 56 57 = some (57, .ifCond .eq 7, 3, []) := by decide +kernel
theorem r56_60 : j_at 56 60 = some (60, .lconst 1, 1, []) := by decide +kernel
theorem r56_61 : j_at 56 61 = some (61, .goto 4, 3, []) := by decide +kernel
theorem r56_64 : j_at 56 64 = some (64, .lconst 0, 1, []) := by decide +kernel
theorem r56_65 : j_at 56 65 = some (65, .lreturn, 1, []) := by decide +kernel
theorem r56_66 : j_at 56 66 = some (66, .lload_n 1, 1, []) := by decide +kernel
theorem r56_67 : j_at 56 67 = some (67, .lreturn, 1, []) := by decide +kernel
theorem b56_0 {b : Nat} {x0 : Value} {x1 : Int64} {H : j_H} {Q : Option Value → j_H → Prop} (h0 : j_vc H x0 = 8) : j_wp b 56 0 [x0, .long x1, j_u] [] H Q = (if (j_I H (j_pa x0) 1).toInt = 0 then j_wp b 56 40 [x0, .long x1, j_u] [] H Q else if (j_I H (j_pa x0) 1).toInt = 1 then j_wp b 56 45 [x0, .long x1, j_u] [] H Q else if (j_I H (j_pa x0) 1).toInt = 2 then j_wp b 56 50 [x0, .long x1, j_u] [] H Q else if (j_I H (j_pa x0) 1).toInt = 4 then j_wp b 56 54 [x0, .long x1, j_u] [] H Q else j_wp b 56 66 [x0, .long x1, j_u] [] H Q) := Eq.trans (s_aload_n r56_0 rfl (j_isr_vc h0 rfl)) (Eq.trans (s_getfi r56_1 (j_al1 h0 rfl) rfl rfl rfl) (j_ite (fun h => s_tsw r56_4 (by rw [h]; rfl)) (fun h100 => j_ite (fun h => s_tsw r56_4 (by rw [h]; rfl)) (fun h101 => j_ite (fun h => s_tsw r56_4 (by rw [h]; rfl)) (fun h102 => j_ite (fun h => s_tsw r56_4 (by rw [h]; rfl)) (fun h104 => s_tsw r56_4 (by
    have h : (j_I H (j_pa x0) 1).toInt < 0 ∨ 4 < (j_I H (j_pa x0) 1).toInt  ∨ (j_I H (j_pa x0) 1).toInt = 3 := by omega
    rcases h with h | h | h
    · rw [if_neg (by omega), j_sw, if_pos h]; rfl
    · rw [if_pos h]; rfl
    · rw [h]; rfl)))))))
theorem b56_40 {b : Nat} {x0 : Value} {x1 : Int64} {H : j_H} {Q : Option Value → j_H → Prop}  : j_wp b 56 40 [x0, .long x1, j_u] [] H Q = Q (some (.long x1.toInt32.toInt8.toInt32.toInt64)) H := Eq.trans (s_lload_n r56_40 rfl) (Eq.trans (s_l2i r56_41) (Eq.trans (s_i2b r56_42) (Eq.trans (s_i2l r56_43) (s_lreturn r56_44 rfl))))
theorem b56_45 {b : Nat} {x0 : Value} {x1 : Int64} {H : j_H} {Q : Option Value → j_H → Prop}  : j_wp b 56 45 [x0, .long x1, j_u] [] H Q = Q (some (.long x1.toInt32.toInt16.toInt32.toInt64)) H := Eq.trans (s_lload_n r56_45 rfl) (Eq.trans (s_l2i r56_46) (Eq.trans (s_i2s r56_47) (Eq.trans (s_i2l r56_48) (s_lreturn r56_49 rfl))))
theorem b56_50 {b : Nat} {x0 : Value} {x1 : Int64} {H : j_H} {Q : Option Value → j_H → Prop}  : j_wp b 56 50 [x0, .long x1, j_u] [] H Q = Q (some (.long x1.toInt32.toInt64)) H := Eq.trans (s_lload_n r56_50 rfl) (Eq.trans (s_l2i r56_51) (Eq.trans (s_i2l r56_52) (s_lreturn r56_53 rfl)))
theorem b56_54 {b : Nat} {x0 : Value} {x1 : Int64} {H : j_H} {Q : Option Value → j_H → Prop}  : j_wp b 56 54 [x0, .long x1, j_u] [] H Q = (if (lg_cmp x1 (Int64.ofInt 0)).toInt = 0 then j_wp b 56 64 [x0, .long x1, j_u] [] H Q else j_wp b 56 60 [x0, .long x1, j_u] [] H Q) := Eq.trans (s_lload_n r56_54 rfl) (Eq.trans (s_lconst r56_55 rfl) (Eq.trans (s_lcmp r56_56) (s_ifeq r56_57 rfl rfl)))
theorem b56_60 {b : Nat} {x0 : Value} {x1 : Int64} {H : j_H} {Q : Option Value → j_H → Prop}  : j_wp b 56 60 [x0, .long x1, j_u] [] H Q = j_wp b 56 65 [x0, .long x1, j_u] [.long (Int64.ofInt 1)] H Q := Eq.trans (s_lconst r56_60 rfl) (s_goto r56_61 rfl)
theorem b56_64 {b : Nat} {x0 : Value} {x1 : Int64} {H : j_H} {Q : Option Value → j_H → Prop}  : j_wp b 56 64 [x0, .long x1, j_u] [] H Q = j_wp b 56 65 [x0, .long x1, j_u] [.long (Int64.ofInt 0)] H Q := s_lconst r56_64 rfl
theorem b56_65 {b : Nat} {x0 : Value} {x1 : Int64} {y0 : Int64} {H : j_H} {Q : Option Value → j_H → Prop}  : j_wp b 56 65 [x0, .long x1, j_u] [.long y0] H Q = Q (some (.long y0)) H := s_lreturn r56_65 rfl
theorem b56_66 {b : Nat} {x0 : Value} {x1 : Int64} {H : j_H} {Q : Option Value → j_H → Prop}  : j_wp b 56 66 [x0, .long x1, j_u] [] H Q = Q (some (.long x1)) H := Eq.trans (s_lload_n r56_66 rfl) (s_lreturn r56_67 rfl)
-- X9_init
theorem r57_0 : j_at 57 0 = some (0, .aload_n 0, 1, []) := by decide +kernel
theorem r57_1 : j_at 57 1 = some (1, .iload_n 1, 1, []) := by decide +kernel
theorem r57_2 : j_at 57 2 = some (2, .iload_n 2, 1, []) := by decide +kernel
theorem r57_3 : j_at 57 3 = some (3, .iload_n 3, 1, []) := by decide +kernel
theorem r57_4 : j_at 57 4 = some (4, .iload 4, 2, []) := by decide +kernel
theorem r57_6 : j_at 57 6 = some (6, .invokespecial 3, 3, [1, 5, 39, 322, 288, 82, 0]) := by decide +kernel
theorem r57_9 : j_at 57 9 = some (9, .return_, 1, []) := by decide +kernel
theorem b57_0 {b : Nat} {x0 : Value} {x1 : Int32} {x2 : Int32} {x3 : Int32} {x4 : Int32} {H : j_H} {Q : Option Value → j_H → Prop} (h0 : j_vc H x0 = 9) (h1 : ¬ (x0 : Value) = .ref 11) : j_wp (b + 1) 57 0 [x0, .int x1, .int x2, .int x3, .int x4] [] H Q = j_wp b 39 0 [x0, .int x1, .int x2, .int x3, .int x4] [] H (j_k (b + 1) 57 9 [x0, .int x1, .int x2, .int x3, .int x4] [] Q) := Eq.trans (s_aload_n r57_0 rfl (j_isr_vc h0 rfl)) (Eq.trans (s_iload_n r57_1 rfl) (Eq.trans (s_iload_n r57_2 rfl) (Eq.trans (s_iload_n r57_3 rfl) (Eq.trans (s_iload r57_4 rfl) (j_cll (as := [x0, .int x1, .int x2, .int x3, .int x4]) (es := [x0, .int x1, .int x2, .int x3, .int x4]) (s_c1 r57_6 rfl (j_vc_lt h0 rfl) h1 rfl (j_dok (s := [.int x4, .int x3, .int x2, .int x1, x0]) (as := [x0, .int x1, .int x2, .int x3, .int x4]) (rest := []) (es := [x0, .int x1, .int x2, .int x3, .int x4]) rfl rfl rfl rfl (j_slc (j_c1r (j_isr_vc h0 rfl)) rfl) rfl)) (j_slc (j_c1r (j_isr_vc h0 rfl)) rfl) rfl)))))
theorem b57_9 {b : Nat} {x0 : Value} {x1 : Int32} {x2 : Int32} {x3 : Int32} {x4 : Int32} {H : j_H} {Q : Option Value → j_H → Prop}  : j_wp b 57 9 [x0, .int x1, .int x2, .int x3, .int x4] [] H Q = Q none H := s_return r57_9 rfl
-- X9_says
theorem r58_0 : j_at 58 0 = some (0, .aload_n 1, 1, []) := by decide +kernel
theorem r58_1 : j_at 58 1 = some (1, .aload_n 0, 1, []) := by decide +kernel
theorem r58_2 : j_at 58 2 = some (2, .getfield 9, 3, [249, 9, 0, 1, 252, 9]) := by decide +kernel
theorem r58_5 : j_at 58 5 = some (5, .invokevirtual 15, 3, [2, 2, 3, 389, 390, 391, 73, 0, 0]) := by decide +kernel
theorem r58_8 : j_at 58 8 = some (8, .iload_n 2, 1, []) := by decide +kernel
theorem r58_9 : j_at 58 9 = some (9, .bipush 8, 2, []) := by decide +kernel
theorem r58_11 : j_at 58 11 = some (11, .irem, 1, []) := by decide +kernel
theorem r58_12 : j_at 58 12 = some (12, .ishr, 1, []) := by decide +kernel
theorem r58_13 : j_at 58 13 = some (13, .iconst 1, 1, []) := by decide +kernel
theorem r58_14 : j_at 58 14 = some (14, .iand, 1, []) := by decide +kernel
theorem r58_15 : j_at 58 15 = some (15, .ireturn, 1, []) := by decide +kernel
theorem b58_0 {b : Nat} {x0 : Value} {x1 : Value} {x2 : Int32} {x3 : Int32} {H : j_H} {Q : Option Value → j_H → Prop} (h0 : j_vc H x1 = 0) (h1 : j_vc H x0 = 9) : j_wp (b + 1) 58 0 [x0, x1, .int x2, .int x3] [] H Q = j_wp b 3 0 [x1, .int (j_I H (j_pa x0) 1)] [] H (j_k (b + 1) 58 8 [x0, x1, .int x2, .int x3] [] Q) := Eq.trans (s_aload_n r58_0 rfl (j_isr_vc h0 rfl)) (Eq.trans (s_aload_n r58_1 rfl (j_isr_vc h1 rfl)) (Eq.trans (s_getfi r58_2 (j_al1 h1 rfl) rfl rfl rfl) (j_cll (as := [x1, .int (j_I H (j_pa x0) 1)]) (es := [x1, .int (j_I H (j_pa x0) 1)]) (s_c2 r58_5 rfl h0 rfl rfl (j_dok (s := [.int (j_I H (j_pa x0) 1), x1]) (as := [x1, .int (j_I H (j_pa x0) 1)]) (rest := []) (es := [x1, .int (j_I H (j_pa x0) 1)]) rfl rfl rfl rfl (j_slc (j_c1r (j_isr_vc h0 rfl)) rfl) rfl)) (j_slc (j_c1r (j_isr_vc h0 rfl)) rfl) rfl)))
theorem b58_8 {b : Nat} {x0 : Value} {x1 : Value} {x2 : Int32} {x3 : Int32} {y0 : Int32} {H : j_H} {Q : Option Value → j_H → Prop}  : j_wp b 58 8 [x0, x1, .int x2, .int x3] [.int y0] H Q = Q (some (.int ((j_shr y0 (j_rem x2 (Int32.ofInt 8))) &&& (Int32.ofInt 1)))) H := Eq.trans (s_iload_n r58_8 rfl) (Eq.trans (s_bipush r58_9) (Eq.trans (s_irem r58_11 (by decide)) (Eq.trans (s_ishr r58_12) (Eq.trans (s_iconst r58_13) (Eq.trans (s_iand r58_14) (s_ireturn r58_15 (j_rok1 rfl)))))))
-- X9_passes
theorem r59_0 : j_at 59 0 = some (0, .aload_n 2, 1, []) := by decide +kernel
theorem r59_1 : j_at 59 1 = some (1, .bipush 70, 2, []) := by decide +kernel
theorem r59_3 : j_at 59 3 = some (3, .invokevirtual 21, 3, [2, 2, 63, 617, 604, 605, 76, 0, 10]) := by decide +kernel
theorem r59_6 : j_at 59 6 = some (6, .aload_n 0, 1, []) := by decide +kernel
theorem r59_7 : j_at 59 7 = some (7, .iload_n 1, 1, []) := by decide +kernel
theorem r59_8 : j_at 59 8 = some (8, .aload_n 2, 1, []) := by decide +kernel
theorem r59_9 : j_at 59 9 = some (9, .invokespecial 27, 3, [4, 3, 19, 216, 637, 638, 328, 622, 78, 0, 1, 295, 9]) := by decide +kernel
theorem r59_12 : j_at 59 12 = some (12, .aload_n 0, 1, []) := by decide +kernel
theorem r59_13 : j_at 59 13 = some (13, .iconst 2, 1, []) := by decide +kernel
theorem r59_14 : j_at 59 14 = some (14, .aload_n 2, 1, []) := by decide +kernel
theorem r59_15 : j_at 59 15 = some (15, .invokespecial 31, 3, [4, 3, 18, 218, 618, 619, 328, 598, 78, 0, 1, 295, 9]) := by decide +kernel
theorem r59_18 : j_at 59 18 = some (18, .iadd, 1, []) := by decide +kernel
theorem r59_19 : j_at 59 19 = some (19, .ireturn, 1, []) := by decide +kernel
theorem b59_0 {b : Nat} {x0 : Value} {x1 : Int32} {x2 : Value} {H : j_H} {Q : Option Value → j_H → Prop} (h0 : j_vc H x2 = 10) : j_wp (b + 1) 59 0 [x0, .int x1, x2] [] H Q = j_wp b 63 0 [x2, .int (Int32.ofInt 70)] [] H (j_k (b + 1) 59 6 [x0, .int x1, x2] [] Q) := Eq.trans (s_aload_n r59_0 rfl (j_isr_vc h0 rfl)) (Eq.trans (s_bipush r59_1) (j_cll (as := [x2, .int (Int32.ofInt 70)]) (es := [x2, .int (Int32.ofInt 70)]) (s_c2 r59_3 rfl h0 rfl rfl (j_dok (s := [.int (Int32.ofInt 70), x2]) (as := [x2, .int (Int32.ofInt 70)]) (rest := []) (es := [x2, .int (Int32.ofInt 70)]) rfl rfl rfl rfl (j_slc (j_c1r (j_isr_vc h0 rfl)) rfl) rfl)) (j_slc (j_c1r (j_isr_vc h0 rfl)) rfl) rfl))
theorem b59_6 {b : Nat} {x0 : Value} {x1 : Int32} {x2 : Value} {H : j_H} {Q : Option Value → j_H → Prop} (h0 : j_vc H x0 = 9) (h1 : j_isr x2 = true) : j_wp (b + 1) 59 6 [x0, .int x1, x2] [] H Q = j_wp b 19 0 [x0, .int x1, x2] [] H (j_k (b + 1) 59 12 [x0, .int x1, x2] [] Q) := Eq.trans (s_aload_n r59_6 rfl (j_isr_vc h0 rfl)) (Eq.trans (s_iload_n r59_7 rfl) (Eq.trans (s_aload_n r59_8 rfl h1) (j_cll (as := [x0, .int x1, x2]) (es := [x0, .int x1, x2]) (s_c4 r59_9 rfl (j_al1 h0 rfl) rfl rfl (j_dok (s := [x2, .int x1, x0]) (as := [x0, .int x1, x2]) (rest := []) (es := [x0, .int x1, x2]) rfl rfl rfl rfl (j_slc (j_c1r (j_isr_vc h0 rfl)) (j_slc rfl (j_slc (j_c1r h1) rfl))) rfl)) (j_slc (j_c1r (j_isr_vc h0 rfl)) (j_slc rfl (j_slc (j_c1r h1) rfl))) rfl)))
theorem b59_12 {b : Nat} {x0 : Value} {x1 : Int32} {x2 : Value} {y0 : Int32} {H : j_H} {Q : Option Value → j_H → Prop} (h0 : j_vc H x0 = 9) (h1 : j_isr x2 = true) : j_wp (b + 1) 59 12 [x0, .int x1, x2] [.int y0] H Q = j_wp b 18 0 [x0, .int (Int32.ofInt 2), x2] [] H (j_k (b + 1) 59 18 [x0, .int x1, x2] [.int y0] Q) := Eq.trans (s_aload_n r59_12 rfl (j_isr_vc h0 rfl)) (Eq.trans (s_iconst r59_13) (Eq.trans (s_aload_n r59_14 rfl h1) (j_cll (as := [x0, .int (Int32.ofInt 2), x2]) (es := [x0, .int (Int32.ofInt 2), x2]) (s_c4 r59_15 rfl (j_al1 h0 rfl) rfl rfl (j_dok (s := [x2, .int (Int32.ofInt 2), x0, .int y0]) (as := [x0, .int (Int32.ofInt 2), x2]) (rest := [.int y0]) (es := [x0, .int (Int32.ofInt 2), x2]) rfl rfl rfl rfl (j_slc (j_c1r (j_isr_vc h0 rfl)) (j_slc rfl (j_slc (j_c1r h1) rfl))) rfl)) (j_slc (j_c1r (j_isr_vc h0 rfl)) (j_slc rfl (j_slc (j_c1r h1) rfl))) rfl)))
theorem b59_18 {b : Nat} {x0 : Value} {x1 : Int32} {x2 : Value} {y0 : Int32} {y1 : Int32} {H : j_H} {Q : Option Value → j_H → Prop}  : j_wp b 59 18 [x0, .int x1, x2] [.int y0, .int y1] H Q = Q (some (.int (y1 + y0))) H := Eq.trans (s_iadd r59_18) (s_ireturn r59_19 (j_rok1 rfl))
-- X9_speaks
theorem r60_0 : j_at 60 0 = some (0, .aload_n 2, 1, []) := by decide +kernel
theorem r60_1 : j_at 60 1 = some (1, .bipush 71, 2, []) := by decide +kernel
theorem r60_3 : j_at 60 3 = some (3, .invokevirtual 21, 3, [2, 2, 63, 617, 604, 605, 76, 0, 10]) := by decide +kernel
theorem r60_6 : j_at 60 6 = some (6, .aload_n 0, 1, []) := by decide +kernel
theorem r60_7 : j_at 60 7 = some (7, .iload_n 1, 1, []) := by decide +kernel
theorem r60_8 : j_at 60 8 = some (8, .aload_n 2, 1, []) := by decide +kernel
theorem r60_9 : j_at 60 9 = some (9, .invokespecial 31, 3, [4, 3, 18, 218, 618, 619, 328, 598, 78, 0, 1, 295, 9]) := by decide +kernel
theorem r60_12 : j_at 60 12 = some (12, .aload_n 0, 1, []) := by decide +kernel
theorem r60_13 : j_at 60 13 = some (13, .getfield 34, 3, [260, 9, 0, 2, 261, 9]) := by decide +kernel
theorem r60_16 : j_at 60 16 = some (16, .ixor, 1, []) := by decide +kernel
theorem r60_17 : j_at 60 17 = some (17, .ireturn, 1, []) := by decide +kernel
theorem b60_0 {b : Nat} {x0 : Value} {x1 : Int32} {x2 : Value} {H : j_H} {Q : Option Value → j_H → Prop} (h0 : j_vc H x2 = 10) : j_wp (b + 1) 60 0 [x0, .int x1, x2] [] H Q = j_wp b 63 0 [x2, .int (Int32.ofInt 71)] [] H (j_k (b + 1) 60 6 [x0, .int x1, x2] [] Q) := Eq.trans (s_aload_n r60_0 rfl (j_isr_vc h0 rfl)) (Eq.trans (s_bipush r60_1) (j_cll (as := [x2, .int (Int32.ofInt 71)]) (es := [x2, .int (Int32.ofInt 71)]) (s_c2 r60_3 rfl h0 rfl rfl (j_dok (s := [.int (Int32.ofInt 71), x2]) (as := [x2, .int (Int32.ofInt 71)]) (rest := []) (es := [x2, .int (Int32.ofInt 71)]) rfl rfl rfl rfl (j_slc (j_c1r (j_isr_vc h0 rfl)) rfl) rfl)) (j_slc (j_c1r (j_isr_vc h0 rfl)) rfl) rfl))
theorem b60_6 {b : Nat} {x0 : Value} {x1 : Int32} {x2 : Value} {H : j_H} {Q : Option Value → j_H → Prop} (h0 : j_vc H x0 = 9) (h1 : j_isr x2 = true) : j_wp (b + 1) 60 6 [x0, .int x1, x2] [] H Q = j_wp b 18 0 [x0, .int x1, x2] [] H (j_k (b + 1) 60 12 [x0, .int x1, x2] [] Q) := Eq.trans (s_aload_n r60_6 rfl (j_isr_vc h0 rfl)) (Eq.trans (s_iload_n r60_7 rfl) (Eq.trans (s_aload_n r60_8 rfl h1) (j_cll (as := [x0, .int x1, x2]) (es := [x0, .int x1, x2]) (s_c4 r60_9 rfl (j_al1 h0 rfl) rfl rfl (j_dok (s := [x2, .int x1, x0]) (as := [x0, .int x1, x2]) (rest := []) (es := [x0, .int x1, x2]) rfl rfl rfl rfl (j_slc (j_c1r (j_isr_vc h0 rfl)) (j_slc rfl (j_slc (j_c1r h1) rfl))) rfl)) (j_slc (j_c1r (j_isr_vc h0 rfl)) (j_slc rfl (j_slc (j_c1r h1) rfl))) rfl)))
theorem b60_12 {b : Nat} {x0 : Value} {x1 : Int32} {x2 : Value} {y0 : Int32} {H : j_H} {Q : Option Value → j_H → Prop} (h0 : j_vc H x0 = 9) : j_wp b 60 12 [x0, .int x1, x2] [.int y0] H Q = Q (some (.int (y0 ^^^ (j_I H (j_pa x0) 2)))) H := Eq.trans (s_aload_n r60_12 rfl (j_isr_vc h0 rfl)) (Eq.trans (s_getfi r60_13 (j_al1 h0 rfl) rfl rfl rfl) (Eq.trans (s_ixor r60_16) (s_ireturn r60_17 (j_rok1 rfl))))
-- X10_init
theorem r61_0 : j_at 61 0 = some (0, .aload_n 0, 1, []) := by decide +kernel
theorem r61_1 : j_at 61 1 = some (1, .invokespecial 3, 3, [5, 1, 187, 97, 98]) := by decide +kernel
theorem r61_4 : j_at 61 4 = some (4, .aload_n 0, 1, []) := by decide +kernel
theorem r61_5 : j_at 61 5 = some (5, .bipush 20, 2, []) := by decide +kernel
theorem r61_7 : j_at 61 7 = some (7, .newarray .int, 2, [136, 0]) := by decide +kernel
theorem r61_9 : j_at 61 9 = some (9, .putfield 11, 3, [188, 10, 2, 0, 0, 1, 10]) := by decide +kernel
theorem r61_12 : j_at 61 12 = some (12, .return_, 1, []) := by decide +kernel
theorem b61_0 {b : Nat} {x0 : Value} {H : j_H} {Q : Option Value → j_H → Prop} (h0 : j_vc H x0 = 10) (h1 : ¬ (x0 : Value) = .ref 11) : j_wp b 61 0 [x0] [] H Q = j_wp b 61 12 [x0] [] (j_sR (j_nw H (.inr (0, j_ix (Int32.ofInt 20)))) (j_pa x0) 0 (some H.1.length)) Q := Eq.trans (s_aload_n r61_0 rfl (j_isr_vc h0 rfl)) (Eq.trans (s_oinit r61_1 (j_vc_lt h0 rfl) h1 rfl) (Eq.trans (s_aload_n r61_4 rfl (j_isr_vc h0 rfl)) (Eq.trans (s_bipush r61_5) (Eq.trans (s_newa r61_7 (by decide)) (s_put r61_9 (j_al1 (j_vcn h0) rfl) rfl (j_putR rfl))))))
theorem b61_12 {b : Nat} {x0 : Value} {H : j_H} {Q : Option Value → j_H → Prop}  : j_wp b 61 12 [x0] [] H Q = Q none H := s_return r61_12 rfl
-- X10_clear
theorem r62_0 : j_at 62 0 = some (0, .aload_n 0, 1, []) := by decide +kernel
theorem r62_1 : j_at 62 1 = some (1, .iconst 0, 1, []) := by decide +kernel
theorem r62_2 : j_at 62 2 = some (2, .putfield 15, 3, [189, 10, 0, 1, 0, 0, 10]) := by decide +kernel
theorem r62_5 : j_at 62 5 = some (5, .return_, 1, []) := by decide +kernel
theorem b62_0 {b : Nat} {x0 : Value} {H : j_H} {Q : Option Value → j_H → Prop} (h0 : j_vc H x0 = 10) : j_wp b 62 0 [x0] [] H Q = j_wp b 62 5 [x0] [] (j_sI H (j_pa x0) 1 (Int32.ofInt 0)) Q := Eq.trans (s_aload_n r62_0 rfl (j_isr_vc h0 rfl)) (Eq.trans (s_iconst r62_1) (s_put r62_2 (j_al1 h0 rfl) rfl j_putI))
theorem b62_5 {b : Nat} {x0 : Value} {H : j_H} {Q : Option Value → j_H → Prop}  : j_wp b 62 5 [x0] [] H Q = Q none H := s_return r62_5 rfl
-- X10_begins
theorem r63_0 : j_at 63 0 = some (0, .aload_n 0, 1, []) := by decide +kernel
theorem r63_1 : j_at 63 1 = some (1, .getfield 15, 3, [189, 10, 0, 1, 0, 10]) := by decide +kernel
theorem r63_4 : j_at 63 4 = some (4, .ifCond .lt 25, 3, []) := by decide +kernel
theorem r63_7 : j_at 63 7 = some (7, .aload_n 0, 1, []) := by decide +kernel
theorem r63_8 : j_at 63 8 = some (8, .getfield 15, 3, [189, 10, 0, 1, 0, 10]) := by decide +kernel
theorem r63_11 : j_at 63 11 = some (11, .aload_n 0, 1, []) := by decide +kernel
theorem r63_12 : j_at 63 12 = some (12, .getfield 11, 3, [188, 10, 2, 0, 0, 10]) := by decide +kernel
theorem r63_15 : j_at 63 15 = some (15, .arraylength, 1, []) := by decide +kernel
theorem r63_16 : j_at 63 16 = some (16, .if_icmp .ge 13, 3, []) := by decide +kernel
theorem r63_19 : j_at 63 19 = some (19, .aload_n 0, 1, []) := by decide +kernel
theorem r63_20 : j_at 63 20 = some (20, .getfield 11, 3, [188, 10, 2, 0, 0, 10]) := by decide +kernel
theorem r63_23 : j_at 63 23 = some (23, .aload_n 0, 1, []) := by decide +kernel
theorem r63_24 : j_at 63 24 = some (24, .getfield 15, 3, [189, 10, 0, 1, 0, 10]) := by decide +kernel
theorem r63_27 : j_at 63 27 = some (27, .iload_n 1, 1, []) := by decide +kernel
theorem r63_28 : j_at 63 28 = some (28, .iastore, 1, []) := by decide +kernel
theorem r63_29 : j_at 63 29 = some (29, .aload_n 0, 1, []) := by decide +kernel
theorem r63_30 : j_at 63 30 = some (30, .dup, 1, []) := by decide +kernel
theorem r63_31 : j_at 63 31 = some (31, .getfield 15, 3, [189, 10, 0, 1, 0, 10]) := by decide +kernel
theorem r63_34 : j_at 63 34 = some (34, .iconst 1, 1, []) := by decide +kernel
theorem r63_35 : j_at 63 35 = some (35, .iadd, 1, []) := by decide +kernel
theorem r63_36 : j_at 63 36 = some (36, .putfield 15, 3, [189, 10, 0, 1, 0, 0, 10]) := by decide +kernel
theorem r63_39 : j_at 63 39 = some (39, .return_, 1, []) := by decide +kernel
theorem b63_0 {b : Nat} {x0 : Value} {x1 : Int32} {H : j_H} {Q : Option Value → j_H → Prop} (h0 : j_vc H x0 = 10) : j_wp b 63 0 [x0, .int x1] [] H Q = (if (j_I H (j_pa x0) 1).toInt < 0 then j_wp b 63 29 [x0, .int x1] [] H Q else j_wp b 63 7 [x0, .int x1] [] H Q) := Eq.trans (s_aload_n r63_0 rfl (j_isr_vc h0 rfl)) (Eq.trans (s_getfi r63_1 (j_al1 h0 rfl) rfl rfl rfl) (s_iflt r63_4 rfl rfl))
theorem b63_7 {b : Nat} {x0 : Value} {x1 : Int32} {H : j_H} {Q : Option Value → j_H → Prop} (h0 : j_vc H x0 = 10) (h1 : j_vt H (va_rf (j_R H (j_pa x0) 0)) = 0) : j_wp b 63 7 [x0, .int x1] [] H Q = (if (Int32.ofInt (j_vl H (va_rf (j_R H (j_pa x0) 0)) : Nat)).toInt ≤ (j_I H (j_pa x0) 1).toInt then j_wp b 63 29 [x0, .int x1] [] H Q else j_wp b 63 19 [x0, .int x1] [] H Q) := Eq.trans (s_aload_n r63_7 rfl (j_isr_vc h0 rfl)) (Eq.trans (s_getfi r63_8 (j_al1 h0 rfl) rfl rfl rfl) (Eq.trans (s_aload_n r63_11 rfl (j_isr_vc h0 rfl)) (Eq.trans (s_getfr r63_12 (j_al1 h0 rfl) rfl) (Eq.trans (s_alen r63_15 h1 (by decide)) (s_icge r63_16 rfl rfl rfl)))))
theorem b63_19 {b : Nat} {x0 : Value} {x1 : Int32} {H : j_H} {Q : Option Value → j_H → Prop} (h0 : j_vc H x0 = 10) (h1 : j_vt H (va_rf (j_R H (j_pa x0) 0)) = 0) (h2 : 0 ≤ (j_I H (j_pa x0) 1).toInt) (h3 : (j_I H (j_pa x0) 1).toInt < ((j_vl H (va_rf (j_R H (j_pa x0) 0)) : Nat) : Int)) : j_wp b 63 19 [x0, .int x1] [] H Q = j_wp b 63 29 [x0, .int x1] [] (j_sI H (j_pa (va_rf (j_R H (j_pa x0) 0))) (j_ix (j_I H (j_pa x0) 1)) x1) Q := Eq.trans (s_aload_n r63_19 rfl (j_isr_vc h0 rfl)) (Eq.trans (s_getfr r63_20 (j_al1 h0 rfl) rfl) (Eq.trans (s_aload_n r63_23 rfl (j_isr_vc h0 rfl)) (Eq.trans (s_getfi r63_24 (j_al1 h0 rfl) rfl rfl rfl) (Eq.trans (s_iload_n r63_27 rfl) (s_iast r63_28 h1 (j_ib_of (z := (j_I H (j_pa x0) 1).toInt) rfl h2 h3))))))
theorem b63_29 {b : Nat} {x0 : Value} {x1 : Int32} {H : j_H} {Q : Option Value → j_H → Prop} (h0 : j_vc H x0 = 10) : j_wp b 63 29 [x0, .int x1] [] H Q = j_wp b 63 39 [x0, .int x1] [] (j_sI H (j_pa x0) 1 ((j_I H (j_pa x0) 1) + (Int32.ofInt 1))) Q := Eq.trans (s_aload_n r63_29 rfl (j_isr_vc h0 rfl)) (Eq.trans (s_dup r63_30 (j_vc_lt h0 rfl)) (Eq.trans (s_getfi r63_31 (j_al1 h0 rfl) rfl rfl rfl) (Eq.trans (s_iconst r63_34) (Eq.trans (s_iadd r63_35) (s_put r63_36 (j_al1 h0 rfl) rfl j_putI)))))
theorem b63_39 {b : Nat} {x0 : Value} {x1 : Int32} {H : j_H} {Q : Option Value → j_H → Prop}  : j_wp b 63 39 [x0, .int x1] [] H Q = Q none H := s_return r63_39 rfl
-- X10_body
theorem r64_0 : j_at 64 0 = some (0, .iload_n 1, 1, []) := by decide +kernel
theorem r64_1 : j_at 64 1 = some (1, .ifCond .lt 20, 3, []) := by decide +kernel
theorem r64_4 : j_at 64 4 = some (4, .iload_n 1, 1, []) := by decide +kernel
theorem r64_5 : j_at 64 5 = some (5, .aload_n 0, 1, []) := by decide +kernel
theorem r64_6 : j_at 64 6 = some (6, .getfield 15, 3, [189, 10, 0, 1, 0, 10]) := by decide +kernel
theorem r64_9 : j_at 64 9 = some (9, .if_icmp .ge 12, 3, []) := by decide +kernel
theorem r64_12 : j_at 64 12 = some (12, .iload_n 1, 1, []) := by decide +kernel
theorem r64_13 : j_at 64 13 = some (13, .aload_n 0, 1, []) := by decide +kernel
theorem r64_14 : j_at 64 14 = some (14, .getfield 11, 3, [188, 10, 2, 0, 0, 10]) := by decide +kernel
theorem r64_17 : j_at 64 17 = some (17, .arraylength, 1, []) := by decide +kernel
theorem r64_18 : j_at 64 18 = some (18, .if_icmp .lt 7, 3, []) := by decide +kernel
theorem r64_21 : j_at 64 21 = some (21, .iconst (-1), 1, []) := by decide +kernel
theorem r64_22 : j_at 64 22 = some (22, .goto 9, 3, []) := by decide +kernel
theorem r64_25 : j_at 64 25 = some (25, .aload_n 0, 1, []) := by decide +kernel
theorem r64_26 : j_at 64 26 = some (26, .getfield 11, 3, [188, 10, 2, 0, 0, 10]) := by decide +kernel
theorem r64_29 : j_at 64 29 = some (29, .iload_n 1, 1, []) := by decide +kernel
theorem r64_30 : j_at 64 30 = some (30, .iaload, 1, []) := by decide +kernel
theorem r64_31 : j_at 64 31 = some (31, .ireturn, 1, []) := by decide +kernel
theorem b64_0 {b : Nat} {x0 : Value} {x1 : Int32} {H : j_H} {Q : Option Value → j_H → Prop}  : j_wp b 64 0 [x0, .int x1] [] H Q = (if x1.toInt < 0 then j_wp b 64 21 [x0, .int x1] [] H Q else j_wp b 64 4 [x0, .int x1] [] H Q) := Eq.trans (s_iload_n r64_0 rfl) (s_iflt r64_1 rfl rfl)
theorem b64_4 {b : Nat} {x0 : Value} {x1 : Int32} {H : j_H} {Q : Option Value → j_H → Prop} (h0 : j_vc H x0 = 10) : j_wp b 64 4 [x0, .int x1] [] H Q = (if (j_I H (j_pa x0) 1).toInt ≤ x1.toInt then j_wp b 64 21 [x0, .int x1] [] H Q else j_wp b 64 12 [x0, .int x1] [] H Q) := Eq.trans (s_iload_n r64_4 rfl) (Eq.trans (s_aload_n r64_5 rfl (j_isr_vc h0 rfl)) (Eq.trans (s_getfi r64_6 (j_al1 h0 rfl) rfl rfl rfl) (s_icge r64_9 rfl rfl rfl)))
theorem b64_12 {b : Nat} {x0 : Value} {x1 : Int32} {H : j_H} {Q : Option Value → j_H → Prop} (h0 : j_vc H x0 = 10) (h1 : j_vt H (va_rf (j_R H (j_pa x0) 0)) = 0) : j_wp b 64 12 [x0, .int x1] [] H Q = (if x1.toInt < (Int32.ofInt (j_vl H (va_rf (j_R H (j_pa x0) 0)) : Nat)).toInt then j_wp b 64 25 [x0, .int x1] [] H Q else j_wp b 64 21 [x0, .int x1] [] H Q) := Eq.trans (s_iload_n r64_12 rfl) (Eq.trans (s_aload_n r64_13 rfl (j_isr_vc h0 rfl)) (Eq.trans (s_getfr r64_14 (j_al1 h0 rfl) rfl) (Eq.trans (s_alen r64_17 h1 (by decide)) (s_iclt r64_18 rfl rfl rfl))))
theorem b64_21 {b : Nat} {x0 : Value} {x1 : Int32} {H : j_H} {Q : Option Value → j_H → Prop}  : j_wp b 64 21 [x0, .int x1] [] H Q = j_wp b 64 31 [x0, .int x1] [.int (Int32.ofInt (-1))] H Q := Eq.trans (s_iconst r64_21) (s_goto r64_22 rfl)
theorem b64_25 {b : Nat} {x0 : Value} {x1 : Int32} {H : j_H} {Q : Option Value → j_H → Prop} (h0 : j_vc H x0 = 10) (h1 : j_vt H (va_rf (j_R H (j_pa x0) 0)) = 0) (h2 : 0 ≤ x1.toInt) (h3 : x1.toInt < ((j_vl H (va_rf (j_R H (j_pa x0) 0)) : Nat) : Int)) : j_wp b 64 25 [x0, .int x1] [] H Q = j_wp b 64 31 [x0, .int x1] [.int (j_I H (j_pa (va_rf (j_R H (j_pa x0) 0))) (j_ix x1))] H Q := Eq.trans (s_aload_n r64_25 rfl (j_isr_vc h0 rfl)) (Eq.trans (s_getfr r64_26 (j_al1 h0 rfl) rfl) (Eq.trans (s_iload_n r64_29 rfl) (s_iald r64_30 h1 (by decide) (j_ib_of (z := x1.toInt) rfl h2 h3))))
theorem b64_31 {b : Nat} {x0 : Value} {x1 : Int32} {y0 : Int32} {H : j_H} {Q : Option Value → j_H → Prop}  : j_wp b 64 31 [x0, .int x1] [.int y0] H Q = Q (some (.int y0)) H := s_ireturn r64_31 (j_rok1 rfl)
