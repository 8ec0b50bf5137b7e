/-! CALLS THAT ASK: odds, mean -/
theorem l_of {z : Int} (h0 : -9223372036854775808 ≤ z) (h1 : z ≤ 9223372036854775807) : (Int64.ofInt z).toInt = z := Int64.toInt_ofInt_of_le h0 (by omega)
theorem l_add (a c : Int) : Int64.ofInt a + Int64.ofInt c = Int64.ofInt (a + c) := (Int64.ofInt_add a c).symm
theorem l_mul (a c : Int) : Int64.ofInt a * Int64.ofInt c = Int64.ofInt (a * c) := (Int64.ofInt_mul a c).symm
theorem l_un (x : Int64) : Int64.ofInt x.toInt = x := Int64.ofInt_toInt x
theorem l_wide (x : Int32) : x.toInt64 = Int64.ofInt x.toInt := by
  apply Int64.toInt_inj.mp
  have h1 := t_lo x
  have h2 := t_hi x
  rw [Int32.toInt_toInt64, l_of (by omega) (by omega)]
theorem l_div {a c : Int} (h0 : 0 ≤ a) (h1 : a ≤ 9223372036854775807) (h2 : 0 < c) (h3 : c ≤ 9223372036854775807) : Int64.ofInt a / Int64.ofInt c = Int64.ofInt (a / c) := by
  apply Int64.toInt_inj.mp
  have e1 := l_of (z := a) (by omega) h1
  have e2 := l_of (z := c) (by omega) h3
  have h4 := Int.ediv_nonneg h0 (show 0 ≤ c by omega)
  have h5 := Int.ediv_le_self c h0
  rw [Int64.toInt_div, e1, e2, Int.tdiv_eq_ediv_of_nonneg h0, l_of (by omega) (by omega)]
  exact Int.bmod_eq_of_le (by omega) (by omega)
theorem l_rem {a c : Int} (h0 : 0 ≤ a) (h1 : a ≤ 9223372036854775807) (h2 : 0 < c) (h3 : c ≤ 9223372036854775807) : j_lrem (Int64.ofInt a) (Int64.ofInt c) = Int64.ofInt (a % c) := by
  unfold j_lrem
  rw [l_div h0 h1 h2 h3, l_mul]
  have : Int64.ofInt a = Int64.ofInt (a / c * c) + Int64.ofInt (a % c) := by
    rw [l_add, Int.mul_comm, Int.mul_ediv_add_emod]
  rw [this]
  have e : ∀ x y : Int64, x + y - x = y := fun x y => by
    rw [Int64.add_comm, Int64.add_sub_cancel]
  exact e _ _
/-- Euclid's steps, the class's and the reference's -/
theorem k119l {b : Nat} {H : j_H} {Q : Option Value → j_H → Prop} : ∀ (f k : Nat) (x y : Nat) (u5 u6 : Value), k + f = 100 → x ≤ 4000000000000000000 → y ≤ 4000000000000000000 → j_wp b 119 3 [.long (Int64.ofInt x), j_u, .long (Int64.ofInt y), j_u, .int (Int32.ofInt k), u5, u6] [] H Q = Q (some (.long (Int64.ofInt (j_eu f x y : Nat)))) H
  | 0, k, x, y, u5, u6, hk, hx, hy => by
    have n1 : (100 : Int) ≤ (k : Int) := by omega
    rw [b119_3]
    simp (disch := (first | assumption | exact n_N11 | exact n_R11 (by decide) | exact n_bz | (simp (disch := (first | assumption | omega | decide)) only [v_rs, v_rn, v_pa, v_vc, v_vt, v_vl, v_ir, v_in, v_po, v_pn, v_re, v_rN, v_Nr, v_fe, v_fN, v_c1i, v_c1r, v_c1n, v_c1u, v_c1f, v_if, h_II, h_LL, h_RR, h_IL, h_IR, h_LI, h_LR, h_RI, h_RL, h_Ic, h_Lc, h_Rc, h_Id, h_Ld, h_Rd, h_cls_sI, h_cls_sL, h_cls_sR, h_cls_cI, h_cls_cL, h_tp_sI, h_tp_sL, h_tp_sR, h_tp_cI, h_tp_cL, h_ln_sI, h_ln_sL, h_ln_sR, h_ln_cI, h_ln_cL, v_if, j_scr, j_Wd_I, j_Wd_L, t_addo, t_subo, t_mulo, t_of, t_divc, t_remc, t_em, Int.toNat_zero, j_ix, Int.toNat_natCast, t_addc, t_subc, t_mulc, t_bz0, t_bz1, Classical.not_not, not_false_eq_true, if_true, if_false, and_true, true_and, and_false, false_and, and_self, or_true, true_or, or_false, false_or, not_true_eq_false, reduceIte, ite_self, implies_true, n1] <;> first | omega | rfl | decide) | omega | decide | fail)) only [↓if_pos, ↓if_neg, ↓b119_0, ↓b119_10, ↓b119_16, ↓b119_32, v_rs, v_rn, v_pa, v_vc, v_vt, v_vl, v_ir, v_in, v_po, v_pn, v_re, v_rN, v_Nr, v_fe, v_fN, v_c1i, v_c1r, v_c1n, v_c1u, v_c1f, v_if, h_II, h_LL, h_RR, h_IL, h_IR, h_LI, h_LR, h_RI, h_RL, h_Ic, h_Lc, h_Rc, h_Id, h_Ld, h_Rd, h_cls_sI, h_cls_sL, h_cls_sR, h_cls_cI, h_cls_cL, h_tp_sI, h_tp_sL, h_tp_sR, h_tp_cI, h_tp_cL, h_ln_sI, h_ln_sL, h_ln_sR, h_ln_cI, h_ln_cL, v_if, j_ks, j_ke, t_addo, t_subo, t_mulo, t_of, t_divc, t_remc, t_em, Int.toNat_zero, j_ix, Int.toNat_natCast, t_addc, t_subc, t_mulc, t_bz0, t_bz1, Classical.not_not, not_false_eq_true, if_true, if_false, and_true, true_and, and_false, false_and, and_self, or_true, true_or, or_false, false_or, not_true_eq_false, reduceIte, ite_self, implies_true, n1]
    rw [j_eu]
  | f + 1, k, x, y, u5, u6, hk, hx, hy => by
    have n1 : ¬ (100 : Int) ≤ (k : Int) := by omega
    have ey := l_of (z := (y : Int)) (by omega) (by omega)
    rw [b119_3, j_eu]
    by_cases h : y = 0
    · have hz : (lg_cmp (Int64.ofInt (y : Int)) (Int64.ofInt 0)).toInt = 0 := by rw [t_cmp0, h]; rfl
      rw [if_pos h]
      simp (disch := (first | assumption | exact n_N11 | exact n_R11 (by decide) | exact n_bz | (simp (disch := (first | assumption | omega | decide)) only [v_rs, v_rn, v_pa, v_vc, v_vt, v_vl, v_ir, v_in, v_po, v_pn, v_re, v_rN, v_Nr, v_fe, v_fN, v_c1i, v_c1r, v_c1n, v_c1u, v_c1f, v_if, h_II, h_LL, h_RR, h_IL, h_IR, h_LI, h_LR, h_RI, h_RL, h_Ic, h_Lc, h_Rc, h_Id, h_Ld, h_Rd, h_cls_sI, h_cls_sL, h_cls_sR, h_cls_cI, h_cls_cL, h_tp_sI, h_tp_sL, h_tp_sR, h_tp_cI, h_tp_cL, h_ln_sI, h_ln_sL, h_ln_sR, h_ln_cI, h_ln_cL, v_if, j_scr, j_Wd_I, j_Wd_L, t_addo, t_subo, t_mulo, t_of, t_divc, t_remc, t_em, Int.toNat_zero, j_ix, Int.toNat_natCast, t_addc, t_subc, t_mulc, t_bz0, t_bz1, Classical.not_not, not_false_eq_true, if_true, if_false, and_true, true_and, and_false, false_and, and_self, or_true, true_or, or_false, false_or, not_true_eq_false, reduceIte, ite_self, implies_true, n1, hz] <;> first | omega | rfl | decide) | omega | decide | fail)) only [↓if_pos, ↓if_neg, ↓b119_0, ↓b119_10, ↓b119_16, ↓b119_32, v_rs, v_rn, v_pa, v_vc, v_vt, v_vl, v_ir, v_in, v_po, v_pn, v_re, v_rN, v_Nr, v_fe, v_fN, v_c1i, v_c1r, v_c1n, v_c1u, v_c1f, v_if, h_II, h_LL, h_RR, h_IL, h_IR, h_LI, h_LR, h_RI, h_RL, h_Ic, h_Lc, h_Rc, h_Id, h_Ld, h_Rd, h_cls_sI, h_cls_sL, h_cls_sR, h_cls_cI, h_cls_cL, h_tp_sI, h_tp_sL, h_tp_sR, h_tp_cI, h_tp_cL, h_ln_sI, h_ln_sL, h_ln_sR, h_ln_cI, h_ln_cL, v_if, j_ks, j_ke, t_addo, t_subo, t_mulo, t_of, t_divc, t_remc, t_em, Int.toNat_zero, j_ix, Int.toNat_natCast, t_addc, t_subc, t_mulc, t_bz0, t_bz1, Classical.not_not, not_false_eq_true, if_true, if_false, and_true, true_and, and_false, false_and, and_self, or_true, true_or, or_false, false_or, not_true_eq_false, reduceIte, ite_self, implies_true, n1, hz]
    · have hz : ¬ (lg_cmp (Int64.ofInt (y : Int)) (Int64.ofInt 0)).toInt = 0 := by
        rw [t_cmp0]
        intro h'
        have := congrArg Int64.toInt h'
        rw [ey] at this
        have h0 : (Int64.ofInt 0).toInt = 0 := rfl
        omega
      have hy0 : ¬ (Int64.ofInt (y : Int)).toInt = 0 := by rw [ey]; omega
      have hr : j_lrem (Int64.ofInt (x : Int)) (Int64.ofInt (y : Int)) = Int64.ofInt ((x % y : Nat) : Int) := by
        rw [l_rem (by omega) (by omega) (by omega) (by omega), Int.natCast_emod]
      have hlt := Nat.mod_lt x (Nat.pos_of_ne_zero h)
      have ih := k119l (b := b) (H := H) (Q := Q) f (k + 1) y (x % y) (.long (Int64.ofInt ((x % y : Nat) : Int))) j_u (by omega) hy (by omega)
      rw [if_neg h]
      simp (disch := (first | assumption | exact n_N11 | exact n_R11 (by decide) | exact n_bz | (simp (disch := (first | assumption | omega | decide)) only [v_rs, v_rn, v_pa, v_vc, v_vt, v_vl, v_ir, v_in, v_po, v_pn, v_re, v_rN, v_Nr, v_fe, v_fN, v_c1i, v_c1r, v_c1n, v_c1u, v_c1f, v_if, h_II, h_LL, h_RR, h_IL, h_IR, h_LI, h_LR, h_RI, h_RL, h_Ic, h_Lc, h_Rc, h_Id, h_Ld, h_Rd, h_cls_sI, h_cls_sL, h_cls_sR, h_cls_cI, h_cls_cL, h_tp_sI, h_tp_sL, h_tp_sR, h_tp_cI, h_tp_cL, h_ln_sI, h_ln_sL, h_ln_sR, h_ln_cI, h_ln_cL, v_if, j_scr, j_Wd_I, j_Wd_L, t_addo, t_subo, t_mulo, t_of, t_divc, t_remc, t_em, Int.toNat_zero, j_ix, Int.toNat_natCast, t_addc, t_subc, t_mulc, t_bz0, t_bz1, Classical.not_not, not_false_eq_true, if_true, if_false, and_true, true_and, and_false, false_and, and_self, or_true, true_or, or_false, false_or, not_true_eq_false, reduceIte, ite_self, implies_true, n1, hz, hy0, hr] <;> first | omega | rfl | decide) | omega | decide | fail)) only [↓if_pos, ↓if_neg, ↓b119_0, ↓b119_10, ↓b119_16, ↓b119_32, v_rs, v_rn, v_pa, v_vc, v_vt, v_vl, v_ir, v_in, v_po, v_pn, v_re, v_rN, v_Nr, v_fe, v_fN, v_c1i, v_c1r, v_c1n, v_c1u, v_c1f, v_if, h_II, h_LL, h_RR, h_IL, h_IR, h_LI, h_LR, h_RI, h_RL, h_Ic, h_Lc, h_Rc, h_Id, h_Ld, h_Rd, h_cls_sI, h_cls_sL, h_cls_sR, h_cls_cI, h_cls_cL, h_tp_sI, h_tp_sL, h_tp_sR, h_tp_cI, h_tp_cL, h_ln_sI, h_ln_sL, h_ln_sR, h_ln_cI, h_ln_cL, v_if, j_ks, j_ke, t_addo, t_subo, t_mulo, t_of, t_divc, t_remc, t_em, Int.toNat_zero, j_ix, Int.toNat_natCast, t_addc, t_subc, t_mulc, t_bz0, t_bz1, Classical.not_not, not_false_eq_true, if_true, if_false, and_true, true_and, and_false, false_and, and_self, or_true, true_or, or_false, false_or, not_true_eq_false, reduceIte, ite_self, implies_true, n1, hz, hy0, hr]
      exact ih
theorem k173l {b : Nat} {H : j_H} {x0 : Value} {x1 x3 : Int64} {Q : Option Value → j_H → Prop} : ∀ (n x y : Nat) (u9 u10 : Value), y ≤ n → x ≤ 4000000000000000000 → y ≤ 4000000000000000000 → j_wp b 173 6 [x0, .long x1, j_u, .long x3, j_u, .long (Int64.ofInt x), j_u, .long (Int64.ofInt y), j_u, u9, u10] [] H Q = Q (some (.long (Int64.ofInt (Nat.gcd x y : Nat)))) H := by
  intro n
  induction n with
  | zero =>
    intro x y u9 u10 hn hx hy
    have h : y = 0 := by omega
    subst h
    have hz : (lg_cmp (Int64.ofInt ((0 : Nat) : Int)) (Int64.ofInt 0)).toInt = 0 := rfl
    rw [b173_6, Nat.gcd_zero_right]
    simp (disch := (first | assumption | exact n_N11 | exact n_R11 (by decide) | exact n_bz | (simp (disch := (first | assumption | omega | decide)) only [v_rs, v_rn, v_pa, v_vc, v_vt, v_vl, v_ir, v_in, v_po, v_pn, v_re, v_rN, v_Nr, v_fe, v_fN, v_c1i, v_c1r, v_c1n, v_c1u, v_c1f, v_if, h_II, h_LL, h_RR, h_IL, h_IR, h_LI, h_LR, h_RI, h_RL, h_Ic, h_Lc, h_Rc, h_Id, h_Ld, h_Rd, h_cls_sI, h_cls_sL, h_cls_sR, h_cls_cI, h_cls_cL, h_tp_sI, h_tp_sL, h_tp_sR, h_tp_cI, h_tp_cL, h_ln_sI, h_ln_sL, h_ln_sR, h_ln_cI, h_ln_cL, v_if, j_scr, j_Wd_I, j_Wd_L, t_addo, t_subo, t_mulo, t_of, t_divc, t_remc, t_em, Int.toNat_zero, j_ix, Int.toNat_natCast, t_addc, t_subc, t_mulc, t_bz0, t_bz1, Classical.not_not, not_false_eq_true, if_true, if_false, and_true, true_and, and_false, false_and, and_self, or_true, true_or, or_false, false_or, not_true_eq_false, reduceIte, ite_self, implies_true, hz] <;> first | omega | rfl | decide) | omega | decide | fail)) only [↓if_pos, ↓if_neg, ↓b173_0, ↓b173_13, ↓b173_31, v_rs, v_rn, v_pa, v_vc, v_vt, v_vl, v_ir, v_in, v_po, v_pn, v_re, v_rN, v_Nr, v_fe, v_fN, v_c1i, v_c1r, v_c1n, v_c1u, v_c1f, v_if, h_II, h_LL, h_RR, h_IL, h_IR, h_LI, h_LR, h_RI, h_RL, h_Ic, h_Lc, h_Rc, h_Id, h_Ld, h_Rd, h_cls_sI, h_cls_sL, h_cls_sR, h_cls_cI, h_cls_cL, h_tp_sI, h_tp_sL, h_tp_sR, h_tp_cI, h_tp_cL, h_ln_sI, h_ln_sL, h_ln_sR, h_ln_cI, h_ln_cL, v_if, j_ks, j_ke, t_addo, t_subo, t_mulo, t_of, t_divc, t_remc, t_em, Int.toNat_zero, j_ix, Int.toNat_natCast, t_addc, t_subc, t_mulc, t_bz0, t_bz1, Classical.not_not, not_false_eq_true, if_true, if_false, and_true, true_and, and_false, false_and, and_self, or_true, true_or, or_false, false_or, not_true_eq_false, reduceIte, ite_self, implies_true, hz]
  | succ n ih =>
    intro x y u9 u10 hn hx hy
    have ey := l_of (z := (y : Int)) (by omega) (by omega)
    rw [b173_6]
    by_cases h : y = 0
    · have hz : (lg_cmp (Int64.ofInt (y : Int)) (Int64.ofInt 0)).toInt = 0 := by rw [t_cmp0, h]; rfl
      rw [h, Nat.gcd_zero_right]
      rw [h] at hz
      simp (disch := (first | assumption | exact n_N11 | exact n_R11 (by decide) | exact n_bz | (simp (disch := (first | assumption | omega | decide)) only [v_rs, v_rn, v_pa, v_vc, v_vt, v_vl, v_ir, v_in, v_po, v_pn, v_re, v_rN, v_Nr, v_fe, v_fN, v_c1i, v_c1r, v_c1n, v_c1u, v_c1f, v_if, h_II, h_LL, h_RR, h_IL, h_IR, h_LI, h_LR, h_RI, h_RL, h_Ic, h_Lc, h_Rc, h_Id, h_Ld, h_Rd, h_cls_sI, h_cls_sL, h_cls_sR, h_cls_cI, h_cls_cL, h_tp_sI, h_tp_sL, h_tp_sR, h_tp_cI, h_tp_cL, h_ln_sI, h_ln_sL, h_ln_sR, h_ln_cI, h_ln_cL, v_if, j_scr, j_Wd_I, j_Wd_L, t_addo, t_subo, t_mulo, t_of, t_divc, t_remc, t_em, Int.toNat_zero, j_ix, Int.toNat_natCast, t_addc, t_subc, t_mulc, t_bz0, t_bz1, Classical.not_not, not_false_eq_true, if_true, if_false, and_true, true_and, and_false, false_and, and_self, or_true, true_or, or_false, false_or, not_true_eq_false, reduceIte, ite_self, implies_true, hz] <;> first | omega | rfl | decide) | omega | decide | fail)) only [↓if_pos, ↓if_neg, ↓b173_0, ↓b173_13, ↓b173_31, v_rs, v_rn, v_pa, v_vc, v_vt, v_vl, v_ir, v_in, v_po, v_pn, v_re, v_rN, v_Nr, v_fe, v_fN, v_c1i, v_c1r, v_c1n, v_c1u, v_c1f, v_if, h_II, h_LL, h_RR, h_IL, h_IR, h_LI, h_LR, h_RI, h_RL, h_Ic, h_Lc, h_Rc, h_Id, h_Ld, h_Rd, h_cls_sI, h_cls_sL, h_cls_sR, h_cls_cI, h_cls_cL, h_tp_sI, h_tp_sL, h_tp_sR, h_tp_cI, h_tp_cL, h_ln_sI, h_ln_sL, h_ln_sR, h_ln_cI, h_ln_cL, v_if, j_ks, j_ke, t_addo, t_subo, t_mulo, t_of, t_divc, t_remc, t_em, Int.toNat_zero, j_ix, Int.toNat_natCast, t_addc, t_subc, t_mulc, t_bz0, t_bz1, Classical.not_not, not_false_eq_true, if_true, if_false, and_true, true_and, and_false, false_and, and_self, or_true, true_or, or_false, false_or, not_true_eq_false, reduceIte, ite_self, implies_true, hz]
    · have hz : ¬ (lg_cmp (Int64.ofInt (y : Int)) (Int64.ofInt 0)).toInt = 0 := by
        rw [t_cmp0]
        intro h'
        have := congrArg Int64.toInt h'
        rw [ey] at this
        have h0 : (Int64.ofInt 0).toInt = 0 := rfl
        omega
      have hy0 : ¬ (Int64.ofInt (y : Int)).toInt = 0 := by rw [ey]; omega
      have hr : j_lrem (Int64.ofInt (x : Int)) (Int64.ofInt (y : Int)) = Int64.ofInt ((x % y : Nat) : Int) := by
        rw [l_rem (by omega) (by omega) (by omega) (by omega), Int.natCast_emod]
      have hlt := Nat.mod_lt x (Nat.pos_of_ne_zero h)
      have hg : Nat.gcd x y = Nat.gcd y (x % y) := by rw [Nat.gcd_comm x y, Nat.gcd_rec y x, Nat.gcd_comm]
      have ih' := ih y (x % y) (.long (Int64.ofInt ((x % y : Nat) : Int))) j_u (by omega) hy (by omega)
      rw [hg]
      simp (disch := (first | assumption | exact n_N11 | exact n_R11 (by decide) | exact n_bz | (simp (disch := (first | assumption | omega | decide)) only [v_rs, v_rn, v_pa, v_vc, v_vt, v_vl, v_ir, v_in, v_po, v_pn, v_re, v_rN, v_Nr, v_fe, v_fN, v_c1i, v_c1r, v_c1n, v_c1u, v_c1f, v_if, h_II, h_LL, h_RR, h_IL, h_IR, h_LI, h_LR, h_RI, h_RL, h_Ic, h_Lc, h_Rc, h_Id, h_Ld, h_Rd, h_cls_sI, h_cls_sL, h_cls_sR, h_cls_cI, h_cls_cL, h_tp_sI, h_tp_sL, h_tp_sR, h_tp_cI, h_tp_cL, h_ln_sI, h_ln_sL, h_ln_sR, h_ln_cI, h_ln_cL, v_if, j_scr, j_Wd_I, j_Wd_L, t_addo, t_subo, t_mulo, t_of, t_divc, t_remc, t_em, Int.toNat_zero, j_ix, Int.toNat_natCast, t_addc, t_subc, t_mulc, t_bz0, t_bz1, Classical.not_not, not_false_eq_true, if_true, if_false, and_true, true_and, and_false, false_and, and_self, or_true, true_or, or_false, false_or, not_true_eq_false, reduceIte, ite_self, implies_true, hz, hy0, hr] <;> first | omega | rfl | decide) | omega | decide | fail)) only [↓if_pos, ↓if_neg, ↓b173_0, ↓b173_13, ↓b173_31, v_rs, v_rn, v_pa, v_vc, v_vt, v_vl, v_ir, v_in, v_po, v_pn, v_re, v_rN, v_Nr, v_fe, v_fN, v_c1i, v_c1r, v_c1n, v_c1u, v_c1f, v_if, h_II, h_LL, h_RR, h_IL, h_IR, h_LI, h_LR, h_RI, h_RL, h_Ic, h_Lc, h_Rc, h_Id, h_Ld, h_Rd, h_cls_sI, h_cls_sL, h_cls_sR, h_cls_cI, h_cls_cL, h_tp_sI, h_tp_sL, h_tp_sR, h_tp_cI, h_tp_cL, h_ln_sI, h_ln_sL, h_ln_sR, h_ln_cI, h_ln_cL, v_if, j_ks, j_ke, t_addo, t_subo, t_mulo, t_of, t_divc, t_remc, t_em, Int.toNat_zero, j_ix, Int.toNat_natCast, t_addc, t_subc, t_mulc, t_bz0, t_bz1, Classical.not_not, not_false_eq_true, if_true, if_false, and_true, true_and, and_false, false_and, and_self, or_true, true_or, or_false, false_or, not_true_eq_false, reduceIte, ite_self, implies_true, hz, hy0, hr]
      exact ih'
def j_low (x y : Nat) (p : Int) : Nat := if p = 0 then x / Nat.gcd x y else y / Nat.gcd x y
theorem j_low10 {x y : Nat} {p : Int} (hy : 0 < y) : j_low (10 * x) (10 * y) p = j_low x y p := by
  unfold j_low
  have h := j_gcd_low x y hy
  rw [h.1, h.2]
theorem k118 {b : Nat} {H : j_H} {x y : Nat} {p : Int32} {Q : Option Value → j_H → Prop} (hx : x ≤ 4000000000000000000) (hy0 : 0 < y) (hy : y < 2 ^ 50) : j_wp (b + 1) 118 0 [.long (Int64.ofInt x), j_u, .long (Int64.ofInt y), j_u, .int p, j_u, j_u] [] H Q = Q (some (.long (Int64.ofInt (j_low x y p.toInt : Nat)))) H := by
  have hl := fun (Q : Option Value → j_H → Prop) => k119l (b := b) (H := H) (Q := Q) 100 0 x y j_u j_u (by omega) hx (by omega)
  simp only [j_eu_ok 50 100 x y hy (by omega)] at hl
  have hg0 := Nat.gcd_pos_of_pos_right x hy0
  have hg1 := Nat.gcd_le_right x hy0
  have eg := l_of (z := ((Nat.gcd x y : Nat) : Int)) (by omega) (by omega)
  have hz : ¬ (lg_cmp (Int64.ofInt ((Nat.gcd x y : Nat) : Int)) (Int64.ofInt 0)).toInt = 0 := by
    rw [t_cmp0]
    intro h'
    have := congrArg Int64.toInt h'
    rw [eg] at this
    have h0 : (Int64.ofInt 0).toInt = 0 := rfl
    omega
  have hg : ¬ (Int64.ofInt ((Nat.gcd x y : Nat) : Int)).toInt = 0 := by rw [eg]; omega
  have d1 : Int64.ofInt (x : Int) / Int64.ofInt ((Nat.gcd x y : Nat) : Int) = Int64.ofInt ((x / Nat.gcd x y : Nat) : Int) := by
    rw [l_div (by omega) (by omega) (by omega) (by omega), Int.natCast_ediv]
  have d2 : Int64.ofInt (y : Int) / Int64.ofInt ((Nat.gcd x y : Nat) : Int) = Int64.ofInt ((y / Nat.gcd x y : Nat) : Int) := by
    rw [l_div (by omega) (by omega) (by omega) (by omega), Int.natCast_ediv]
  unfold j_low
  rw [b118_0, b119_0]
  refine (hl _).trans ?_
  by_cases e : p.toInt = 0
  · rw [if_pos e]
    simp (disch := (first | assumption | exact n_N11 | exact n_R11 (by decide) | exact n_bz | (simp (disch := (first | assumption | omega | decide)) only [v_rs, v_rn, v_pa, v_vc, v_vt, v_vl, v_ir, v_in, v_po, v_pn, v_re, v_rN, v_Nr, v_fe, v_fN, v_c1i, v_c1r, v_c1n, v_c1u, v_c1f, v_if, h_II, h_LL, h_RR, h_IL, h_IR, h_LI, h_LR, h_RI, h_RL, h_Ic, h_Lc, h_Rc, h_Id, h_Ld, h_Rd, h_cls_sI, h_cls_sL, h_cls_sR, h_cls_cI, h_cls_cL, h_tp_sI, h_tp_sL, h_tp_sR, h_tp_cI, h_tp_cL, h_ln_sI, h_ln_sL, h_ln_sR, h_ln_cI, h_ln_cL, v_if, j_scr, j_Wd_I, j_Wd_L, t_addo, t_subo, t_mulo, t_of, t_divc, t_remc, t_em, Int.toNat_zero, j_ix, Int.toNat_natCast, t_addc, t_subc, t_mulc, t_bz0, t_bz1, Classical.not_not, not_false_eq_true, if_true, if_false, and_true, true_and, and_false, false_and, and_self, or_true, true_or, or_false, false_or, not_true_eq_false, reduceIte, ite_self, implies_true, hz, hg, d1, e] <;> first | omega | rfl | decide) | omega | decide | fail)) only [↓if_pos, ↓if_neg, ↓b118_0, ↓b118_5, ↓b118_14, ↓b118_18, ↓b118_23, ↓b118_27, ↓b118_28, v_rs, v_rn, v_pa, v_vc, v_vt, v_vl, v_ir, v_in, v_po, v_pn, v_re, v_rN, v_Nr, v_fe, v_fN, v_c1i, v_c1r, v_c1n, v_c1u, v_c1f, v_if, h_II, h_LL, h_RR, h_IL, h_IR, h_LI, h_LR, h_RI, h_RL, h_Ic, h_Lc, h_Rc, h_Id, h_Ld, h_Rd, h_cls_sI, h_cls_sL, h_cls_sR, h_cls_cI, h_cls_cL, h_tp_sI, h_tp_sL, h_tp_sR, h_tp_cI, h_tp_cL, h_ln_sI, h_ln_sL, h_ln_sR, h_ln_cI, h_ln_cL, v_if, j_ks, j_ke, t_addo, t_subo, t_mulo, t_of, t_divc, t_remc, t_em, Int.toNat_zero, j_ix, Int.toNat_natCast, t_addc, t_subc, t_mulc, t_bz0, t_bz1, Classical.not_not, not_false_eq_true, if_true, if_false, and_true, true_and, and_false, false_and, and_self, or_true, true_or, or_false, false_or, not_true_eq_false, reduceIte, ite_self, implies_true, hz, hg, d1, e]
  · rw [if_neg e]
    simp (disch := (first | assumption | exact n_N11 | exact n_R11 (by decide) | exact n_bz | (simp (disch := (first | assumption | omega | decide)) only [v_rs, v_rn, v_pa, v_vc, v_vt, v_vl, v_ir, v_in, v_po, v_pn, v_re, v_rN, v_Nr, v_fe, v_fN, v_c1i, v_c1r, v_c1n, v_c1u, v_c1f, v_if, h_II, h_LL, h_RR, h_IL, h_IR, h_LI, h_LR, h_RI, h_RL, h_Ic, h_Lc, h_Rc, h_Id, h_Ld, h_Rd, h_cls_sI, h_cls_sL, h_cls_sR, h_cls_cI, h_cls_cL, h_tp_sI, h_tp_sL, h_tp_sR, h_tp_cI, h_tp_cL, h_ln_sI, h_ln_sL, h_ln_sR, h_ln_cI, h_ln_cL, v_if, j_scr, j_Wd_I, j_Wd_L, t_addo, t_subo, t_mulo, t_of, t_divc, t_remc, t_em, Int.toNat_zero, j_ix, Int.toNat_natCast, t_addc, t_subc, t_mulc, t_bz0, t_bz1, Classical.not_not, not_false_eq_true, if_true, if_false, and_true, true_and, and_false, false_and, and_self, or_true, true_or, or_false, false_or, not_true_eq_false, reduceIte, ite_self, implies_true, hz, hg, d2, e] <;> first | omega | rfl | decide) | omega | decide | fail)) only [↓if_pos, ↓if_neg, ↓b118_0, ↓b118_5, ↓b118_14, ↓b118_18, ↓b118_23, ↓b118_27, ↓b118_28, v_rs, v_rn, v_pa, v_vc, v_vt, v_vl, v_ir, v_in, v_po, v_pn, v_re, v_rN, v_Nr, v_fe, v_fN, v_c1i, v_c1r, v_c1n, v_c1u, v_c1f, v_if, h_II, h_LL, h_RR, h_IL, h_IR, h_LI, h_LR, h_RI, h_RL, h_Ic, h_Lc, h_Rc, h_Id, h_Ld, h_Rd, h_cls_sI, h_cls_sL, h_cls_sR, h_cls_cI, h_cls_cL, h_tp_sI, h_tp_sL, h_tp_sR, h_tp_cI, h_tp_cL, h_ln_sI, h_ln_sL, h_ln_sR, h_ln_cI, h_ln_cL, v_if, j_ks, j_ke, t_addo, t_subo, t_mulo, t_of, t_divc, t_remc, t_em, Int.toNat_zero, j_ix, Int.toNat_natCast, t_addc, t_subc, t_mulc, t_bz0, t_bz1, Classical.not_not, not_false_eq_true, if_true, if_false, and_true, true_and, and_false, false_and, and_self, or_true, true_or, or_false, false_or, not_true_eq_false, reduceIte, ite_self, implies_true, hz, hg, d2, e]
theorem k174 {b : Nat} {H C : j_H} {x y : Nat} {p : Int32} {Q : Option Value → j_H → Prop} (hC : j_co H = C) (hW : j_Wd C) (hx : x ≤ 4000000000000000000) (hy0 : 0 < y) (hy : y ≤ 4000000000000000000) : j_wp (b + 1) 174 0 [.ref 81, .long (Int64.ofInt x), j_u, .long (Int64.ofInt y), j_u, .int p, j_u, j_u] [] H Q = Q (some (.long (Int64.ofInt (j_low x y p.toInt : Nat)))) H := by
  have hl := fun (Q : Option Value → j_H → Prop) => k173l (b := b) (H := H) (x0 := .ref 81) (x1 := Int64.ofInt x) (x3 := Int64.ofInt y) (Q := Q) y x y j_u j_u (Nat.le_refl _) hx hy
  have hg0 := Nat.gcd_pos_of_pos_right x hy0
  have hg1 := Nat.gcd_le_right x hy0
  have eg := l_of (z := ((Nat.gcd x y : Nat) : Int)) (by omega) (by omega)
  have hg : ¬ (Int64.ofInt ((Nat.gcd x y : Nat) : Int)).toInt = 0 := by rw [eg]; omega
  have d1 : Int64.ofInt (x : Int) / Int64.ofInt ((Nat.gcd x y : Nat) : Int) = Int64.ofInt ((x / Nat.gcd x y : Nat) : Int) := by
    rw [l_div (by omega) (by omega) (by omega) (by omega), Int.natCast_ediv]
  have d2 : Int64.ofInt (y : Int) / Int64.ofInt ((Nat.gcd x y : Nat) : Int) = Int64.ofInt ((y / Nat.gcd x y : Nat) : Int) := by
    rw [l_div (by omega) (by omega) (by omega) (by omega), Int.natCast_ediv]
  unfold j_low
  rw [b174_0 (by simp (disch := (first | omega | decide | assumption)) only [v_rs, v_rn, v_pa, v_vc, v_vt, v_vl, v_ir, v_in, v_po, v_pn, v_re, v_rN, v_Nr, v_fe, v_fN, v_c1i, v_c1r, v_c1n, v_c1u, v_c1f, v_if, h_II, h_LL, h_RR, h_IL, h_IR, h_LI, h_LR, h_RI, h_RL, h_Ic, h_Lc, h_Rc, h_Id, h_Ld, h_Rd, h_cls_sI, h_cls_sL, h_cls_sR, h_cls_cI, h_cls_cL, h_tp_sI, h_tp_sL, h_tp_sR, h_tp_cI, h_tp_cL, h_ln_sI, h_ln_sL, h_ln_sR, h_ln_cI, h_ln_cL, v_if, p_I, p_L, p_R, q_I, q_L, q_R, p_cls, p_tp, p_ln, p_cop, p_cov, rd_I hC, rd_L hC, rd_R hC, rd_cls hC, rd_tp hC, rd_ln hC, hC, hW, w_c81 hW, w_r81_4 hW, w_r81_5 hW, w_r81_6 hW, w_r81_7 hW, w_r81_13 hW, w_r81_14 hW, w_r81_15 hW, w_r81_16 hW, w_r81_17 hW, w_r81_18 hW, w_r81_19 hW, w_r81_20 hW, w_r81_24 hW, w_r81_25 hW, w_r81_26 hW, w_r81_28 hW, w_r81_29 hW, w_r81_30 hW, w_r81_31 hW, w_r81_32 hW, w_r81_33 hW, w_r81_37 hW, w_r81_46 hW, w_r81_47 hW, w_r81_48 hW, w_r81_49 hW, w_r81_50 hW, w_r81_51 hW, w_r81_53 hW, w_r81_54 hW, w_r81_55 hW, w_r81_56 hW, w_r81_57 hW, j_ks, j_ke, t_addo, t_subo, t_mulo, t_of, t_divc, t_remc, t_em, Int.toNat_zero, j_ix, Int.toNat_natCast, t_addc, t_subc, t_mulc, t_bz0, t_bz1, Classical.not_not, not_false_eq_true, if_true, if_false, and_true, true_and, and_false, false_and, and_self, or_true, true_or, or_false, false_or, not_true_eq_false, reduceIte, ite_self, implies_true] <;> omega), b173_0]
  refine (hl _).trans ?_
  by_cases e : p.toInt = 0
  · rw [if_pos e]
    simp (disch := (first | assumption | exact n_N11 | exact n_R11 (by decide) | exact n_bz | (simp (disch := (first | assumption | omega | decide)) only [v_rs, v_rn, v_pa, v_vc, v_vt, v_vl, v_ir, v_in, v_po, v_pn, v_re, v_rN, v_Nr, v_fe, v_fN, v_c1i, v_c1r, v_c1n, v_c1u, v_c1f, v_if, h_II, h_LL, h_RR, h_IL, h_IR, h_LI, h_LR, h_RI, h_RL, h_Ic, h_Lc, h_Rc, h_Id, h_Ld, h_Rd, h_cls_sI, h_cls_sL, h_cls_sR, h_cls_cI, h_cls_cL, h_tp_sI, h_tp_sL, h_tp_sR, h_tp_cI, h_tp_cL, h_ln_sI, h_ln_sL, h_ln_sR, h_ln_cI, h_ln_cL, v_if, j_scr, j_Wd_I, j_Wd_L, t_addo, t_subo, t_mulo, t_of, t_divc, t_remc, t_em, Int.toNat_zero, j_ix, Int.toNat_natCast, t_addc, t_subc, t_mulc, t_bz0, t_bz1, Classical.not_not, not_false_eq_true, if_true, if_false, and_true, true_and, and_false, false_and, and_self, or_true, true_or, or_false, false_or, not_true_eq_false, reduceIte, ite_self, implies_true, hg, d1, e] <;> first | omega | rfl | decide) | omega | decide | fail)) only [↓if_pos, ↓if_neg, ↓b174_0, ↓b174_6, ↓b174_13, ↓b174_20, ↓b174_24, v_rs, v_rn, v_pa, v_vc, v_vt, v_vl, v_ir, v_in, v_po, v_pn, v_re, v_rN, v_Nr, v_fe, v_fN, v_c1i, v_c1r, v_c1n, v_c1u, v_c1f, v_if, h_II, h_LL, h_RR, h_IL, h_IR, h_LI, h_LR, h_RI, h_RL, h_Ic, h_Lc, h_Rc, h_Id, h_Ld, h_Rd, h_cls_sI, h_cls_sL, h_cls_sR, h_cls_cI, h_cls_cL, h_tp_sI, h_tp_sL, h_tp_sR, h_tp_cI, h_tp_cL, h_ln_sI, h_ln_sL, h_ln_sR, h_ln_cI, h_ln_cL, v_if, j_ks, j_ke, t_addo, t_subo, t_mulo, t_of, t_divc, t_remc, t_em, Int.toNat_zero, j_ix, Int.toNat_natCast, t_addc, t_subc, t_mulc, t_bz0, t_bz1, Classical.not_not, not_false_eq_true, if_true, if_false, and_true, true_and, and_false, false_and, and_self, or_true, true_or, or_false, false_or, not_true_eq_false, reduceIte, ite_self, implies_true, hg, d1, e]
  · rw [if_neg e]
    simp (disch := (first | assumption | exact n_N11 | exact n_R11 (by decide) | exact n_bz | (simp (disch := (first | assumption | omega | decide)) only [v_rs, v_rn, v_pa, v_vc, v_vt, v_vl, v_ir, v_in, v_po, v_pn, v_re, v_rN, v_Nr, v_fe, v_fN, v_c1i, v_c1r, v_c1n, v_c1u, v_c1f, v_if, h_II, h_LL, h_RR, h_IL, h_IR, h_LI, h_LR, h_RI, h_RL, h_Ic, h_Lc, h_Rc, h_Id, h_Ld, h_Rd, h_cls_sI, h_cls_sL, h_cls_sR, h_cls_cI, h_cls_cL, h_tp_sI, h_tp_sL, h_tp_sR, h_tp_cI, h_tp_cL, h_ln_sI, h_ln_sL, h_ln_sR, h_ln_cI, h_ln_cL, v_if, j_scr, j_Wd_I, j_Wd_L, t_addo, t_subo, t_mulo, t_of, t_divc, t_remc, t_em, Int.toNat_zero, j_ix, Int.toNat_natCast, t_addc, t_subc, t_mulc, t_bz0, t_bz1, Classical.not_not, not_false_eq_true, if_true, if_false, and_true, true_and, and_false, false_and, and_self, or_true, true_or, or_false, false_or, not_true_eq_false, reduceIte, ite_self, implies_true, hg, d2, e] <;> first | omega | rfl | decide) | omega | decide | fail)) only [↓if_pos, ↓if_neg, ↓b174_0, ↓b174_6, ↓b174_13, ↓b174_20, ↓b174_24, v_rs, v_rn, v_pa, v_vc, v_vt, v_vl, v_ir, v_in, v_po, v_pn, v_re, v_rN, v_Nr, v_fe, v_fN, v_c1i, v_c1r, v_c1n, v_c1u, v_c1f, v_if, h_II, h_LL, h_RR, h_IL, h_IR, h_LI, h_LR, h_RI, h_RL, h_Ic, h_Lc, h_Rc, h_Id, h_Ld, h_Rd, h_cls_sI, h_cls_sL, h_cls_sR, h_cls_cI, h_cls_cL, h_tp_sI, h_tp_sL, h_tp_sR, h_tp_cI, h_tp_cL, h_ln_sI, h_ln_sL, h_ln_sR, h_ln_cI, h_ln_cL, v_if, j_ks, j_ke, t_addo, t_subo, t_mulo, t_of, t_divc, t_remc, t_em, Int.toNat_zero, j_ix, Int.toNat_natCast, t_addc, t_subc, t_mulc, t_bz0, t_bz1, Classical.not_not, not_false_eq_true, if_true, if_false, and_true, true_and, and_false, false_and, and_self, or_true, true_or, or_false, false_or, not_true_eq_false, reduceIte, ite_self, implies_true, hg, d2, e]
