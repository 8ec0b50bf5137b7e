/-! THE CLASS: whether an E holds, by bits -/
def j_Fb (x : Int64) (l : List Bool) : Prop := ∀ i, i < l.length → x.toBitVec.getLsbD i = l.getD i false
theorem t_lb1 : ∀ k : Fin 64, (Int64.ofInt 1).toBitVec.getLsbD k.val = decide (k.val = 0) ∧ (Int64.ofInt (-2)).toBitVec.getLsbD k.val = !decide (k.val = 0) := by decide +kernel
theorem t_lsh1 : (((Int32.ofInt 1).toInt64 &&& 63).toBitVec.smod 64).toNat = 1 := by decide +kernel
theorem t_lshr1 {x : Int64} {i : Nat} (hi : i < 63) : (j_lshr x (Int32.ofInt 1)).toBitVec.getLsbD i = x.toBitVec.getLsbD (1 + i) := by
  unfold j_lshr
  rw [Int64.toBitVec_shiftRight, BitVec.sshiftRight', t_lsh1, BitVec.getLsbD_sshiftRight, if_pos (by omega), decide_eq_false (by omega)]
  rfl
theorem t_lshl1 {x : Int64} {i : Nat} (hi : i < 64) : (j_lshl x (Int32.ofInt 1)).toBitVec.getLsbD i = (!decide (i = 0) && x.toBitVec.getLsbD (i - 1)) := by
  unfold j_lshl
  rw [Int64.toBitVec_shiftLeft, BitVec.shiftLeft_eq', t_lsh1, BitVec.getLsbD_shiftLeft, decide_eq_true hi]
  by_cases h : i = 0
  · subst h; rfl
  · rw [decide_eq_false (by omega), decide_eq_false h]; rfl
theorem t_bzb (z : Bool) : ∀ k : Fin 64, ((j_bz (z = true)).toInt64).toBitVec.getLsbD k.val = (decide (k.val = 0) && z) := by cases z <;> decide +kernel
theorem f_not {x : Int64} {a : Bool} {r : List Bool} (h : j_Fb x (a :: r)) (hl : r.length < 60) : j_Fb (x ^^^ Int64.ofInt 1) ((!a) :: r) := by
  intro i hi
  rw [List.length_cons] at hi
  have h1 := h i (by rw [List.length_cons]; omega)
  rw [Int64.toBitVec_xor, BitVec.getLsbD_xor, h1, (t_lb1 ⟨i, by omega⟩).1]
  cases i with
  | zero => cases a <;> rfl
  | succ k => simp
theorem f_and {x : Int64} {a c : Bool} {r : List Bool} (h : j_Fb x (a :: c :: r)) (hl : r.length < 60) : j_Fb (j_lshr x (Int32.ofInt 1) &&& (x ||| Int64.ofInt (-2))) ((c && a) :: r) := by
  intro i hi
  rw [List.length_cons] at hi
  have h1 := h i (by rw [List.length_cons, List.length_cons]; omega)
  have h2 := h (1 + i) (by rw [List.length_cons, List.length_cons]; omega)
  rw [Int64.toBitVec_and, BitVec.getLsbD_and, Int64.toBitVec_or, BitVec.getLsbD_or, t_lshr1 (by omega), h1, h2, (t_lb1 ⟨i, by omega⟩).2]
  cases i with
  | zero => cases a <;> cases c <;> rfl
  | succ k => rw [show 1 + (k + 1) = k + 1 + 1 by omega]; simp
theorem f_or {x : Int64} {a c : Bool} {r : List Bool} (h : j_Fb x (a :: c :: r)) (hl : r.length < 60) : j_Fb (j_lshr x (Int32.ofInt 1) ||| (x &&& Int64.ofInt 1)) ((c || a) :: r) := by
  intro i hi
  rw [List.length_cons] at hi
  have h1 := h i (by rw [List.length_cons, List.length_cons]; omega)
  have h2 := h (1 + i) (by rw [List.length_cons, List.length_cons]; omega)
  rw [Int64.toBitVec_or, BitVec.getLsbD_or, Int64.toBitVec_and, BitVec.getLsbD_and, t_lshr1 (by omega), h1, h2, (t_lb1 ⟨i, by omega⟩).1]
  cases i with
  | zero => cases a <;> cases c <;> rfl
  | succ k => rw [show 1 + (k + 1) = k + 1 + 1 by omega]; simp
theorem f_tst {x : Int64} {z : Bool} {l : List Bool} {v : Int32} (h : j_Fb x l) (hl : l.length < 60) (hv : v = j_bz (z = true)) : j_Fb (j_lshl x (Int32.ofInt 1) ||| v.toInt64) (z :: l) := by
  intro i hi
  rw [List.length_cons] at hi
  rw [hv, Int64.toBitVec_or, BitVec.getLsbD_or, t_lshl1 (by omega), t_bzb z ⟨i, by omega⟩]
  cases i with
  | zero => simp
  | succ k => have := h k (by omega); simp [this]
theorem f_end {x : Int64} {z : Bool} (h : j_Fb x [z]) : ((lg_cmp (x &&& Int64.ofInt 1) (Int64.ofInt 1)).toInt = 0) = (z = true) := by
  have h0 := h 0 (Nat.succ_pos _)
  have e : (x &&& Int64.ofInt 1).toBitVec = BitVec.setWidth 64 (BitVec.ofBool (x.toBitVec.getLsbD 0)) := by
    rw [Int64.toBitVec_and]; exact BitVec.and_one_eq_setWidth_ofBool_getLsbD
  rw [h0] at e
  have e2 : x &&& Int64.ofInt 1 = (if z = true then Int64.ofInt 1 else Int64.ofInt 0) := by
    apply Int64.toBitVec_inj.mp
    rw [e]; cases z <;> decide
  rw [e2]
  cases z <;> decide
theorem j_sgD {s t : Int} (h : j_sg s t) (ht : 0 ≤ t) : s / 300 = t / 1000 ∧ s % 300 / 100 = t / 100 % 10 ∧ s % 100 = t % 100 ∧ 0 ≤ s ∧ s ≤ 1799 ∧ 0 ≤ t / 1000 ∧ t / 1000 ≤ 5 := by
  rcases h with ⟨h, -⟩ | ⟨h, -⟩ | ⟨h, -⟩ | ⟨f, r, d, h⟩ <;> omega
theorem k24t {b : Nat} {H : j_H} {e p : Nat} {x1 x2 s : Int32} {x3 : Int64} {u6 u7 u8 u9 u10 u11 : Value} {Q : Option Value → j_H → Prop} {X i rr d v : Int} {z : Bool} (hc : j_cls H e = 3) (hr6 : j_R H e 6 = some (e + 4)) (hr8 : j_R H e 8 = some (e + 5)) (ht4 : j_tp H (e + 4) = 0) (hn4 : j_ln H (e + 4) = 100) (ht5 : j_tp H (e + 5) = 0) (hn5 : j_ln H (e + 5) = 6) (hs : j_I H (e + 4) p = s) (hs0 : 0 ≤ s.toInt) (hx2 : x2.toInt = X) (hp : (p : Int) < X) (hp2 : p < 100) (r1 : (s / Int32.ofInt 300).toInt = i) (i0 : 0 ≤ i) (i5 : i ≤ 5) (r3 : (j_rem s (Int32.ofInt 300) / Int32.ofInt 100).toInt = rr) (r4 : (j_rem s (Int32.ofInt 100)).toInt = d) (hv : (j_I H (e + 5) i.toNat).toInt = v) (hz : decide ((rr = 0 ∧ v < d) ∨ (rr = 1 ∧ v = d) ∨ (¬ rr = 0 ∧ ¬ rr = 1 ∧ d < v)) = z) : j_wp b 24 5 [.ref e, .int x1, .int x2, .long x3, j_u, .int (Int32.ofInt p), u6, u7, u8, u9, u10, u11] [] H Q = j_wp b 24 5 [.ref e, .int x1, .int x2, .long (j_lshl x3 (Int32.ofInt 1) ||| (j_bz (z = true)).toInt64), j_u, .int (Int32.ofInt ((p : Int) + 1)), .int s, .int (s / Int32.ofInt 300), .int (j_I H (e + 5) i.toNat), .int (j_rem s (Int32.ofInt 300) / Int32.ofInt 100), .int (j_rem s (Int32.ofInt 100)), .int (j_bz (z = true))] [] H Q := by
  have n1 : ¬ s.toInt = -1 := by omega
  have n2 : ¬ s.toInt = -2 := by omega
  have n3 : ¬ s.toInt = -3 := by omega
  have n4 : ¬ X ≤ (p : Int) := by omega
  have n5 : ¬ (100 : Int) ≤ (p : Int) := by omega
  have n6 : ¬ i < 0 := by omega
  have n7 : ¬ 6 ≤ i := by omega
  conv => lhs; rw [b24_5]
  by_cases q0 : rr = 0
  · by_cases q : v < d
    · have hz' : z = true := by rw [← hz]; exact decide_eq_true (Or.inl ⟨q0, q⟩)
      have q' : ¬ d ≤ v := by omega
      rw [hz']
      simp (disch := (first | assumption | exact n_N11 | exact n_R11 (by decide) | exact n_bz | (simp (disch := (first | assumption | omega | decide)) only [v_rs, v_rn, v_pa, v_vc, v_vt, v_vl, v_ir, v_in, v_po, v_pn, v_re, v_rN, v_Nr, v_fe, v_fN, v_c1i, v_c1r, v_c1n, v_c1u, v_c1f, v_if, h_II, h_LL, h_RR, h_IL, h_IR, h_LI, h_LR, h_RI, h_RL, h_Ic, h_Lc, h_Rc, h_Id, h_Ld, h_Rd, h_cls_sI, h_cls_sL, h_cls_sR, h_cls_cI, h_cls_cL, h_tp_sI, h_tp_sL, h_tp_sR, h_tp_cI, h_tp_cL, h_ln_sI, h_ln_sL, h_ln_sR, h_ln_cI, h_ln_cL, v_if, j_scr, j_Wd_I, j_Wd_L, t_addo, t_subo, t_mulo, t_of, t_divc, t_remc, t_em, Int.toNat_zero, j_ix, Int.toNat_natCast, t_addc, t_subc, t_mulc, t_bz0, t_bz1, Classical.not_not, not_false_eq_true, if_true, if_false, and_true, true_and, and_false, false_and, and_self, or_true, true_or, or_false, false_or, not_true_eq_false, reduceIte, ite_self, hc, hr6, hr8, ht4, hn4, ht5, hn5, hs, hx2, n1, n2, n3, n4, n5, n6, n7, r1, r3, r4, hv, q0, q'] <;> omega) | omega | decide | fail)) only [↓if_pos, ↓if_neg, ↓b24_0, ↓b24_10, ↓b24_16, ↓b24_26, ↓b24_41, ↓b24_48, ↓b24_55, ↓b24_68, ↓b24_75, ↓b24_86, ↓b24_99, ↓b24_109, ↓b24_119, ↓b24_120, ↓b24_145, ↓b24_152, ↓b24_156, ↓b24_160, ↓b24_166, ↓b24_173, ↓b24_177, ↓b24_181, ↓b24_188, ↓b24_192, ↓b24_193, ↓b24_203, ↓b24_207, ↓b24_208, ↓b24_211, ↓b24_217, ↓b24_225, ↓b24_229, ↓b24_230, v_rs, v_rn, v_pa, v_vc, v_vt, v_vl, v_ir, v_in, v_po, v_pn, v_re, v_rN, v_Nr, v_fe, v_fN, v_c1i, v_c1r, v_c1n, v_c1u, v_c1f, v_if, h_II, h_LL, h_RR, h_IL, h_IR, h_LI, h_LR, h_RI, h_RL, h_Ic, h_Lc, h_Rc, h_Id, h_Ld, h_Rd, h_cls_sI, h_cls_sL, h_cls_sR, h_cls_cI, h_cls_cL, h_tp_sI, h_tp_sL, h_tp_sR, h_tp_cI, h_tp_cL, h_ln_sI, h_ln_sL, h_ln_sR, h_ln_cI, h_ln_cL, v_if, j_ks, j_ke, t_addo, t_subo, t_mulo, t_of, t_divc, t_remc, t_em, Int.toNat_zero, j_ix, Int.toNat_natCast, t_addc, t_subc, t_mulc, t_bz0, t_bz1, Classical.not_not, not_false_eq_true, if_true, if_false, and_true, true_and, and_false, false_and, and_self, or_true, true_or, or_false, false_or, not_true_eq_false, reduceIte, ite_self, hc, hr6, hr8, ht4, hn4, ht5, hn5, hs, hx2, n1, n2, n3, n4, n5, n6, n7, r1, r3, r4, hv, q0, q']
      rfl
    · have hz' : z = false := by rw [← hz]; exact decide_eq_false (by omega)
      have q' : d ≤ v := by omega
      rw [hz']
      simp (disch := (first | assumption | exact n_N11 | exact n_R11 (by decide) | exact n_bz | (simp (disch := (first | assumption | omega | decide)) only [v_rs, v_rn, v_pa, v_vc, v_vt, v_vl, v_ir, v_in, v_po, v_pn, v_re, v_rN, v_Nr, v_fe, v_fN, v_c1i, v_c1r, v_c1n, v_c1u, v_c1f, v_if, h_II, h_LL, h_RR, h_IL, h_IR, h_LI, h_LR, h_RI, h_RL, h_Ic, h_Lc, h_Rc, h_Id, h_Ld, h_Rd, h_cls_sI, h_cls_sL, h_cls_sR, h_cls_cI, h_cls_cL, h_tp_sI, h_tp_sL, h_tp_sR, h_tp_cI, h_tp_cL, h_ln_sI, h_ln_sL, h_ln_sR, h_ln_cI, h_ln_cL, v_if, j_scr, j_Wd_I, j_Wd_L, t_addo, t_subo, t_mulo, t_of, t_divc, t_remc, t_em, Int.toNat_zero, j_ix, Int.toNat_natCast, t_addc, t_subc, t_mulc, t_bz0, t_bz1, Classical.not_not, not_false_eq_true, if_true, if_false, and_true, true_and, and_false, false_and, and_self, or_true, true_or, or_false, false_or, not_true_eq_false, reduceIte, ite_self, hc, hr6, hr8, ht4, hn4, ht5, hn5, hs, hx2, n1, n2, n3, n4, n5, n6, n7, r1, r3, r4, hv, q0, q'] <;> omega) | omega | decide | fail)) only [↓if_pos, ↓if_neg, ↓b24_0, ↓b24_10, ↓b24_16, ↓b24_26, ↓b24_41, ↓b24_48, ↓b24_55, ↓b24_68, ↓b24_75, ↓b24_86, ↓b24_99, ↓b24_109, ↓b24_119, ↓b24_120, ↓b24_145, ↓b24_152, ↓b24_156, ↓b24_160, ↓b24_166, ↓b24_173, ↓b24_177, ↓b24_181, ↓b24_188, ↓b24_192, ↓b24_193, ↓b24_203, ↓b24_207, ↓b24_208, ↓b24_211, ↓b24_217, ↓b24_225, ↓b24_229, ↓b24_230, v_rs, v_rn, v_pa, v_vc, v_vt, v_vl, v_ir, v_in, v_po, v_pn, v_re, v_rN, v_Nr, v_fe, v_fN, v_c1i, v_c1r, v_c1n, v_c1u, v_c1f, v_if, h_II, h_LL, h_RR, h_IL, h_IR, h_LI, h_LR, h_RI, h_RL, h_Ic, h_Lc, h_Rc, h_Id, h_Ld, h_Rd, h_cls_sI, h_cls_sL, h_cls_sR, h_cls_cI, h_cls_cL, h_tp_sI, h_tp_sL, h_tp_sR, h_tp_cI, h_tp_cL, h_ln_sI, h_ln_sL, h_ln_sR, h_ln_cI, h_ln_cL, v_if, j_ks, j_ke, t_addo, t_subo, t_mulo, t_of, t_divc, t_remc, t_em, Int.toNat_zero, j_ix, Int.toNat_natCast, t_addc, t_subc, t_mulc, t_bz0, t_bz1, Classical.not_not, not_false_eq_true, if_true, if_false, and_true, true_and, and_false, false_and, and_self, or_true, true_or, or_false, false_or, not_true_eq_false, reduceIte, ite_self, hc, hr6, hr8, ht4, hn4, ht5, hn5, hs, hx2, n1, n2, n3, n4, n5, n6, n7, r1, r3, r4, hv, q0, q']
      rfl
  · by_cases q1 : rr = 1
    · by_cases q : v = d
      · have hz' : z = true := by rw [← hz]; exact decide_eq_true (Or.inr (Or.inl ⟨q1, q⟩))
        rw [hz']
        simp (disch := (first | assumption | exact n_N11 | exact n_R11 (by decide) | exact n_bz | (simp (disch := (first | assumption | omega | decide)) only [v_rs, v_rn, v_pa, v_vc, v_vt, v_vl, v_ir, v_in, v_po, v_pn, v_re, v_rN, v_Nr, v_fe, v_fN, v_c1i, v_c1r, v_c1n, v_c1u, v_c1f, v_if, h_II, h_LL, h_RR, h_IL, h_IR, h_LI, h_LR, h_RI, h_RL, h_Ic, h_Lc, h_Rc, h_Id, h_Ld, h_Rd, h_cls_sI, h_cls_sL, h_cls_sR, h_cls_cI, h_cls_cL, h_tp_sI, h_tp_sL, h_tp_sR, h_tp_cI, h_tp_cL, h_ln_sI, h_ln_sL, h_ln_sR, h_ln_cI, h_ln_cL, v_if, j_scr, j_Wd_I, j_Wd_L, t_addo, t_subo, t_mulo, t_of, t_divc, t_remc, t_em, Int.toNat_zero, j_ix, Int.toNat_natCast, t_addc, t_subc, t_mulc, t_bz0, t_bz1, Classical.not_not, not_false_eq_true, if_true, if_false, and_true, true_and, and_false, false_and, and_self, or_true, true_or, or_false, false_or, not_true_eq_false, reduceIte, ite_self, hc, hr6, hr8, ht4, hn4, ht5, hn5, hs, hx2, n1, n2, n3, n4, n5, n6, n7, r1, r3, r4, hv, q0, q1, q] <;> omega) | omega | decide | fail)) only [↓if_pos, ↓if_neg, ↓b24_0, ↓b24_10, ↓b24_16, ↓b24_26, ↓b24_41, ↓b24_48, ↓b24_55, ↓b24_68, ↓b24_75, ↓b24_86, ↓b24_99, ↓b24_109, ↓b24_119, ↓b24_120, ↓b24_145, ↓b24_152, ↓b24_156, ↓b24_160, ↓b24_166, ↓b24_173, ↓b24_177, ↓b24_181, ↓b24_188, ↓b24_192, ↓b24_193, ↓b24_203, ↓b24_207, ↓b24_208, ↓b24_211, ↓b24_217, ↓b24_225, ↓b24_229, ↓b24_230, v_rs, v_rn, v_pa, v_vc, v_vt, v_vl, v_ir, v_in, v_po, v_pn, v_re, v_rN, v_Nr, v_fe, v_fN, v_c1i, v_c1r, v_c1n, v_c1u, v_c1f, v_if, h_II, h_LL, h_RR, h_IL, h_IR, h_LI, h_LR, h_RI, h_RL, h_Ic, h_Lc, h_Rc, h_Id, h_Ld, h_Rd, h_cls_sI, h_cls_sL, h_cls_sR, h_cls_cI, h_cls_cL, h_tp_sI, h_tp_sL, h_tp_sR, h_tp_cI, h_tp_cL, h_ln_sI, h_ln_sL, h_ln_sR, h_ln_cI, h_ln_cL, v_if, j_ks, j_ke, t_addo, t_subo, t_mulo, t_of, t_divc, t_remc, t_em, Int.toNat_zero, j_ix, Int.toNat_natCast, t_addc, t_subc, t_mulc, t_bz0, t_bz1, Classical.not_not, not_false_eq_true, if_true, if_false, and_true, true_and, and_false, false_and, and_self, or_true, true_or, or_false, false_or, not_true_eq_false, reduceIte, ite_self, hc, hr6, hr8, ht4, hn4, ht5, hn5, hs, hx2, n1, n2, n3, n4, n5, n6, n7, r1, r3, r4, hv, q0, q1, q]
        rfl
      · have hz' : z = false := by rw [← hz]; exact decide_eq_false (by omega)
        rw [hz']
        simp (disch := (first | assumption | exact n_N11 | exact n_R11 (by decide) | exact n_bz | (simp (disch := (first | assumption | omega | decide)) only [v_rs, v_rn, v_pa, v_vc, v_vt, v_vl, v_ir, v_in, v_po, v_pn, v_re, v_rN, v_Nr, v_fe, v_fN, v_c1i, v_c1r, v_c1n, v_c1u, v_c1f, v_if, h_II, h_LL, h_RR, h_IL, h_IR, h_LI, h_LR, h_RI, h_RL, h_Ic, h_Lc, h_Rc, h_Id, h_Ld, h_Rd, h_cls_sI, h_cls_sL, h_cls_sR, h_cls_cI, h_cls_cL, h_tp_sI, h_tp_sL, h_tp_sR, h_tp_cI, h_tp_cL, h_ln_sI, h_ln_sL, h_ln_sR, h_ln_cI, h_ln_cL, v_if, j_scr, j_Wd_I, j_Wd_L, t_addo, t_subo, t_mulo, t_of, t_divc, t_remc, t_em, Int.toNat_zero, j_ix, Int.toNat_natCast, t_addc, t_subc, t_mulc, t_bz0, t_bz1, Classical.not_not, not_false_eq_true, if_true, if_false, and_true, true_and, and_false, false_and, and_self, or_true, true_or, or_false, false_or, not_true_eq_false, reduceIte, ite_self, hc, hr6, hr8, ht4, hn4, ht5, hn5, hs, hx2, n1, n2, n3, n4, n5, n6, n7, r1, r3, r4, hv, q0, q1, q] <;> omega) | omega | decide | fail)) only [↓if_pos, ↓if_neg, ↓b24_0, ↓b24_10, ↓b24_16, ↓b24_26, ↓b24_41, ↓b24_48, ↓b24_55, ↓b24_68, ↓b24_75, ↓b24_86, ↓b24_99, ↓b24_109, ↓b24_119, ↓b24_120, ↓b24_145, ↓b24_152, ↓b24_156, ↓b24_160, ↓b24_166, ↓b24_173, ↓b24_177, ↓b24_181, ↓b24_188, ↓b24_192, ↓b24_193, ↓b24_203, ↓b24_207, ↓b24_208, ↓b24_211, ↓b24_217, ↓b24_225, ↓b24_229, ↓b24_230, v_rs, v_rn, v_pa, v_vc, v_vt, v_vl, v_ir, v_in, v_po, v_pn, v_re, v_rN, v_Nr, v_fe, v_fN, v_c1i, v_c1r, v_c1n, v_c1u, v_c1f, v_if, h_II, h_LL, h_RR, h_IL, h_IR, h_LI, h_LR, h_RI, h_RL, h_Ic, h_Lc, h_Rc, h_Id, h_Ld, h_Rd, h_cls_sI, h_cls_sL, h_cls_sR, h_cls_cI, h_cls_cL, h_tp_sI, h_tp_sL, h_tp_sR, h_tp_cI, h_tp_cL, h_ln_sI, h_ln_sL, h_ln_sR, h_ln_cI, h_ln_cL, v_if, j_ks, j_ke, t_addo, t_subo, t_mulo, t_of, t_divc, t_remc, t_em, Int.toNat_zero, j_ix, Int.toNat_natCast, t_addc, t_subc, t_mulc, t_bz0, t_bz1, Classical.not_not, not_false_eq_true, if_true, if_false, and_true, true_and, and_false, false_and, and_self, or_true, true_or, or_false, false_or, not_true_eq_false, reduceIte, ite_self, hc, hr6, hr8, ht4, hn4, ht5, hn5, hs, hx2, n1, n2, n3, n4, n5, n6, n7, r1, r3, r4, hv, q0, q1, q]
        rfl
    · by_cases q : d < v
      · have hz' : z = true := by rw [← hz]; exact decide_eq_true (Or.inr (Or.inr ⟨q0, q1, q⟩))
        have q' : ¬ v ≤ d := by omega
        rw [hz']
        simp (disch := (first | assumption | exact n_N11 | exact n_R11 (by decide) | exact n_bz | (simp (disch := (first | assumption | omega | decide)) only [v_rs, v_rn, v_pa, v_vc, v_vt, v_vl, v_ir, v_in, v_po, v_pn, v_re, v_rN, v_Nr, v_fe, v_fN, v_c1i, v_c1r, v_c1n, v_c1u, v_c1f, v_if, h_II, h_LL, h_RR, h_IL, h_IR, h_LI, h_LR, h_RI, h_RL, h_Ic, h_Lc, h_Rc, h_Id, h_Ld, h_Rd, h_cls_sI, h_cls_sL, h_cls_sR, h_cls_cI, h_cls_cL, h_tp_sI, h_tp_sL, h_tp_sR, h_tp_cI, h_tp_cL, h_ln_sI, h_ln_sL, h_ln_sR, h_ln_cI, h_ln_cL, v_if, j_scr, j_Wd_I, j_Wd_L, t_addo, t_subo, t_mulo, t_of, t_divc, t_remc, t_em, Int.toNat_zero, j_ix, Int.toNat_natCast, t_addc, t_subc, t_mulc, t_bz0, t_bz1, Classical.not_not, not_false_eq_true, if_true, if_false, and_true, true_and, and_false, false_and, and_self, or_true, true_or, or_false, false_or, not_true_eq_false, reduceIte, ite_self, hc, hr6, hr8, ht4, hn4, ht5, hn5, hs, hx2, n1, n2, n3, n4, n5, n6, n7, r1, r3, r4, hv, q0, q1, q'] <;> omega) | omega | decide | fail)) only [↓if_pos, ↓if_neg, ↓b24_0, ↓b24_10, ↓b24_16, ↓b24_26, ↓b24_41, ↓b24_48, ↓b24_55, ↓b24_68, ↓b24_75, ↓b24_86, ↓b24_99, ↓b24_109, ↓b24_119, ↓b24_120, ↓b24_145, ↓b24_152, ↓b24_156, ↓b24_160, ↓b24_166, ↓b24_173, ↓b24_177, ↓b24_181, ↓b24_188, ↓b24_192, ↓b24_193, ↓b24_203, ↓b24_207, ↓b24_208, ↓b24_211, ↓b24_217, ↓b24_225, ↓b24_229, ↓b24_230, v_rs, v_rn, v_pa, v_vc, v_vt, v_vl, v_ir, v_in, v_po, v_pn, v_re, v_rN, v_Nr, v_fe, v_fN, v_c1i, v_c1r, v_c1n, v_c1u, v_c1f, v_if, h_II, h_LL, h_RR, h_IL, h_IR, h_LI, h_LR, h_RI, h_RL, h_Ic, h_Lc, h_Rc, h_Id, h_Ld, h_Rd, h_cls_sI, h_cls_sL, h_cls_sR, h_cls_cI, h_cls_cL, h_tp_sI, h_tp_sL, h_tp_sR, h_tp_cI, h_tp_cL, h_ln_sI, h_ln_sL, h_ln_sR, h_ln_cI, h_ln_cL, v_if, j_ks, j_ke, t_addo, t_subo, t_mulo, t_of, t_divc, t_remc, t_em, Int.toNat_zero, j_ix, Int.toNat_natCast, t_addc, t_subc, t_mulc, t_bz0, t_bz1, Classical.not_not, not_false_eq_true, if_true, if_false, and_true, true_and, and_false, false_and, and_self, or_true, true_or, or_false, false_or, not_true_eq_false, reduceIte, ite_self, hc, hr6, hr8, ht4, hn4, ht5, hn5, hs, hx2, n1, n2, n3, n4, n5, n6, n7, r1, r3, r4, hv, q0, q1, q']
        rfl
      · have hz' : z = false := by rw [← hz]; exact decide_eq_false (by omega)
        have q' : v ≤ d := by omega
        rw [hz']
        simp (disch := (first | assumption | exact n_N11 | exact n_R11 (by decide) | exact n_bz | (simp (disch := (first | assumption | omega | decide)) only [v_rs, v_rn, v_pa, v_vc, v_vt, v_vl, v_ir, v_in, v_po, v_pn, v_re, v_rN, v_Nr, v_fe, v_fN, v_c1i, v_c1r, v_c1n, v_c1u, v_c1f, v_if, h_II, h_LL, h_RR, h_IL, h_IR, h_LI, h_LR, h_RI, h_RL, h_Ic, h_Lc, h_Rc, h_Id, h_Ld, h_Rd, h_cls_sI, h_cls_sL, h_cls_sR, h_cls_cI, h_cls_cL, h_tp_sI, h_tp_sL, h_tp_sR, h_tp_cI, h_tp_cL, h_ln_sI, h_ln_sL, h_ln_sR, h_ln_cI, h_ln_cL, v_if, j_scr, j_Wd_I, j_Wd_L, t_addo, t_subo, t_mulo, t_of, t_divc, t_remc, t_em, Int.toNat_zero, j_ix, Int.toNat_natCast, t_addc, t_subc, t_mulc, t_bz0, t_bz1, Classical.not_not, not_false_eq_true, if_true, if_false, and_true, true_and, and_false, false_and, and_self, or_true, true_or, or_false, false_or, not_true_eq_false, reduceIte, ite_self, hc, hr6, hr8, ht4, hn4, ht5, hn5, hs, hx2, n1, n2, n3, n4, n5, n6, n7, r1, r3, r4, hv, q0, q1, q'] <;> omega) | omega | decide | fail)) only [↓if_pos, ↓if_neg, ↓b24_0, ↓b24_10, ↓b24_16, ↓b24_26, ↓b24_41, ↓b24_48, ↓b24_55, ↓b24_68, ↓b24_75, ↓b24_86, ↓b24_99, ↓b24_109, ↓b24_119, ↓b24_120, ↓b24_145, ↓b24_152, ↓b24_156, ↓b24_160, ↓b24_166, ↓b24_173, ↓b24_177, ↓b24_181, ↓b24_188, ↓b24_192, ↓b24_193, ↓b24_203, ↓b24_207, ↓b24_208, ↓b24_211, ↓b24_217, ↓b24_225, ↓b24_229, ↓b24_230, v_rs, v_rn, v_pa, v_vc, v_vt, v_vl, v_ir, v_in, v_po, v_pn, v_re, v_rN, v_Nr, v_fe, v_fN, v_c1i, v_c1r, v_c1n, v_c1u, v_c1f, v_if, h_II, h_LL, h_RR, h_IL, h_IR, h_LI, h_LR, h_RI, h_RL, h_Ic, h_Lc, h_Rc, h_Id, h_Ld, h_Rd, h_cls_sI, h_cls_sL, h_cls_sR, h_cls_cI, h_cls_cL, h_tp_sI, h_tp_sL, h_tp_sR, h_tp_cI, h_tp_cL, h_ln_sI, h_ln_sL, h_ln_sR, h_ln_cI, h_ln_cL, v_if, j_ks, j_ke, t_addo, t_subo, t_mulo, t_of, t_divc, t_remc, t_em, Int.toNat_zero, j_ix, Int.toNat_natCast, t_addc, t_subc, t_mulc, t_bz0, t_bz1, Classical.not_not, not_false_eq_true, if_true, if_false, and_true, true_and, and_false, false_and, and_self, or_true, true_or, or_false, false_or, not_true_eq_false, reduceIte, ite_self, hc, hr6, hr8, ht4, hn4, ht5, hn5, hs, hx2, n1, n2, n3, n4, n5, n6, n7, r1, r3, r4, hv, q0, q1, q']
        rfl
theorem k24l {b : Nat} {H C : j_H} {e : Nat} {x1 x2 : Int32} {g h F : Int} {Q : Option Value → j_H → Prop} (hc : j_cls H e = 3) (hr6 : j_R H e 6 = some (e + 4)) (hr8 : j_R H e 8 = some (e + 5)) (ht4 : j_tp H (e + 4) = 0) (hn4 : j_ln H (e + 4) = 100) (ht5 : j_tp H (e + 5) = 0) (hn5 : j_ln H (e + 5) = 6) (hv : ∀ i : Nat, i < 6 → (j_I H (e + 5) i).toInt = j_fo C g h F i) : ∀ (n p k : Nat) (l : List Bool) (D : Nat → Nat) (x3 : Int64) (u6 u7 u8 u9 u10 u11 : Value), x2.toInt = ((p + n : Nat) : Int) → p + n ≤ 100 → j_dp C k n D → D 0 = l.length → D n = 1 → (∀ j, j < n → j_sg (j_I H (e + 4) (p + j)).toInt (j_I C 92 (k + j)).toInt) → j_Fb x3 l → j_wp b 24 5 [.ref e, .int x1, .int x2, .long x3, j_u, .int (Int32.ofInt p), u6, u7, u8, u9, u10, u11] [] H Q = Q (some (.int (j_bz ((j_el C g h F k n l).headD false = true)))) H
  | 0, p, k, l, D, x3, u6, u7, u8, u9, u10, u11, h1, h2, h3, h4, h5, h6, h7 => by
    cases l with
    | nil => rw [h4] at h5; cases h5
    | cons x r =>
      cases r with
      | cons y r => rw [h4] at h5; cases h5
      | nil =>
        have hz := f_end h7
        rw [b24_5]
        simp (disch := (first | assumption | exact n_N11 | exact n_R11 (by decide) | exact n_bz | (simp (disch := (first | assumption | omega | decide)) only [v_rs, v_rn, v_pa, v_vc, v_vt, v_vl, v_ir, v_in, v_po, v_pn, v_re, v_rN, v_Nr, v_fe, v_fN, v_c1i, v_c1r, v_c1n, v_c1u, v_c1f, v_if, h_II, h_LL, h_RR, h_IL, h_IR, h_LI, h_LR, h_RI, h_RL, h_Ic, h_Lc, h_Rc, h_Id, h_Ld, h_Rd, h_cls_sI, h_cls_sL, h_cls_sR, h_cls_cI, h_cls_cL, h_tp_sI, h_tp_sL, h_tp_sR, h_tp_cI, h_tp_cL, h_ln_sI, h_ln_sL, h_ln_sR, h_ln_cI, h_ln_cL, v_if, j_scr, j_Wd_I, j_Wd_L, t_addo, t_subo, t_mulo, t_of, t_divc, t_remc, t_em, Int.toNat_zero, j_ix, Int.toNat_natCast, t_addc, t_subc, t_mulc, t_bz0, t_bz1, Classical.not_not, not_false_eq_true, if_true, if_false, and_true, true_and, and_false, false_and, and_self, or_true, true_or, or_false, false_or, not_true_eq_false, reduceIte, ite_self, hc, hr6, hr8, ht4, hn4, h1, hz] <;> omega) | omega | decide | fail)) only [↓if_pos, ↓if_neg, ↓b24_0, ↓b24_10, ↓b24_16, ↓b24_26, ↓b24_41, ↓b24_48, ↓b24_55, ↓b24_68, ↓b24_75, ↓b24_86, ↓b24_99, ↓b24_109, ↓b24_119, ↓b24_120, ↓b24_145, ↓b24_152, ↓b24_156, ↓b24_160, ↓b24_166, ↓b24_173, ↓b24_177, ↓b24_181, ↓b24_188, ↓b24_192, ↓b24_193, ↓b24_203, ↓b24_207, ↓b24_208, ↓b24_211, ↓b24_217, ↓b24_225, ↓b24_229, ↓b24_230, v_rs, v_rn, v_pa, v_vc, v_vt, v_vl, v_ir, v_in, v_po, v_pn, v_re, v_rN, v_Nr, v_fe, v_fN, v_c1i, v_c1r, v_c1n, v_c1u, v_c1f, v_if, h_II, h_LL, h_RR, h_IL, h_IR, h_LI, h_LR, h_RI, h_RL, h_Ic, h_Lc, h_Rc, h_Id, h_Ld, h_Rd, h_cls_sI, h_cls_sL, h_cls_sR, h_cls_cI, h_cls_cL, h_tp_sI, h_tp_sL, h_tp_sR, h_tp_cI, h_tp_cL, h_ln_sI, h_ln_sL, h_ln_sR, h_ln_cI, h_ln_cL, v_if, j_ks, j_ke, t_addo, t_subo, t_mulo, t_of, t_divc, t_remc, t_em, Int.toNat_zero, j_ix, Int.toNat_natCast, t_addc, t_subc, t_mulc, t_bz0, t_bz1, Classical.not_not, not_false_eq_true, if_true, if_false, and_true, true_and, and_false, false_and, and_self, or_true, true_or, or_false, false_or, not_true_eq_false, reduceIte, ite_self, hc, hr6, hr8, ht4, hn4, h1, hz]
        rw [j_el, List.headD_cons]
        cases x
        · rw [if_pos (by decide)]; rfl
        · rw [if_neg (by decide)]; rfl
  | n + 1, p, k, l, D, x3, u6, u7, u8, u9, u10, u11, h1, h2, h3, h4, h5, h6, h7 => by
    obtain ⟨d1, d2, d3, d4⟩ := h3 0 (by omega)
    have s := h6 0 (by omega)
    simp only [Nat.add_zero] at d2 d3 d4 s
    rw [h4] at d1 d2 d3 d4
    have ih := fun (l' : List Bool) (x3 : Int64) (u6 u7 u8 u9 u10 u11 : Value) (h4' : D 1 = l'.length) (h7' : j_Fb x3 l') => k24l (Q := Q) (x1 := x1) (x2 := x2) (b := b) hc hr6 hr8 ht4 hn4 ht5 hn5 hv n (p + 1) (k + 1) l' (fun j => D (j + 1)) x3 u6 u7 u8 u9 u10 u11 (by omega) (by omega) (fun j hj => by have := h3 (j + 1) (by omega); rw [show k + (j + 1) = k + 1 + j by omega] at this; exact this) h4' h5 (fun j hj => by have := h6 (j + 1) (by omega); rw [show k + (j + 1) = k + 1 + j by omega, show p + (j + 1) = p + 1 + j by omega] at this; exact this) h7'
    rw [j_el]
    have s' := s
    rcases s with ⟨t0, s0⟩ | ⟨t0, s0⟩ | ⟨t0, s0⟩ | ⟨f, r, d, t1, t2, t3, t4, t5, t6, t0, s0⟩
    · cases l with
      | nil => have := d2 t0; simp at this
      | cons x r =>
        rw [List.length_cons] at d1
        have he : j_ep C g h F (j_I C 92 k).toInt (x :: r) = (!x) :: r := by unfold j_ep; rw [if_pos t0]
        rw [he]
        have := ih _ _ (.int (j_I H (e + 4) p)) u7 u8 u9 u10 u11 (by have t := (d2 t0).2; rw [List.length_cons] at t ⊢; simp only [Nat.zero_add] at t; omega) (f_not h7 (by omega))
        rw [b24_5]
        simp (disch := (first | assumption | exact n_N11 | exact n_R11 (by decide) | exact n_bz | (simp (disch := (first | assumption | omega | decide)) only [v_rs, v_rn, v_pa, v_vc, v_vt, v_vl, v_ir, v_in, v_po, v_pn, v_re, v_rN, v_Nr, v_fe, v_fN, v_c1i, v_c1r, v_c1n, v_c1u, v_c1f, v_if, h_II, h_LL, h_RR, h_IL, h_IR, h_LI, h_LR, h_RI, h_RL, h_Ic, h_Lc, h_Rc, h_Id, h_Ld, h_Rd, h_cls_sI, h_cls_sL, h_cls_sR, h_cls_cI, h_cls_cL, h_tp_sI, h_tp_sL, h_tp_sR, h_tp_cI, h_tp_cL, h_ln_sI, h_ln_sL, h_ln_sR, h_ln_cI, h_ln_cL, v_if, j_scr, j_Wd_I, j_Wd_L, t_addo, t_subo, t_mulo, t_of, t_divc, t_remc, t_em, Int.toNat_zero, j_ix, Int.toNat_natCast, t_addc, t_subc, t_mulc, t_bz0, t_bz1, Classical.not_not, not_false_eq_true, if_true, if_false, and_true, true_and, and_false, false_and, and_self, or_true, true_or, or_false, false_or, not_true_eq_false, reduceIte, ite_self, hc, hr6, hr8, ht4, hn4, h1, s0] <;> omega) | omega | decide | fail)) only [↓if_pos, ↓if_neg, ↓b24_0, ↓b24_10, ↓b24_16, ↓b24_26, ↓b24_41, ↓b24_48, ↓b24_55, ↓b24_68, ↓b24_75, ↓b24_86, ↓b24_99, ↓b24_109, ↓b24_119, ↓b24_120, ↓b24_145, ↓b24_152, ↓b24_156, ↓b24_160, ↓b24_166, ↓b24_173, ↓b24_177, ↓b24_181, ↓b24_188, ↓b24_192, ↓b24_193, ↓b24_203, ↓b24_207, ↓b24_208, ↓b24_211, ↓b24_217, ↓b24_225, ↓b24_229, ↓b24_230, v_rs, v_rn, v_pa, v_vc, v_vt, v_vl, v_ir, v_in, v_po, v_pn, v_re, v_rN, v_Nr, v_fe, v_fN, v_c1i, v_c1r, v_c1n, v_c1u, v_c1f, v_if, h_II, h_LL, h_RR, h_IL, h_IR, h_LI, h_LR, h_RI, h_RL, h_Ic, h_Lc, h_Rc, h_Id, h_Ld, h_Rd, h_cls_sI, h_cls_sL, h_cls_sR, h_cls_cI, h_cls_cL, h_tp_sI, h_tp_sL, h_tp_sR, h_tp_cI, h_tp_cL, h_ln_sI, h_ln_sL, h_ln_sR, h_ln_cI, h_ln_cL, v_if, j_ks, j_ke, t_addo, t_subo, t_mulo, t_of, t_divc, t_remc, t_em, Int.toNat_zero, j_ix, Int.toNat_natCast, t_addc, t_subc, t_mulc, t_bz0, t_bz1, Classical.not_not, not_false_eq_true, if_true, if_false, and_true, true_and, and_false, false_and, and_self, or_true, true_or, or_false, false_or, not_true_eq_false, reduceIte, ite_self, hc, hr6, hr8, ht4, hn4, h1, s0]
        exact this
    · cases l with
      | nil => have := d3 (by omega) (by omega); simp at this
      | cons x r =>
        cases r with
        | nil => have := d3 (by omega) (by omega); simp at this
        | cons y r =>
          rw [List.length_cons, List.length_cons] at d1
          have he : j_ep C g h F (j_I C 92 k).toInt (x :: y :: r) = (y && x) :: r := by unfold j_ep; rw [if_neg (by omega), if_pos t0]
          rw [he]
          have := ih _ _ (.int (j_I H (e + 4) p)) u7 u8 u9 u10 u11 (by have t := (d3 (by omega) (by omega)).2; rw [List.length_cons, List.length_cons] at t; rw [List.length_cons]; simp only [Nat.zero_add] at t; omega) (f_and h7 (by omega))
          rw [b24_5]
          simp (disch := (first | assumption | exact n_N11 | exact n_R11 (by decide) | exact n_bz | (simp (disch := (first | assumption | omega | decide)) only [v_rs, v_rn, v_pa, v_vc, v_vt, v_vl, v_ir, v_in, v_po, v_pn, v_re, v_rN, v_Nr, v_fe, v_fN, v_c1i, v_c1r, v_c1n, v_c1u, v_c1f, v_if, h_II, h_LL, h_RR, h_IL, h_IR, h_LI, h_LR, h_RI, h_RL, h_Ic, h_Lc, h_Rc, h_Id, h_Ld, h_Rd, h_cls_sI, h_cls_sL, h_cls_sR, h_cls_cI, h_cls_cL, h_tp_sI, h_tp_sL, h_tp_sR, h_tp_cI, h_tp_cL, h_ln_sI, h_ln_sL, h_ln_sR, h_ln_cI, h_ln_cL, v_if, j_scr, j_Wd_I, j_Wd_L, t_addo, t_subo, t_mulo, t_of, t_divc, t_remc, t_em, Int.toNat_zero, j_ix, Int.toNat_natCast, t_addc, t_subc, t_mulc, t_bz0, t_bz1, Classical.not_not, not_false_eq_true, if_true, if_false, and_true, true_and, and_false, false_and, and_self, or_true, true_or, or_false, false_or, not_true_eq_false, reduceIte, ite_self, hc, hr6, hr8, ht4, hn4, h1, s0] <;> omega) | omega | decide | fail)) only [↓if_pos, ↓if_neg, ↓b24_0, ↓b24_10, ↓b24_16, ↓b24_26, ↓b24_41, ↓b24_48, ↓b24_55, ↓b24_68, ↓b24_75, ↓b24_86, ↓b24_99, ↓b24_109, ↓b24_119, ↓b24_120, ↓b24_145, ↓b24_152, ↓b24_156, ↓b24_160, ↓b24_166, ↓b24_173, ↓b24_177, ↓b24_181, ↓b24_188, ↓b24_192, ↓b24_193, ↓b24_203, ↓b24_207, ↓b24_208, ↓b24_211, ↓b24_217, ↓b24_225, ↓b24_229, ↓b24_230, v_rs, v_rn, v_pa, v_vc, v_vt, v_vl, v_ir, v_in, v_po, v_pn, v_re, v_rN, v_Nr, v_fe, v_fN, v_c1i, v_c1r, v_c1n, v_c1u, v_c1f, v_if, h_II, h_LL, h_RR, h_IL, h_IR, h_LI, h_LR, h_RI, h_RL, h_Ic, h_Lc, h_Rc, h_Id, h_Ld, h_Rd, h_cls_sI, h_cls_sL, h_cls_sR, h_cls_cI, h_cls_cL, h_tp_sI, h_tp_sL, h_tp_sR, h_tp_cI, h_tp_cL, h_ln_sI, h_ln_sL, h_ln_sR, h_ln_cI, h_ln_cL, v_if, j_ks, j_ke, t_addo, t_subo, t_mulo, t_of, t_divc, t_remc, t_em, Int.toNat_zero, j_ix, Int.toNat_natCast, t_addc, t_subc, t_mulc, t_bz0, t_bz1, Classical.not_not, not_false_eq_true, if_true, if_false, and_true, true_and, and_false, false_and, and_self, or_true, true_or, or_false, false_or, not_true_eq_false, reduceIte, ite_self, hc, hr6, hr8, ht4, hn4, h1, s0]
          exact this
    · cases l with
      | nil => have := d3 (by omega) (by omega); simp at this
      | cons x r =>
        cases r with
        | nil => have := d3 (by omega) (by omega); simp at this
        | cons y r =>
          rw [List.length_cons, List.length_cons] at d1
          have he : j_ep C g h F (j_I C 92 k).toInt (x :: y :: r) = (y || x) :: r := by unfold j_ep; rw [if_neg (by omega), if_neg (by omega), if_pos (by omega)]
          rw [he]
          have := ih _ _ (.int (j_I H (e + 4) p)) u7 u8 u9 u10 u11 (by have t := (d3 (by omega) (by omega)).2; rw [List.length_cons, List.length_cons] at t; rw [List.length_cons]; simp only [Nat.zero_add] at t; omega) (f_or h7 (by omega))
          rw [b24_5]
          simp (disch := (first | assumption | exact n_N11 | exact n_R11 (by decide) | exact n_bz | (simp (disch := (first | assumption | omega | decide)) only [v_rs, v_rn, v_pa, v_vc, v_vt, v_vl, v_ir, v_in, v_po, v_pn, v_re, v_rN, v_Nr, v_fe, v_fN, v_c1i, v_c1r, v_c1n, v_c1u, v_c1f, v_if, h_II, h_LL, h_RR, h_IL, h_IR, h_LI, h_LR, h_RI, h_RL, h_Ic, h_Lc, h_Rc, h_Id, h_Ld, h_Rd, h_cls_sI, h_cls_sL, h_cls_sR, h_cls_cI, h_cls_cL, h_tp_sI, h_tp_sL, h_tp_sR, h_tp_cI, h_tp_cL, h_ln_sI, h_ln_sL, h_ln_sR, h_ln_cI, h_ln_cL, v_if, j_scr, j_Wd_I, j_Wd_L, t_addo, t_subo, t_mulo, t_of, t_divc, t_remc, t_em, Int.toNat_zero, j_ix, Int.toNat_natCast, t_addc, t_subc, t_mulc, t_bz0, t_bz1, Classical.not_not, not_false_eq_true, if_true, if_false, and_true, true_and, and_false, false_and, and_self, or_true, true_or, or_false, false_or, not_true_eq_false, reduceIte, ite_self, hc, hr6, hr8, ht4, hn4, h1, s0] <;> omega) | omega | decide | fail)) only [↓if_pos, ↓if_neg, ↓b24_0, ↓b24_10, ↓b24_16, ↓b24_26, ↓b24_41, ↓b24_48, ↓b24_55, ↓b24_68, ↓b24_75, ↓b24_86, ↓b24_99, ↓b24_109, ↓b24_119, ↓b24_120, ↓b24_145, ↓b24_152, ↓b24_156, ↓b24_160, ↓b24_166, ↓b24_173, ↓b24_177, ↓b24_181, ↓b24_188, ↓b24_192, ↓b24_193, ↓b24_203, ↓b24_207, ↓b24_208, ↓b24_211, ↓b24_217, ↓b24_225, ↓b24_229, ↓b24_230, v_rs, v_rn, v_pa, v_vc, v_vt, v_vl, v_ir, v_in, v_po, v_pn, v_re, v_rN, v_Nr, v_fe, v_fN, v_c1i, v_c1r, v_c1n, v_c1u, v_c1f, v_if, h_II, h_LL, h_RR, h_IL, h_IR, h_LI, h_LR, h_RI, h_RL, h_Ic, h_Lc, h_Rc, h_Id, h_Ld, h_Rd, h_cls_sI, h_cls_sL, h_cls_sR, h_cls_cI, h_cls_cL, h_tp_sI, h_tp_sL, h_tp_sR, h_tp_cI, h_tp_cL, h_ln_sI, h_ln_sL, h_ln_sR, h_ln_cI, h_ln_cL, v_if, j_ks, j_ke, t_addo, t_subo, t_mulo, t_of, t_divc, t_remc, t_em, Int.toNat_zero, j_ix, Int.toNat_natCast, t_addc, t_subc, t_mulc, t_bz0, t_bz1, Classical.not_not, not_false_eq_true, if_true, if_false, and_true, true_and, and_false, false_and, and_self, or_true, true_or, or_false, false_or, not_true_eq_false, reduceIte, ite_self, hc, hr6, hr8, ht4, hn4, h1, s0]
          exact this
    · have ht : 0 ≤ (j_I C 92 k).toInt := by omega
      obtain ⟨q1, q2, q3, q4, q5, q6, q7⟩ := j_sgD s' ht
      have hv' := hv ((j_I C 92 k).toInt / 1000).toNat (by omega)
      rw [show (((j_I C 92 k).toInt / 1000).toNat : Int) = (j_I C 92 k).toInt / 1000 by omega] at hv'
      rw [j_epP ht]
      obtain ⟨z, hz⟩ : ∃ z, decide (((j_I C 92 k).toInt / 100 % 10 = 0 ∧ j_fo C g h F ((j_I C 92 k).toInt / 1000) < (j_I C 92 k).toInt % 100) ∨ ((j_I C 92 k).toInt / 100 % 10 = 1 ∧ j_fo C g h F ((j_I C 92 k).toInt / 1000) = (j_I C 92 k).toInt % 100) ∨ (¬ (j_I C 92 k).toInt / 100 % 10 = 0 ∧ ¬ (j_I C 92 k).toInt / 100 % 10 = 1 ∧ (j_I C 92 k).toInt % 100 < j_fo C g h F ((j_I C 92 k).toInt / 1000))) = z := ⟨_, rfl⟩
      rw [hz]
      have r1 : (j_I H (e + 4) p / Int32.ofInt 300).toInt = (j_I C 92 k).toInt / 1000 := (t_divc q4 (by omega) (by omega)).trans q1
      have r2 : (j_rem (j_I H (e + 4) p) (Int32.ofInt 300)).toInt = (j_I H (e + 4) p).toInt % 300 := t_remc q4 (by omega) (by omega)
      have r3 : (j_rem (j_I H (e + 4) p) (Int32.ofInt 300) / Int32.ofInt 100).toInt = (j_I C 92 k).toInt / 100 % 10 := by
        rw [t_divc (by omega) (by omega) (by omega), r2]; exact q2
      have r4 : (j_rem (j_I H (e + 4) p) (Int32.ofInt 100)).toInt = (j_I C 92 k).toInt % 100 := (t_remc q4 (by omega) (by omega)).trans q3
      rw [k24t (i := (j_I C 92 k).toInt / 1000) hc hr6 hr8 ht4 hn4 ht5 hn5 rfl q4 h1 (by omega) (by omega) r1 q6 q7 r3 r4 hv' hz]
      exact ih (z :: l) _ _ _ _ _ _ _ (by have t := d4 ht; rw [List.length_cons]; simp only [Nat.zero_add] at t; omega) (f_tst h7 (by omega) rfl)
