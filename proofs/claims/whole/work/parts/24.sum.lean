/-! THE CLASS: the sum of a house -/
theorem j_scr_r {r : Nat} (h : 115 ≤ r) (k : Nat) : j_scr r k = false := by
  unfold j_scr; split <;> first | rfl | omega
theorem j_scr_H {f : Nat} (hf : f < 6) (k : Nat) : (k < 9 → j_scr (24 + 6 * f) k = false) ∧ j_scr (24 + 6 * f + 1) k = false ∧ j_scr (24 + 6 * f + 2) k = false ∧ j_scr (24 + 6 * f + 3) k = false ∧ j_scr (24 + 6 * f + 4) k = false ∧ j_scr (24 + 6 * f + 5) k = true ∧ j_sv (24 + 6 * f + 5) k = true := by
  refine ⟨fun hk => ?_, ?_⟩
  · match f, hf with
    | 0, _ => exact (show ∀ q : Fin 9, j_scr (24 + 6 * 0) q.val = false by decide) ⟨k, hk⟩
    | 1, _ => exact (show ∀ q : Fin 9, j_scr (24 + 6 * 1) q.val = false by decide) ⟨k, hk⟩
    | 2, _ => exact (show ∀ q : Fin 9, j_scr (24 + 6 * 2) q.val = false by decide) ⟨k, hk⟩
    | 3, _ => exact (show ∀ q : Fin 9, j_scr (24 + 6 * 3) q.val = false by decide) ⟨k, hk⟩
    | 4, _ => exact (show ∀ q : Fin 9, j_scr (24 + 6 * 4) q.val = false by decide) ⟨k, hk⟩
    | 5, _ => exact (show ∀ q : Fin 9, j_scr (24 + 6 * 5) q.val = false by decide) ⟨k, hk⟩
  · match f, hf with
    | 0, _ => exact ⟨rfl, rfl, rfl, rfl, rfl, rfl⟩
    | 1, _ => exact ⟨rfl, rfl, rfl, rfl, rfl, rfl⟩
    | 2, _ => exact ⟨rfl, rfl, rfl, rfl, rfl, rfl⟩
    | 3, _ => exact ⟨rfl, rfl, rfl, rfl, rfl, rfl⟩
    | 4, _ => exact ⟨rfl, rfl, rfl, rfl, rfl, rfl⟩
    | 5, _ => exact ⟨rfl, rfl, rfl, rfl, rfl, rfl⟩
/-- the shape of a house -/
theorem j_Wd_H {C : j_H} (hW : j_Wd C) {f : Nat} (hf : f < 6) : j_R C 23 f = some (24 + 6 * f) ∧ j_cls C (24 + 6 * f) = 3 ∧ j_R C (24 + 6 * f) 2 = some (24 + 6 * f + 1) ∧ j_R C (24 + 6 * f) 3 = some (24 + 6 * f + 2) ∧ j_R C (24 + 6 * f) 4 = some (24 + 6 * f + 3) ∧ j_R C (24 + 6 * f) 6 = some (24 + 6 * f + 4) ∧ j_R C (24 + 6 * f) 8 = some (24 + 6 * f + 5) ∧ j_tp C (24 + 6 * f + 1) = 0 ∧ j_ln C (24 + 6 * f + 1) = 10 ∧ j_tp C (24 + 6 * f + 2) = 0 ∧ j_ln C (24 + 6 * f + 2) = 10 ∧ j_tp C (24 + 6 * f + 3) = 0 ∧ j_ln C (24 + 6 * f + 3) = 10 ∧ j_tp C (24 + 6 * f + 4) = 0 ∧ j_ln C (24 + 6 * f + 4) = 100 ∧ j_tp C (24 + 6 * f + 5) = 0 ∧ j_ln C (24 + 6 * f + 5) = 6 := by
  match f, hf with
  | 0, _ => exact ⟨w_r23_0 hW, w_c24 hW, w_r24_2 hW, w_r24_3 hW, w_r24_4 hW, w_r24_6 hW, w_r24_8 hW, w_t25 hW, w_n25 hW, w_t26 hW, w_n26 hW, w_t27 hW, w_n27 hW, w_t28 hW, w_n28 hW, w_t29 hW, w_n29 hW⟩
  | 1, _ => exact ⟨w_r23_1 hW, w_c30 hW, w_r30_2 hW, w_r30_3 hW, w_r30_4 hW, w_r30_6 hW, w_r30_8 hW, w_t31 hW, w_n31 hW, w_t32 hW, w_n32 hW, w_t33 hW, w_n33 hW, w_t34 hW, w_n34 hW, w_t35 hW, w_n35 hW⟩
  | 2, _ => exact ⟨w_r23_2 hW, w_c36 hW, w_r36_2 hW, w_r36_3 hW, w_r36_4 hW, w_r36_6 hW, w_r36_8 hW, w_t37 hW, w_n37 hW, w_t38 hW, w_n38 hW, w_t39 hW, w_n39 hW, w_t40 hW, w_n40 hW, w_t41 hW, w_n41 hW⟩
  | 3, _ => exact ⟨w_r23_3 hW, w_c42 hW, w_r42_2 hW, w_r42_3 hW, w_r42_4 hW, w_r42_6 hW, w_r42_8 hW, w_t43 hW, w_n43 hW, w_t44 hW, w_n44 hW, w_t45 hW, w_n45 hW, w_t46 hW, w_n46 hW, w_t47 hW, w_n47 hW⟩
  | 4, _ => exact ⟨w_r23_4 hW, w_c48 hW, w_r48_2 hW, w_r48_3 hW, w_r48_4 hW, w_r48_6 hW, w_r48_8 hW, w_t49 hW, w_n49 hW, w_t50 hW, w_n50 hW, w_t51 hW, w_n51 hW, w_t52 hW, w_n52 hW, w_t53 hW, w_n53 hW⟩
  | 5, _ => exact ⟨w_r23_5 hW, w_c54 hW, w_r54_2 hW, w_r54_3 hW, w_r54_4 hW, w_r54_6 hW, w_r54_8 hW, w_t55 hW, w_n55 hW, w_t56 hW, w_n56 hW, w_t57 hW, w_n57 hW, w_t58 hW, w_n58 hW, w_t59 hW, w_n59 hW⟩
theorem j_Hc_m {C : j_H} {f cn : Nat} {e p : Nat → Nat} (h : ∀ c, c < cn → j_Hc C f e p c) : ∀ c, c ≤ cn → e c ≤ e cn ∧ p c ≤ p cn ∧ e c ≤ e 0 + c := by
  have up : ∀ d, d ≤ cn → e (cn - d) ≤ e cn ∧ p (cn - d) ≤ p cn := by
    intro d
    induction d with
    | zero => intro _; exact ⟨Nat.le_refl _, Nat.le_refl _⟩
    | succ d ih =>
      intro hd
      obtain ⟨i1, i2⟩ := ih (by omega)
      have hs := h (cn - (d + 1)) (by omega)
      obtain ⟨-, -, s3, s4⟩ := hs
      rw [show cn - (d + 1) + 1 = cn - d by omega] at s3 s4
      rcases s4 with ⟨-, s5, -⟩ | ⟨-, s5, -⟩ <;> omega
  have dn : ∀ c, c ≤ cn → e c ≤ e 0 + c := by
    intro c
    induction c with
    | zero => intro _; omega
    | succ c ih =>
      intro hc
      have := ih (by omega)
      obtain ⟨-, -, -, s4⟩ := h c (by omega)
      rcases s4 with ⟨-, s5, -⟩ | ⟨-, s5, -⟩ <;> omega
  intro c hc
  have := up (cn - c) (by omega)
  rw [show cn - (cn - c) = c by omega] at this
  exact ⟨this.1, this.2, dn c hc⟩
theorem k23l {b : Nat} {H C : j_H} {f r cn : Nat} {e p : Nat → Nat} {w hr so : Int32} {g F : Int} {Q : Option Value → j_H → Prop} (hC : j_co H = C) (hW : j_Wd C) (hf : f < 6) (he0 : e 0 = 0) (hp0 : p 0 = 0) (hcn : cn ≤ 10) (hw : w.toInt = 0 ∨ w.toInt = 1) (hcl : (j_I C (24 + 6 * f) 5).toInt = (e cn : Int)) (hp100 : p cn ≤ 100) (hH : ∀ c, c < cn → j_Hc C f e p c) (hS : ∀ j, j < p cn → j_sg (j_I C (28 + 6 * f) j).toInt (j_I C 92 (100 * f + j)).toInt) (hv : ∀ i : Nat, i < 6 → (j_I H (24 + 6 * f + 5) i).toInt = j_fo C g hr.toInt F i) : ∀ (n c : Nat) (a : Int), c + n = cn → j_wp (b + 1) 23 67 [.ref (24 + 6 * f), .int w, .ref r, .int hr, .int so, .int (Int32.ofInt a), .int (Int32.ofInt (p c)), .int (Int32.ofInt (e c))] [] H Q = Q (some (.int (Int32.ofInt (j_su C w.toInt g hr.toInt F (10 * f + c) n a)))) H
  | 0, c, a, hn => by
    obtain ⟨y1, y2, y3, y4, y5, y6, y7, y8⟩ := j_Wd_H hW hf
    have s5 := (j_scr_H hf 5).1 (by omega)
    have hm := j_Hc_m hH c (by omega)
    have hcc : c = cn := by omega
    subst hcc
    rw [b23_67 (by simp only [v_vc, rd_cls hC, y2])]
    simp (disch := (first | assumption | exact n_N11 | exact n_R11 (by decide) | exact n_bz | (simp (disch := (first | assumption | omega | decide)) only [v_rs, v_rn, v_pa, v_vc, v_vt, v_vl, v_ir, v_in, v_po, v_pn, v_re, v_rN, v_Nr, v_fe, v_fN, v_c1i, v_c1r, v_c1n, v_c1u, v_c1f, v_if, h_II, h_LL, h_RR, h_IL, h_IR, h_LI, h_LR, h_RI, h_RL, h_Ic, h_Lc, h_Rc, h_Id, h_Ld, h_Rd, h_cls_sI, h_cls_sL, h_cls_sR, h_cls_cI, h_cls_cL, h_tp_sI, h_tp_sL, h_tp_sR, h_tp_cI, h_tp_cL, h_ln_sI, h_ln_sL, h_ln_sR, h_ln_cI, h_ln_cL, v_if, j_scr, j_Wd_I, j_Wd_L, t_addo, t_subo, t_mulo, t_of, t_divc, t_remc, t_em, Int.toNat_zero, j_ix, Int.toNat_natCast, t_addc, t_subc, t_mulc, t_bz0, t_bz1, Classical.not_not, not_false_eq_true, if_true, if_false, and_true, true_and, and_false, false_and, and_self, or_true, true_or, or_false, false_or, not_true_eq_false, reduceIte, ite_self, rd_I hC, s5, hcl] <;> omega) | omega | decide | fail)) only [↓if_pos, ↓if_neg, ↓b23_0, ↓b23_10, ↓b23_20, ↓b23_30, ↓b23_40, ↓b23_50, ↓b23_58, ↓b23_76, ↓b23_83, ↓b23_94, ↓b23_107, ↓b23_110, ↓b23_122, ↓b23_137, v_rs, v_rn, v_pa, v_vc, v_vt, v_vl, v_ir, v_in, v_po, v_pn, v_re, v_rN, v_Nr, v_fe, v_fN, v_c1i, v_c1r, v_c1n, v_c1u, v_c1f, v_if, h_II, h_LL, h_RR, h_IL, h_IR, h_LI, h_LR, h_RI, h_RL, h_Ic, h_Lc, h_Rc, h_Id, h_Ld, h_Rd, h_cls_sI, h_cls_sL, h_cls_sR, h_cls_cI, h_cls_cL, h_tp_sI, h_tp_sL, h_tp_sR, h_tp_cI, h_tp_cL, h_ln_sI, h_ln_sL, h_ln_sR, h_ln_cI, h_ln_cL, v_if, j_ks, j_ke, t_addo, t_subo, t_mulo, t_of, t_divc, t_remc, t_em, Int.toNat_zero, j_ix, Int.toNat_natCast, t_addc, t_subc, t_mulc, t_bz0, t_bz1, Classical.not_not, not_false_eq_true, if_true, if_false, and_true, true_and, and_false, false_and, and_self, or_true, true_or, or_false, false_or, not_true_eq_false, reduceIte, ite_self, rd_I hC, s5, hcl]
    rw [j_su]
  | n + 1, c, a, hn => by
    obtain ⟨y1, y2, y3, y4, y5, y6, y7, y8, y9, y10, y11, y12, y13, y14, y15, y16, y17⟩ := j_Wd_H hW hf
    have s0 := fun k hk => (j_scr_H hf k).1 hk
    have s5 := s0 5 (by omega)
    have s2 := s0 2 (by omega)
    have s3 := s0 3 (by omega)
    have s4 := s0 4 (by omega)
    have s6 := s0 6 (by omega)
    have s8 := s0 8 (by omega)
    have sA := fun k => (j_scr_H hf k).2.1
    have sB := fun k => (j_scr_H hf k).2.2.1
    have sC := fun k => (j_scr_H hf k).2.2.2.1
    have sD := fun k => (j_scr_H hf k).2.2.2.2.1
    have hm := j_Hc_m hH c (by omega)
    have hm2 := j_Hc_m hH (c + 1) (by omega)
    have ih := fun a => k23l (b := b) (Q := Q) (r := r) (so := so) hC hW hf he0 hp0 hcn hw hcl hp100 hH hS hv n (c + 1) a (by omega)
    obtain ⟨q1, q2, q3, q4⟩ := hH c (by omega)
    rw [j_su]
    rcases q4 with ⟨q4, q5, q6⟩ | ⟨q4, q5, q6, q7, q8, q9, q10, D, q11, q12, q13⟩
    · rw [if_neg (by rintro ⟨h', -⟩; omega)]
      have := ih a
      rw [q5, q6] at this
      exact this
    · rw [show 25 + 6 * f = 24 + 6 * f + 1 by omega] at q6
      rw [show 26 + 6 * f = 24 + 6 * f + 2 by omega] at q7
      rw [show 27 + 6 * f = 24 + 6 * f + 3 by omega] at q8
      have ih1 := ih a
      have ih2 := ih (a + (j_I C 89 (10 * f + c)).toInt)
      rw [q5] at ih1 ih2
      rw [← t_addo, t_un] at ih2
      have hk : ∀ Q, j_wp b 24 0 [.ref (24 + 6 * f), .int (Int32.ofInt (p c)), .int (Int32.ofInt (p (c + 1))), j_u, j_u, j_u, j_u, j_u, j_u, j_u, j_u, j_u] [] H Q = Q (some (.int (j_bz (j_ho C (10 * f + c) g hr.toInt F = true)))) H := by
        intro Q
        have hz : (((p (c + 1) : Nat) : Int)) = ((p c + (p (c + 1) - p c) : Nat) : Int) := by omega
        have := k24l (b := b) (H := H) (C := C) (e := 24 + 6 * f) (x1 := Int32.ofInt (p c)) (x2 := Int32.ofInt (p (c + 1))) (g := g) (h := hr.toInt) (F := F) (Q := Q) ((rd_cls hC).trans y2) ((rd_R hC s6).trans y6) ((rd_R hC s8).trans y7) ((rd_tp hC).trans y14) ((rd_ln hC).trans y15) ((rd_tp hC).trans y16) ((rd_ln hC).trans y17) hv (p (c + 1) - p c) (p c) (100 * f + p c) [] D (Int64.ofInt 0) j_u j_u j_u j_u j_u j_u (by rw [t_of (by omega) (by omega)]; exact hz) (by omega) q13 q11 q12 (fun j hj => by
          have := hS (p c + j) (by omega)
          rw [show 28 + 6 * f = 24 + 6 * f + 4 by omega, ← Nat.add_assoc] at this
          rw [rd_I hC (sD _)]
          exact this) (fun i hi => absurd hi (Nat.not_lt_zero _))
        rw [b24_0, this]
        unfold j_ho
        rw [q9, q10, show (100 * (f : Int) + (p c : Int)).toNat = 100 * f + p c by omega, show (100 * (f : Int) + (p (c + 1) : Int)).toNat - (100 * f + p c) = p (c + 1) - p c by omega]
      rw [b23_67 (by simp only [v_vc, rd_cls hC, y2])]
      by_cases hq : (j_I C 88 (10 * f + c)).toInt = w.toInt
      · by_cases ho : j_ho C (10 * f + c) g hr.toInt F = true
        · simp only [if_pos (show (j_I C 88 (10 * f + c)).toInt = w.toInt ∧ j_ho C (10 * f + c) g hr.toInt F = true from ⟨hq, ho⟩)]
          simp (disch := (first | assumption | exact n_N11 | exact n_R11 (by decide) | exact n_bz | (simp (disch := (first | assumption | omega | decide)) only [v_rs, v_rn, v_pa, v_vc, v_vt, v_vl, v_ir, v_in, v_po, v_pn, v_re, v_rN, v_Nr, v_fe, v_fN, v_c1i, v_c1r, v_c1n, v_c1u, v_c1f, v_if, h_II, h_LL, h_RR, h_IL, h_IR, h_LI, h_LR, h_RI, h_RL, h_Ic, h_Lc, h_Rc, h_Id, h_Ld, h_Rd, h_cls_sI, h_cls_sL, h_cls_sR, h_cls_cI, h_cls_cL, h_tp_sI, h_tp_sL, h_tp_sR, h_tp_cI, h_tp_cL, h_ln_sI, h_ln_sL, h_ln_sR, h_ln_cI, h_ln_cL, v_if, j_scr, j_Wd_I, j_Wd_L, t_addo, t_subo, t_mulo, t_of, t_divc, t_remc, t_em, Int.toNat_zero, j_ix, Int.toNat_natCast, t_addc, t_subc, t_mulc, t_bz0, t_bz1, Classical.not_not, not_false_eq_true, if_true, if_false, and_true, true_and, and_false, false_and, and_self, or_true, true_or, or_false, false_or, not_true_eq_false, reduceIte, ite_self, rd_I hC, rd_R hC, rd_tp hC, rd_ln hC, rd_cls hC, y2, y3, y4, y5, y8, y9, y10, y11, y12, y13, s2, s3, s4, s5, sA, sB, sC, hcl, q6, q7, t_eqo q8, hq, hk, ho] <;> omega) | omega | decide | fail)) only [↓if_pos, ↓if_neg, ↓b23_0, ↓b23_10, ↓b23_20, ↓b23_30, ↓b23_40, ↓b23_50, ↓b23_58, ↓b23_76, ↓b23_83, ↓b23_94, ↓b23_107, ↓b23_110, ↓b23_122, ↓b23_137, v_rs, v_rn, v_pa, v_vc, v_vt, v_vl, v_ir, v_in, v_po, v_pn, v_re, v_rN, v_Nr, v_fe, v_fN, v_c1i, v_c1r, v_c1n, v_c1u, v_c1f, v_if, h_II, h_LL, h_RR, h_IL, h_IR, h_LI, h_LR, h_RI, h_RL, h_Ic, h_Lc, h_Rc, h_Id, h_Ld, h_Rd, h_cls_sI, h_cls_sL, h_cls_sR, h_cls_cI, h_cls_cL, h_tp_sI, h_tp_sL, h_tp_sR, h_tp_cI, h_tp_cL, h_ln_sI, h_ln_sL, h_ln_sR, h_ln_cI, h_ln_cL, v_if, j_ks, j_ke, t_addo, t_subo, t_mulo, t_of, t_divc, t_remc, t_em, Int.toNat_zero, j_ix, Int.toNat_natCast, t_addc, t_subc, t_mulc, t_bz0, t_bz1, Classical.not_not, not_false_eq_true, if_true, if_false, and_true, true_and, and_false, false_and, and_self, or_true, true_or, or_false, false_or, not_true_eq_false, reduceIte, ite_self, rd_I hC, rd_R hC, rd_tp hC, rd_ln hC, rd_cls hC, y2, y3, y4, y5, y8, y9, y10, y11, y12, y13, s2, s3, s4, s5, sA, sB, sC, hcl, q6, q7, t_eqo q8, hq, hk, ho]
          exact ih2
        · simp only [if_neg (show ¬ ((j_I C 88 (10 * f + c)).toInt = w.toInt ∧ j_ho C (10 * f + c) g hr.toInt F = true) from fun h' => ho h'.2)]
          simp (disch := (first | assumption | exact n_N11 | exact n_R11 (by decide) | exact n_bz | (simp (disch := (first | assumption | omega | decide)) only [v_rs, v_rn, v_pa, v_vc, v_vt, v_vl, v_ir, v_in, v_po, v_pn, v_re, v_rN, v_Nr, v_fe, v_fN, v_c1i, v_c1r, v_c1n, v_c1u, v_c1f, v_if, h_II, h_LL, h_RR, h_IL, h_IR, h_LI, h_LR, h_RI, h_RL, h_Ic, h_Lc, h_Rc, h_Id, h_Ld, h_Rd, h_cls_sI, h_cls_sL, h_cls_sR, h_cls_cI, h_cls_cL, h_tp_sI, h_tp_sL, h_tp_sR, h_tp_cI, h_tp_cL, h_ln_sI, h_ln_sL, h_ln_sR, h_ln_cI, h_ln_cL, v_if, j_scr, j_Wd_I, j_Wd_L, t_addo, t_subo, t_mulo, t_of, t_divc, t_remc, t_em, Int.toNat_zero, j_ix, Int.toNat_natCast, t_addc, t_subc, t_mulc, t_bz0, t_bz1, Classical.not_not, not_false_eq_true, if_true, if_false, and_true, true_and, and_false, false_and, and_self, or_true, true_or, or_false, false_or, not_true_eq_false, reduceIte, ite_self, rd_I hC, rd_R hC, rd_tp hC, rd_ln hC, rd_cls hC, y2, y3, y4, y5, y8, y9, y10, y11, y12, y13, s2, s3, s4, s5, sA, sB, sC, hcl, q6, q7, t_eqo q8, hq, hk, ho] <;> omega) | omega | decide | fail)) only [↓if_pos, ↓if_neg, ↓b23_0, ↓b23_10, ↓b23_20, ↓b23_30, ↓b23_40, ↓b23_50, ↓b23_58, ↓b23_76, ↓b23_83, ↓b23_94, ↓b23_107, ↓b23_110, ↓b23_122, ↓b23_137, v_rs, v_rn, v_pa, v_vc, v_vt, v_vl, v_ir, v_in, v_po, v_pn, v_re, v_rN, v_Nr, v_fe, v_fN, v_c1i, v_c1r, v_c1n, v_c1u, v_c1f, v_if, h_II, h_LL, h_RR, h_IL, h_IR, h_LI, h_LR, h_RI, h_RL, h_Ic, h_Lc, h_Rc, h_Id, h_Ld, h_Rd, h_cls_sI, h_cls_sL, h_cls_sR, h_cls_cI, h_cls_cL, h_tp_sI, h_tp_sL, h_tp_sR, h_tp_cI, h_tp_cL, h_ln_sI, h_ln_sL, h_ln_sR, h_ln_cI, h_ln_cL, v_if, j_ks, j_ke, t_addo, t_subo, t_mulo, t_of, t_divc, t_remc, t_em, Int.toNat_zero, j_ix, Int.toNat_natCast, t_addc, t_subc, t_mulc, t_bz0, t_bz1, Classical.not_not, not_false_eq_true, if_true, if_false, and_true, true_and, and_false, false_and, and_self, or_true, true_or, or_false, false_or, not_true_eq_false, reduceIte, ite_self, rd_I hC, rd_R hC, rd_tp hC, rd_ln hC, rd_cls hC, y2, y3, y4, y5, y8, y9, y10, y11, y12, y13, s2, s3, s4, s5, sA, sB, sC, hcl, q6, q7, t_eqo q8, hq, hk, ho]
          exact ih1
      · simp only [if_neg (show ¬ ((j_I C 88 (10 * f + c)).toInt = w.toInt ∧ j_ho C (10 * f + c) g hr.toInt F = true) from fun h' => hq h'.1)]
        simp (disch := (first | assumption | exact n_N11 | exact n_R11 (by decide) | exact n_bz | (simp (disch := (first | assumption | omega | decide)) only [v_rs, v_rn, v_pa, v_vc, v_vt, v_vl, v_ir, v_in, v_po, v_pn, v_re, v_rN, v_Nr, v_fe, v_fN, v_c1i, v_c1r, v_c1n, v_c1u, v_c1f, v_if, h_II, h_LL, h_RR, h_IL, h_IR, h_LI, h_LR, h_RI, h_RL, h_Ic, h_Lc, h_Rc, h_Id, h_Ld, h_Rd, h_cls_sI, h_cls_sL, h_cls_sR, h_cls_cI, h_cls_cL, h_tp_sI, h_tp_sL, h_tp_sR, h_tp_cI, h_tp_cL, h_ln_sI, h_ln_sL, h_ln_sR, h_ln_cI, h_ln_cL, v_if, j_scr, j_Wd_I, j_Wd_L, t_addo, t_subo, t_mulo, t_of, t_divc, t_remc, t_em, Int.toNat_zero, j_ix, Int.toNat_natCast, t_addc, t_subc, t_mulc, t_bz0, t_bz1, Classical.not_not, not_false_eq_true, if_true, if_false, and_true, true_and, and_false, false_and, and_self, or_true, true_or, or_false, false_or, not_true_eq_false, reduceIte, ite_self, rd_I hC, rd_R hC, rd_tp hC, rd_ln hC, rd_cls hC, y2, y3, y4, y5, y8, y9, y10, y11, y12, y13, s2, s3, s4, s5, sA, sB, sC, hcl, q6, q7, t_eqo q8, hq] <;> omega) | omega | decide | fail)) only [↓if_pos, ↓if_neg, ↓b23_0, ↓b23_10, ↓b23_20, ↓b23_30, ↓b23_40, ↓b23_50, ↓b23_58, ↓b23_76, ↓b23_83, ↓b23_94, ↓b23_107, ↓b23_110, ↓b23_122, ↓b23_137, v_rs, v_rn, v_pa, v_vc, v_vt, v_vl, v_ir, v_in, v_po, v_pn, v_re, v_rN, v_Nr, v_fe, v_fN, v_c1i, v_c1r, v_c1n, v_c1u, v_c1f, v_if, h_II, h_LL, h_RR, h_IL, h_IR, h_LI, h_LR, h_RI, h_RL, h_Ic, h_Lc, h_Rc, h_Id, h_Ld, h_Rd, h_cls_sI, h_cls_sL, h_cls_sR, h_cls_cI, h_cls_cL, h_tp_sI, h_tp_sL, h_tp_sR, h_tp_cI, h_tp_cL, h_ln_sI, h_ln_sL, h_ln_sR, h_ln_cI, h_ln_cL, v_if, j_ks, j_ke, t_addo, t_subo, t_mulo, t_of, t_divc, t_remc, t_em, Int.toNat_zero, j_ix, Int.toNat_natCast, t_addc, t_subc, t_mulc, t_bz0, t_bz1, Classical.not_not, not_false_eq_true, if_true, if_false, and_true, true_and, and_false, false_and, and_self, or_true, true_or, or_false, false_or, not_true_eq_false, reduceIte, ite_self, rd_I hC, rd_R hC, rd_tp hC, rd_ln hC, rd_cls hC, y2, y3, y4, y5, y8, y9, y10, y11, y12, y13, s2, s3, s4, s5, sA, sB, sC, hcl, q6, q7, t_eqo q8, hq]
        exact ih1
/-- a guest's object -/
def j_Gs (C : j_H) (r : Nat) (g : Int) : Prop := 115 ≤ r ∧ j_cls C r = j_gc (j_kd C g) ∧ (j_I C r 0).toInt = j_kd C g ∧ (j_I C r 1).toInt = g ∧ (j_I C r 2).toInt = (j_I C 83 g.toNat).toInt ∧ j_I C r 3 = j_I C 84 g.toNat ∧ (j_I C r 4).toInt = j_pop (j_I C 84 g.toNat).toInt ∧ 0 ≤ j_kd C g ∧ j_kd C g ≤ 6 ∧ 0 ≤ g ∧ g < j_n C ∧ 0 ≤ (j_I C 84 g.toNat).toInt ∧ (j_I C 84 g.toNat).toInt ≤ 255
theorem j_gc_g (k : Int) : [1, 2, 4, 5, 6, 7, 9].contains (j_gc k) = true := by
  unfold j_gc; (repeat' split) <;> rfl
theorem k23 {b : Nat} {H C : j_H} {f r : Nat} {w hr so : Int32} {g F : Int} {Q : Option Value → j_H → Prop} (hC : j_co H = C) (hW : j_Wd C) (hf : f < 6) (hH : j_Ho C f) (hG : j_Gs C r g) (hw : w.toInt = 0 ∨ w.toInt = 1) (hh : 0 ≤ hr.toInt) (hso : so.toInt = j_pop F) : j_wp (b + 1) 23 0 [.ref (24 + 6 * f), .int w, .ref r, .int hr, .int so, j_u, j_u, j_u] [] H Q = Q (some (.int (Int32.ofInt (j_su C w.toInt g hr.toInt F (10 * f) (j_cn2 C f) 0)))) (j_px j_sv (b + 1) 23 [.ref (24 + 6 * f), .int w, .ref r, .int hr, .int so, j_u, j_u, j_u] H) := by
  obtain ⟨y1, y2, y3, y4, y5, y6, y7, y8, y9, y10, y11, y12, y13, y14, y15, y16, y17⟩ := j_Wd_H hW hf
  have s8 := (j_scr_H hf 8).1 (by omega)
  have s5 := (j_scr_H hf 5).1 (by omega)
  have sE := fun k => (j_scr_H hf k).2.2.2.2.2.1
  have sF := fun k => (j_scr_H hf k).2.2.2.2.2.2
  obtain ⟨g1, g2, g3, g4, g5, g6, g7, g8, g9, g10, g11, -⟩ := hG
  have sr := j_scr_r g1
  have gc := j_gc_g (j_kd C g)
  obtain ⟨o1, o2, -, -, e, p, o3, o4, o5, o6, o7, o8⟩ := hH
  have hrem := t_remc hh (c := 12) (by omega) (by omega)
  refine j_px_eq ?_
  have hl := fun (H' : j_H) (hC' : j_co H' = C) (hv' : ∀ i : Nat, i < 6 → (j_I H' (24 + 6 * f + 5) i).toInt = j_fo C g hr.toInt F i) => k23l (b := b) (H := H') (C := C) (f := f) (r := r) (so := so) (cn := j_cn2 C f) (Q := fun v H1 => v = some (.int (Int32.ofInt (j_su C w.toInt g hr.toInt F (10 * f) (j_cn2 C f) 0))) ∧ j_F j_sv H H1) hC' hW hf o3 o4 (by unfold j_cn2; omega) hw o5 o6 o7 o8 hv' (j_cn2 C f) 0 0 (by omega)
  have z0 : ((0 : Nat) : Int) = 0 := rfl
  rw [o4, o3] at hl
  simp only [z0] at hl
  simp (disch := (first | assumption | exact n_N11 | exact n_R11 (by decide) | exact n_bz | (simp (disch := (first | assumption | omega | decide)) only [v_rs, v_rn, v_pa, v_vc, v_vt, v_vl, v_ir, v_in, v_po, v_pn, v_re, v_rN, v_Nr, v_fe, v_fN, v_c1i, v_c1r, v_c1n, v_c1u, v_c1f, v_if, h_II, h_LL, h_RR, h_IL, h_IR, h_LI, h_LR, h_RI, h_RL, h_Ic, h_Lc, h_Rc, h_Id, h_Ld, h_Rd, h_cls_sI, h_cls_sL, h_cls_sR, h_cls_cI, h_cls_cL, h_tp_sI, h_tp_sL, h_tp_sR, h_tp_cI, h_tp_cL, h_ln_sI, h_ln_sL, h_ln_sR, h_ln_cI, h_ln_cL, v_if, j_scr, j_Wd_I, j_Wd_L, t_addo, t_subo, t_mulo, t_of, t_divc, t_remc, t_em, Int.toNat_zero, j_ix, Int.toNat_natCast, t_addc, t_subc, t_mulc, t_bz0, t_bz1, Classical.not_not, not_false_eq_true, if_true, if_false, and_true, true_and, and_false, false_and, and_self, or_true, true_or, or_false, false_or, not_true_eq_false, reduceIte, ite_self, rd_I hC, rd_R hC, rd_tp hC, rd_ln hC, rd_cls hC, y2, y7, y16, y17, s8, s5, sE, sr, g2, gc, h_cls_sI, h_tp_sI, h_ln_sI] <;> omega) | omega | decide | fail)) only [↓if_pos, ↓if_neg, ↓b23_0, ↓b23_10, ↓b23_20, ↓b23_30, ↓b23_40, ↓b23_50, ↓b23_58, ↓b23_76, ↓b23_83, ↓b23_94, ↓b23_107, ↓b23_110, ↓b23_122, ↓b23_137, v_rs, v_rn, v_pa, v_vc, v_vt, v_vl, v_ir, v_in, v_po, v_pn, v_re, v_rN, v_Nr, v_fe, v_fN, v_c1i, v_c1r, v_c1n, v_c1u, v_c1f, v_if, h_II, h_LL, h_RR, h_IL, h_IR, h_LI, h_LR, h_RI, h_RL, h_Ic, h_Lc, h_Rc, h_Id, h_Ld, h_Rd, h_cls_sI, h_cls_sL, h_cls_sR, h_cls_cI, h_cls_cL, h_tp_sI, h_tp_sL, h_tp_sR, h_tp_cI, h_tp_cL, h_ln_sI, h_ln_sL, h_ln_sR, h_ln_cI, h_ln_cL, v_if, j_ks, j_ke, t_addo, t_subo, t_mulo, t_of, t_divc, t_remc, t_em, Int.toNat_zero, j_ix, Int.toNat_natCast, t_addc, t_subc, t_mulc, t_bz0, t_bz1, Classical.not_not, not_false_eq_true, if_true, if_false, and_true, true_and, and_false, false_and, and_self, or_true, true_or, or_false, false_or, not_true_eq_false, reduceIte, ite_self, rd_I hC, rd_R hC, rd_tp hC, rd_ln hC, rd_cls hC, y2, y7, y16, y17, s8, s5, sE, sr, g2, gc, h_cls_sI, h_tp_sI, h_ln_sI]
  rw [hl _ ?_ ?_]
  · refine ⟨rfl, ?_⟩
    exact j_F.sI (j_F.sI (j_F.sI (j_F.sI (j_F.sI (j_F.sI j_F.refl (sF _)) (sF _)) (sF _)) (sF _)) (sF _)) (sF _)
  · rw [c_sI (sE _), c_sI (sE _), c_sI (sE _), c_sI (sE _), c_sI (sE _), c_sI (sE _)]; exact hC
  · intro i hi
    match i, hi with
    | 0, _ => simp only [h_II]; simp; unfold j_fo; exact g4
    | 1, _ => simp only [h_II]; simp; unfold j_fo; exact g3
    | 2, _ => simp only [h_II]; simp; unfold j_fo; exact g5
    | 3, _ => simp only [h_II]; simp; unfold j_fo; exact hrem
    | 4, _ => simp only [h_II]; simp; unfold j_fo; exact g7
    | 5, _ => simp only [h_II]; simp; unfold j_fo; exact hso
