/-! HOUSES: the pair of calls -/
theorem L_house {H : j_H} (hI : j_In (j_co H)) : j_pair 72 [.ref 12, j_u, j_u] 144 [.ref 81, j_u] H := by
  obtain ⟨C, hC⟩ : ∃ C, j_co H = C := ⟨_, rfl⟩
  have hI0 := hI
  rw [hC] at hI
  have hI' := hI
  obtain ⟨x1, x2, x3, x4, ⟨s1, s2, s3, s4⟩, x6, x7, x8, x9, x10⟩ := hI'
  have hW : j_Wd C := x1
  by_cases h6 : (j_I C 81 8).toInt = 6
  · have n1 : ¬ (j_I C 81 8).toInt < 6 := by omega
    refine j_pair_q (x := Int32.ofInt (-4)) hI0 (fun Q => ?_) j_F.refl (fun Q => ?_) j_F.refl
    · simp (disch := (first | assumption | exact n_N11 | exact n_R11 (by decide) | exact n_bz | (simp (disch := (first | assumption | omega | decide)) only [v_rs, v_rn, v_pa, v_vc, v_vt, v_vl, v_ir, v_in, v_po, v_pn, v_re, v_rN, v_Nr, v_fe, v_fN, v_c1i, v_c1r, v_c1n, v_c1u, v_c1f, v_if, h_II, h_LL, h_RR, h_IL, h_IR, h_LI, h_LR, h_RI, h_RL, h_Ic, h_Lc, h_Rc, h_Id, h_Ld, h_Rd, h_cls_sI, h_cls_sL, h_cls_sR, h_cls_cI, h_cls_cL, h_tp_sI, h_tp_sL, h_tp_sR, h_tp_cI, h_tp_cL, h_ln_sI, h_ln_sL, h_ln_sR, h_ln_cI, h_ln_cL, v_if, j_scr, w_c12 hW, w_r12_0 hW, w_r12_1 hW, w_r12_3 hW, w_r12_5 hW, w_r12_7 hW, w_r12_8 hW, w_r12_9 hW, w_r12_10 hW, w_r12_11 hW, w_r12_12 hW, w_r12_13 hW, w_t23 hW, w_n23 hW, w_r23_0 hW, w_r23_1 hW, w_r23_2 hW, w_r23_3 hW, w_r23_4 hW, w_r23_5 hW, j_Wd_I, j_Wd_L, t_addo, t_subo, t_mulo, t_of, t_divc, t_remc, t_em, Int.toNat_zero, j_ix, Int.toNat_natCast, t_addc, t_subc, t_mulc, t_bz0, t_bz1, Classical.not_not, not_false_eq_true, if_true, if_false, and_true, true_and, and_false, false_and, and_self, or_true, true_or, or_false, false_or, not_true_eq_false, reduceIte, ite_self, implies_true, p_I, p_L, p_R, q_I, q_L, q_R, p_cls, p_tp, p_ln, p_cop, p_cov, rd_I hC, rd_L hC, rd_R hC, rd_cls hC, rd_tp hC, rd_ln hC, hC, hW, s1, n1] <;> first | omega | rfl | decide) | omega | decide | fail)) only [↓if_pos, ↓if_neg, ↓b72_0, ↓b72_12, ↓b72_15, ↓b72_29, ↓b72_32, ↓b72_44, ↓b72_50, ↓b72_54, ↓b72_59, ↓b72_67, ↓b72_77, v_rs, v_rn, v_pa, v_vc, v_vt, v_vl, v_ir, v_in, v_po, v_pn, v_re, v_rN, v_Nr, v_fe, v_fN, v_c1i, v_c1r, v_c1n, v_c1u, v_c1f, v_if, h_II, h_LL, h_RR, h_IL, h_IR, h_LI, h_LR, h_RI, h_RL, h_Ic, h_Lc, h_Rc, h_Id, h_Ld, h_Rd, h_cls_sI, h_cls_sL, h_cls_sR, h_cls_cI, h_cls_cL, h_tp_sI, h_tp_sL, h_tp_sR, h_tp_cI, h_tp_cL, h_ln_sI, h_ln_sL, h_ln_sR, h_ln_cI, h_ln_cL, v_if, w_c12 hW, w_r12_0 hW, w_r12_1 hW, w_r12_3 hW, w_r12_5 hW, w_r12_7 hW, w_r12_8 hW, w_r12_9 hW, w_r12_10 hW, w_r12_11 hW, w_r12_12 hW, w_r12_13 hW, w_t23 hW, w_n23 hW, w_r23_0 hW, w_r23_1 hW, w_r23_2 hW, w_r23_3 hW, w_r23_4 hW, w_r23_5 hW, j_ks, j_ke, t_addo, t_subo, t_mulo, t_of, t_divc, t_remc, t_em, Int.toNat_zero, j_ix, Int.toNat_natCast, t_addc, t_subc, t_mulc, t_bz0, t_bz1, Classical.not_not, not_false_eq_true, if_true, if_false, and_true, true_and, and_false, false_and, and_self, or_true, true_or, or_false, false_or, not_true_eq_false, reduceIte, ite_self, implies_true, p_I, p_L, p_R, q_I, q_L, q_R, p_cls, p_tp, p_ln, p_cop, p_cov, rd_I hC, rd_L hC, rd_R hC, rd_cls hC, rd_tp hC, rd_ln hC, hC, hW, s1, n1]
    · simp (disch := (first | assumption | exact n_N11 | exact n_R11 (by decide) | exact n_bz | (simp (disch := (first | assumption | omega | decide)) only [v_rs, v_rn, v_pa, v_vc, v_vt, v_vl, v_ir, v_in, v_po, v_pn, v_re, v_rN, v_Nr, v_fe, v_fN, v_c1i, v_c1r, v_c1n, v_c1u, v_c1f, v_if, h_II, h_LL, h_RR, h_IL, h_IR, h_LI, h_LR, h_RI, h_RL, h_Ic, h_Lc, h_Rc, h_Id, h_Ld, h_Rd, h_cls_sI, h_cls_sL, h_cls_sR, h_cls_cI, h_cls_cL, h_tp_sI, h_tp_sL, h_tp_sR, h_tp_cI, h_tp_cL, h_ln_sI, h_ln_sL, h_ln_sR, h_ln_cI, h_ln_cL, v_if, j_scr, w_c81 hW, w_r81_4 hW, w_r81_5 hW, w_r81_6 hW, w_r81_7 hW, w_r81_13 hW, w_r81_14 hW, w_r81_15 hW, w_r81_16 hW, w_r81_17 hW, w_r81_18 hW, w_r81_19 hW, w_r81_20 hW, w_r81_24 hW, w_r81_25 hW, w_r81_26 hW, w_r81_28 hW, w_r81_29 hW, w_r81_30 hW, w_r81_31 hW, w_r81_32 hW, w_r81_33 hW, w_r81_37 hW, w_r81_46 hW, w_r81_47 hW, w_r81_48 hW, w_r81_49 hW, w_r81_50 hW, w_r81_51 hW, w_r81_53 hW, w_r81_54 hW, w_r81_55 hW, w_r81_56 hW, w_r81_57 hW, j_Wd_I, j_Wd_L, t_addo, t_subo, t_mulo, t_of, t_divc, t_remc, t_em, Int.toNat_zero, j_ix, Int.toNat_natCast, t_addc, t_subc, t_mulc, t_bz0, t_bz1, Classical.not_not, not_false_eq_true, if_true, if_false, and_true, true_and, and_false, false_and, and_self, or_true, true_or, or_false, false_or, not_true_eq_false, reduceIte, ite_self, implies_true, p_I, p_L, p_R, q_I, q_L, q_R, p_cls, p_tp, p_ln, p_cop, p_cov, rd_I hC, rd_L hC, rd_R hC, rd_cls hC, rd_tp hC, rd_ln hC, hC, hW, h6] <;> first | omega | rfl | decide) | omega | decide | fail)) only [↓if_pos, ↓if_neg, ↓b144_0, ↓b144_9, ↓b144_12, ↓b144_20, ↓b144_26, ↓b144_30, ↓b144_38, ↓b144_46, ↓b144_56, v_rs, v_rn, v_pa, v_vc, v_vt, v_vl, v_ir, v_in, v_po, v_pn, v_re, v_rN, v_Nr, v_fe, v_fN, v_c1i, v_c1r, v_c1n, v_c1u, v_c1f, v_if, h_II, h_LL, h_RR, h_IL, h_IR, h_LI, h_LR, h_RI, h_RL, h_Ic, h_Lc, h_Rc, h_Id, h_Ld, h_Rd, h_cls_sI, h_cls_sL, h_cls_sR, h_cls_cI, h_cls_cL, h_tp_sI, h_tp_sL, h_tp_sR, h_tp_cI, h_tp_cL, h_ln_sI, h_ln_sL, h_ln_sR, h_ln_cI, h_ln_cL, v_if, w_c81 hW, w_r81_4 hW, w_r81_5 hW, w_r81_6 hW, w_r81_7 hW, w_r81_13 hW, w_r81_14 hW, w_r81_15 hW, w_r81_16 hW, w_r81_17 hW, w_r81_18 hW, w_r81_19 hW, w_r81_20 hW, w_r81_24 hW, w_r81_25 hW, w_r81_26 hW, w_r81_28 hW, w_r81_29 hW, w_r81_30 hW, w_r81_31 hW, w_r81_32 hW, w_r81_33 hW, w_r81_37 hW, w_r81_46 hW, w_r81_47 hW, w_r81_48 hW, w_r81_49 hW, w_r81_50 hW, w_r81_51 hW, w_r81_53 hW, w_r81_54 hW, w_r81_55 hW, w_r81_56 hW, w_r81_57 hW, j_ks, j_ke, t_addo, t_subo, t_mulo, t_of, t_divc, t_remc, t_em, Int.toNat_zero, j_ix, Int.toNat_natCast, t_addc, t_subc, t_mulc, t_bz0, t_bz1, Classical.not_not, not_false_eq_true, if_true, if_false, and_true, true_and, and_false, false_and, and_self, or_true, true_or, or_false, false_or, not_true_eq_false, reduceIte, ite_self, implies_true, p_I, p_L, p_R, q_I, q_L, q_R, p_cls, p_tp, p_ln, p_cop, p_cov, rd_I hC, rd_L hC, rd_R hC, rd_cls hC, rd_tp hC, rd_ln hC, hC, hW, h6]
  · obtain ⟨f, hcnt⟩ : ∃ f : Nat, (j_I C 81 8).toInt = (f : Int) := ⟨(j_I C 81 8).toInt.toNat, by omega⟩
    have hf : f < 6 := by omega
    have e8 : j_I C 81 8 = Int32.ofInt (f : Int) := y_e0 hcnt
    have hn : y_n C ≤ 100 := by unfold y_n; have := x6.2.2.1; omega
    obtain ⟨ok, q, CL, hL⟩ := y_ls_tot (y_h_n (C := C)) 9 0
    obtain ⟨wq, wT⟩ := y_ls_wf (y_h_n (C := C)) 10 0 ok q CL hL (Nat.zero_le _)
    obtain ⟨k0, k1, k2, k3, k4, k5, k6, k7, k8, k9, k10, k11, k12, k13, k14, k15, k16⟩ := j_Wd_H hW hf
    cases ok with
    | false =>
      obtain ⟨H1, ⟨X0, hX0, e1⟩, hw1⟩ := y_det (r := some (.int (Int32.ofInt (-10 - (q : Int))))) (P := fun X => ∃ X0, j_F (y_Sc (24 + 6 * f)) H X0 ∧ X = j_sI X0 12 6 (Int32.ofInt 0)) (K72 hC hI hf hcnt hL (fun h => by cases h) (fun _ X hX => ⟨rfl, X, hX, rfl⟩))
      have h1F : j_F (y_S7 f) H H1 := by rw [e1]; exact (y_7F hX0).sI (decide_eq_true (by omega))
      have h18 : j_I H1 81 8 = Int32.ofInt (f : Int) := by rw [h1F.I (decide_eq_false (by omega)), rd_I hC rfl]; exact e8
      obtain ⟨H2, ⟨X1, hX1, e2⟩, hw2⟩ := y_det (r := some (.int (Int32.ofInt (-10 - (q : Int))))) (P := fun X => ∃ X1, j_F (y_Sm f) H1 X1 ∧ X = j_sI X1 81 10 (Int32.ofInt 0)) (K144 (y_Fm_F (y_Fm_0 hC hI) hf h1F) hf h18 hL (fun h => by cases h) (fun _ X hX => ⟨rfl, X, hX, rfl⟩))
      have h2F : j_F (y_SH f) H H2 := by
        rw [e2]
        exact ((h1F.mono (fun _ _ => y_S7_H)).trans (hX1.mono (fun _ _ => y_Sm_H))).sI (decide_eq_true (by omega))
      refine ⟨_, H1, H2, hw1, hw2, ?_, Or.inl h2F.1, ⟨_, rfl⟩, Or.inl h1F.1, fun k => h1F.I (decide_eq_false (by omega))⟩
      have hFc : j_F (y_SH f) C (j_co H2) := by rw [← hC]; exact F_co h2F
      have r2 : ∀ k, ¬ k = 10 → j_I H2 81 k = j_I X1 81 k := fun k hk => by rw [e2, h_II, if_neg (by omega)]
      refine In_house hI hf hcnt hFc ?_ ?_ (Or.inl ⟨?_, ?_, ?_, ?_⟩)
      · rw [← rd_I (H := H2) rfl rfl, e2, h_II, if_neg (by omega), hX1.I (decide_eq_false (by omega)), e1, h_II, if_pos ⟨rfl, rfl⟩]
      · rw [← rd_I (H := H2) rfl rfl, e2, h_II, if_pos ⟨rfl, rfl⟩]
      · rw [← rd_I (H := H2) rfl rfl, e2, h_II, if_neg (by omega), hX1.I (decide_eq_false (by omega)), e1, h_II, if_neg (by omega), hX0.I (decide_eq_false (by omega)), rd_I hC rfl]
      · rw [← rd_I (H := H2) rfl rfl, r2 8 (by omega), hX1.I (decide_eq_false (by omega)), h18, e8]
      · rw [← rd_I (H := H2) rfl rfl, r2 9 (by omega), hX1.I (decide_eq_false (by omega)), h1F.I (decide_eq_false (by omega)), rd_I hC rfl]
      · rw [← rd_R (H := H2) rfl rfl, e2, h_RI, hX1.R (decide_eq_false (by omega)), e1, h_RI, hX0.R (decide_eq_false (by omega)), rd_R hC rfl]
    | true =>
      obtain ⟨w1, w2, w3, w4⟩ := wT rfl
      obtain ⟨H1, ⟨Hf, hIc, hHf, e1⟩, hw1⟩ := y_det (r := some (.int (Int32.ofInt (f : Int)))) (P := fun X => ∃ Hf, y_Ic Hf (24 + 6 * f) CL ∧ j_F (y_Sc (24 + 6 * f)) H Hf ∧ X = j_sI (j_sR (j_sI (y_W Hf (24 + 6 * f) q (y_cC CL)) 12 6 (Int32.ofInt 0)) 13 10 (some (24 + 6 * f))) 12 4 (Int32.ofInt ((f : Int) + 1))) (K72 hC hI hf hcnt hL (fun _ Hf k1 k2 => ⟨rfl, Hf, k1, k2, rfl⟩) (fun h => by cases h))
      have hWF := y_WF (p := q) (c := y_cC CL) hHf
      have h1F : j_F (y_S7 f) H H1 := by rw [e1]; exact (((y_7F hWF).sI (decide_eq_true (by omega))).sR (decide_eq_true (by omega))).sI (decide_eq_true (by omega))
      have h18 : j_I H1 81 8 = Int32.ofInt (f : Int) := by rw [h1F.I (decide_eq_false (by omega)), rd_I hC rfl]; exact e8
      obtain ⟨H2, ⟨X1, hIm, h87, h92, hX1, e2⟩, hw2⟩ := y_det (r := some (.int (Int32.ofInt (f : Int)))) (P := fun Y => ∃ X, y_Im X f CL ∧ j_I X 87 f = Int32.ofInt (CL.length : Int) ∧ (∀ j, j < (y_cC CL).length → j_I X 92 (100 * f + j) = Int32.ofInt ((y_cC CL).getD j 0)) ∧ j_F (y_Sm f) H1 X ∧ Y = j_sI (j_sI (j_sI X 81 10 (Int32.ofInt 0)) 81 9 (Int32.ofInt (f : Int))) 81 8 (Int32.ofInt ((f : Int) + 1))) (K144 (y_Fm_F (y_Fm_0 hC hI) hf h1F) hf h18 hL (fun _ X k1 k2 k3 k4 => ⟨rfl, X, k1, k2, k3, k4, rfl⟩) (fun h => by cases h))
      have h2F : j_F (y_SH f) H H2 := by
        rw [e2]
        exact ((((h1F.mono (fun _ _ => y_S7_H)).trans (hX1.mono (fun _ _ => y_Sm_H))).sI (decide_eq_true (by omega))).sI (decide_eq_true (by omega))).sI (decide_eq_true (by omega))
      refine ⟨_, H1, H2, hw1, hw2, ?_, Or.inl h2F.1, ⟨_, rfl⟩, Or.inl h1F.1, fun k => h1F.I (decide_eq_false (by omega))⟩
      have hFc : j_F (y_SH f) C (j_co H2) := by rw [← hC]; exact F_co h2F
      have r2 : ∀ b k, ¬ b = 81 → j_I H2 b k = j_I X1 b k := fun b k hk => by rw [e2, h_II, if_neg (by omega), h_II, if_neg (by omega), h_II, if_neg (by omega)]
      have r1 : ∀ b k, ¬ b = 12 → j_I H1 b k = j_I (y_W Hf (24 + 6 * f) q (y_cC CL)) b k := fun b k hk => by rw [e1, h_II, if_neg (by omega), h_IR, h_II, if_neg (by omega)]
      have ra : ∀ b k, 24 + 6 * f ≤ b → b ≤ 24 + 6 * f + 4 → j_I H2 b k = j_I (y_W Hf (24 + 6 * f) q (y_cC CL)) b k := fun b k h1 h2 => by
        rw [r2 _ _ (by omega), hX1.I (decide_eq_false (by omega)), r1 _ _ (by omega)]
      have sH := fun k => j_scr_H hf k
      have rb : ∀ k, k < 9 → ¬ k = 7 → j_I (j_co H2) (24 + 6 * f) k = j_I Hf (24 + 6 * f) k := fun k hk h7 => by
        rw [← rd_I (H := H2) rfl ((sH k).1 hk), ra _ _ (by omega) (by omega), yW_i (by omega) h7]
      have rc1 : ∀ k, j_I (j_co H2) (24 + 6 * f + 1) k = j_I Hf (24 + 6 * f + 1) k := fun k => by
        rw [← rd_I (H := H2) rfl (sH k).2.1, ra _ _ (by omega) (by omega), yW_I (by omega) (by omega)]
      have rc2 : ∀ k, j_I (j_co H2) (24 + 6 * f + 2) k = j_I Hf (24 + 6 * f + 2) k := fun k => by
        rw [← rd_I (H := H2) rfl (sH k).2.2.1, ra _ _ (by omega) (by omega), yW_I (by omega) (by omega)]
      have rc3 : ∀ k, j_I (j_co H2) (24 + 6 * f + 3) k = j_I Hf (24 + 6 * f + 3) k := fun k => by
        rw [← rd_I (H := H2) rfl (sH k).2.2.2.1, ra _ _ (by omega) (by omega), yW_I (by omega) (by omega)]
      have hHo : j_Ho (j_co H2) f := by
        obtain ⟨i5, i0, i1, irow⟩ := hIc
        refine Ho_new (CL := CL) ⟨by rw [rb 5 (by omega) (by omega)]; exact i5, by rw [rb 0 (by omega) (by omega)]; exact i0, by rw [rb 1 (by omega) (by omega)]; exact i1, fun i s v c hi hs => by rw [rc1, rc2, rc3]; exact irow i s v c hi hs⟩ (y_Im_x hIm (fun b k hb => ?_)) ?_ (fun j hj => ?_) (fun j hj => ?_) w1 w2 w3 (by omega) hf
        · rcases hb with hb | hb | hb | hb
          · subst hb; rw [← rd_I (H := H2) rfl rfl, r2 _ _ (by omega)]
          · subst hb; rw [← rd_I (H := H2) rfl rfl, r2 _ _ (by omega)]
          · subst hb; rw [← rd_I (H := H2) rfl rfl, r2 _ _ (by omega)]
          · subst hb; rw [← rd_I (H := H2) rfl rfl, r2 _ _ (by omega)]
        · rw [← rd_I (H := H2) rfl rfl, r2 _ _ (by omega)]; exact h87
        · rw [← rd_I (H := H2) rfl rfl, r2 _ _ (by omega)]; exact h92 j hj
        · rw [show 28 + 6 * f = 24 + 6 * f + 4 by omega, ← rd_I (H := H2) rfl (sH j).2.2.2.2.1, ra _ _ (by omega) (by omega), yW_e, if_neg (by omega), if_neg (by omega), if_pos ⟨rfl, hj⟩]
      refine In_house hI hf hcnt hFc ?_ ?_ (Or.inr ⟨?_, ?_, ?_, ?_, hHo⟩)
      · rw [← rd_I (H := H2) rfl rfl, r2 _ _ (by omega), hX1.I (decide_eq_false (by omega)), e1, h_II, if_neg (by omega), h_IR, h_II, if_pos ⟨rfl, rfl⟩]
      · rw [← rd_I (H := H2) rfl rfl, e2, h_II, if_neg (by omega), h_II, if_neg (by omega), h_II, if_pos ⟨rfl, rfl⟩]
      · rw [← rd_I (H := H2) rfl rfl, r2 _ _ (by omega), hX1.I (decide_eq_false (by omega)), e1, h_II, if_pos ⟨rfl, rfl⟩]
      · rw [← rd_I (H := H2) rfl rfl, e2, h_II, if_pos ⟨rfl, rfl⟩]
      · rw [← rd_I (H := H2) rfl rfl, e2, h_II, if_neg (by omega), h_II, if_pos ⟨rfl, rfl⟩]
      · rw [← rd_R (H := H2) rfl rfl, e2, h_RI, h_RI, h_RI, hX1.R (decide_eq_false (by omega)), e1, h_RI, h_RR, if_pos ⟨rfl, rfl⟩]
