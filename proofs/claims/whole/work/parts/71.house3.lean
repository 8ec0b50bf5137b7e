/-! HOUSES: both readings from their start -/
theorem yW_0 {H : j_H} {a n : Nat} : j_sI (j_sI (j_sI (j_sI (j_sI (j_sI (j_sR H a 9 (some 60)) a 10 (Int32.ofInt (n : Int))) a 11 (Int32.ofInt 0)) a 0 (Int32.ofInt 1)) a 1 (Int32.ofInt 0)) a 5 (Int32.ofInt 0)) a 7 (Int32.ofInt 0) = y_W (j_sI (j_sI (j_sI (j_sI (j_sR H a 9 (some 60)) a 10 (Int32.ofInt (n : Int))) a 0 (Int32.ofInt 1)) a 1 (Int32.ofInt 0)) a 5 (Int32.ofInt 0)) a 0 [] := by
  refine yW_x rfl (fun b k => ?_) rfl
  rw [yW_e, h_II]
  by_cases h7 : b = a ∧ k = 7
  · rw [if_pos h7, if_neg (by omega), if_pos h7]; rfl
  · rw [if_neg h7]
    by_cases h11 : b = a ∧ k = 11
    · rw [if_pos h11, h_II, if_neg (by omega), h_II, if_neg (by omega), h_II, if_neg (by omega), h_II, if_pos h11]; rfl
    · rw [if_neg h11, if_neg h7, if_neg (by rw [List.length_nil]; omega), sI_c (a := a) (k := 11) (b := a) (l := 0) (by omega), sI_c (a := a) (k := 11) (b := a) (l := 1) (by omega), sI_c (a := a) (k := 11) (b := a) (l := 5) (by omega), h_II, if_neg h11]
theorem y22 {b n a : Nat} {h : Nat → Int} {H : j_H} {Q : Option Value → j_H → Prop} {ok : Bool} {q : Nat} {CL : List (Nat × Int × List Int)} (hn : n ≤ 100) (hF : y_Fc (j_sI (j_sI (j_sI (j_sI (j_sR H a 9 (some 60)) a 10 (Int32.ofInt (n : Int))) a 0 (Int32.ofInt 1)) a 1 (Int32.ofInt 0)) a 5 (Int32.ofInt 0)) a n h) (hK : y_Fk H a) (hL : y_ls h 10 0 ok q CL)
    (aT : ok = true → ∀ Hf, y_Ic Hf a CL → j_F (y_Sc a) H Hf → Q (some (.int (Int32.ofInt (-1)))) (y_W Hf a q (y_cC CL)))
    (aF : ok = false → ∀ X, j_F (y_Sc a) H X → Q (some (.int (Int32.ofInt (q : Int)))) X) :
    j_wp (b + 31) 22 0 [.ref a, .ref 60, .int (Int32.ofInt (n : Int)), j_u] [] H Q := by
  have f1 : j_cls H a = 3 := hF.1
  have hfr : j_F (y_Sc a) H (j_sI (j_sI (j_sI (j_sI (j_sR H a 9 (some 60)) a 10 (Int32.ofInt (n : Int))) a 0 (Int32.ofInt 1)) a 1 (Int32.ofInt 0)) a 5 (Int32.ofInt 0)) := ((((j_F.refl.sR (decide_eq_true (by omega))).sI (decide_eq_true (by omega))).sI (decide_eq_true (by omega))).sI (decide_eq_true (by omega))).sI (decide_eq_true (by omega))
  simp (disch := (first | assumption | exact n_N11 | exact n_R11 (by decide) | exact n_bz | (simp (disch := (first | assumption | omega | decide)) only [v_rs, v_rn, v_pa, v_vc, v_vt, v_vl, v_ir, v_in, v_po, v_pn, v_re, v_rN, v_Nr, v_fe, v_fN, v_c1i, v_c1r, v_c1n, v_c1u, v_c1f, v_if, h_II, h_LL, h_RR, h_IL, h_IR, h_LI, h_LR, h_RI, h_RL, h_Ic, h_Lc, h_Rc, h_Id, h_Ld, h_Rd, h_cls_sI, h_cls_sL, h_cls_sR, h_cls_cI, h_cls_cL, h_tp_sI, h_tp_sL, h_tp_sR, h_tp_cI, h_tp_cL, h_ln_sI, h_ln_sL, h_ln_sR, h_ln_cI, h_ln_cL, v_if, j_scr, j_Wd_I, j_Wd_L, t_addo, t_subo, t_mulo, t_of, t_divc, t_remc, t_em, Int.toNat_zero, j_ix, Int.toNat_natCast, t_addc, t_subc, t_mulc, t_bz0, t_bz1, Classical.not_not, not_false_eq_true, if_true, if_false, and_true, true_and, and_false, false_and, and_self, or_true, true_or, or_false, false_or, not_true_eq_false, reduceIte, ite_self, implies_true, f1] <;> first | omega | rfl | decide) | omega | decide | fail)) only [↓if_pos, ↓if_neg, ↓b22_0, ↓b22_5, ↓b22_10, ↓b22_15, ↓b22_20, ↓b22_25, ↓b22_30, ↓b22_35, ↓b22_43, ↓b22_47, ↓b22_50, ↓b22_55, ↓b22_59, ↓b22_63, ↓b22_65, ↓b22_71, ↓b22_77, ↓b22_80, ↓b22_85, ↓b22_91, v_rs, v_rn, v_pa, v_vc, v_vt, v_vl, v_ir, v_in, v_po, v_pn, v_re, v_rN, v_Nr, v_fe, v_fN, v_c1i, v_c1r, v_c1n, v_c1u, v_c1f, v_if, h_II, h_LL, h_RR, h_IL, h_IR, h_LI, h_LR, h_RI, h_RL, h_Ic, h_Lc, h_Rc, h_Id, h_Ld, h_Rd, h_cls_sI, h_cls_sL, h_cls_sR, h_cls_cI, h_cls_cL, h_tp_sI, h_tp_sL, h_tp_sR, h_tp_cI, h_tp_cL, h_ln_sI, h_ln_sL, h_ln_sR, h_ln_cI, h_ln_cL, v_if, j_ks, j_ke, t_addo, t_subo, t_mulo, t_of, t_divc, t_remc, t_em, Int.toNat_zero, j_ix, Int.toNat_natCast, t_addc, t_subc, t_mulc, t_bz0, t_bz1, Classical.not_not, not_false_eq_true, if_true, if_false, and_true, true_and, and_false, false_and, and_self, or_true, true_or, or_false, false_or, not_true_eq_false, reduceIte, ite_self, implies_true, f1]
  rw [yW_0]
  exact y22l hn 9 0 ok q [] CL _ rfl hF (y_Fk_F hK hfr (fun k h1 h2 => by rw [h_RI, h_RI, h_RI, h_RI, h_RR, if_neg (by omega)])) ⟨by rw [h_II, if_pos ⟨rfl, rfl⟩]; rfl, by rw [h_II, if_neg (by omega), h_II, if_neg (by omega), h_II, if_pos ⟨rfl, rfl⟩]; rfl, by rw [h_II, if_neg (by omega), h_II, if_pos ⟨rfl, rfl⟩]; rfl, fun i s v c hi => by cases hi⟩ (Nat.zero_le _) (Nat.le_refl _) hL hfr aT aF
theorem yV_0 {H : j_H} {f cl : Nat} : j_sI (j_sI H 81 11 (Int32.ofInt 0)) 81 21 (Int32.ofInt (100 * (f : Int))) = y_V H f cl 0 (j_I H 81 12) (fun k => j_I H 93 k) (j_I H 81 22).toInt (j_I H 81 23).toInt (j_I H 91 cl) [] := by
  have e0 : y_U H f (fun k => j_I H 93 k) [] = H := by
    refine yW_x rfl (fun b k => ?_) rfl
    rw [yU_e]
    by_cases h : b = 93
    · rw [if_pos h, h]
    · rw [if_neg h, if_neg (by rw [List.length_nil]; omega)]
  unfold y_V
  rw [e0, t_un, t_un, sI_id, sI_id, sI_id, sI_c (a := 81) (k := 11) (b := 81) (l := 21) (by omega), show j_I H 81 12 = j_I (j_sI H 81 21 (Int32.ofInt ((100 * f + ([] : List Int).length : Nat) : Int))) 81 12 by rw [h_II, if_neg (by omega)], sI_id]
  rw [show ((100 * f + ([] : List Int).length : Nat) : Int) = 100 * (f : Int) by rw [List.length_nil]; omega]
  rfl
theorem y143 {b n f : Nat} {h : Nat → Int} {H : j_H} {Q : Option Value → j_H → Prop} {ok : Bool} {q : Nat} {CL : List (Nat × Int × List Int)} (hf : f < 6) (hF : y_Fm H n h) (hL : y_ls h 10 0 ok q CL)
    (aT : ok = true → ∀ X, y_Im X f CL → j_I X 87 f = Int32.ofInt (CL.length : Int) → (∀ j, j < (y_cC CL).length → j_I X 92 (100 * f + j) = Int32.ofInt ((y_cC CL).getD j 0)) → j_F (y_Sm f) H X → Q (some (.int (Int32.ofInt 1))) X)
    (aF : ok = false → ∀ X, j_F (y_Sm f) H X → j_I X 81 11 = Int32.ofInt (q : Int) → Q (some (.int (Int32.ofInt 0))) X) :
    j_wp (b + 11) 143 0 [.ref 81, .int (Int32.ofInt (f : Int)), j_u] [] H Q := by
  have hW := hF.1
  simp (disch := (first | assumption | exact n_N11 | exact n_R11 (by decide) | exact n_bz | (simp (disch := (first | assumption | omega | decide)) only [v_rs, v_rn, v_pa, v_vc, v_vt, v_vl, v_ir, v_in, v_po, v_pn, v_re, v_rN, v_Nr, v_fe, v_fN, v_c1i, v_c1r, v_c1n, v_c1u, v_c1f, v_if, h_II, h_LL, h_RR, h_IL, h_IR, h_LI, h_LR, h_RI, h_RL, h_Ic, h_Lc, h_Rc, h_Id, h_Ld, h_Rd, h_cls_sI, h_cls_sL, h_cls_sR, h_cls_cI, h_cls_cL, h_tp_sI, h_tp_sL, h_tp_sR, h_tp_cI, h_tp_cL, h_ln_sI, h_ln_sL, h_ln_sR, h_ln_cI, h_ln_cL, v_if, j_scr, w_c81 hW, w_r81_4 hW, w_r81_5 hW, w_r81_6 hW, w_r81_7 hW, w_r81_13 hW, w_r81_14 hW, w_r81_15 hW, w_r81_16 hW, w_r81_17 hW, w_r81_18 hW, w_r81_19 hW, w_r81_20 hW, w_r81_24 hW, w_r81_25 hW, w_r81_26 hW, w_r81_28 hW, w_r81_29 hW, w_r81_30 hW, w_r81_31 hW, w_r81_32 hW, w_r81_33 hW, w_r81_37 hW, w_r81_46 hW, w_r81_47 hW, w_r81_48 hW, w_r81_49 hW, w_r81_50 hW, w_r81_51 hW, w_r81_53 hW, w_r81_54 hW, w_r81_55 hW, w_r81_56 hW, w_r81_57 hW, j_Wd_I, j_Wd_L, t_addo, t_subo, t_mulo, t_of, t_divc, t_remc, t_em, Int.toNat_zero, j_ix, Int.toNat_natCast, t_addc, t_subc, t_mulc, t_bz0, t_bz1, Classical.not_not, not_false_eq_true, if_true, if_false, and_true, true_and, and_false, false_and, and_self, or_true, true_or, or_false, false_or, not_true_eq_false, reduceIte, ite_self, implies_true, j_ks] <;> first | omega | rfl | decide) | omega | decide | fail)) only [↓if_pos, ↓if_neg, ↓b143_0, ↓b143_5, ↓b143_13, ↓b143_25, ↓b143_28, ↓b143_30, ↓b143_40, ↓b143_51, ↓b143_53, ↓b143_59, ↓b143_65, ↓b143_68, v_rs, v_rn, v_pa, v_vc, v_vt, v_vl, v_ir, v_in, v_po, v_pn, v_re, v_rN, v_Nr, v_fe, v_fN, v_c1i, v_c1r, v_c1n, v_c1u, v_c1f, v_if, h_II, h_LL, h_RR, h_IL, h_IR, h_LI, h_LR, h_RI, h_RL, h_Ic, h_Lc, h_Rc, h_Id, h_Ld, h_Rd, h_cls_sI, h_cls_sL, h_cls_sR, h_cls_cI, h_cls_cL, h_tp_sI, h_tp_sL, h_tp_sR, h_tp_cI, h_tp_cL, h_ln_sI, h_ln_sL, h_ln_sR, h_ln_cI, h_ln_cL, v_if, w_c81 hW, w_r81_4 hW, w_r81_5 hW, w_r81_6 hW, w_r81_7 hW, w_r81_13 hW, w_r81_14 hW, w_r81_15 hW, w_r81_16 hW, w_r81_17 hW, w_r81_18 hW, w_r81_19 hW, w_r81_20 hW, w_r81_24 hW, w_r81_25 hW, w_r81_26 hW, w_r81_28 hW, w_r81_29 hW, w_r81_30 hW, w_r81_31 hW, w_r81_32 hW, w_r81_33 hW, w_r81_37 hW, w_r81_46 hW, w_r81_47 hW, w_r81_48 hW, w_r81_49 hW, w_r81_50 hW, w_r81_51 hW, w_r81_53 hW, w_r81_54 hW, w_r81_55 hW, w_r81_56 hW, w_r81_57 hW, j_ks, j_ke, t_addo, t_subo, t_mulo, t_of, t_divc, t_remc, t_em, Int.toNat_zero, j_ix, Int.toNat_natCast, t_addc, t_subc, t_mulc, t_bz0, t_bz1, Classical.not_not, not_false_eq_true, if_true, if_false, and_true, true_and, and_false, false_and, and_self, or_true, true_or, or_false, false_or, not_true_eq_false, reduceIte, ite_self, implies_true, j_ks]
  rw [yV_0 (cl := 10 * f + 0)]
  exact y143l hf 9 0 ok q [] CL H _ _ _ _ _ rfl hF (Nat.zero_le _) (Nat.le_refl _) (fun i s v c hi => by cases hi) j_F.refl hL aT aF
/-- what the text says, -1 past its end -/
def y_h (C : j_H) (p : Nat) : Int := if p < (j_I C 81 10).toInt.toNat then (j_I C 86 p).toInt else -1
theorem Wd_co {H : j_H} (h : j_Wd (j_co H)) : j_Wd H := by
  refine ⟨h.1, fun p hp => ?_, h.2.2⟩
  have := h.2.1 p hp
  have e : (j_co H).2.2.2 p.1 p.2.1 = if j_scr p.1 p.2.1 = true then none else H.2.2.2 p.1 p.2.1 := rfl
  rw [e] at this
  by_cases hs : j_scr p.1 p.2.1 = true
  · rw [if_pos hs] at this; cases this
  · rw [if_neg hs] at this; exact this
theorem y_det {b M : Nat} {l : List Value} {H : j_H} {r : Option Value} {P : j_H → Prop} (h : j_wp b M 0 l [] H (fun v X => v = r ∧ P X)) : ∃ X, P X ∧ ∀ Q : Option Value → j_H → Prop, j_wp b M 0 l [] H Q = Q r X := by
  obtain ⟨v, H1, he, rfl, hf⟩ := h
  refine ⟨H1, hf, fun Q => propext ⟨?_, fun hq => ⟨_, _, he, hq⟩⟩⟩
  rintro ⟨v3, H3, he3, hq⟩
  have e3 := j_ev_det he he3
  cases e3
  exact hq
/-- the cells that house may change -/
def y_SH (f b k : Nat) : Bool := decide ((24 + 6 * f < b ∧ b ≤ 24 + 6 * f + 4) ∨ (b = 24 + 6 * f ∧ (k < 2 ∨ k = 5 ∨ k = 7 ∨ k = 9 ∨ k = 10 ∨ k = 11)) ∨ (b = 87 ∧ k = f) ∨ (88 ≤ b ∧ b ≤ 91 ∧ 10 * f ≤ k ∧ k < 10 * f + 10) ∨ (b = 92 ∧ 100 * f ≤ k ∧ k < 100 * f + 100) ∨ b = 93 ∨ (b = 81 ∧ (k = 8 ∨ k = 9 ∨ k = 10 ∨ k = 11 ∨ k = 12 ∨ k = 21 ∨ k = 22 ∨ k = 23)) ∨ (b = 12 ∧ (k = 4 ∨ k = 6)) ∨ (b = 13 ∧ k = 10))
theorem y_Sc_H {f b k : Nat} (h : y_SH f b k = false) : y_Sc (24 + 6 * f) b k = false := by
  have := of_decide_eq_false h
  exact decide_eq_false (by omega)
theorem y_Sm_H {f b k : Nat} (h : y_SH f b k = false) : y_Sm f b k = false := by
  have := of_decide_eq_false h
  exact decide_eq_false (by omega)
