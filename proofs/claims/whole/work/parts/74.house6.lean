/-! HOUSES: the pair -/
def y_S7 (f b k : Nat) : Bool := decide ((24 + 6 * f < b ∧ b ≤ 24 + 6 * f + 4) ∨ (b = 24 + 6 * f ∧ (k < 2 ∨ k = 5 ∨ k = 7 ∨ k = 9 ∨ k = 10 ∨ k = 11)) ∨ (b = 12 ∧ (k = 4 ∨ k = 6)) ∨ (b = 13 ∧ k = 10))
theorem y_S7_H {f b k : Nat} (h : y_SH f b k = false) : y_S7 f b k = false := by
  have := of_decide_eq_false h
  exact decide_eq_false (by omega)
theorem y_Sc_7 {f b k : Nat} (h : y_S7 f b k = false) : y_Sc (24 + 6 * f) b k = false := by
  have := of_decide_eq_false h
  exact decide_eq_false (by omega)
theorem y_e0 {x : Int32} {z : Int} (h : x.toInt = z) : x = Int32.ofInt z := by rw [← h, t_un]
/-- so many signs are fed -/
def y_n (C : j_H) : Nat := (j_I C 81 10).toInt.toNat
theorem y_h_n {C : j_H} : ∀ q, y_n C ≤ q → y_h C q = -1 := fun q hq => if_neg (show ¬ q < y_n C by omega)
theorem y_h_b {C : j_H} (hT : j_Tx C) (p : Nat) (hp : p < y_n C) : j_I C 86 p = Int32.ofInt (y_h C p) ∧ 0 ≤ y_h C p ∧ y_h C p ≤ 127 := by
  obtain ⟨u1, u2, u3, u4⟩ := hT
  have hp' : p < (j_I C 81 10).toInt.toNat := hp
  obtain ⟨v1, v2, v3⟩ := u4 p (by omega)
  unfold y_h
  rw [if_pos hp', t_un]
  exact ⟨rfl, v2, v3⟩
theorem y_Fm_0 {H C : j_H} (hC : j_co H = C) (hI : j_In C) : y_Fm H (y_n C) (y_h C) := by
  obtain ⟨x1, x2, x3, x4, x5, x6, x7, x8, x9, x10⟩ := hI
  obtain ⟨u1, u2, u3, u4⟩ := x6
  refine ⟨Wd_co (by rw [hC]; exact x1), ?_, by unfold y_n; omega, fun p hp => ?_, y_h_n, fun k hk => ?_⟩
  · rw [rd_I hC rfl]; exact y_e0 (by unfold y_n; omega)
  · rw [rd_I hC rfl]; exact y_h_b ⟨u1, u2, u3, u4⟩ p hp
  · rw [rd_I hC rfl]; exact y_e0 (x9 k hk)
theorem y_Fm_F {H H' : j_H} {n f : Nat} {h : Nat → Int} (hF : y_Fm H n h) (hf : f < 6) (e : j_F (y_S7 f) H H') : y_Fm H' n h := by
  obtain ⟨f1, f2, f3, f4, f5, f6⟩ := hF
  refine ⟨⟨by rw [e.1]; exact f1.1, fun p hp => ?_, by rw [e.1]; exact f1.2.2⟩, by rw [e.I (decide_eq_false (by omega))]; exact f2, f3, fun p hp => by rw [e.I (decide_eq_false (by omega))]; exact f4 p hp, f5, fun k hk => by rw [e.I (decide_eq_false (by omega))]; exact f6 k hk⟩
  have := e.R (y_S7_H (y_FRn ⟨f, hf⟩ p hp))
  show j_R H' p.1 p.2.1 = some p.2.2
  rw [this]; exact f1.2.1 p hp
theorem y_Fc_0 {H C : j_H} (hC : j_co H = C) (hI : j_In C) {f : Nat} (hf : f < 6) : y_Fc (j_sI (j_sI (j_sI (j_sI (j_sR H (24 + 6 * f) 9 (some 60)) (24 + 6 * f) 10 (Int32.ofInt (y_n C : Int))) (24 + 6 * f) 0 (Int32.ofInt 1)) (24 + 6 * f) 1 (Int32.ofInt 0)) (24 + 6 * f) 5 (Int32.ofInt 0)) (24 + 6 * f) (y_n C) (y_h C) ∧ y_Fk H (24 + 6 * f) := by
  obtain ⟨x1, x2, x3, x4, x5, x6, x7, x8, x9, x10⟩ := hI
  have hW : j_Wd H := Wd_co (by rw [hC]; exact x1)
  obtain ⟨k0, k1, k2, k3, k4, k5, k6, k7, k8, k9, k10, k11, k12, k13, k14, k15, k16⟩ := j_Wd_H hW hf
  have hT := x6
  obtain ⟨u1, u2, u3, u4⟩ := x6
  have e : ∀ b k, ¬ b = 24 + 6 * f → j_I (j_sI (j_sI (j_sI (j_sI (j_sR H (24 + 6 * f) 9 (some 60)) (24 + 6 * f) 10 (Int32.ofInt (y_n C : Int))) (24 + 6 * f) 0 (Int32.ofInt 1)) (24 + 6 * f) 1 (Int32.ofInt 0)) (24 + 6 * f) 5 (Int32.ofInt 0)) b k = j_I H b k := fun b k hb => by
    rw [h_II, if_neg (by omega), h_II, if_neg (by omega), h_II, if_neg (by omega), h_II, if_neg (by omega), h_IR]
  have eR : ∀ b k, ¬ (b = 24 + 6 * f ∧ k = 9) → j_R (j_sI (j_sI (j_sI (j_sI (j_sR H (24 + 6 * f) 9 (some 60)) (24 + 6 * f) 10 (Int32.ofInt (y_n C : Int))) (24 + 6 * f) 0 (Int32.ofInt 1)) (24 + 6 * f) 1 (Int32.ofInt 0)) (24 + 6 * f) 5 (Int32.ofInt 0)) b k = j_R H b k := fun b k hb => by
    rw [h_RI, h_RI, h_RI, h_RI, h_RR, if_neg hb]
  have hsh : ∀ s, s < 5 → j_cls H s = 14 ∧ j_tp H (s + 5) = 9 ∧ j_ln H (s + 5) = (j_ws s).length := fun s hs => by
    match s, hs with
    | 0, _ => exact ⟨j_Wd_cls hW rfl, j_Wd_tp hW rfl, j_Wd_ln hW rfl⟩
    | 1, _ => exact ⟨j_Wd_cls hW rfl, j_Wd_tp hW rfl, j_Wd_ln hW rfl⟩
    | 2, _ => exact ⟨j_Wd_cls hW rfl, j_Wd_tp hW rfl, j_Wd_ln hW rfl⟩
    | 3, _ => exact ⟨j_Wd_cls hW rfl, j_Wd_tp hW rfl, j_Wd_ln hW rfl⟩
    | 4, _ => exact ⟨j_Wd_cls hW rfl, j_Wd_tp hW rfl, j_Wd_ln hW rfl⟩
  have hsc : ∀ s k, s < 10 → j_scr s k = false := fun s k hs => (show ∀ s : Fin 10, j_scr s.val k = false from fun s => by
    match s with
    | ⟨0, _⟩ => rfl
    | ⟨1, _⟩ => rfl
    | ⟨2, _⟩ => rfl
    | ⟨3, _⟩ => rfl
    | ⟨4, _⟩ => rfl
    | ⟨5, _⟩ => rfl
    | ⟨6, _⟩ => rfl
    | ⟨7, _⟩ => rfl
    | ⟨8, _⟩ => rfl
    | ⟨9, _⟩ => rfl) ⟨s, hs⟩
  refine ⟨⟨k1, by rw [eR _ _ (by omega)]; exact k5, by rw [h_RI, h_RI, h_RI, h_RI, h_RR, if_pos ⟨rfl, rfl⟩], k13, k14, show j_tp H 60 = 2 from w_t60 hW, show j_ln H 60 = 100 from w_n60 hW, by rw [h_II, if_neg (by omega), h_II, if_neg (by omega), h_II, if_neg (by omega), h_II, if_pos ⟨rfl, rfl⟩], ⟨by unfold y_n; omega, by omega, by omega⟩, fun p hp => ?_, y_h_n, fun s hs => ?_⟩, k2, k3, k4, k7, k8, k9, k10, k11, k12⟩
  · rw [e _ _ (by omega), rd_I hC rfl, (u4 p (by have : p < (j_I C 81 10).toInt.toNat := hp; omega)).1]
    exact y_h_b hT p hp
  · obtain ⟨g1, g2, g3⟩ := x10 s hs
    obtain ⟨g4, g5, g6⟩ := hsh s hs
    refine ⟨g4, by rw [eR _ _ (by omega), rd_R hC (hsc _ _ (by omega))]; exact g1, g5, g6, by rw [e _ _ (by omega), rd_I hC (hsc _ _ (by omega))]; exact y_e0 g2, fun i hi => ?_⟩
    rw [e _ _ (by omega), rd_I hC (hsc _ _ (by omega))]
    exact y_e0 (g3 i hi)
section
variable {H C : j_H} {f q : Nat} {ok : Bool} {CL : List (Nat × Int × List Int)}
theorem y_7F {X X' : j_H} (h : j_F (y_Sc (24 + 6 * f)) X X') : j_F (y_S7 f) X X' := h.mono (fun _ _ => y_Sc_7)
theorem K72 {Q : Option Value → j_H → Prop} (hC : j_co H = C) (hI : j_In C) (hf : f < 6) (hcnt : (j_I C 81 8).toInt = (f : Int)) (hL : y_ls (y_h C) 10 0 ok q CL)
    (aT : ok = true → ∀ Hf, y_Ic Hf (24 + 6 * f) CL → j_F (y_Sc (24 + 6 * f)) H Hf → Q (some (.int (Int32.ofInt (f : Int)))) (j_sI (j_sR (j_sI (y_W Hf (24 + 6 * f) q (y_cC CL)) 12 6 (Int32.ofInt 0)) 13 10 (some (24 + 6 * f))) 12 4 (Int32.ofInt ((f : Int) + 1))))
    (aF : ok = false → ∀ X, j_F (y_Sc (24 + 6 * f)) H X → Q (some (.int (Int32.ofInt (-10 - (q : Int))))) (j_sI X 12 6 (Int32.ofInt 0))) :
    j_wp 99 72 0 [.ref 12, j_u, j_u] [] H Q := by
  have hI' := hI
  obtain ⟨x1, x2, x3, x4, ⟨s1, s2, s3, s4⟩, ⟨u1, u2, u3, u4⟩, x7, x8, x9, x10⟩ := hI'
  have hW : j_Wd C := x1
  obtain ⟨w23, -⟩ := j_Wd_H (Wd_co (by rw [hC]; exact x1) : j_Wd H) hf
  obtain ⟨w23C, wc, -⟩ := j_Wd_H hW hf
  have hq := (y_ls_wf (y_h_n (C := C)) 10 0 ok q CL hL (Nat.zero_le _)).1
  have hn : y_n C ≤ 100 := by unfold y_n; omega
  have e4 : j_I C 12 4 = Int32.ofInt (f : Int) := by rw [s1]; exact y_e0 hcnt
  have e6 : j_I C 12 6 = Int32.ofInt (y_n C : Int) := by rw [u1]; exact y_e0 (by unfold y_n; omega)
  have tf : (Int32.ofInt (f : Int)).toInt = (f : Int) := t_of (by omega) (by omega)
  have tq : (Int32.ofInt (q : Int)).toInt = (q : Int) := t_of (by omega) (by omega)
  have n1 : (f : Int) < 6 := by omega
  have n2 : (0 : Int) ≤ (f : Int) := by omega
  have n3 : ¬ 24 + 6 * f = 11 := by omega
  simp (disch := (first | assumption | exact n_N11 | exact n_R11 (by decide) | exact n_bz | (simp (disch := (first | assumption | omega | decide)) only [v_rs, v_rn, v_pa, v_vc, v_vt, v_vl, v_ir, v_in, v_po, v_pn, v_re, v_rN, v_Nr, v_fe, v_fN, v_c1i, v_c1r, v_c1n, v_c1u, v_c1f, v_if, h_II, h_LL, h_RR, h_IL, h_IR, h_LI, h_LR, h_RI, h_RL, h_Ic, h_Lc, h_Rc, h_Id, h_Ld, h_Rd, h_cls_sI, h_cls_sL, h_cls_sR, h_cls_cI, h_cls_cL, h_tp_sI, h_tp_sL, h_tp_sR, h_tp_cI, h_tp_cL, h_ln_sI, h_ln_sL, h_ln_sR, h_ln_cI, h_ln_cL, v_if, j_scr, w_c12 hW, w_r12_0 hW, w_r12_1 hW, w_r12_3 hW, w_r12_5 hW, w_r12_7 hW, w_r12_8 hW, w_r12_9 hW, w_r12_10 hW, w_r12_11 hW, w_r12_12 hW, w_r12_13 hW, w_c13 hW, w_r13_0 hW, w_r13_1 hW, w_r13_2 hW, w_r13_3 hW, w_t23 hW, w_n23 hW, w_r23_0 hW, w_r23_1 hW, w_r23_2 hW, w_r23_3 hW, w_r23_4 hW, w_r23_5 hW, j_Wd_I, j_Wd_L, t_addo, t_subo, t_mulo, t_of, t_divc, t_remc, t_em, Int.toNat_zero, j_ix, Int.toNat_natCast, t_addc, t_subc, t_mulc, t_bz0, t_bz1, Classical.not_not, not_false_eq_true, if_true, if_false, and_true, true_and, and_false, false_and, and_self, or_true, true_or, or_false, false_or, not_true_eq_false, reduceIte, ite_self, implies_true, p_I, p_L, p_R, q_I, q_L, q_R, p_cls, p_tp, p_ln, p_cop, p_cov, rd_I hC, rd_L hC, rd_R hC, rd_cls hC, rd_tp hC, rd_ln hC, hC, hW, e4, e6, w23, w23C, wc, tf, n1, n2, n3] <;> first | omega | rfl | decide) | omega | decide | fail)) only [↓if_pos, ↓if_neg, ↓b72_0, ↓b72_12, ↓b72_15, ↓b72_29, ↓b72_32, ↓b72_50, ↓b72_54, ↓b72_59, ↓b72_67, ↓b72_77, v_rs, v_rn, v_pa, v_vc, v_vt, v_vl, v_ir, v_in, v_po, v_pn, v_re, v_rN, v_Nr, v_fe, v_fN, v_c1i, v_c1r, v_c1n, v_c1u, v_c1f, v_if, h_II, h_LL, h_RR, h_IL, h_IR, h_LI, h_LR, h_RI, h_RL, h_Ic, h_Lc, h_Rc, h_Id, h_Ld, h_Rd, h_cls_sI, h_cls_sL, h_cls_sR, h_cls_cI, h_cls_cL, h_tp_sI, h_tp_sL, h_tp_sR, h_tp_cI, h_tp_cL, h_ln_sI, h_ln_sL, h_ln_sR, h_ln_cI, h_ln_cL, v_if, w_c12 hW, w_r12_0 hW, w_r12_1 hW, w_r12_3 hW, w_r12_5 hW, w_r12_7 hW, w_r12_8 hW, w_r12_9 hW, w_r12_10 hW, w_r12_11 hW, w_r12_12 hW, w_r12_13 hW, w_c13 hW, w_r13_0 hW, w_r13_1 hW, w_r13_2 hW, w_r13_3 hW, w_t23 hW, w_n23 hW, w_r23_0 hW, w_r23_1 hW, w_r23_2 hW, w_r23_3 hW, w_r23_4 hW, w_r23_5 hW, j_ks, j_ke, t_addo, t_subo, t_mulo, t_of, t_divc, t_remc, t_em, Int.toNat_zero, j_ix, Int.toNat_natCast, t_addc, t_subc, t_mulc, t_bz0, t_bz1, Classical.not_not, not_false_eq_true, if_true, if_false, and_true, true_and, and_false, false_and, and_self, or_true, true_or, or_false, false_or, not_true_eq_false, reduceIte, ite_self, implies_true, p_I, p_L, p_R, q_I, q_L, q_R, p_cls, p_tp, p_ln, p_cop, p_cov, rd_I hC, rd_L hC, rd_R hC, rd_cls hC, rd_tp hC, rd_ln hC, hC, hW, e4, e6, w23, w23C, wc, tf, n1, n2, n3]
  obtain ⟨hF, hK⟩ := y_Fc_0 hC hI hf
  refine y22 (b := 67) hn hF hK hL (fun ho Hf hIc hfr => ?_) (fun ho X hfr => ?_)
  · have hX := y_WF (p := q) (c := y_cC CL) hfr
    generalize hXe : y_W Hf (24 + 6 * f) q (y_cC CL) = X at hX ⊢
    have c12 : j_cls X 12 = 11 := by rw [hX.cls, rd_cls hC]; exact w_c12 hW
    have c13 : j_cls X 13 = 0 := by rw [hX.cls, rd_cls hC]; exact w_c13 hW
    have r12 : j_R X 12 0 = some 13 := by rw [hX.R (decide_eq_false (by omega)), rd_R hC rfl]; exact w_r12_0 hW
    have i12 : j_I X 12 4 = Int32.ofInt (f : Int) := by rw [hX.I (decide_eq_false (by omega)), rd_I hC rfl]; exact e4
    have t1 : (Int32.ofInt (-1)).toInt = -1 := rfl
    have z1 : (-1 : Int) < 0 := by decide
    have z2 : (f : Int) + 1 - 1 = (f : Int) := by omega
    have z3 : ¬ ((12 : Nat) = 12 ∧ (4 : Nat) = 6) := by decide
    simp (disch := (first | assumption | exact n_N11 | exact n_R11 (by decide) | exact n_bz | (simp (disch := (first | assumption | omega | decide)) only [v_rs, v_rn, v_pa, v_vc, v_vt, v_vl, v_ir, v_in, v_po, v_pn, v_re, v_rN, v_Nr, v_fe, v_fN, v_c1i, v_c1r, v_c1n, v_c1u, v_c1f, v_if, h_II, h_LL, h_RR, h_IL, h_IR, h_LI, h_LR, h_RI, h_RL, h_Ic, h_Lc, h_Rc, h_Id, h_Ld, h_Rd, h_cls_sI, h_cls_sL, h_cls_sR, h_cls_cI, h_cls_cL, h_tp_sI, h_tp_sL, h_tp_sR, h_tp_cI, h_tp_cL, h_ln_sI, h_ln_sL, h_ln_sR, h_ln_cI, h_ln_cL, v_if, j_scr, j_Wd_I, j_Wd_L, t_addo, t_subo, t_mulo, t_of, t_divc, t_remc, t_em, Int.toNat_zero, j_ix, Int.toNat_natCast, t_addc, t_subc, t_mulc, t_bz0, t_bz1, Classical.not_not, not_false_eq_true, if_true, if_false, and_true, true_and, and_false, false_and, and_self, or_true, true_or, or_false, false_or, not_true_eq_false, reduceIte, ite_self, implies_true, c12, c13, r12, i12, t1, z1, z2, z3] <;> first | omega | rfl | decide) | omega | decide | fail)) only [↓if_pos, ↓if_neg, ↓b72_0, ↓b72_12, ↓b72_15, ↓b72_29, ↓b72_32, ↓b72_44, ↓b72_50, ↓b72_54, ↓b72_59, ↓b72_67, ↓b72_77, v_rs, v_rn, v_pa, v_vc, v_vt, v_vl, v_ir, v_in, v_po, v_pn, v_re, v_rN, v_Nr, v_fe, v_fN, v_c1i, v_c1r, v_c1n, v_c1u, v_c1f, v_if, h_II, h_LL, h_RR, h_IL, h_IR, h_LI, h_LR, h_RI, h_RL, h_Ic, h_Lc, h_Rc, h_Id, h_Ld, h_Rd, h_cls_sI, h_cls_sL, h_cls_sR, h_cls_cI, h_cls_cL, h_tp_sI, h_tp_sL, h_tp_sR, h_tp_cI, h_tp_cL, h_ln_sI, h_ln_sL, h_ln_sR, h_ln_cI, h_ln_cL, v_if, j_ks, j_ke, t_addo, t_subo, t_mulo, t_of, t_divc, t_remc, t_em, Int.toNat_zero, j_ix, Int.toNat_natCast, t_addc, t_subc, t_mulc, t_bz0, t_bz1, Classical.not_not, not_false_eq_true, if_true, if_false, and_true, true_and, and_false, false_and, and_self, or_true, true_or, or_false, false_or, not_true_eq_false, reduceIte, ite_self, implies_true, c12, c13, r12, i12, t1, z1, z2, z3]
    have := aT ho Hf hIc hfr
    rw [hXe] at this
    exact this
  · have c12 : j_cls X 12 = 11 := by rw [hfr.cls, rd_cls hC]; exact w_c12 hW
    have z1 : ¬ (q : Int) < 0 := by omega
    simp (disch := (first | assumption | exact n_N11 | exact n_R11 (by decide) | exact n_bz | (simp (disch := (first | assumption | omega | decide)) only [v_rs, v_rn, v_pa, v_vc, v_vt, v_vl, v_ir, v_in, v_po, v_pn, v_re, v_rN, v_Nr, v_fe, v_fN, v_c1i, v_c1r, v_c1n, v_c1u, v_c1f, v_if, h_II, h_LL, h_RR, h_IL, h_IR, h_LI, h_LR, h_RI, h_RL, h_Ic, h_Lc, h_Rc, h_Id, h_Ld, h_Rd, h_cls_sI, h_cls_sL, h_cls_sR, h_cls_cI, h_cls_cL, h_tp_sI, h_tp_sL, h_tp_sR, h_tp_cI, h_tp_cL, h_ln_sI, h_ln_sL, h_ln_sR, h_ln_cI, h_ln_cL, v_if, j_scr, j_Wd_I, j_Wd_L, t_addo, t_subo, t_mulo, t_of, t_divc, t_remc, t_em, Int.toNat_zero, j_ix, Int.toNat_natCast, t_addc, t_subc, t_mulc, t_bz0, t_bz1, Classical.not_not, not_false_eq_true, if_true, if_false, and_true, true_and, and_false, false_and, and_self, or_true, true_or, or_false, false_or, not_true_eq_false, reduceIte, ite_self, implies_true, c12, tq, z1] <;> first | omega | rfl | decide) | omega | decide | fail)) only [↓if_pos, ↓if_neg, ↓b72_0, ↓b72_12, ↓b72_15, ↓b72_29, ↓b72_32, ↓b72_44, ↓b72_50, ↓b72_54, ↓b72_59, ↓b72_67, ↓b72_77, v_rs, v_rn, v_pa, v_vc, v_vt, v_vl, v_ir, v_in, v_po, v_pn, v_re, v_rN, v_Nr, v_fe, v_fN, v_c1i, v_c1r, v_c1n, v_c1u, v_c1f, v_if, h_II, h_LL, h_RR, h_IL, h_IR, h_LI, h_LR, h_RI, h_RL, h_Ic, h_Lc, h_Rc, h_Id, h_Ld, h_Rd, h_cls_sI, h_cls_sL, h_cls_sR, h_cls_cI, h_cls_cL, h_tp_sI, h_tp_sL, h_tp_sR, h_tp_cI, h_tp_cL, h_ln_sI, h_ln_sL, h_ln_sR, h_ln_cI, h_ln_cL, v_if, j_ks, j_ke, t_addo, t_subo, t_mulo, t_of, t_divc, t_remc, t_em, Int.toNat_zero, j_ix, Int.toNat_natCast, t_addc, t_subc, t_mulc, t_bz0, t_bz1, Classical.not_not, not_false_eq_true, if_true, if_false, and_true, true_and, and_false, false_and, and_self, or_true, true_or, or_false, false_or, not_true_eq_false, reduceIte, ite_self, implies_true, c12, tq, z1]
    exact aF ho X hfr
theorem K144 {H1 : j_H} {n : Nat} {h : Nat → Int} {Q : Option Value → j_H → Prop} (hF : y_Fm H1 n h) (hf : f < 6) (h8 : j_I H1 81 8 = Int32.ofInt (f : Int)) (hL : y_ls h 10 0 ok q CL)
    (aT : ok = true → ∀ X, y_Im X f CL → j_I X 87 f = Int32.ofInt (CL.length : Int) → (∀ j, j < (y_cC CL).length → j_I X 92 (100 * f + j) = Int32.ofInt ((y_cC CL).getD j 0)) → j_F (y_Sm f) H1 X → Q (some (.int (Int32.ofInt (f : Int)))) (j_sI (j_sI (j_sI X 81 10 (Int32.ofInt 0)) 81 9 (Int32.ofInt (f : Int))) 81 8 (Int32.ofInt ((f : Int) + 1))))
    (aF : ok = false → ∀ X, j_F (y_Sm f) H1 X → Q (some (.int (Int32.ofInt (-10 - (q : Int))))) (j_sI X 81 10 (Int32.ofInt 0))) :
    j_wp 99 144 0 [.ref 81, j_u] [] H1 Q := by
  have hW := hF.1
  have tf : (Int32.ofInt (f : Int)).toInt = (f : Int) := t_of (by omega) (by omega)
  have n1 : ¬ (f : Int) = 6 := by omega
  simp (disch := (first | assumption | exact n_N11 | exact n_R11 (by decide) | exact n_bz | (simp (disch := (first | assumption | omega | decide)) only [v_rs, v_rn, v_pa, v_vc, v_vt, v_vl, v_ir, v_in, v_po, v_pn, v_re, v_rN, v_Nr, v_fe, v_fN, v_c1i, v_c1r, v_c1n, v_c1u, v_c1f, v_if, h_II, h_LL, h_RR, h_IL, h_IR, h_LI, h_LR, h_RI, h_RL, h_Ic, h_Lc, h_Rc, h_Id, h_Ld, h_Rd, h_cls_sI, h_cls_sL, h_cls_sR, h_cls_cI, h_cls_cL, h_tp_sI, h_tp_sL, h_tp_sR, h_tp_cI, h_tp_cL, h_ln_sI, h_ln_sL, h_ln_sR, h_ln_cI, h_ln_cL, v_if, j_scr, w_c81 hW, w_r81_4 hW, w_r81_5 hW, w_r81_6 hW, w_r81_7 hW, w_r81_13 hW, w_r81_14 hW, w_r81_15 hW, w_r81_16 hW, w_r81_17 hW, w_r81_18 hW, w_r81_19 hW, w_r81_20 hW, w_r81_24 hW, w_r81_25 hW, w_r81_26 hW, w_r81_28 hW, w_r81_29 hW, w_r81_30 hW, w_r81_31 hW, w_r81_32 hW, w_r81_33 hW, w_r81_37 hW, w_r81_46 hW, w_r81_47 hW, w_r81_48 hW, w_r81_49 hW, w_r81_50 hW, w_r81_51 hW, w_r81_53 hW, w_r81_54 hW, w_r81_55 hW, w_r81_56 hW, w_r81_57 hW, j_Wd_I, j_Wd_L, t_addo, t_subo, t_mulo, t_of, t_divc, t_remc, t_em, Int.toNat_zero, j_ix, Int.toNat_natCast, t_addc, t_subc, t_mulc, t_bz0, t_bz1, Classical.not_not, not_false_eq_true, if_true, if_false, and_true, true_and, and_false, false_and, and_self, or_true, true_or, or_false, false_or, not_true_eq_false, reduceIte, ite_self, implies_true, h8, tf, n1] <;> first | omega | rfl | decide) | omega | decide | fail)) only [↓if_pos, ↓if_neg, ↓b144_0, ↓b144_9, ↓b144_12, ↓b144_26, ↓b144_30, ↓b144_38, ↓b144_46, ↓b144_56, v_rs, v_rn, v_pa, v_vc, v_vt, v_vl, v_ir, v_in, v_po, v_pn, v_re, v_rN, v_Nr, v_fe, v_fN, v_c1i, v_c1r, v_c1n, v_c1u, v_c1f, v_if, h_II, h_LL, h_RR, h_IL, h_IR, h_LI, h_LR, h_RI, h_RL, h_Ic, h_Lc, h_Rc, h_Id, h_Ld, h_Rd, h_cls_sI, h_cls_sL, h_cls_sR, h_cls_cI, h_cls_cL, h_tp_sI, h_tp_sL, h_tp_sR, h_tp_cI, h_tp_cL, h_ln_sI, h_ln_sL, h_ln_sR, h_ln_cI, h_ln_cL, v_if, w_c81 hW, w_r81_4 hW, w_r81_5 hW, w_r81_6 hW, w_r81_7 hW, w_r81_13 hW, w_r81_14 hW, w_r81_15 hW, w_r81_16 hW, w_r81_17 hW, w_r81_18 hW, w_r81_19 hW, w_r81_20 hW, w_r81_24 hW, w_r81_25 hW, w_r81_26 hW, w_r81_28 hW, w_r81_29 hW, w_r81_30 hW, w_r81_31 hW, w_r81_32 hW, w_r81_33 hW, w_r81_37 hW, w_r81_46 hW, w_r81_47 hW, w_r81_48 hW, w_r81_49 hW, w_r81_50 hW, w_r81_51 hW, w_r81_53 hW, w_r81_54 hW, w_r81_55 hW, w_r81_56 hW, w_r81_57 hW, j_ks, j_ke, t_addo, t_subo, t_mulo, t_of, t_divc, t_remc, t_em, Int.toNat_zero, j_ix, Int.toNat_natCast, t_addc, t_subc, t_mulc, t_bz0, t_bz1, Classical.not_not, not_false_eq_true, if_true, if_false, and_true, true_and, and_false, false_and, and_self, or_true, true_or, or_false, false_or, not_true_eq_false, reduceIte, ite_self, implies_true, h8, tf, n1]
  refine y143 (b := 87) hf hF hL (fun ho X k1 k2 k3 hfr => ?_) (fun ho X hfr hq => ?_)
  · have c81 : j_cls X 81 = 12 := by rw [hfr.cls]; exact w_c81 hW
    have i8 : j_I X 81 8 = Int32.ofInt (f : Int) := by rw [hfr.I (decide_eq_false (by omega))]; exact h8
    have z3 : ¬ ((81 : Nat) = 81 ∧ (8 : Nat) = 10) := by decide
    have z4 : ¬ ((81 : Nat) = 81 ∧ (8 : Nat) = 9) := by decide
    have z5 : ¬ ((81 : Nat) = 81 ∧ (9 : Nat) = 8) := by decide
    simp (disch := (first | assumption | exact n_N11 | exact n_R11 (by decide) | exact n_bz | (simp (disch := (first | assumption | omega | decide)) only [v_rs, v_rn, v_pa, v_vc, v_vt, v_vl, v_ir, v_in, v_po, v_pn, v_re, v_rN, v_Nr, v_fe, v_fN, v_c1i, v_c1r, v_c1n, v_c1u, v_c1f, v_if, h_II, h_LL, h_RR, h_IL, h_IR, h_LI, h_LR, h_RI, h_RL, h_Ic, h_Lc, h_Rc, h_Id, h_Ld, h_Rd, h_cls_sI, h_cls_sL, h_cls_sR, h_cls_cI, h_cls_cL, h_tp_sI, h_tp_sL, h_tp_sR, h_tp_cI, h_tp_cL, h_ln_sI, h_ln_sL, h_ln_sR, h_ln_cI, h_ln_cL, v_if, j_scr, j_Wd_I, j_Wd_L, t_addo, t_subo, t_mulo, t_of, t_divc, t_remc, t_em, Int.toNat_zero, j_ix, Int.toNat_natCast, t_addc, t_subc, t_mulc, t_bz0, t_bz1, Classical.not_not, not_false_eq_true, if_true, if_false, and_true, true_and, and_false, false_and, and_self, or_true, true_or, or_false, false_or, not_true_eq_false, reduceIte, ite_self, implies_true, c81, i8, z3, z4, z5] <;> first | omega | rfl | decide) | omega | decide | fail)) only [↓if_pos, ↓if_neg, ↓b144_0, ↓b144_9, ↓b144_12, ↓b144_20, ↓b144_26, ↓b144_30, ↓b144_38, ↓b144_46, ↓b144_56, v_rs, v_rn, v_pa, v_vc, v_vt, v_vl, v_ir, v_in, v_po, v_pn, v_re, v_rN, v_Nr, v_fe, v_fN, v_c1i, v_c1r, v_c1n, v_c1u, v_c1f, v_if, h_II, h_LL, h_RR, h_IL, h_IR, h_LI, h_LR, h_RI, h_RL, h_Ic, h_Lc, h_Rc, h_Id, h_Ld, h_Rd, h_cls_sI, h_cls_sL, h_cls_sR, h_cls_cI, h_cls_cL, h_tp_sI, h_tp_sL, h_tp_sR, h_tp_cI, h_tp_cL, h_ln_sI, h_ln_sL, h_ln_sR, h_ln_cI, h_ln_cL, v_if, j_ks, j_ke, t_addo, t_subo, t_mulo, t_of, t_divc, t_remc, t_em, Int.toNat_zero, j_ix, Int.toNat_natCast, t_addc, t_subc, t_mulc, t_bz0, t_bz1, Classical.not_not, not_false_eq_true, if_true, if_false, and_true, true_and, and_false, false_and, and_self, or_true, true_or, or_false, false_or, not_true_eq_false, reduceIte, ite_self, implies_true, c81, i8, z3, z4, z5]
    exact aT ho X k1 k2 k3 hfr
  · have c81 : j_cls X 81 = 12 := by rw [hfr.cls]; exact w_c81 hW
    have z3 : ¬ ((81 : Nat) = 81 ∧ (11 : Nat) = 10) := by decide
    simp (disch := (first | assumption | exact n_N11 | exact n_R11 (by decide) | exact n_bz | (simp (disch := (first | assumption | omega | decide)) only [v_rs, v_rn, v_pa, v_vc, v_vt, v_vl, v_ir, v_in, v_po, v_pn, v_re, v_rN, v_Nr, v_fe, v_fN, v_c1i, v_c1r, v_c1n, v_c1u, v_c1f, v_if, h_II, h_LL, h_RR, h_IL, h_IR, h_LI, h_LR, h_RI, h_RL, h_Ic, h_Lc, h_Rc, h_Id, h_Ld, h_Rd, h_cls_sI, h_cls_sL, h_cls_sR, h_cls_cI, h_cls_cL, h_tp_sI, h_tp_sL, h_tp_sR, h_tp_cI, h_tp_cL, h_ln_sI, h_ln_sL, h_ln_sR, h_ln_cI, h_ln_cL, v_if, j_scr, j_Wd_I, j_Wd_L, t_addo, t_subo, t_mulo, t_of, t_divc, t_remc, t_em, Int.toNat_zero, j_ix, Int.toNat_natCast, t_addc, t_subc, t_mulc, t_bz0, t_bz1, Classical.not_not, not_false_eq_true, if_true, if_false, and_true, true_and, and_false, false_and, and_self, or_true, true_or, or_false, false_or, not_true_eq_false, reduceIte, ite_self, implies_true, c81, hq, z3] <;> first | omega | rfl | decide) | omega | decide | fail)) only [↓if_pos, ↓if_neg, ↓b144_0, ↓b144_9, ↓b144_12, ↓b144_20, ↓b144_26, ↓b144_30, ↓b144_38, ↓b144_46, ↓b144_56, v_rs, v_rn, v_pa, v_vc, v_vt, v_vl, v_ir, v_in, v_po, v_pn, v_re, v_rN, v_Nr, v_fe, v_fN, v_c1i, v_c1r, v_c1n, v_c1u, v_c1f, v_if, h_II, h_LL, h_RR, h_IL, h_IR, h_LI, h_LR, h_RI, h_RL, h_Ic, h_Lc, h_Rc, h_Id, h_Ld, h_Rd, h_cls_sI, h_cls_sL, h_cls_sR, h_cls_cI, h_cls_cL, h_tp_sI, h_tp_sL, h_tp_sR, h_tp_cI, h_tp_cL, h_ln_sI, h_ln_sL, h_ln_sR, h_ln_cI, h_ln_cL, v_if, j_ks, j_ke, t_addo, t_subo, t_mulo, t_of, t_divc, t_remc, t_em, Int.toNat_zero, j_ix, Int.toNat_natCast, t_addc, t_subc, t_mulc, t_bz0, t_bz1, Classical.not_not, not_false_eq_true, if_true, if_false, and_true, true_and, and_false, false_and, and_self, or_true, true_or, or_false, false_or, not_true_eq_false, reduceIte, ite_self, implies_true, c81, hq, z3]
    exact aF ho X hfr
end
