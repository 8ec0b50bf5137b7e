/-! HOUSES: clauses -/
def y_so (h : Nat → Int) (p : Nat) : Nat := if h p = 108 then 0 else if h p = 119 then 1 else 2
theorem y_so_b (h : Nat → Int) (p : Nat) : y_so h p ≤ 2 ∧ (y_so h p = 2 → ¬ h p = 108 ∧ ¬ h p = 119) := by
  unfold y_so
  split
  · exact ⟨by omega, fun e => by omega⟩
  · split
    · exact ⟨by omega, fun e => by omega⟩
    · exact ⟨by omega, fun _ => ⟨by assumption, by assumption⟩⟩
def y_pw (h : Nat → Int) (p : Nat) : Nat := (y_wm h p (j_ws (y_so h p))).2
def y_ow (h : Nat → Int) (p : Nat) : Bool := (y_wm h p (j_ws (y_so h p))).1
/-- where the place stands behind a clause's number -/
def y_rw (h : Nat → Int) (p : Nat) : Nat := y_pw h p + 1 + y_nl h (y_pw h p + 1)
def y_cl (h : Nat → Int) (p : Nat) (ok : Bool) (q : Nat) (v : Int) (c : List Int) : Prop :=
  (y_ow h p = false ∧ ok = false ∧ q = y_pw h p) ∨
  (y_ow h p = true ∧ ¬ h (y_pw h p) = 32 ∧ ok = false ∧ q = y_pw h p) ∨
  (y_ow h p = true ∧ h (y_pw h p) = 32 ∧ y_nl h (y_pw h p + 1) = 0 ∧ ok = false ∧ q = y_pw h p + 1) ∨
  (y_ow h p = true ∧ h (y_pw h p) = 32 ∧ ¬ y_nl h (y_pw h p + 1) = 0 ∧ v = y_nv h (y_pw h p + 1) ∧ y_so h p = 2 ∧ ok = true ∧ q = y_rw h p ∧ c = []) ∨
  (y_ow h p = true ∧ h (y_pw h p) = 32 ∧ ¬ y_nl h (y_pw h p + 1) = 0 ∧ v = y_nv h (y_pw h p + 1) ∧ ¬ y_so h p = 2 ∧ ¬ h (y_rw h p) = 32 ∧ ok = false ∧ q = y_rw h p) ∨
  (y_ow h p = true ∧ h (y_pw h p) = 32 ∧ ¬ y_nl h (y_pw h p + 1) = 0 ∧ v = y_nv h (y_pw h p + 1) ∧ ¬ y_so h p = 2 ∧ h (y_rw h p) = 32 ∧ y_P h 0 0 (y_rw h p + 1) ok q c)
theorem y_cl_tot {h : Nat → Int} {n : Nat} (hn : ∀ q, n ≤ q → h q = -1) (p : Nat) : ∃ ok q v c, y_cl h p ok q v c := by
  unfold y_cl
  cases e1 : y_ow h p with
  | false => exact ⟨false, _, 0, [], Or.inl ⟨rfl, rfl, rfl⟩⟩
  | true =>
    by_cases e2 : h (y_pw h p) = 32
    · by_cases e3 : y_nl h (y_pw h p + 1) = 0
      · exact ⟨false, _, 0, [], Or.inr (Or.inr (Or.inl ⟨rfl, e2, e3, rfl, rfl⟩))⟩
      · by_cases e4 : y_so h p = 2
        · exact ⟨true, _, _, [], Or.inr (Or.inr (Or.inr (Or.inl ⟨rfl, e2, e3, rfl, e4, rfl, rfl, rfl⟩)))⟩
        · by_cases e5 : h (y_rw h p) = 32
          · obtain ⟨ok, q, c, hP⟩ := y_tot hn (n - (y_rw h p + 1)) (y_rw h p + 1) (Nat.le_refl _) 0 0 (by decide)
            exact ⟨ok, q, _, c, Or.inr (Or.inr (Or.inr (Or.inr (Or.inr ⟨rfl, e2, e3, rfl, e4, e5, hP⟩))))⟩
          · exact ⟨false, _, _, [], Or.inr (Or.inr (Or.inr (Or.inr (Or.inl ⟨rfl, e2, e3, rfl, e4, e5, rfl, rfl⟩))))⟩
    · exact ⟨false, _, 0, [], Or.inr (Or.inl ⟨rfl, e2, rfl, rfl⟩)⟩
theorem y_wsn (s : Nat) (hs : s < 5) : ∀ x ∈ j_ws s, 0 ≤ x := fun x hx => (y_wb ⟨s, hs⟩ x hx).1
theorem y_pw_b {h : Nat → Int} {n p : Nat} (hn : ∀ q, n ≤ q → h q = -1) (hp : p ≤ n) : p ≤ y_pw h p ∧ y_pw h p ≤ n :=
  y_wm_n hn _ p (y_wsn _ (by have := (y_so_b h p).1; omega)) hp
/-- what a clause keeps to -/
theorem y_cl_b {h : Nat → Int} {n p : Nat} (hn : ∀ q, n ≤ q → h q = -1) (hp : p ≤ n) {ok : Bool} {q : Nat} {v : Int} {c : List Int} (hC : y_cl h p ok q v c) : q ≤ n ∧ p ≤ q ∧ (ok = true → p + c.length ≤ q ∧ 0 ≤ v ∧ v ≤ 99 ∧ (y_so h p = 2 → c = []) ∧ (¬ y_so h p = 2 → (∀ t, t ∈ c → y_tk t) ∧ y_hs 0 c = some 1)) := by
  obtain ⟨w1, w2⟩ := y_pw_b hn hp
  rcases hC with ⟨-, rfl, rfl⟩ | ⟨-, -, rfl, rfl⟩ | ⟨-, e2, e3, rfl, rfl⟩ | ⟨-, e2, e3, rfl, e4, rfl, rfl, rfl⟩ | ⟨-, e2, e3, rfl, e4, e5, rfl, rfl⟩ | ⟨-, e2, e3, rfl, e4, e5, hP⟩
  · exact ⟨w2, w1, y_ff⟩
  · exact ⟨w2, w1, y_ff⟩
  · have := y_lt hn (show 0 ≤ h (y_pw h p) by omega)
    exact ⟨by omega, by omega, y_ff⟩
  · have l1 := y_lt hn (show 0 ≤ h (y_pw h p) by omega)
    have l2 := y_nl_n hn (show y_pw h p + 1 ≤ n from l1)
    have l3 := y_nv_b e3
    exact ⟨l2, by unfold y_rw; omega, fun _ => ⟨by unfold y_rw; rw [List.length_nil]; omega, l3.1, l3.2, fun _ => rfl, fun e => absurd e4 e⟩⟩
  · have l1 := y_lt hn (show 0 ≤ h (y_pw h p) by omega)
    have l2 := y_nl_n hn (show y_pw h p + 1 ≤ n from l1)
    exact ⟨l2, by unfold y_rw; omega, y_ff⟩
  · have l1 := y_lt hn (show 0 ≤ h (y_pw h p) by omega)
    have l3 := y_nv_b e3
    have l4 : y_rw h p + 1 ≤ n := y_lt hn (show 0 ≤ h (y_rw h p) by omega)
    obtain ⟨k1, k2, k3⟩ := y_pr hn hP
    have l5 : y_pw h p ≤ y_rw h p := by unfold y_rw; omega
    refine ⟨k2 l4, by omega, fun e => ?_⟩
    obtain ⟨k4, k5, -, -, k6, -⟩ := k3 e
    exact ⟨by omega, l3.1, l3.2, fun e' => absurd e' e4, fun _ => ⟨k5, k6 rfl 0 (by omega)⟩⟩
-- frames
def y_Sc (a b k : Nat) : Bool := decide ((a < b ∧ b ≤ a + 4) ∨ (b = a ∧ (k < 2 ∨ k = 5 ∨ k = 7 ∨ k = 9 ∨ k = 10 ∨ k = 11)))
def y_Sm (f b k : Nat) : Bool := decide ((b = 87 ∧ k = f) ∨ (88 ≤ b ∧ b ≤ 91 ∧ 10 * f ≤ k ∧ k < 10 * f + 10) ∨ (b = 92 ∧ 100 * f ≤ k ∧ k < 100 * f + 100) ∨ b = 93 ∨ (b = 81 ∧ (k = 11 ∨ k = 12 ∨ k = 21 ∨ k = 22 ∨ k = 23)))
theorem y_WF {H H' : j_H} {a p : Nat} {c : List Int} (h : j_F (y_Sc a) H H') : j_F (y_Sc a) H (y_W H' a p c) := by
  refine h.trans ⟨rfl, fun b k hs => ⟨?_, rfl, rfl⟩⟩
  have := of_decide_eq_false hs
  rw [yW_e, if_neg (by omega), if_neg (by omega), if_neg (by omega)]
theorem y_Fc_F {H H' : j_H} {a n : Nat} {h : Nat → Int} (hF : y_Fc H a n h) (e : j_F (y_Sc a) H H') (e10 : j_I H' a 10 = j_I H a 10) (e9 : j_R H' a 9 = j_R H a 9) : y_Fc H' a n h := by
  obtain ⟨f1, f2, f3, f4, f5, f6, f7, f8, f9, f10, f11, f12⟩ := hF
  have r : ∀ b k, ¬ ((a < b ∧ b ≤ a + 4) ∨ (b = a ∧ (k < 2 ∨ k = 5 ∨ k = 7 ∨ k = 9 ∨ k = 10 ∨ k = 11))) → j_I H' b k = j_I H b k ∧ j_R H' b k = j_R H b k := fun b k hs => ⟨(e.2 b k (decide_eq_false hs)).1, (e.2 b k (decide_eq_false hs)).2.2⟩
  refine ⟨by rw [e.cls]; exact f1, by rw [(r a 6 (by omega)).2]; exact f2, by rw [e9]; exact f3, by rw [e.tp]; exact f4, by rw [e.ln]; exact f5, by rw [e.tp]; exact f6, by rw [e.ln]; exact f7, by rw [e10]; exact f8, f9, fun p hp => by rw [(r 60 p (by omega)).1]; exact f10 p hp, f11, fun s hs => ?_⟩
  obtain ⟨g1, g2, g3, g4, g5, g6⟩ := f12 s hs
  exact ⟨by rw [e.cls]; exact g1, by rw [(r s 0 (by omega)).2]; exact g2, by rw [e.tp]; exact g3, by rw [e.ln]; exact g4, by rw [(r s 1 (by omega)).1]; exact g5, fun i hi => by rw [(r (s + 5) i (by omega)).1]; exact g6 i hi⟩
-- the class's clause
/-- the rows of a house -/
def y_Fk (H : j_H) (a : Nat) : Prop := j_R H a 2 = some (a + 1) ∧ j_R H a 3 = some (a + 2) ∧ j_R H a 4 = some (a + 3) ∧ j_tp H (a + 1) = 0 ∧ j_ln H (a + 1) = 10 ∧ j_tp H (a + 2) = 0 ∧ j_ln H (a + 2) = 10 ∧ j_tp H (a + 3) = 0 ∧ j_ln H (a + 3) = 10
def y_kp (H : j_H) (a e l s : Nat) (v : Int) : j_H := j_sI (j_sI (j_sI (j_sI (j_sI H (a + 1) e (Int32.ofInt (s : Int))) (a + 2) e (Int32.ofInt v)) (a + 3) e (Int32.ofInt (l : Int))) a 5 (Int32.ofInt ((e : Int) + 1))) a 1 (j_bz (¬ (j_I H a 1).toInt = 0 ∨ s = 1))
theorem y35 {b : Nat} {H : j_H} {a n p e s : Nat} {h : Nat → Int} {c : List Int} {v : Int} {Q : Option Value → j_H → Prop} (hF : y_Fc H a n h) (hK : y_Fk H a) (he : j_I H a 5 = Int32.ofInt (e : Int)) (he9 : e < 10) (hs : s < 2) (hc : c.length ≤ 100) : j_wp b 35 0 [.ref a, .int (Int32.ofInt (s : Int)), .int (Int32.ofInt v)] [] (y_W H a p c) Q = Q none (y_W (y_kp H a e c.length s v) a p c) := by
  obtain ⟨f1, f2, f3, f4, f5, f6, f7, f8, f9, f10, f11, f12⟩ := hF
  obtain ⟨k1, k2, k3, k4, k5, k6, k7, k8, k9⟩ := hK
  have te : (Int32.ofInt (e : Int)).toInt = (e : Int) := t_of (by omega) (by omega)
  have ts : (Int32.ofInt (s : Int)).toInt = (s : Int) := t_of (by omega) (by omega)
  have n1 : ¬ (10 : Int) ≤ (e : Int) := by omega
  have n2 : (e : Int) < 10 := by omega
  have n3 : (0 : Int) ≤ (e : Int) := by omega
  have w1 : ∀ (X : j_H) (u : Int32), j_sI (y_W X a p c) (a + 1) e u = y_W (j_sI X (a + 1) e u) a p c := fun X u => yW_w (by omega) (by omega) (by omega)
  have w2 : ∀ (X : j_H) (u : Int32), j_sI (y_W X a p c) (a + 2) e u = y_W (j_sI X (a + 2) e u) a p c := fun X u => yW_w (by omega) (by omega) (by omega)
  have w3 : ∀ (X : j_H) (u : Int32), j_sI (y_W X a p c) (a + 3) e u = y_W (j_sI X (a + 3) e u) a p c := fun X u => yW_w (by omega) (by omega) (by omega)
  have w4 : ∀ (X : j_H) (u : Int32), j_sI (y_W X a p c) a 5 u = y_W (j_sI X a 5 u) a p c := fun X u => yW_w (by omega) (by omega) (by omega)
  have w5 : ∀ (X : j_H) (u : Int32), j_sI (y_W X a p c) a 1 u = y_W (j_sI X a 1 u) a p c := fun X u => yW_w (by omega) (by omega) (by omega)
  have d1 : ¬ a = a + 1 := by omega
  have d2 : ¬ a = a + 2 := by omega
  have d3 : ¬ a = a + 3 := by omega
  by_cases t1 : (j_I H a 1).toInt = 0
  · by_cases s1 : s = 1
    · have s1' : (s : Int) = 1 := by omega
      have ez : j_bz (¬ (j_I H a 1).toInt = 0 ∨ s = 1) = Int32.ofInt 1 := if_pos (Or.inr s1)
      unfold y_kp
      rw [ez]
      simp (disch := (first | assumption | exact n_N11 | exact n_R11 (by decide) | exact n_bz | (simp (disch := (first | assumption | omega | decide)) only [v_rs, v_rn, v_pa, v_vc, v_vt, v_vl, v_ir, v_in, v_po, v_pn, v_re, v_rN, v_Nr, v_fe, v_fN, v_c1i, v_c1r, v_c1n, v_c1u, v_c1f, v_if, h_II, h_LL, h_RR, h_IL, h_IR, h_LI, h_LR, h_RI, h_RL, h_Ic, h_Lc, h_Rc, h_Id, h_Ld, h_Rd, h_cls_sI, h_cls_sL, h_cls_sR, h_cls_cI, h_cls_cL, h_tp_sI, h_tp_sL, h_tp_sR, h_tp_cI, h_tp_cL, h_ln_sI, h_ln_sL, h_ln_sR, h_ln_cI, h_ln_cL, v_if, j_scr, j_Wd_I, j_Wd_L, t_addo, t_subo, t_mulo, t_of, t_divc, t_remc, t_em, Int.toNat_zero, j_ix, Int.toNat_natCast, t_addc, t_subc, t_mulc, t_bz0, t_bz1, Classical.not_not, not_false_eq_true, if_true, if_false, and_true, true_and, and_false, false_and, and_self, or_true, true_or, or_false, false_or, not_true_eq_false, reduceIte, ite_self, implies_true, yW_cls, yW_R, yW_tp, yW_ln, yW_i, yW_s, f1, k1, k2, k3, k4, k5, k6, k7, k8, k9, he, te, ts, n1, n2, n3, w1, w2, w3, w4, w5, d1, d2, d3, t1, s1'] <;> first | omega | rfl | decide) | omega | decide | fail)) only [↓if_pos, ↓if_neg, ↓b35_0, ↓b35_9, ↓b35_19, ↓b35_29, ↓b35_42, ↓b35_52, ↓b35_60, ↓b35_65, ↓b35_69, ↓b35_70, ↓b35_73, v_rs, v_rn, v_pa, v_vc, v_vt, v_vl, v_ir, v_in, v_po, v_pn, v_re, v_rN, v_Nr, v_fe, v_fN, v_c1i, v_c1r, v_c1n, v_c1u, v_c1f, v_if, h_II, h_LL, h_RR, h_IL, h_IR, h_LI, h_LR, h_RI, h_RL, h_Ic, h_Lc, h_Rc, h_Id, h_Ld, h_Rd, h_cls_sI, h_cls_sL, h_cls_sR, h_cls_cI, h_cls_cL, h_tp_sI, h_tp_sL, h_tp_sR, h_tp_cI, h_tp_cL, h_ln_sI, h_ln_sL, h_ln_sR, h_ln_cI, h_ln_cL, v_if, j_ks, j_ke, t_addo, t_subo, t_mulo, t_of, t_divc, t_remc, t_em, Int.toNat_zero, j_ix, Int.toNat_natCast, t_addc, t_subc, t_mulc, t_bz0, t_bz1, Classical.not_not, not_false_eq_true, if_true, if_false, and_true, true_and, and_false, false_and, and_self, or_true, true_or, or_false, false_or, not_true_eq_false, reduceIte, ite_self, implies_true, yW_cls, yW_R, yW_tp, yW_ln, yW_i, yW_s, f1, k1, k2, k3, k4, k5, k6, k7, k8, k9, he, te, ts, n1, n2, n3, w1, w2, w3, w4, w5, d1, d2, d3, t1, s1']
    · have s1' : ¬ (s : Int) = 1 := by omega
      have ez : j_bz (¬ (j_I H a 1).toInt = 0 ∨ s = 1) = Int32.ofInt 0 := if_neg (by omega)
      unfold y_kp
      rw [ez]
      simp (disch := (first | assumption | exact n_N11 | exact n_R11 (by decide) | exact n_bz | (simp (disch := (first | assumption | omega | decide)) only [v_rs, v_rn, v_pa, v_vc, v_vt, v_vl, v_ir, v_in, v_po, v_pn, v_re, v_rN, v_Nr, v_fe, v_fN, v_c1i, v_c1r, v_c1n, v_c1u, v_c1f, v_if, h_II, h_LL, h_RR, h_IL, h_IR, h_LI, h_LR, h_RI, h_RL, h_Ic, h_Lc, h_Rc, h_Id, h_Ld, h_Rd, h_cls_sI, h_cls_sL, h_cls_sR, h_cls_cI, h_cls_cL, h_tp_sI, h_tp_sL, h_tp_sR, h_tp_cI, h_tp_cL, h_ln_sI, h_ln_sL, h_ln_sR, h_ln_cI, h_ln_cL, v_if, j_scr, j_Wd_I, j_Wd_L, t_addo, t_subo, t_mulo, t_of, t_divc, t_remc, t_em, Int.toNat_zero, j_ix, Int.toNat_natCast, t_addc, t_subc, t_mulc, t_bz0, t_bz1, Classical.not_not, not_false_eq_true, if_true, if_false, and_true, true_and, and_false, false_and, and_self, or_true, true_or, or_false, false_or, not_true_eq_false, reduceIte, ite_self, implies_true, yW_cls, yW_R, yW_tp, yW_ln, yW_i, yW_s, f1, k1, k2, k3, k4, k5, k6, k7, k8, k9, he, te, ts, n1, n2, n3, w1, w2, w3, w4, w5, d1, d2, d3, t1, s1'] <;> first | omega | rfl | decide) | omega | decide | fail)) only [↓if_pos, ↓if_neg, ↓b35_0, ↓b35_9, ↓b35_19, ↓b35_29, ↓b35_42, ↓b35_52, ↓b35_60, ↓b35_65, ↓b35_69, ↓b35_70, ↓b35_73, v_rs, v_rn, v_pa, v_vc, v_vt, v_vl, v_ir, v_in, v_po, v_pn, v_re, v_rN, v_Nr, v_fe, v_fN, v_c1i, v_c1r, v_c1n, v_c1u, v_c1f, v_if, h_II, h_LL, h_RR, h_IL, h_IR, h_LI, h_LR, h_RI, h_RL, h_Ic, h_Lc, h_Rc, h_Id, h_Ld, h_Rd, h_cls_sI, h_cls_sL, h_cls_sR, h_cls_cI, h_cls_cL, h_tp_sI, h_tp_sL, h_tp_sR, h_tp_cI, h_tp_cL, h_ln_sI, h_ln_sL, h_ln_sR, h_ln_cI, h_ln_cL, v_if, j_ks, j_ke, t_addo, t_subo, t_mulo, t_of, t_divc, t_remc, t_em, Int.toNat_zero, j_ix, Int.toNat_natCast, t_addc, t_subc, t_mulc, t_bz0, t_bz1, Classical.not_not, not_false_eq_true, if_true, if_false, and_true, true_and, and_false, false_and, and_self, or_true, true_or, or_false, false_or, not_true_eq_false, reduceIte, ite_self, implies_true, yW_cls, yW_R, yW_tp, yW_ln, yW_i, yW_s, f1, k1, k2, k3, k4, k5, k6, k7, k8, k9, he, te, ts, n1, n2, n3, w1, w2, w3, w4, w5, d1, d2, d3, t1, s1']
  · have ez : j_bz (¬ (j_I H a 1).toInt = 0 ∨ s = 1) = Int32.ofInt 1 := if_pos (Or.inl t1)
    unfold y_kp
    rw [ez]
    simp (disch := (first | assumption | exact n_N11 | exact n_R11 (by decide) | exact n_bz | (simp (disch := (first | assumption | omega | decide)) only [v_rs, v_rn, v_pa, v_vc, v_vt, v_vl, v_ir, v_in, v_po, v_pn, v_re, v_rN, v_Nr, v_fe, v_fN, v_c1i, v_c1r, v_c1n, v_c1u, v_c1f, v_if, h_II, h_LL, h_RR, h_IL, h_IR, h_LI, h_LR, h_RI, h_RL, h_Ic, h_Lc, h_Rc, h_Id, h_Ld, h_Rd, h_cls_sI, h_cls_sL, h_cls_sR, h_cls_cI, h_cls_cL, h_tp_sI, h_tp_sL, h_tp_sR, h_tp_cI, h_tp_cL, h_ln_sI, h_ln_sL, h_ln_sR, h_ln_cI, h_ln_cL, v_if, j_scr, j_Wd_I, j_Wd_L, t_addo, t_subo, t_mulo, t_of, t_divc, t_remc, t_em, Int.toNat_zero, j_ix, Int.toNat_natCast, t_addc, t_subc, t_mulc, t_bz0, t_bz1, Classical.not_not, not_false_eq_true, if_true, if_false, and_true, true_and, and_false, false_and, and_self, or_true, true_or, or_false, false_or, not_true_eq_false, reduceIte, ite_self, implies_true, yW_cls, yW_R, yW_tp, yW_ln, yW_i, yW_s, f1, k1, k2, k3, k4, k5, k6, k7, k8, k9, he, te, ts, n1, n2, n3, w1, w2, w3, w4, w5, d1, d2, d3, t1] <;> first | omega | rfl | decide) | omega | decide | fail)) only [↓if_pos, ↓if_neg, ↓b35_0, ↓b35_9, ↓b35_19, ↓b35_29, ↓b35_42, ↓b35_52, ↓b35_60, ↓b35_65, ↓b35_69, ↓b35_70, ↓b35_73, v_rs, v_rn, v_pa, v_vc, v_vt, v_vl, v_ir, v_in, v_po, v_pn, v_re, v_rN, v_Nr, v_fe, v_fN, v_c1i, v_c1r, v_c1n, v_c1u, v_c1f, v_if, h_II, h_LL, h_RR, h_IL, h_IR, h_LI, h_LR, h_RI, h_RL, h_Ic, h_Lc, h_Rc, h_Id, h_Ld, h_Rd, h_cls_sI, h_cls_sL, h_cls_sR, h_cls_cI, h_cls_cL, h_tp_sI, h_tp_sL, h_tp_sR, h_tp_cI, h_tp_cL, h_ln_sI, h_ln_sL, h_ln_sR, h_ln_cI, h_ln_cL, v_if, j_ks, j_ke, t_addo, t_subo, t_mulo, t_of, t_divc, t_remc, t_em, Int.toNat_zero, j_ix, Int.toNat_natCast, t_addc, t_subc, t_mulc, t_bz0, t_bz1, Classical.not_not, not_false_eq_true, if_true, if_false, and_true, true_and, and_false, false_and, and_self, or_true, true_or, or_false, false_or, not_true_eq_false, reduceIte, ite_self, implies_true, yW_cls, yW_R, yW_tp, yW_ln, yW_i, yW_s, f1, k1, k2, k3, k4, k5, k6, k7, k8, k9, he, te, ts, n1, n2, n3, w1, w2, w3, w4, w5, d1, d2, d3, t1]
