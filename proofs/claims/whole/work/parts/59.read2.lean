/-! HOUSES: the class reads an E -/
theorem y_wb : ∀ s : Fin 5, ∀ x ∈ j_ws s.val, 0 ≤ x ∧ x ≤ 127 := by decide
theorem y_dc {α : Type} {w r : List α} {x : α} {i : Nat} (h : w.drop i = x :: r) : i < w.length ∧ w[i]? = some x ∧ w.drop (i + 1) = r := by
  have h1 : i < w.length := by
    by_cases hh : i < w.length
    · exact hh
    · rw [List.drop_eq_nil_of_le (by omega)] at h; cases h
  refine ⟨h1, ?_, ?_⟩
  · have : (w.drop i)[0]? = some x := by rw [h]; rfl
    rw [List.getElem?_drop] at this; exact this
  · rw [← List.tail_drop, h]; rfl
theorem y_q204 {H : j_H} {a n p s : Nat} {h : Nat → Int} {c : List Int} (hF : y_Fc H a n h) (hs : s < 5) (b : Nat) (Q : Option Value → j_H → Prop) : j_wp (b + 1) 204 0 [.ref s] [] (y_W H a p c) Q = Q (some (.int (Int32.ofInt ((j_ws s).length : Int)))) (y_W H a p c) := by
  obtain ⟨-, -, -, -, -, -, -, -, f9, -, -, f12⟩ := hF
  obtain ⟨g1, g2, g3, g4, g5, g6⟩ := f12 s hs
  exact y204 g1 g2 g3 g4 (by rw [yW_I (by omega) (by omega)]; exact g5)
theorem y_q205 {H : j_H} {a n p s i : Nat} {h : Nat → Int} {c : List Int} {x : Int} (hF : y_Fc H a n h) (hs : s < 5) (hi : i < (j_ws s).length) (hx : (j_ws s)[i]? = some x) (b : Nat) (Q : Option Value → j_H → Prop) : j_wp (b + 4) 205 0 [.ref s, .int (Int32.ofInt (i : Int))] [] (y_W H a p c) Q = Q (some (.int (Int32.ofInt x))) (y_W H a p c) := by
  obtain ⟨-, -, -, -, -, -, -, -, f9, -, -, f12⟩ := hF
  obtain ⟨g1, g2, g3, g4, g5, g6⟩ := f12 s hs
  have hb := y_wb ⟨s, hs⟩ x (List.mem_of_getElem? hx)
  have hl : (j_ws s).length ≤ 100 := (show ∀ s : Fin 5, (j_ws s.val).length ≤ 100 by decide) ⟨s, hs⟩
  refine y205 g1 g2 g3 g4 (by rw [yW_I (by omega) (by omega)]; exact g5) hi hl ?_ hb.1 hb.2
  rw [yW_I (by omega) (by omega), g6 i hi, List.getD_eq_getElem?_getD, hx]; rfl
theorem y33l {b : Nat} {H : j_H} {a n p s : Nat} {h : Nat → Int} {c : List Int} {Q : Option Value → j_H → Prop} (hF : y_Fc H a n h) (hp : p ≤ n) (hs : s < 5) : ∀ (r : List Int) (i : Nat), (j_ws s).drop i = r → i ≤ (j_ws s).length → j_wp (b + 5) 33 7 [.ref a, .ref s, .int (Int32.ofInt (h p)), .int (Int32.ofInt (i : Int))] [] (y_W H a p c) Q = if y_ix (h p) (i : Int) r < 0 then Q (some (.int (Int32.ofInt (-1)))) (y_W H a p c) else Q (some (.int (Int32.ofInt (y_ix (h p) (i : Int) r)))) (y_W H a (p + 1) c) := by
  have f1 := hF.1
  have fb := y_Fb hF p
  have hl : (j_ws s).length ≤ 100 := (show ∀ s : Fin 5, (j_ws s.val).length ≤ 100 by decide) ⟨s, hs⟩
  have hc : j_vc (y_W H a p c) (.ref s) = 14 := by rw [v_vc, yW_cls]; exact (hF.2.2.2.2.2.2.2.2.2.2.2 s hs).1
  have t1 : (Int32.ofInt (h p)).toInt = h p := t_of (by omega) (by omega)
  have q4 := y_q204 (p := p) (c := c) hF hs
  intro r
  induction r with
  | nil =>
    intro i hi hil
    have n1 : ((j_ws s).length : Int) ≤ (i : Int) := by have := List.drop_eq_nil_iff.1 hi; omega
    rw [show y_ix (h p) (i : Int) [] = -1 from rfl, if_pos (by decide), b33_7 hc]
    simp (disch := (first | assumption | exact n_N11 | exact n_R11 (by decide) | exact n_bz | (simp (disch := (first | assumption | omega | decide)) only [v_rs, v_rn, v_pa, v_vc, v_vt, v_vl, v_ir, v_in, v_po, v_pn, v_re, v_rN, v_Nr, v_fe, v_fN, v_c1i, v_c1r, v_c1n, v_c1u, v_c1f, v_if, h_II, h_LL, h_RR, h_IL, h_IR, h_LI, h_LR, h_RI, h_RL, h_Ic, h_Lc, h_Rc, h_Id, h_Ld, h_Rd, h_cls_sI, h_cls_sL, h_cls_sR, h_cls_cI, h_cls_cL, h_tp_sI, h_tp_sL, h_tp_sR, h_tp_cI, h_tp_cL, h_ln_sI, h_ln_sL, h_ln_sR, h_ln_cI, h_ln_cL, v_if, j_scr, j_Wd_I, j_Wd_L, t_addo, t_subo, t_mulo, t_of, t_divc, t_remc, t_em, Int.toNat_zero, j_ix, Int.toNat_natCast, t_addc, t_subc, t_mulc, t_bz0, t_bz1, Classical.not_not, not_false_eq_true, if_true, if_false, and_true, true_and, and_false, false_and, and_self, or_true, true_or, or_false, false_or, not_true_eq_false, reduceIte, ite_self, implies_true, q4, n1] <;> first | omega | rfl | decide) | omega | decide | fail)) only [↓if_pos, ↓if_neg, ↓b33_0, ↓b33_4, ↓b33_12, ↓b33_15, ↓b33_20, ↓b33_24, ↓b33_34, ↓b33_36, ↓b33_42, v_rs, v_rn, v_pa, v_vc, v_vt, v_vl, v_ir, v_in, v_po, v_pn, v_re, v_rN, v_Nr, v_fe, v_fN, v_c1i, v_c1r, v_c1n, v_c1u, v_c1f, v_if, h_II, h_LL, h_RR, h_IL, h_IR, h_LI, h_LR, h_RI, h_RL, h_Ic, h_Lc, h_Rc, h_Id, h_Ld, h_Rd, h_cls_sI, h_cls_sL, h_cls_sR, h_cls_cI, h_cls_cL, h_tp_sI, h_tp_sL, h_tp_sR, h_tp_cI, h_tp_cL, h_ln_sI, h_ln_sL, h_ln_sR, h_ln_cI, h_ln_cL, v_if, j_ks, j_ke, t_addo, t_subo, t_mulo, t_of, t_divc, t_remc, t_em, Int.toNat_zero, j_ix, Int.toNat_natCast, t_addc, t_subc, t_mulc, t_bz0, t_bz1, Classical.not_not, not_false_eq_true, if_true, if_false, and_true, true_and, and_false, false_and, and_self, or_true, true_or, or_false, false_or, not_true_eq_false, reduceIte, ite_self, implies_true, q4, n1]
  | cons x r ih =>
    intro i hi hil
    obtain ⟨d1, d2, d3⟩ := y_dc hi
    have hb := y_wb ⟨s, hs⟩ x (List.mem_of_getElem? d2)
    have n1 : ¬ ((j_ws s).length : Int) ≤ (i : Int) := by omega
    have q5 := y_q205 (p := p) (c := c) hF hs d1 d2
    have t2 : (Int32.ofInt x).toInt = x := t_of (by omega) (by omega)
    rw [b33_7 hc]
    by_cases e : x = h p
    · rw [show y_ix (h p) (i : Int) (x :: r) = (i : Int) by rw [y_ix, if_pos e], if_neg (by omega)]
      simp (disch := (first | assumption | exact n_N11 | exact n_R11 (by decide) | exact n_bz | (simp (disch := (first | assumption | omega | decide)) only [v_rs, v_rn, v_pa, v_vc, v_vt, v_vl, v_ir, v_in, v_po, v_pn, v_re, v_rN, v_Nr, v_fe, v_fN, v_c1i, v_c1r, v_c1n, v_c1u, v_c1f, v_if, h_II, h_LL, h_RR, h_IL, h_IR, h_LI, h_LR, h_RI, h_RL, h_Ic, h_Lc, h_Rc, h_Id, h_Ld, h_Rd, h_cls_sI, h_cls_sL, h_cls_sR, h_cls_cI, h_cls_cL, h_tp_sI, h_tp_sL, h_tp_sR, h_tp_cI, h_tp_cL, h_ln_sI, h_ln_sL, h_ln_sR, h_ln_cI, h_ln_cL, v_if, j_scr, j_Wd_I, j_Wd_L, t_addo, t_subo, t_mulo, t_of, t_divc, t_remc, t_em, Int.toNat_zero, j_ix, Int.toNat_natCast, t_addc, t_subc, t_mulc, t_bz0, t_bz1, Classical.not_not, not_false_eq_true, if_true, if_false, and_true, true_and, and_false, false_and, and_self, or_true, true_or, or_false, false_or, not_true_eq_false, reduceIte, ite_self, implies_true, q4, n1, q5, hc, t1, t2, e, yW_cls, f1, yW_p, yW_wp] <;> first | omega | rfl | decide) | omega | decide | fail)) only [↓if_pos, ↓if_neg, ↓b33_0, ↓b33_4, ↓b33_12, ↓b33_15, ↓b33_20, ↓b33_24, ↓b33_34, ↓b33_36, ↓b33_42, v_rs, v_rn, v_pa, v_vc, v_vt, v_vl, v_ir, v_in, v_po, v_pn, v_re, v_rN, v_Nr, v_fe, v_fN, v_c1i, v_c1r, v_c1n, v_c1u, v_c1f, v_if, h_II, h_LL, h_RR, h_IL, h_IR, h_LI, h_LR, h_RI, h_RL, h_Ic, h_Lc, h_Rc, h_Id, h_Ld, h_Rd, h_cls_sI, h_cls_sL, h_cls_sR, h_cls_cI, h_cls_cL, h_tp_sI, h_tp_sL, h_tp_sR, h_tp_cI, h_tp_cL, h_ln_sI, h_ln_sL, h_ln_sR, h_ln_cI, h_ln_cL, v_if, j_ks, j_ke, t_addo, t_subo, t_mulo, t_of, t_divc, t_remc, t_em, Int.toNat_zero, j_ix, Int.toNat_natCast, t_addc, t_subc, t_mulc, t_bz0, t_bz1, Classical.not_not, not_false_eq_true, if_true, if_false, and_true, true_and, and_false, false_and, and_self, or_true, true_or, or_false, false_or, not_true_eq_false, reduceIte, ite_self, implies_true, q4, n1, q5, hc, t1, t2, e, yW_cls, f1, yW_p, yW_wp]
    · rw [show y_ix (h p) (i : Int) (x :: r) = y_ix (h p) ((i + 1 : Nat) : Int) r by rw [y_ix, if_neg e]; rfl, ← ih (i + 1) d3 d1]
      simp (disch := (first | assumption | exact n_N11 | exact n_R11 (by decide) | exact n_bz | (simp (disch := (first | assumption | omega | decide)) only [v_rs, v_rn, v_pa, v_vc, v_vt, v_vl, v_ir, v_in, v_po, v_pn, v_re, v_rN, v_Nr, v_fe, v_fN, v_c1i, v_c1r, v_c1n, v_c1u, v_c1f, v_if, h_II, h_LL, h_RR, h_IL, h_IR, h_LI, h_LR, h_RI, h_RL, h_Ic, h_Lc, h_Rc, h_Id, h_Ld, h_Rd, h_cls_sI, h_cls_sL, h_cls_sR, h_cls_cI, h_cls_cL, h_tp_sI, h_tp_sL, h_tp_sR, h_tp_cI, h_tp_cL, h_ln_sI, h_ln_sL, h_ln_sR, h_ln_cI, h_ln_cL, v_if, j_scr, j_Wd_I, j_Wd_L, t_addo, t_subo, t_mulo, t_of, t_divc, t_remc, t_em, Int.toNat_zero, j_ix, Int.toNat_natCast, t_addc, t_subc, t_mulc, t_bz0, t_bz1, Classical.not_not, not_false_eq_true, if_true, if_false, and_true, true_and, and_false, false_and, and_self, or_true, true_or, or_false, false_or, not_true_eq_false, reduceIte, ite_self, implies_true, q4, n1, q5, hc, t1, t2, e, yW_cls, f1, yW_p, yW_wp] <;> first | omega | rfl | decide) | omega | decide | fail)) only [↓if_pos, ↓if_neg, ↓b33_0, ↓b33_4, ↓b33_12, ↓b33_15, ↓b33_20, ↓b33_24, ↓b33_34, ↓b33_36, ↓b33_42, v_rs, v_rn, v_pa, v_vc, v_vt, v_vl, v_ir, v_in, v_po, v_pn, v_re, v_rN, v_Nr, v_fe, v_fN, v_c1i, v_c1r, v_c1n, v_c1u, v_c1f, v_if, h_II, h_LL, h_RR, h_IL, h_IR, h_LI, h_LR, h_RI, h_RL, h_Ic, h_Lc, h_Rc, h_Id, h_Ld, h_Rd, h_cls_sI, h_cls_sL, h_cls_sR, h_cls_cI, h_cls_cL, h_tp_sI, h_tp_sL, h_tp_sR, h_tp_cI, h_tp_cL, h_ln_sI, h_ln_sL, h_ln_sR, h_ln_cI, h_ln_cL, v_if, j_ks, j_ke, t_addo, t_subo, t_mulo, t_of, t_divc, t_remc, t_em, Int.toNat_zero, j_ix, Int.toNat_natCast, t_addc, t_subc, t_mulc, t_bz0, t_bz1, Classical.not_not, not_false_eq_true, if_true, if_false, and_true, true_and, and_false, false_and, and_self, or_true, true_or, or_false, false_or, not_true_eq_false, reduceIte, ite_self, implies_true, q4, n1, q5, hc, t1, t2, e, yW_cls, f1, yW_p, yW_wp]
      rfl
theorem y33 {b : Nat} {H : j_H} {a n p s : Nat} {h : Nat → Int} {c : List Int} {u1 u2 : Value} {Q : Option Value → j_H → Prop} (hF : y_Fc H a n h) (hp : p ≤ n) (hs : s < 5) : j_wp (b + 6) 33 0 [.ref a, .ref s, u1, u2] [] (y_W H a p c) Q = if y_ix (h p) 0 (j_ws s) < 0 then Q (some (.int (Int32.ofInt (-1)))) (y_W H a p c) else Q (some (.int (Int32.ofInt (y_ix (h p) 0 (j_ws s))))) (y_W H a (p + 1) c) := by
  rw [b33_0 (by rw [v_vc, yW_cls]; exact hF.1), y30 hF hp, j_ks, b33_4 rfl]
  have := y33l (b := b + 1) (Q := Q) (c := c) hF hp hs (j_ws s) 0 rfl (Nat.zero_le _)
  exact this
theorem y33a {b : Nat} {H : j_H} {a n p : Nat} {h : Nat → Int} {c : List Int} {u1 u2 : Value} {Q : Option Value → j_H → Prop} (hF : y_Fc H a n h) (hp : p ≤ n) : j_wp (b + 6) 33 0 [.ref a, .ref 3, u1, u2] [] (y_W H a p c) Q = if y_li (h p) < 0 then Q (some (.int (Int32.ofInt (-1)))) (y_W H a p c) else Q (some (.int (Int32.ofInt (y_li (h p))))) (y_W H a (p + 1) c) := y33 hF hp (by decide)
theorem y33b {b : Nat} {H : j_H} {a n p : Nat} {h : Nat → Int} {c : List Int} {u1 u2 : Value} {Q : Option Value → j_H → Prop} (hF : y_Fc H a n h) (hp : p ≤ n) : j_wp (b + 6) 33 0 [.ref a, .ref 4, u1, u2] [] (y_W H a p c) Q = if y_re (h p) < 0 then Q (some (.int (Int32.ofInt (-1)))) (y_W H a p c) else Q (some (.int (Int32.ofInt (y_re (h p))))) (y_W H a (p + 1) c) := y33 hF hp (by decide)
/-- a word, sign by sign -/
def y_wm (h : Nat → Int) : Nat → List Int → Bool × Nat
  | p, [] => (true, p)
  | p, x :: r => if h p = x then y_wm h (p + 1) r else (false, p)
theorem y_wm_n {h : Nat → Int} {n : Nat} (hn : ∀ q, n ≤ q → h q = -1) : ∀ (w : List Int) (p : Nat), (∀ x ∈ w, 0 ≤ x) → p ≤ n → p ≤ (y_wm h p w).2 ∧ (y_wm h p w).2 ≤ n
  | [], p, _, hp => ⟨Nat.le_refl _, hp⟩
  | x :: r, p, hw, hp => by
    rw [y_wm]
    by_cases e : h p = x
    · rw [if_pos e]
      have := y_lt hn (by rw [e]; exact hw x (List.mem_cons_self ..))
      have := y_wm_n hn r (p + 1) (fun y hy => hw y (List.mem_cons_of_mem _ hy)) this
      exact ⟨by omega, this.2⟩
    · rw [if_neg e]; exact ⟨Nat.le_refl _, hp⟩
theorem y32l {b : Nat} {H : j_H} {a n s : Nat} {h : Nat → Int} {c : List Int} {Q : Option Value → j_H → Prop} (hF : y_Fc H a n h) (hs : s < 5) : ∀ (r : List Int) (i p : Nat), (j_ws s).drop i = r → i ≤ (j_ws s).length → p ≤ n → j_wp (b + 5) 32 2 [.ref a, .ref s, .int (Int32.ofInt (i : Int))] [] (y_W H a p c) Q = Q (some (.int (Int32.ofInt (if (y_wm h p r).1 = true then 1 else 0)))) (y_W H a (y_wm h p r).2 c) := by
  have f1 := hF.1
  have hl : (j_ws s).length ≤ 100 := (show ∀ s : Fin 5, (j_ws s.val).length ≤ 100 by decide) ⟨s, hs⟩
  intro r
  induction r with
  | nil =>
    intro i p hi hil hp
    have hc : j_vc (y_W H a p c) (.ref s) = 14 := by rw [v_vc, yW_cls]; exact (hF.2.2.2.2.2.2.2.2.2.2.2 s hs).1
    have n1 : ((j_ws s).length : Int) ≤ (i : Int) := by have := List.drop_eq_nil_iff.1 hi; omega
    have q4 := y_q204 (p := p) (c := c) hF hs
    rw [show y_wm h p [] = (true, p) from rfl, b32_2 hc]
    simp (disch := (first | assumption | exact n_N11 | exact n_R11 (by decide) | exact n_bz | (simp (disch := (first | assumption | omega | decide)) only [v_rs, v_rn, v_pa, v_vc, v_vt, v_vl, v_ir, v_in, v_po, v_pn, v_re, v_rN, v_Nr, v_fe, v_fN, v_c1i, v_c1r, v_c1n, v_c1u, v_c1f, v_if, h_II, h_LL, h_RR, h_IL, h_IR, h_LI, h_LR, h_RI, h_RL, h_Ic, h_Lc, h_Rc, h_Id, h_Ld, h_Rd, h_cls_sI, h_cls_sL, h_cls_sR, h_cls_cI, h_cls_cL, h_tp_sI, h_tp_sL, h_tp_sR, h_tp_cI, h_tp_cL, h_ln_sI, h_ln_sL, h_ln_sR, h_ln_cI, h_ln_cL, v_if, j_scr, j_Wd_I, j_Wd_L, t_addo, t_subo, t_mulo, t_of, t_divc, t_remc, t_em, Int.toNat_zero, j_ix, Int.toNat_natCast, t_addc, t_subc, t_mulc, t_bz0, t_bz1, Classical.not_not, not_false_eq_true, if_true, if_false, and_true, true_and, and_false, false_and, and_self, or_true, true_or, or_false, false_or, not_true_eq_false, reduceIte, ite_self, implies_true, q4, n1] <;> first | omega | rfl | decide) | omega | decide | fail)) only [↓if_pos, ↓if_neg, ↓b32_0, ↓b32_7, ↓b32_10, ↓b32_16, ↓b32_19, ↓b32_22, ↓b32_24, ↓b32_30, v_rs, v_rn, v_pa, v_vc, v_vt, v_vl, v_ir, v_in, v_po, v_pn, v_re, v_rN, v_Nr, v_fe, v_fN, v_c1i, v_c1r, v_c1n, v_c1u, v_c1f, v_if, h_II, h_LL, h_RR, h_IL, h_IR, h_LI, h_LR, h_RI, h_RL, h_Ic, h_Lc, h_Rc, h_Id, h_Ld, h_Rd, h_cls_sI, h_cls_sL, h_cls_sR, h_cls_cI, h_cls_cL, h_tp_sI, h_tp_sL, h_tp_sR, h_tp_cI, h_tp_cL, h_ln_sI, h_ln_sL, h_ln_sR, h_ln_cI, h_ln_cL, v_if, j_ks, j_ke, t_addo, t_subo, t_mulo, t_of, t_divc, t_remc, t_em, Int.toNat_zero, j_ix, Int.toNat_natCast, t_addc, t_subc, t_mulc, t_bz0, t_bz1, Classical.not_not, not_false_eq_true, if_true, if_false, and_true, true_and, and_false, false_and, and_self, or_true, true_or, or_false, false_or, not_true_eq_false, reduceIte, ite_self, implies_true, q4, n1]
  | cons x r ih =>
    intro i p hi hil hp
    have hc : j_vc (y_W H a p c) (.ref s) = 14 := by rw [v_vc, yW_cls]; exact (hF.2.2.2.2.2.2.2.2.2.2.2 s hs).1
    obtain ⟨d1, d2, d3⟩ := y_dc hi
    have hb := y_wb ⟨s, hs⟩ x (List.mem_of_getElem? d2)
    have n1 : ¬ ((j_ws s).length : Int) ≤ (i : Int) := by omega
    have q4 := y_q204 (p := p) (c := c) hF hs
    have q5 := y_q205 (p := p) (c := c) hF hs d1 d2
    rw [b32_2 hc]
    by_cases e : h p = x
    · rw [show y_wm h p (x :: r) = y_wm h (p + 1) r by rw [y_wm, if_pos e], ← ih (i + 1) (p + 1) d3 d1 (y_Fl hF (by omega))]
      simp (disch := (first | assumption | exact n_N11 | exact n_R11 (by decide) | exact n_bz | (simp (disch := (first | assumption | omega | decide)) only [v_rs, v_rn, v_pa, v_vc, v_vt, v_vl, v_ir, v_in, v_po, v_pn, v_re, v_rN, v_Nr, v_fe, v_fN, v_c1i, v_c1r, v_c1n, v_c1u, v_c1f, v_if, h_II, h_LL, h_RR, h_IL, h_IR, h_LI, h_LR, h_RI, h_RL, h_Ic, h_Lc, h_Rc, h_Id, h_Ld, h_Rd, h_cls_sI, h_cls_sL, h_cls_sR, h_cls_cI, h_cls_cL, h_tp_sI, h_tp_sL, h_tp_sR, h_tp_cI, h_tp_cL, h_ln_sI, h_ln_sL, h_ln_sR, h_ln_cI, h_ln_cL, v_if, j_scr, j_Wd_I, j_Wd_L, t_addo, t_subo, t_mulo, t_of, t_divc, t_remc, t_em, Int.toNat_zero, j_ix, Int.toNat_natCast, t_addc, t_subc, t_mulc, t_bz0, t_bz1, Classical.not_not, not_false_eq_true, if_true, if_false, and_true, true_and, and_false, false_and, and_self, or_true, true_or, or_false, false_or, not_true_eq_false, reduceIte, ite_self, implies_true, q4, n1, q5, hc, y31 hF hp hb.1 hb.2, e, yW_cls, f1] <;> first | omega | rfl | decide) | omega | decide | fail)) only [↓if_pos, ↓if_neg, ↓b32_0, ↓b32_7, ↓b32_10, ↓b32_16, ↓b32_19, ↓b32_22, ↓b32_24, ↓b32_30, v_rs, v_rn, v_pa, v_vc, v_vt, v_vl, v_ir, v_in, v_po, v_pn, v_re, v_rN, v_Nr, v_fe, v_fN, v_c1i, v_c1r, v_c1n, v_c1u, v_c1f, v_if, h_II, h_LL, h_RR, h_IL, h_IR, h_LI, h_LR, h_RI, h_RL, h_Ic, h_Lc, h_Rc, h_Id, h_Ld, h_Rd, h_cls_sI, h_cls_sL, h_cls_sR, h_cls_cI, h_cls_cL, h_tp_sI, h_tp_sL, h_tp_sR, h_tp_cI, h_tp_cL, h_ln_sI, h_ln_sL, h_ln_sR, h_ln_cI, h_ln_cL, v_if, j_ks, j_ke, t_addo, t_subo, t_mulo, t_of, t_divc, t_remc, t_em, Int.toNat_zero, j_ix, Int.toNat_natCast, t_addc, t_subc, t_mulc, t_bz0, t_bz1, Classical.not_not, not_false_eq_true, if_true, if_false, and_true, true_and, and_false, false_and, and_self, or_true, true_or, or_false, false_or, not_true_eq_false, reduceIte, ite_self, implies_true, q4, n1, q5, hc, y31 hF hp hb.1 hb.2, e, yW_cls, f1]
      rfl
    · rw [show y_wm h p (x :: r) = (false, p) by rw [y_wm, if_neg e]]
      simp (disch := (first | assumption | exact n_N11 | exact n_R11 (by decide) | exact n_bz | (simp (disch := (first | assumption | omega | decide)) only [v_rs, v_rn, v_pa, v_vc, v_vt, v_vl, v_ir, v_in, v_po, v_pn, v_re, v_rN, v_Nr, v_fe, v_fN, v_c1i, v_c1r, v_c1n, v_c1u, v_c1f, v_if, h_II, h_LL, h_RR, h_IL, h_IR, h_LI, h_LR, h_RI, h_RL, h_Ic, h_Lc, h_Rc, h_Id, h_Ld, h_Rd, h_cls_sI, h_cls_sL, h_cls_sR, h_cls_cI, h_cls_cL, h_tp_sI, h_tp_sL, h_tp_sR, h_tp_cI, h_tp_cL, h_ln_sI, h_ln_sL, h_ln_sR, h_ln_cI, h_ln_cL, v_if, j_scr, j_Wd_I, j_Wd_L, t_addo, t_subo, t_mulo, t_of, t_divc, t_remc, t_em, Int.toNat_zero, j_ix, Int.toNat_natCast, t_addc, t_subc, t_mulc, t_bz0, t_bz1, Classical.not_not, not_false_eq_true, if_true, if_false, and_true, true_and, and_false, false_and, and_self, or_true, true_or, or_false, false_or, not_true_eq_false, reduceIte, ite_self, implies_true, q4, n1, q5, hc, y31 hF hp hb.1 hb.2, e, yW_cls, f1] <;> first | omega | rfl | decide) | omega | decide | fail)) only [↓if_pos, ↓if_neg, ↓b32_0, ↓b32_7, ↓b32_10, ↓b32_16, ↓b32_19, ↓b32_22, ↓b32_24, ↓b32_30, v_rs, v_rn, v_pa, v_vc, v_vt, v_vl, v_ir, v_in, v_po, v_pn, v_re, v_rN, v_Nr, v_fe, v_fN, v_c1i, v_c1r, v_c1n, v_c1u, v_c1f, v_if, h_II, h_LL, h_RR, h_IL, h_IR, h_LI, h_LR, h_RI, h_RL, h_Ic, h_Lc, h_Rc, h_Id, h_Ld, h_Rd, h_cls_sI, h_cls_sL, h_cls_sR, h_cls_cI, h_cls_cL, h_tp_sI, h_tp_sL, h_tp_sR, h_tp_cI, h_tp_cL, h_ln_sI, h_ln_sL, h_ln_sR, h_ln_cI, h_ln_cL, v_if, j_ks, j_ke, t_addo, t_subo, t_mulo, t_of, t_divc, t_remc, t_em, Int.toNat_zero, j_ix, Int.toNat_natCast, t_addc, t_subc, t_mulc, t_bz0, t_bz1, Classical.not_not, not_false_eq_true, if_true, if_false, and_true, true_and, and_false, false_and, and_self, or_true, true_or, or_false, false_or, not_true_eq_false, reduceIte, ite_self, implies_true, q4, n1, q5, hc, y31 hF hp hb.1 hb.2, e, yW_cls, f1]
theorem y32 {b : Nat} {H : j_H} {a n p s : Nat} {h : Nat → Int} {c : List Int} {u1 : Value} {Q : Option Value → j_H → Prop} (hF : y_Fc H a n h) (hp : p ≤ n) (hs : s < 5) : j_wp (b + 5) 32 0 [.ref a, .ref s, u1] [] (y_W H a p c) Q = Q (some (.int (Int32.ofInt (if (y_wm h p (j_ws s)).1 = true then 1 else 0)))) (y_W H a (y_wm h p (j_ws s)).2 c) := by
  rw [b32_0 rfl]
  exact y32l hF hs (j_ws s) 0 p rfl (Nat.zero_le _) hp
