/-! HOUSES: the class reads a text, clause by clause -/
def y_cE : List (Nat × Int × List Int) → Nat
  | [] => 0
  | x :: r => (if x.1 = 2 then 0 else 1) + y_cE r
def y_cF : Int → List (Nat × Int × List Int) → Int
  | a, [] => a
  | a, x :: r => y_cF (if x.1 = 2 then x.2.1 else a) r
def y_cT : List (Nat × Int × List Int) → Bool
  | [] => false
  | x :: r => decide (x.1 = 1) || y_cT r
def y_cC : List (Nat × Int × List Int) → List Int
  | [] => []
  | x :: r => x.2.2 ++ y_cC r
theorem cE_s (x : Nat × Int × List Int) : ∀ l, y_cE (l ++ [x]) = y_cE l + (if x.1 = 2 then 0 else 1)
  | [] => by rw [List.nil_append, y_cE, y_cE, y_cE]; omega
  | y :: r => by rw [List.cons_append, y_cE, y_cE, cE_s x r]; omega
theorem cF_s (x : Nat × Int × List Int) : ∀ l a, y_cF a (l ++ [x]) = if x.1 = 2 then x.2.1 else y_cF a l
  | [], a => rfl
  | y :: r, a => by rw [List.cons_append, y_cF, y_cF, cF_s x r]
theorem cT_s (x : Nat × Int × List Int) : ∀ l, y_cT (l ++ [x]) = (y_cT l || decide (x.1 = 1))
  | [] => by
    rw [List.nil_append]
    show (decide (x.1 = 1) || false) = (false || decide (x.1 = 1))
    rw [Bool.or_false, Bool.false_or]
  | y :: r => by rw [List.cons_append, y_cT, y_cT, cT_s x r, Bool.or_assoc]
theorem cC_s (x : Nat × Int × List Int) : ∀ l, y_cC (l ++ [x]) = y_cC l ++ x.2.2
  | [] => by
    rw [List.nil_append]
    show x.2.2 ++ [] = [] ++ x.2.2
    rw [List.append_nil]; rfl
  | y :: r => by rw [List.cons_append, y_cC, y_cC, cC_s x r, List.append_assoc]
theorem cE_l : ∀ l, y_cE l ≤ l.length
  | [] => Nat.le_refl _
  | y :: r => by rw [y_cE, List.length_cons]; have := cE_l r; split <;> omega
theorem cE_t : ∀ l j, y_cE (l.take j) ≤ y_cE l
  | [], j => by rw [List.take_nil]; exact Nat.le_refl _
  | y :: r, 0 => Nat.zero_le _
  | y :: r, j + 1 => by rw [List.take_succ_cons, y_cE, y_cE]; have := cE_t r j; omega
theorem y_tks {α : Type} {l : List α} {i : Nat} {x : α} (h : l[i]? = some x) : l.take (i + 1) = l.take i ++ [x] := by
  rw [List.take_add_one, h]; rfl
theorem cE_x {l : List (Nat × Int × List Int)} {i : Nat} {x : Nat × Int × List Int} (h : l[i]? = some x) (hx : ¬ x.1 = 2) : y_cE (l.take i) < y_cE l := by
  have := cE_t l (i + 1)
  rw [y_tks h, cE_s, if_neg hx] at this
  omega
/-- so many clauses more at most, and which -/
def y_ls (h : Nat → Int) : Nat → Nat → Bool → Nat → List (Nat × Int × List Int) → Prop
  | 0, _, _, _, _ => False
  | g + 1, p, ok, q, CL => ∃ ok1 q1 v c, y_cl h p ok1 q1 v c ∧ (
      (ok1 = false ∧ ok = false ∧ q = q1) ∨
      (ok1 = true ∧ h q1 = -1 ∧ ok = true ∧ q = q1 ∧ CL = [(y_so h p, v, c)]) ∨
      (ok1 = true ∧ ¬ h q1 = -1 ∧ (g = 0 ∨ ¬ h q1 = 59) ∧ ok = false ∧ q = q1) ∨
      (ok1 = true ∧ ¬ h q1 = -1 ∧ ¬ g = 0 ∧ h q1 = 59 ∧ ∃ CL', y_ls h g (q1 + 1) ok q CL' ∧ CL = (y_so h p, v, c) :: CL'))
theorem y_ls_tot {h : Nat → Int} {n : Nat} (hn : ∀ q, n ≤ q → h q = -1) : ∀ g p, ∃ ok q CL, y_ls h (g + 1) p ok q CL
  | 0, p => by
    obtain ⟨ok1, q1, v, c, hC⟩ := y_cl_tot hn p
    cases ok1 with
    | false => exact ⟨false, q1, [], false, q1, v, c, hC, Or.inl ⟨rfl, rfl, rfl⟩⟩
    | true =>
      by_cases e : h q1 = -1
      · exact ⟨true, q1, _, true, q1, v, c, hC, Or.inr (Or.inl ⟨rfl, e, rfl, rfl, rfl⟩)⟩
      · exact ⟨false, q1, [], true, q1, v, c, hC, Or.inr (Or.inr (Or.inl ⟨rfl, e, Or.inl rfl, rfl, rfl⟩))⟩
  | g + 1, p => by
    obtain ⟨ok1, q1, v, c, hC⟩ := y_cl_tot hn p
    cases ok1 with
    | false => exact ⟨false, q1, [], false, q1, v, c, hC, Or.inl ⟨rfl, rfl, rfl⟩⟩
    | true =>
      by_cases e : h q1 = -1
      · exact ⟨true, q1, _, true, q1, v, c, hC, Or.inr (Or.inl ⟨rfl, e, rfl, rfl, rfl⟩)⟩
      · by_cases e2 : h q1 = 59
        · obtain ⟨ok, q, CL, hL⟩ := y_ls_tot hn g (q1 + 1)
          exact ⟨ok, q, _, true, q1, v, c, hC, Or.inr (Or.inr (Or.inr ⟨rfl, e, by omega, e2, CL, hL, rfl⟩))⟩
        · exact ⟨false, q1, [], true, q1, v, c, hC, Or.inr (Or.inr (Or.inl ⟨rfl, e, Or.inr e2, rfl, rfl⟩))⟩
/-- what the house holds of these clauses -/
def y_Ic (H : j_H) (a : Nat) (CL : List (Nat × Int × List Int)) : Prop := j_I H a 5 = Int32.ofInt (y_cE CL : Int) ∧ j_I H a 0 = Int32.ofInt (y_cF 1 CL) ∧ j_I H a 1 = j_bz (y_cT CL = true) ∧ ∀ (i s : Nat) (v : Int) (c : List Int), CL[i]? = some (s, v, c) → ¬ s = 2 → j_I H (a + 1) (y_cE (CL.take i)) = Int32.ofInt (s : Int) ∧ j_I H (a + 2) (y_cE (CL.take i)) = Int32.ofInt v ∧ j_I H (a + 3) (y_cE (CL.take i)) = Int32.ofInt ((y_cC (CL.take (i + 1))).length : Int)
theorem y_Ic_far {H : j_H} {a : Nat} {CL : List (Nat × Int × List Int)} {v : Int} (h : y_Ic H a CL) : y_Ic (j_sI H a 0 (Int32.ofInt v)) a (CL ++ [(2, v, [])]) := by
  obtain ⟨h1, h2, h3, h4⟩ := h
  refine ⟨?_, ?_, ?_, fun i s w c hi hs => ?_⟩
  · rw [h_II, if_neg (by omega), h1, cE_s]; rfl
  · rw [h_II, if_pos ⟨rfl, rfl⟩, cF_s]; rfl
  · rw [h_II, if_neg (by omega), h3, cT_s, show decide ((2, v, ([] : List Int)).1 = 1) = false from rfl, Bool.or_false]
  · have hl : i < CL.length := by
      by_cases e : i < CL.length
      · exact e
      · rw [List.getElem?_append_right (by omega)] at hi
        by_cases e2 : i - CL.length = 0
        · rw [e2] at hi; cases hi; exact absurd rfl hs
        · rw [show i - CL.length = (i - CL.length - 1) + 1 by omega, List.getElem?_cons_succ] at hi; cases hi
    rw [List.getElem?_append_left hl] at hi
    rw [List.take_append_of_le_length (by omega), List.take_append_of_le_length (by omega), h_II, if_neg (by omega), h_II, if_neg (by omega), h_II, if_neg (by omega)]
    exact h4 i s w c hi hs
theorem y_Ic_kp {H : j_H} {a s : Nat} {CL : List (Nat × Int × List Int)} {v : Int} {c : List Int} (h : y_Ic H a CL) (hs : ¬ s = 2) : y_Ic (y_kp H a (y_cE CL) (y_cC CL ++ c).length s v) a (CL ++ [(s, v, c)]) := by
  obtain ⟨h1, h2, h3, h4⟩ := h
  unfold y_kp
  refine ⟨?_, ?_, ?_, fun i s' w c' hi hs' => ?_⟩
  · rw [h_II, if_neg (by omega), h_II, if_pos ⟨rfl, rfl⟩, cE_s, if_neg hs]; rfl
  · rw [h_II, if_neg (by omega), h_II, if_neg (by omega), h_II, if_neg (by omega), h_II, if_neg (by omega), h_II, if_neg (by omega), h2, cF_s, if_neg hs]
  · rw [h_II, if_pos ⟨rfl, rfl⟩, h3, cT_s]
    have z : (¬ (j_bz (y_cT CL = true)).toInt = 0) = (y_cT CL = true) := by rw [t_bz0, Classical.not_not]
    generalize (j_bz (y_cT CL = true)).toInt = u at z
    unfold j_bz
    by_cases e1 : y_cT CL = true
    · rw [if_pos (Or.inl (by rw [z]; exact e1)), if_pos (by rw [e1]; rfl)]
    · by_cases e2 : s = 1
      · rw [if_pos (Or.inr e2), if_pos (by rw [show decide ((s, v, c).1 = 1) = true from decide_eq_true e2, Bool.or_true])]
      · rw [if_neg (fun x => x.elim (fun y => e1 (by rw [← z]; exact y)) e2), if_neg (by rw [show decide ((s, v, c).1 = 1) = false from decide_eq_false e2, Bool.or_false]; exact e1)]
  · by_cases hl : i < CL.length
    · rw [List.getElem?_append_left hl] at hi
      have hx := cE_x hi hs'
      rw [List.take_append_of_le_length (by omega), List.take_append_of_le_length (by omega)]
      simp (disch := omega) only [h_II, if_neg]
      exact h4 i s' w c' hi hs'
    · rw [List.getElem?_append_right (by omega)] at hi
      have e0 : i = CL.length := by
        by_cases e2 : i - CL.length = 0
        · omega
        · rw [show i - CL.length = (i - CL.length - 1) + 1 by omega, List.getElem?_cons_succ] at hi; cases hi
      subst e0
      rw [Nat.sub_self] at hi
      cases hi
      rw [List.take_append_of_le_length (Nat.le_refl _), List.take_length, show CL.length + 1 = (CL ++ [(s, v, c)]).length by rw [List.length_append]; rfl, List.take_length, cC_s]
      refine ⟨?_, ?_, ?_⟩
      · rw [h_II, if_neg (by omega), h_II, if_neg (by omega), h_II, if_neg (by omega), h_II, if_neg (by omega), h_II, if_pos ⟨rfl, rfl⟩]
      · rw [h_II, if_neg (by omega), h_II, if_neg (by omega), h_II, if_neg (by omega), h_II, if_pos ⟨rfl, rfl⟩]
      · rw [h_II, if_neg (by omega), h_II, if_neg (by omega), h_II, if_pos ⟨rfl, rfl⟩]
theorem y_kpF {H : j_H} {a e l s : Nat} {v : Int} : j_F (y_Sc a) H (y_kp H a e l s v) := by
  unfold y_kp
  exact ((((j_F.refl.sI (decide_eq_true (by omega))).sI (decide_eq_true (by omega))).sI (decide_eq_true (by omega))).sI (decide_eq_true (by omega))).sI (decide_eq_true (by omega))
theorem y_Fk_F {H H' : j_H} {a : Nat} (h : y_Fk H a) (e : j_F (y_Sc a) H H') (e' : ∀ k, 2 ≤ k → k ≤ 4 → j_R H' a k = j_R H a k) : y_Fk H' a := by
  obtain ⟨k1, k2, k3, k4, k5, k6, k7, k8, k9⟩ := h
  exact ⟨by rw [e' 2 (by omega) (by omega)]; exact k1, by rw [e' 3 (by omega) (by omega)]; exact k2, by rw [e' 4 (by omega) (by omega)]; exact k3, by rw [e.tp]; exact k4, by rw [e.ln]; exact k5, by rw [e.tp]; exact k6, by rw [e.ln]; exact k7, by rw [e.tp]; exact k8, by rw [e.ln]; exact k9⟩
theorem y22l {b n a : Nat} {h : Nat → Int} {H : j_H} {Q : Option Value → j_H → Prop} (hn : n ≤ 100) : ∀ (g p : Nat) (ok : Bool) (q : Nat) (CL0 CL : List (Nat × Int × List Int)) (Hk : j_H), CL0.length + g + 1 = 10 → y_Fc Hk a n h → y_Fk Hk a → y_Ic Hk a CL0 → p ≤ n → (y_cC CL0).length ≤ p → y_ls h (g + 1) p ok q CL → j_F (y_Sc a) H Hk →
    (ok = true → ∀ Hf, y_Ic Hf a (CL0 ++ CL) → j_F (y_Sc a) H Hf → Q (some (.int (Int32.ofInt (-1)))) (y_W Hf a q (y_cC (CL0 ++ CL)))) →
    (ok = false → ∀ X, j_F (y_Sc a) H X → Q (some (.int (Int32.ofInt (q : Int)))) X) →
    j_wp (b + 31) 22 37 [.ref a, .ref 60, .int (Int32.ofInt (n : Int)), .int (Int32.ofInt ((CL0.length : Int) + 1))] [] (y_W Hk a p (y_cC CL0)) Q := by
  intro g
  induction g with
  | zero =>
    intro p ok q CL0 CL Hk hg hF hK hI hp hl hL hfr aT aF
    have f1 := hF.1
    have hE := hF.2.2.2.2.2.2.2.2.2.2.1
    have hce := cE_l CL0
    obtain ⟨ok1, q1, v, c, hC, hcs⟩ := hL
    obtain ⟨v1, v2, v3⟩ := y_cl_b hE hp hC
    have n1 : ¬ (10 : Int) < (CL0.length : Int) + 1 := by omega
    have cont : ∀ (x : Nat × Int × List Int) (Hk' : j_H), ok1 = true → x = (y_so h p, v, c) → y_Fc Hk' a n h → y_Ic Hk' a (CL0 ++ [x]) → j_F (y_Sc a) H Hk' → j_wp (b + 31) 22 55 [.ref a, .ref 60, .int (Int32.ofInt (n : Int)), .int (Int32.ofInt ((CL0.length : Int) + 1))] [] (y_W Hk' a q1 (y_cC (CL0 ++ [x]))) Q := by
      intro x Hk' ho hx hF' hI' hfr'
      have f1' := hF'.1
      have fb := y_Fb hF' q1
      have t1 : (Int32.ofInt (h q1)).toInt = h q1 := t_of (by omega) (by omega)
      rcases hcs with ⟨e1, -, -⟩ | ⟨-, e2, e3, e4, e5⟩ | ⟨-, e2, e3, e4, e5⟩ | ⟨-, -, e2, -⟩
      · rw [ho] at e1; cases e1
      · subst q
        rw [hx, ← e5] at hI' ⊢
        simp (disch := (first | assumption | exact n_N11 | exact n_R11 (by decide) | exact n_bz | (simp (disch := (first | assumption | omega | decide)) only [v_rs, v_rn, v_pa, v_vc, v_vt, v_vl, v_ir, v_in, v_po, v_pn, v_re, v_rN, v_Nr, v_fe, v_fN, v_c1i, v_c1r, v_c1n, v_c1u, v_c1f, v_if, h_II, h_LL, h_RR, h_IL, h_IR, h_LI, h_LR, h_RI, h_RL, h_Ic, h_Lc, h_Rc, h_Id, h_Ld, h_Rd, h_cls_sI, h_cls_sL, h_cls_sR, h_cls_cI, h_cls_cL, h_tp_sI, h_tp_sL, h_tp_sR, h_tp_cI, h_tp_cL, h_ln_sI, h_ln_sL, h_ln_sR, h_ln_cI, h_ln_cL, v_if, j_scr, j_Wd_I, j_Wd_L, t_addo, t_subo, t_mulo, t_of, t_divc, t_remc, t_em, Int.toNat_zero, j_ix, Int.toNat_natCast, t_addc, t_subc, t_mulc, t_bz0, t_bz1, Classical.not_not, not_false_eq_true, if_true, if_false, and_true, true_and, and_false, false_and, and_self, or_true, true_or, or_false, false_or, not_true_eq_false, reduceIte, ite_self, implies_true, f1', yW_cls, y30 hF' v1, t1, e2] <;> first | omega | rfl | decide) | omega | decide | fail)) only [↓if_pos, ↓if_neg, ↓b22_0, ↓b22_5, ↓b22_10, ↓b22_15, ↓b22_20, ↓b22_25, ↓b22_30, ↓b22_35, ↓b22_37, ↓b22_43, ↓b22_47, ↓b22_50, ↓b22_55, ↓b22_59, ↓b22_63, ↓b22_65, ↓b22_71, ↓b22_77, ↓b22_80, ↓b22_85, ↓b22_91, v_rs, v_rn, v_pa, v_vc, v_vt, v_vl, v_ir, v_in, v_po, v_pn, v_re, v_rN, v_Nr, v_fe, v_fN, v_c1i, v_c1r, v_c1n, v_c1u, v_c1f, v_if, h_II, h_LL, h_RR, h_IL, h_IR, h_LI, h_LR, h_RI, h_RL, h_Ic, h_Lc, h_Rc, h_Id, h_Ld, h_Rd, h_cls_sI, h_cls_sL, h_cls_sR, h_cls_cI, h_cls_cL, h_tp_sI, h_tp_sL, h_tp_sR, h_tp_cI, h_tp_cL, h_ln_sI, h_ln_sL, h_ln_sR, h_ln_cI, h_ln_cL, v_if, j_ks, j_ke, t_addo, t_subo, t_mulo, t_of, t_divc, t_remc, t_em, Int.toNat_zero, j_ix, Int.toNat_natCast, t_addc, t_subc, t_mulc, t_bz0, t_bz1, Classical.not_not, not_false_eq_true, if_true, if_false, and_true, true_and, and_false, false_and, and_self, or_true, true_or, or_false, false_or, not_true_eq_false, reduceIte, ite_self, implies_true, f1', yW_cls, y30 hF' v1, t1, e2]
        exact aT e3 Hk' hI' hfr'
      · subst q
        have n2 : (CL0.length : Int) + 1 = 10 := by omega
        simp (disch := (first | assumption | exact n_N11 | exact n_R11 (by decide) | exact n_bz | (simp (disch := (first | assumption | omega | decide)) only [v_rs, v_rn, v_pa, v_vc, v_vt, v_vl, v_ir, v_in, v_po, v_pn, v_re, v_rN, v_Nr, v_fe, v_fN, v_c1i, v_c1r, v_c1n, v_c1u, v_c1f, v_if, h_II, h_LL, h_RR, h_IL, h_IR, h_LI, h_LR, h_RI, h_RL, h_Ic, h_Lc, h_Rc, h_Id, h_Ld, h_Rd, h_cls_sI, h_cls_sL, h_cls_sR, h_cls_cI, h_cls_cL, h_tp_sI, h_tp_sL, h_tp_sR, h_tp_cI, h_tp_cL, h_ln_sI, h_ln_sL, h_ln_sR, h_ln_cI, h_ln_cL, v_if, j_scr, j_Wd_I, j_Wd_L, t_addo, t_subo, t_mulo, t_of, t_divc, t_remc, t_em, Int.toNat_zero, j_ix, Int.toNat_natCast, t_addc, t_subc, t_mulc, t_bz0, t_bz1, Classical.not_not, not_false_eq_true, if_true, if_false, and_true, true_and, and_false, false_and, and_self, or_true, true_or, or_false, false_or, not_true_eq_false, reduceIte, ite_self, implies_true, f1', yW_cls, yW_p, y30 hF' v1, t1, e2, n2] <;> first | omega | rfl | decide) | omega | decide | fail)) only [↓if_pos, ↓if_neg, ↓b22_0, ↓b22_5, ↓b22_10, ↓b22_15, ↓b22_20, ↓b22_25, ↓b22_30, ↓b22_35, ↓b22_37, ↓b22_43, ↓b22_47, ↓b22_50, ↓b22_55, ↓b22_59, ↓b22_63, ↓b22_65, ↓b22_71, ↓b22_77, ↓b22_80, ↓b22_85, ↓b22_91, v_rs, v_rn, v_pa, v_vc, v_vt, v_vl, v_ir, v_in, v_po, v_pn, v_re, v_rN, v_Nr, v_fe, v_fN, v_c1i, v_c1r, v_c1n, v_c1u, v_c1f, v_if, h_II, h_LL, h_RR, h_IL, h_IR, h_LI, h_LR, h_RI, h_RL, h_Ic, h_Lc, h_Rc, h_Id, h_Ld, h_Rd, h_cls_sI, h_cls_sL, h_cls_sR, h_cls_cI, h_cls_cL, h_tp_sI, h_tp_sL, h_tp_sR, h_tp_cI, h_tp_cL, h_ln_sI, h_ln_sL, h_ln_sR, h_ln_cI, h_ln_cL, v_if, j_ks, j_ke, t_addo, t_subo, t_mulo, t_of, t_divc, t_remc, t_em, Int.toNat_zero, j_ix, Int.toNat_natCast, t_addc, t_subc, t_mulc, t_bz0, t_bz1, Classical.not_not, not_false_eq_true, if_true, if_false, and_true, true_and, and_false, false_and, and_self, or_true, true_or, or_false, false_or, not_true_eq_false, reduceIte, ite_self, implies_true, f1', yW_cls, yW_p, y30 hF' v1, t1, e2, n2]
        exact aF e4 _ (y_WF hfr')
      · exact absurd rfl e2
    rw [b22_37]
    simp (disch := (first | assumption | exact n_N11 | exact n_R11 (by decide) | exact n_bz | (simp (disch := (first | assumption | omega | decide)) only [v_rs, v_rn, v_pa, v_vc, v_vt, v_vl, v_ir, v_in, v_po, v_pn, v_re, v_rN, v_Nr, v_fe, v_fN, v_c1i, v_c1r, v_c1n, v_c1u, v_c1f, v_if, h_II, h_LL, h_RR, h_IL, h_IR, h_LI, h_LR, h_RI, h_RL, h_Ic, h_Lc, h_Rc, h_Id, h_Ld, h_Rd, h_cls_sI, h_cls_sL, h_cls_sR, h_cls_cI, h_cls_cL, h_tp_sI, h_tp_sL, h_tp_sR, h_tp_cI, h_tp_cL, h_ln_sI, h_ln_sL, h_ln_sR, h_ln_cI, h_ln_cL, v_if, j_scr, j_Wd_I, j_Wd_L, t_addo, t_subo, t_mulo, t_of, t_divc, t_remc, t_em, Int.toNat_zero, j_ix, Int.toNat_natCast, t_addc, t_subc, t_mulc, t_bz0, t_bz1, Classical.not_not, not_false_eq_true, if_true, if_false, and_true, true_and, and_false, false_and, and_self, or_true, true_or, or_false, false_or, not_true_eq_false, reduceIte, ite_self, implies_true, f1, yW_cls, n1] <;> first | omega | rfl | decide) | omega | decide | fail)) only [↓if_pos, ↓if_neg, ↓b22_0, ↓b22_5, ↓b22_10, ↓b22_15, ↓b22_20, ↓b22_25, ↓b22_30, ↓b22_35, ↓b22_43, ↓b22_50, ↓b22_55, ↓b22_59, ↓b22_63, ↓b22_65, ↓b22_71, ↓b22_77, ↓b22_80, ↓b22_85, ↓b22_91, v_rs, v_rn, v_pa, v_vc, v_vt, v_vl, v_ir, v_in, v_po, v_pn, v_re, v_rN, v_Nr, v_fe, v_fN, v_c1i, v_c1r, v_c1n, v_c1u, v_c1f, v_if, h_II, h_LL, h_RR, h_IL, h_IR, h_LI, h_LR, h_RI, h_RL, h_Ic, h_Lc, h_Rc, h_Id, h_Ld, h_Rd, h_cls_sI, h_cls_sL, h_cls_sR, h_cls_cI, h_cls_cL, h_tp_sI, h_tp_sL, h_tp_sR, h_tp_cI, h_tp_cL, h_ln_sI, h_ln_sL, h_ln_sR, h_ln_cI, h_ln_cL, v_if, j_ks, j_ke, t_addo, t_subo, t_mulo, t_of, t_divc, t_remc, t_em, Int.toNat_zero, j_ix, Int.toNat_natCast, t_addc, t_subc, t_mulc, t_bz0, t_bz1, Classical.not_not, not_false_eq_true, if_true, if_false, and_true, true_and, and_false, false_and, and_self, or_true, true_or, or_false, false_or, not_true_eq_false, reduceIte, ite_self, implies_true, f1, yW_cls, n1]
    refine y25 (e := y_cE CL0) hF hK hp hl hI.1 (by omega) hC (fun ho hs => ?_) (fun ho hs => ?_) (fun ho X hX hq => ?_)
    · have hc := (v3 ho).2.2.2.1 hs
      simp (disch := (first | assumption | exact n_N11 | exact n_R11 (by decide) | exact n_bz | (simp (disch := (first | assumption | omega | decide)) only [v_rs, v_rn, v_pa, v_vc, v_vt, v_vl, v_ir, v_in, v_po, v_pn, v_re, v_rN, v_Nr, v_fe, v_fN, v_c1i, v_c1r, v_c1n, v_c1u, v_c1f, v_if, h_II, h_LL, h_RR, h_IL, h_IR, h_LI, h_LR, h_RI, h_RL, h_Ic, h_Lc, h_Rc, h_Id, h_Ld, h_Rd, h_cls_sI, h_cls_sL, h_cls_sR, h_cls_cI, h_cls_cL, h_tp_sI, h_tp_sL, h_tp_sR, h_tp_cI, h_tp_cL, h_ln_sI, h_ln_sL, h_ln_sR, h_ln_cI, h_ln_cL, v_if, j_scr, j_Wd_I, j_Wd_L, t_addo, t_subo, t_mulo, t_of, t_divc, t_remc, t_em, Int.toNat_zero, j_ix, Int.toNat_natCast, t_addc, t_subc, t_mulc, t_bz0, t_bz1, Classical.not_not, not_false_eq_true, if_true, if_false, and_true, true_and, and_false, false_and, and_self, or_true, true_or, or_false, false_or, not_true_eq_false, reduceIte, ite_self, implies_true, f1] <;> first | omega | rfl | decide) | omega | decide | fail)) only [↓if_pos, ↓if_neg, ↓b22_0, ↓b22_5, ↓b22_10, ↓b22_15, ↓b22_20, ↓b22_25, ↓b22_30, ↓b22_35, ↓b22_37, ↓b22_43, ↓b22_47, ↓b22_50, ↓b22_59, ↓b22_63, ↓b22_65, ↓b22_71, ↓b22_77, ↓b22_80, ↓b22_85, ↓b22_91, v_rs, v_rn, v_pa, v_vc, v_vt, v_vl, v_ir, v_in, v_po, v_pn, v_re, v_rN, v_Nr, v_fe, v_fN, v_c1i, v_c1r, v_c1n, v_c1u, v_c1f, v_if, h_II, h_LL, h_RR, h_IL, h_IR, h_LI, h_LR, h_RI, h_RL, h_Ic, h_Lc, h_Rc, h_Id, h_Ld, h_Rd, h_cls_sI, h_cls_sL, h_cls_sR, h_cls_cI, h_cls_cL, h_tp_sI, h_tp_sL, h_tp_sR, h_tp_cI, h_tp_cL, h_ln_sI, h_ln_sL, h_ln_sR, h_ln_cI, h_ln_cL, v_if, j_ks, j_ke, t_addo, t_subo, t_mulo, t_of, t_divc, t_remc, t_em, Int.toNat_zero, j_ix, Int.toNat_natCast, t_addc, t_subc, t_mulc, t_bz0, t_bz1, Classical.not_not, not_false_eq_true, if_true, if_false, and_true, true_and, and_false, false_and, and_self, or_true, true_or, or_false, false_or, not_true_eq_false, reduceIte, ite_self, implies_true, f1]
      have hfr1 : j_F (y_Sc a) Hk (j_sI Hk a 0 (Int32.ofInt v)) := j_F.refl.sI (decide_eq_true (by omega))
      have := cont (2, v, []) (j_sI Hk a 0 (Int32.ofInt v)) ho (by rw [hs, hc]) (y_Fc_F hF hfr1 (by rw [h_II, if_neg (by omega)]) rfl) (y_Ic_far hI) (hfr.trans hfr1)
      rw [cC_s, List.append_nil] at this
      exact this
    · simp (disch := (first | assumption | exact n_N11 | exact n_R11 (by decide) | exact n_bz | (simp (disch := (first | assumption | omega | decide)) only [v_rs, v_rn, v_pa, v_vc, v_vt, v_vl, v_ir, v_in, v_po, v_pn, v_re, v_rN, v_Nr, v_fe, v_fN, v_c1i, v_c1r, v_c1n, v_c1u, v_c1f, v_if, h_II, h_LL, h_RR, h_IL, h_IR, h_LI, h_LR, h_RI, h_RL, h_Ic, h_Lc, h_Rc, h_Id, h_Ld, h_Rd, h_cls_sI, h_cls_sL, h_cls_sR, h_cls_cI, h_cls_cL, h_tp_sI, h_tp_sL, h_tp_sR, h_tp_cI, h_tp_cL, h_ln_sI, h_ln_sL, h_ln_sR, h_ln_cI, h_ln_cL, v_if, j_scr, j_Wd_I, j_Wd_L, t_addo, t_subo, t_mulo, t_of, t_divc, t_remc, t_em, Int.toNat_zero, j_ix, Int.toNat_natCast, t_addc, t_subc, t_mulc, t_bz0, t_bz1, Classical.not_not, not_false_eq_true, if_true, if_false, and_true, true_and, and_false, false_and, and_self, or_true, true_or, or_false, false_or, not_true_eq_false, reduceIte, ite_self, implies_true, f1] <;> first | omega | rfl | decide) | omega | decide | fail)) only [↓if_pos, ↓if_neg, ↓b22_0, ↓b22_5, ↓b22_10, ↓b22_15, ↓b22_20, ↓b22_25, ↓b22_30, ↓b22_35, ↓b22_37, ↓b22_43, ↓b22_47, ↓b22_50, ↓b22_59, ↓b22_63, ↓b22_65, ↓b22_71, ↓b22_77, ↓b22_80, ↓b22_85, ↓b22_91, v_rs, v_rn, v_pa, v_vc, v_vt, v_vl, v_ir, v_in, v_po, v_pn, v_re, v_rN, v_Nr, v_fe, v_fN, v_c1i, v_c1r, v_c1n, v_c1u, v_c1f, v_if, h_II, h_LL, h_RR, h_IL, h_IR, h_LI, h_LR, h_RI, h_RL, h_Ic, h_Lc, h_Rc, h_Id, h_Ld, h_Rd, h_cls_sI, h_cls_sL, h_cls_sR, h_cls_cI, h_cls_cL, h_tp_sI, h_tp_sL, h_tp_sR, h_tp_cI, h_tp_cL, h_ln_sI, h_ln_sL, h_ln_sR, h_ln_cI, h_ln_cL, v_if, j_ks, j_ke, t_addo, t_subo, t_mulo, t_of, t_divc, t_remc, t_em, Int.toNat_zero, j_ix, Int.toNat_natCast, t_addc, t_subc, t_mulc, t_bz0, t_bz1, Classical.not_not, not_false_eq_true, if_true, if_false, and_true, true_and, and_false, false_and, and_self, or_true, true_or, or_false, false_or, not_true_eq_false, reduceIte, ite_self, implies_true, f1]
      have := cont (y_so h p, v, c) (y_kp Hk a (y_cE CL0) (y_cC CL0 ++ c).length (y_so h p) v) ho rfl (y_Fc_F hF y_kpF (by unfold y_kp; rw [h_II, if_neg (by omega), h_II, if_neg (by omega), h_II, if_neg (by omega), h_II, if_neg (by omega), h_II, if_neg (by omega)]) rfl) (y_Ic_kp hI hs) (hfr.trans y_kpF)
      rw [cC_s] at this
      exact this
    · rcases hcs with ⟨e1, e2, e3⟩ | ⟨e1, -⟩ | ⟨e1, -⟩ | ⟨e1, -⟩
      · subst q
        have f1' : j_cls X a = 3 := (hX.cls a).trans f1
        simp (disch := (first | assumption | exact n_N11 | exact n_R11 (by decide) | exact n_bz | (simp (disch := (first | assumption | omega | decide)) only [v_rs, v_rn, v_pa, v_vc, v_vt, v_vl, v_ir, v_in, v_po, v_pn, v_re, v_rN, v_Nr, v_fe, v_fN, v_c1i, v_c1r, v_c1n, v_c1u, v_c1f, v_if, h_II, h_LL, h_RR, h_IL, h_IR, h_LI, h_LR, h_RI, h_RL, h_Ic, h_Lc, h_Rc, h_Id, h_Ld, h_Rd, h_cls_sI, h_cls_sL, h_cls_sR, h_cls_cI, h_cls_cL, h_tp_sI, h_tp_sL, h_tp_sR, h_tp_cI, h_tp_cL, h_ln_sI, h_ln_sL, h_ln_sR, h_ln_cI, h_ln_cL, v_if, j_scr, j_Wd_I, j_Wd_L, t_addo, t_subo, t_mulo, t_of, t_divc, t_remc, t_em, Int.toNat_zero, j_ix, Int.toNat_natCast, t_addc, t_subc, t_mulc, t_bz0, t_bz1, Classical.not_not, not_false_eq_true, if_true, if_false, and_true, true_and, and_false, false_and, and_self, or_true, true_or, or_false, false_or, not_true_eq_false, reduceIte, ite_self, implies_true, f1', hq] <;> first | omega | rfl | decide) | omega | decide | fail)) only [↓if_pos, ↓if_neg, ↓b22_0, ↓b22_5, ↓b22_10, ↓b22_15, ↓b22_20, ↓b22_25, ↓b22_30, ↓b22_35, ↓b22_37, ↓b22_43, ↓b22_47, ↓b22_50, ↓b22_55, ↓b22_59, ↓b22_63, ↓b22_65, ↓b22_71, ↓b22_77, ↓b22_80, ↓b22_85, ↓b22_91, v_rs, v_rn, v_pa, v_vc, v_vt, v_vl, v_ir, v_in, v_po, v_pn, v_re, v_rN, v_Nr, v_fe, v_fN, v_c1i, v_c1r, v_c1n, v_c1u, v_c1f, v_if, h_II, h_LL, h_RR, h_IL, h_IR, h_LI, h_LR, h_RI, h_RL, h_Ic, h_Lc, h_Rc, h_Id, h_Ld, h_Rd, h_cls_sI, h_cls_sL, h_cls_sR, h_cls_cI, h_cls_cL, h_tp_sI, h_tp_sL, h_tp_sR, h_tp_cI, h_tp_cL, h_ln_sI, h_ln_sL, h_ln_sR, h_ln_cI, h_ln_cL, v_if, j_ks, j_ke, t_addo, t_subo, t_mulo, t_of, t_divc, t_remc, t_em, Int.toNat_zero, j_ix, Int.toNat_natCast, t_addc, t_subc, t_mulc, t_bz0, t_bz1, Classical.not_not, not_false_eq_true, if_true, if_false, and_true, true_and, and_false, false_and, and_self, or_true, true_or, or_false, false_or, not_true_eq_false, reduceIte, ite_self, implies_true, f1', hq]
        exact aF e2 X (hfr.trans hX)
      · rw [ho] at e1; cases e1
      · rw [ho] at e1; cases e1
      · rw [ho] at e1; cases e1
  | succ g ih =>
    intro p ok q CL0 CL Hk hg hF hK hI hp hl hL hfr aT aF
    have f1 := hF.1
    have hE := hF.2.2.2.2.2.2.2.2.2.2.1
    have hce := cE_l CL0
    obtain ⟨ok1, q1, v, c, hC, hcs⟩ := hL
    obtain ⟨v1, v2, v3⟩ := y_cl_b hE hp hC
    have n1 : ¬ (10 : Int) < (CL0.length : Int) + 1 := by omega
    have cont : ∀ (x : Nat × Int × List Int) (Hk' : j_H), ok1 = true → x = (y_so h p, v, c) → y_Fc Hk' a n h → y_Fk Hk' a → y_Ic Hk' a (CL0 ++ [x]) → j_F (y_Sc a) H Hk' → j_wp (b + 31) 22 55 [.ref a, .ref 60, .int (Int32.ofInt (n : Int)), .int (Int32.ofInt ((CL0.length : Int) + 1))] [] (y_W Hk' a q1 (y_cC (CL0 ++ [x]))) Q := by
      intro x Hk' ho hx hF' hK' hI' hfr'
      have f1' := hF'.1
      have fb := y_Fb hF' q1
      have t1 : (Int32.ofInt (h q1)).toInt = h q1 := t_of (by omega) (by omega)
      have n2 : ¬ (CL0.length : Int) + 1 = 10 := by omega
      rcases hcs with ⟨e1, -, -⟩ | ⟨-, e2, e3, e4, e5⟩ | ⟨-, e2, e3, e4, e5⟩ | ⟨-, e2, -, e3, CL', e4, e5⟩
      · rw [ho] at e1; cases e1
      · subst q
        rw [hx, ← e5] at hI' ⊢
        simp (disch := (first | assumption | exact n_N11 | exact n_R11 (by decide) | exact n_bz | (simp (disch := (first | assumption | omega | decide)) only [v_rs, v_rn, v_pa, v_vc, v_vt, v_vl, v_ir, v_in, v_po, v_pn, v_re, v_rN, v_Nr, v_fe, v_fN, v_c1i, v_c1r, v_c1n, v_c1u, v_c1f, v_if, h_II, h_LL, h_RR, h_IL, h_IR, h_LI, h_LR, h_RI, h_RL, h_Ic, h_Lc, h_Rc, h_Id, h_Ld, h_Rd, h_cls_sI, h_cls_sL, h_cls_sR, h_cls_cI, h_cls_cL, h_tp_sI, h_tp_sL, h_tp_sR, h_tp_cI, h_tp_cL, h_ln_sI, h_ln_sL, h_ln_sR, h_ln_cI, h_ln_cL, v_if, j_scr, j_Wd_I, j_Wd_L, t_addo, t_subo, t_mulo, t_of, t_divc, t_remc, t_em, Int.toNat_zero, j_ix, Int.toNat_natCast, t_addc, t_subc, t_mulc, t_bz0, t_bz1, Classical.not_not, not_false_eq_true, if_true, if_false, and_true, true_and, and_false, false_and, and_self, or_true, true_or, or_false, false_or, not_true_eq_false, reduceIte, ite_self, implies_true, f1', yW_cls, y30 hF' v1, t1, e2] <;> first | omega | rfl | decide) | omega | decide | fail)) only [↓if_pos, ↓if_neg, ↓b22_0, ↓b22_5, ↓b22_10, ↓b22_15, ↓b22_20, ↓b22_25, ↓b22_30, ↓b22_35, ↓b22_37, ↓b22_43, ↓b22_47, ↓b22_50, ↓b22_55, ↓b22_59, ↓b22_63, ↓b22_65, ↓b22_71, ↓b22_77, ↓b22_80, ↓b22_85, ↓b22_91, v_rs, v_rn, v_pa, v_vc, v_vt, v_vl, v_ir, v_in, v_po, v_pn, v_re, v_rN, v_Nr, v_fe, v_fN, v_c1i, v_c1r, v_c1n, v_c1u, v_c1f, v_if, h_II, h_LL, h_RR, h_IL, h_IR, h_LI, h_LR, h_RI, h_RL, h_Ic, h_Lc, h_Rc, h_Id, h_Ld, h_Rd, h_cls_sI, h_cls_sL, h_cls_sR, h_cls_cI, h_cls_cL, h_tp_sI, h_tp_sL, h_tp_sR, h_tp_cI, h_tp_cL, h_ln_sI, h_ln_sL, h_ln_sR, h_ln_cI, h_ln_cL, v_if, j_ks, j_ke, t_addo, t_subo, t_mulo, t_of, t_divc, t_remc, t_em, Int.toNat_zero, j_ix, Int.toNat_natCast, t_addc, t_subc, t_mulc, t_bz0, t_bz1, Classical.not_not, not_false_eq_true, if_true, if_false, and_true, true_and, and_false, false_and, and_self, or_true, true_or, or_false, false_or, not_true_eq_false, reduceIte, ite_self, implies_true, f1', yW_cls, y30 hF' v1, t1, e2]
        exact aT e3 Hk' hI' hfr'
      · subst q
        have e3' : ¬ h q1 = 59 := by omega
        simp (disch := (first | assumption | exact n_N11 | exact n_R11 (by decide) | exact n_bz | (simp (disch := (first | assumption | omega | decide)) only [v_rs, v_rn, v_pa, v_vc, v_vt, v_vl, v_ir, v_in, v_po, v_pn, v_re, v_rN, v_Nr, v_fe, v_fN, v_c1i, v_c1r, v_c1n, v_c1u, v_c1f, v_if, h_II, h_LL, h_RR, h_IL, h_IR, h_LI, h_LR, h_RI, h_RL, h_Ic, h_Lc, h_Rc, h_Id, h_Ld, h_Rd, h_cls_sI, h_cls_sL, h_cls_sR, h_cls_cI, h_cls_cL, h_tp_sI, h_tp_sL, h_tp_sR, h_tp_cI, h_tp_cL, h_ln_sI, h_ln_sL, h_ln_sR, h_ln_cI, h_ln_cL, v_if, j_scr, j_Wd_I, j_Wd_L, t_addo, t_subo, t_mulo, t_of, t_divc, t_remc, t_em, Int.toNat_zero, j_ix, Int.toNat_natCast, t_addc, t_subc, t_mulc, t_bz0, t_bz1, Classical.not_not, not_false_eq_true, if_true, if_false, and_true, true_and, and_false, false_and, and_self, or_true, true_or, or_false, false_or, not_true_eq_false, reduceIte, ite_self, implies_true, f1', yW_cls, yW_p, y30 hF' v1, t1, e2, n2, y31 hF' v1, e3'] <;> first | omega | rfl | decide) | omega | decide | fail)) only [↓if_pos, ↓if_neg, ↓b22_0, ↓b22_5, ↓b22_10, ↓b22_15, ↓b22_20, ↓b22_25, ↓b22_30, ↓b22_35, ↓b22_37, ↓b22_43, ↓b22_47, ↓b22_50, ↓b22_55, ↓b22_59, ↓b22_63, ↓b22_65, ↓b22_71, ↓b22_77, ↓b22_80, ↓b22_85, ↓b22_91, v_rs, v_rn, v_pa, v_vc, v_vt, v_vl, v_ir, v_in, v_po, v_pn, v_re, v_rN, v_Nr, v_fe, v_fN, v_c1i, v_c1r, v_c1n, v_c1u, v_c1f, v_if, h_II, h_LL, h_RR, h_IL, h_IR, h_LI, h_LR, h_RI, h_RL, h_Ic, h_Lc, h_Rc, h_Id, h_Ld, h_Rd, h_cls_sI, h_cls_sL, h_cls_sR, h_cls_cI, h_cls_cL, h_tp_sI, h_tp_sL, h_tp_sR, h_tp_cI, h_tp_cL, h_ln_sI, h_ln_sL, h_ln_sR, h_ln_cI, h_ln_cL, v_if, j_ks, j_ke, t_addo, t_subo, t_mulo, t_of, t_divc, t_remc, t_em, Int.toNat_zero, j_ix, Int.toNat_natCast, t_addc, t_subc, t_mulc, t_bz0, t_bz1, Classical.not_not, not_false_eq_true, if_true, if_false, and_true, true_and, and_false, false_and, and_self, or_true, true_or, or_false, false_or, not_true_eq_false, reduceIte, ite_self, implies_true, f1', yW_cls, yW_p, y30 hF' v1, t1, e2, n2, y31 hF' v1, e3']
        exact aF e4 _ (y_WF hfr')
      · have l1 : q1 + 1 ≤ n := y_lt hE (show 0 ≤ h q1 by omega)
        have n3 : ¬ (59 : Int) = -1 := by decide
        simp (disch := (first | assumption | exact n_N11 | exact n_R11 (by decide) | exact n_bz | (simp (disch := (first | assumption | omega | decide)) only [v_rs, v_rn, v_pa, v_vc, v_vt, v_vl, v_ir, v_in, v_po, v_pn, v_re, v_rN, v_Nr, v_fe, v_fN, v_c1i, v_c1r, v_c1n, v_c1u, v_c1f, v_if, h_II, h_LL, h_RR, h_IL, h_IR, h_LI, h_LR, h_RI, h_RL, h_Ic, h_Lc, h_Rc, h_Id, h_Ld, h_Rd, h_cls_sI, h_cls_sL, h_cls_sR, h_cls_cI, h_cls_cL, h_tp_sI, h_tp_sL, h_tp_sR, h_tp_cI, h_tp_cL, h_ln_sI, h_ln_sL, h_ln_sR, h_ln_cI, h_ln_cL, v_if, j_scr, j_Wd_I, j_Wd_L, t_addo, t_subo, t_mulo, t_of, t_divc, t_remc, t_em, Int.toNat_zero, j_ix, Int.toNat_natCast, t_addc, t_subc, t_mulc, t_bz0, t_bz1, Classical.not_not, not_false_eq_true, if_true, if_false, and_true, true_and, and_false, false_and, and_self, or_true, true_or, or_false, false_or, not_true_eq_false, reduceIte, ite_self, implies_true, f1', yW_cls, yW_p, y30 hF' v1, t1, e2, n2, y31 hF' v1, e3, n3] <;> first | omega | rfl | decide) | omega | decide | fail)) only [↓if_pos, ↓if_neg, ↓b22_0, ↓b22_5, ↓b22_10, ↓b22_15, ↓b22_20, ↓b22_25, ↓b22_30, ↓b22_35, ↓b22_43, ↓b22_47, ↓b22_50, ↓b22_55, ↓b22_59, ↓b22_63, ↓b22_65, ↓b22_71, ↓b22_77, ↓b22_80, ↓b22_85, ↓b22_91, v_rs, v_rn, v_pa, v_vc, v_vt, v_vl, v_ir, v_in, v_po, v_pn, v_re, v_rN, v_Nr, v_fe, v_fN, v_c1i, v_c1r, v_c1n, v_c1u, v_c1f, v_if, h_II, h_LL, h_RR, h_IL, h_IR, h_LI, h_LR, h_RI, h_RL, h_Ic, h_Lc, h_Rc, h_Id, h_Ld, h_Rd, h_cls_sI, h_cls_sL, h_cls_sR, h_cls_cI, h_cls_cL, h_tp_sI, h_tp_sL, h_tp_sR, h_tp_cI, h_tp_cL, h_ln_sI, h_ln_sL, h_ln_sR, h_ln_cI, h_ln_cL, v_if, j_ks, j_ke, t_addo, t_subo, t_mulo, t_of, t_divc, t_remc, t_em, Int.toNat_zero, j_ix, Int.toNat_natCast, t_addc, t_subc, t_mulc, t_bz0, t_bz1, Classical.not_not, not_false_eq_true, if_true, if_false, and_true, true_and, and_false, false_and, and_self, or_true, true_or, or_false, false_or, not_true_eq_false, reduceIte, ite_self, implies_true, f1', yW_cls, yW_p, y30 hF' v1, t1, e2, n2, y31 hF' v1, e3, n3]
        have hlen : (CL0 ++ [x]).length = CL0.length + 1 := by rw [List.length_append]; rfl
        have := ih (q1 + 1) ok q (CL0 ++ [x]) CL' Hk' (by omega) hF' hK' hI' l1 (by rw [cC_s, List.length_append, hx]; have := (v3 ho).1; show _ + c.length ≤ _; omega) e4 hfr' (fun hok Hf k1 k2 => by
          have := aT hok Hf
          rw [e5, ← hx, show CL0 ++ x :: CL' = CL0 ++ [x] ++ CL' by rw [List.append_assoc]; rfl] at this
          exact this k1 k2) aF
        rw [hlen] at this
        exact this
    rw [b22_37]
    simp (disch := (first | assumption | exact n_N11 | exact n_R11 (by decide) | exact n_bz | (simp (disch := (first | assumption | omega | decide)) only [v_rs, v_rn, v_pa, v_vc, v_vt, v_vl, v_ir, v_in, v_po, v_pn, v_re, v_rN, v_Nr, v_fe, v_fN, v_c1i, v_c1r, v_c1n, v_c1u, v_c1f, v_if, h_II, h_LL, h_RR, h_IL, h_IR, h_LI, h_LR, h_RI, h_RL, h_Ic, h_Lc, h_Rc, h_Id, h_Ld, h_Rd, h_cls_sI, h_cls_sL, h_cls_sR, h_cls_cI, h_cls_cL, h_tp_sI, h_tp_sL, h_tp_sR, h_tp_cI, h_tp_cL, h_ln_sI, h_ln_sL, h_ln_sR, h_ln_cI, h_ln_cL, v_if, j_scr, j_Wd_I, j_Wd_L, t_addo, t_subo, t_mulo, t_of, t_divc, t_remc, t_em, Int.toNat_zero, j_ix, Int.toNat_natCast, t_addc, t_subc, t_mulc, t_bz0, t_bz1, Classical.not_not, not_false_eq_true, if_true, if_false, and_true, true_and, and_false, false_and, and_self, or_true, true_or, or_false, false_or, not_true_eq_false, reduceIte, ite_self, implies_true, f1, yW_cls, n1] <;> first | omega | rfl | decide) | omega | decide | fail)) only [↓if_pos, ↓if_neg, ↓b22_0, ↓b22_5, ↓b22_10, ↓b22_15, ↓b22_20, ↓b22_25, ↓b22_30, ↓b22_35, ↓b22_43, ↓b22_50, ↓b22_55, ↓b22_59, ↓b22_63, ↓b22_65, ↓b22_71, ↓b22_77, ↓b22_80, ↓b22_85, ↓b22_91, v_rs, v_rn, v_pa, v_vc, v_vt, v_vl, v_ir, v_in, v_po, v_pn, v_re, v_rN, v_Nr, v_fe, v_fN, v_c1i, v_c1r, v_c1n, v_c1u, v_c1f, v_if, h_II, h_LL, h_RR, h_IL, h_IR, h_LI, h_LR, h_RI, h_RL, h_Ic, h_Lc, h_Rc, h_Id, h_Ld, h_Rd, h_cls_sI, h_cls_sL, h_cls_sR, h_cls_cI, h_cls_cL, h_tp_sI, h_tp_sL, h_tp_sR, h_tp_cI, h_tp_cL, h_ln_sI, h_ln_sL, h_ln_sR, h_ln_cI, h_ln_cL, v_if, j_ks, j_ke, t_addo, t_subo, t_mulo, t_of, t_divc, t_remc, t_em, Int.toNat_zero, j_ix, Int.toNat_natCast, t_addc, t_subc, t_mulc, t_bz0, t_bz1, Classical.not_not, not_false_eq_true, if_true, if_false, and_true, true_and, and_false, false_and, and_self, or_true, true_or, or_false, false_or, not_true_eq_false, reduceIte, ite_self, implies_true, f1, yW_cls, n1]
    refine y25 (e := y_cE CL0) hF hK hp hl hI.1 (by omega) hC (fun ho hs => ?_) (fun ho hs => ?_) (fun ho X hX hq => ?_)
    · have hc := (v3 ho).2.2.2.1 hs
      simp (disch := (first | assumption | exact n_N11 | exact n_R11 (by decide) | exact n_bz | (simp (disch := (first | assumption | omega | decide)) only [v_rs, v_rn, v_pa, v_vc, v_vt, v_vl, v_ir, v_in, v_po, v_pn, v_re, v_rN, v_Nr, v_fe, v_fN, v_c1i, v_c1r, v_c1n, v_c1u, v_c1f, v_if, h_II, h_LL, h_RR, h_IL, h_IR, h_LI, h_LR, h_RI, h_RL, h_Ic, h_Lc, h_Rc, h_Id, h_Ld, h_Rd, h_cls_sI, h_cls_sL, h_cls_sR, h_cls_cI, h_cls_cL, h_tp_sI, h_tp_sL, h_tp_sR, h_tp_cI, h_tp_cL, h_ln_sI, h_ln_sL, h_ln_sR, h_ln_cI, h_ln_cL, v_if, j_scr, j_Wd_I, j_Wd_L, t_addo, t_subo, t_mulo, t_of, t_divc, t_remc, t_em, Int.toNat_zero, j_ix, Int.toNat_natCast, t_addc, t_subc, t_mulc, t_bz0, t_bz1, Classical.not_not, not_false_eq_true, if_true, if_false, and_true, true_and, and_false, false_and, and_self, or_true, true_or, or_false, false_or, not_true_eq_false, reduceIte, ite_self, implies_true, f1] <;> first | omega | rfl | decide) | omega | decide | fail)) only [↓if_pos, ↓if_neg, ↓b22_0, ↓b22_5, ↓b22_10, ↓b22_15, ↓b22_20, ↓b22_25, ↓b22_30, ↓b22_35, ↓b22_37, ↓b22_43, ↓b22_47, ↓b22_50, ↓b22_59, ↓b22_63, ↓b22_65, ↓b22_71, ↓b22_77, ↓b22_80, ↓b22_85, ↓b22_91, v_rs, v_rn, v_pa, v_vc, v_vt, v_vl, v_ir, v_in, v_po, v_pn, v_re, v_rN, v_Nr, v_fe, v_fN, v_c1i, v_c1r, v_c1n, v_c1u, v_c1f, v_if, h_II, h_LL, h_RR, h_IL, h_IR, h_LI, h_LR, h_RI, h_RL, h_Ic, h_Lc, h_Rc, h_Id, h_Ld, h_Rd, h_cls_sI, h_cls_sL, h_cls_sR, h_cls_cI, h_cls_cL, h_tp_sI, h_tp_sL, h_tp_sR, h_tp_cI, h_tp_cL, h_ln_sI, h_ln_sL, h_ln_sR, h_ln_cI, h_ln_cL, v_if, j_ks, j_ke, t_addo, t_subo, t_mulo, t_of, t_divc, t_remc, t_em, Int.toNat_zero, j_ix, Int.toNat_natCast, t_addc, t_subc, t_mulc, t_bz0, t_bz1, Classical.not_not, not_false_eq_true, if_true, if_false, and_true, true_and, and_false, false_and, and_self, or_true, true_or, or_false, false_or, not_true_eq_false, reduceIte, ite_self, implies_true, f1]
      have hfr1 : j_F (y_Sc a) Hk (j_sI Hk a 0 (Int32.ofInt v)) := j_F.refl.sI (decide_eq_true (by omega))
      have := cont (2, v, []) (j_sI Hk a 0 (Int32.ofInt v)) ho (by rw [hs, hc]) (y_Fc_F hF hfr1 (by rw [h_II, if_neg (by omega)]) rfl) (y_Fk_F hK hfr1 (fun k _ _ => rfl)) (y_Ic_far hI) (hfr.trans hfr1)
      rw [cC_s, List.append_nil] at this
      exact this
    · simp (disch := (first | assumption | exact n_N11 | exact n_R11 (by decide) | exact n_bz | (simp (disch := (first | assumption | omega | decide)) only [v_rs, v_rn, v_pa, v_vc, v_vt, v_vl, v_ir, v_in, v_po, v_pn, v_re, v_rN, v_Nr, v_fe, v_fN, v_c1i, v_c1r, v_c1n, v_c1u, v_c1f, v_if, h_II, h_LL, h_RR, h_IL, h_IR, h_LI, h_LR, h_RI, h_RL, h_Ic, h_Lc, h_Rc, h_Id, h_Ld, h_Rd, h_cls_sI, h_cls_sL, h_cls_sR, h_cls_cI, h_cls_cL, h_tp_sI, h_tp_sL, h_tp_sR, h_tp_cI, h_tp_cL, h_ln_sI, h_ln_sL, h_ln_sR, h_ln_cI, h_ln_cL, v_if, j_scr, j_Wd_I, j_Wd_L, t_addo, t_subo, t_mulo, t_of, t_divc, t_remc, t_em, Int.toNat_zero, j_ix, Int.toNat_natCast, t_addc, t_subc, t_mulc, t_bz0, t_bz1, Classical.not_not, not_false_eq_true, if_true, if_false, and_true, true_and, and_false, false_and, and_self, or_true, true_or, or_false, false_or, not_true_eq_false, reduceIte, ite_self, implies_true, f1] <;> first | omega | rfl | decide) | omega | decide | fail)) only [↓if_pos, ↓if_neg, ↓b22_0, ↓b22_5, ↓b22_10, ↓b22_15, ↓b22_20, ↓b22_25, ↓b22_30, ↓b22_35, ↓b22_37, ↓b22_43, ↓b22_47, ↓b22_50, ↓b22_59, ↓b22_63, ↓b22_65, ↓b22_71, ↓b22_77, ↓b22_80, ↓b22_85, ↓b22_91, v_rs, v_rn, v_pa, v_vc, v_vt, v_vl, v_ir, v_in, v_po, v_pn, v_re, v_rN, v_Nr, v_fe, v_fN, v_c1i, v_c1r, v_c1n, v_c1u, v_c1f, v_if, h_II, h_LL, h_RR, h_IL, h_IR, h_LI, h_LR, h_RI, h_RL, h_Ic, h_Lc, h_Rc, h_Id, h_Ld, h_Rd, h_cls_sI, h_cls_sL, h_cls_sR, h_cls_cI, h_cls_cL, h_tp_sI, h_tp_sL, h_tp_sR, h_tp_cI, h_tp_cL, h_ln_sI, h_ln_sL, h_ln_sR, h_ln_cI, h_ln_cL, v_if, j_ks, j_ke, t_addo, t_subo, t_mulo, t_of, t_divc, t_remc, t_em, Int.toNat_zero, j_ix, Int.toNat_natCast, t_addc, t_subc, t_mulc, t_bz0, t_bz1, Classical.not_not, not_false_eq_true, if_true, if_false, and_true, true_and, and_false, false_and, and_self, or_true, true_or, or_false, false_or, not_true_eq_false, reduceIte, ite_self, implies_true, f1]
      have := cont (y_so h p, v, c) (y_kp Hk a (y_cE CL0) (y_cC CL0 ++ c).length (y_so h p) v) ho rfl (y_Fc_F hF y_kpF (by unfold y_kp; rw [h_II, if_neg (by omega), h_II, if_neg (by omega), h_II, if_neg (by omega), h_II, if_neg (by omega), h_II, if_neg (by omega)]) rfl) (y_Fk_F hK y_kpF (fun k _ _ => rfl)) (y_Ic_kp hI hs) (hfr.trans y_kpF)
      rw [cC_s] at this
      exact this
    · rcases hcs with ⟨e1, e2, e3⟩ | ⟨e1, -⟩ | ⟨e1, -⟩ | ⟨e1, -⟩
      · subst q
        have f1' : j_cls X a = 3 := (hX.cls a).trans f1
        simp (disch := (first | assumption | exact n_N11 | exact n_R11 (by decide) | exact n_bz | (simp (disch := (first | assumption | omega | decide)) only [v_rs, v_rn, v_pa, v_vc, v_vt, v_vl, v_ir, v_in, v_po, v_pn, v_re, v_rN, v_Nr, v_fe, v_fN, v_c1i, v_c1r, v_c1n, v_c1u, v_c1f, v_if, h_II, h_LL, h_RR, h_IL, h_IR, h_LI, h_LR, h_RI, h_RL, h_Ic, h_Lc, h_Rc, h_Id, h_Ld, h_Rd, h_cls_sI, h_cls_sL, h_cls_sR, h_cls_cI, h_cls_cL, h_tp_sI, h_tp_sL, h_tp_sR, h_tp_cI, h_tp_cL, h_ln_sI, h_ln_sL, h_ln_sR, h_ln_cI, h_ln_cL, v_if, j_scr, j_Wd_I, j_Wd_L, t_addo, t_subo, t_mulo, t_of, t_divc, t_remc, t_em, Int.toNat_zero, j_ix, Int.toNat_natCast, t_addc, t_subc, t_mulc, t_bz0, t_bz1, Classical.not_not, not_false_eq_true, if_true, if_false, and_true, true_and, and_false, false_and, and_self, or_true, true_or, or_false, false_or, not_true_eq_false, reduceIte, ite_self, implies_true, f1', hq] <;> first | omega | rfl | decide) | omega | decide | fail)) only [↓if_pos, ↓if_neg, ↓b22_0, ↓b22_5, ↓b22_10, ↓b22_15, ↓b22_20, ↓b22_25, ↓b22_30, ↓b22_35, ↓b22_37, ↓b22_43, ↓b22_47, ↓b22_50, ↓b22_55, ↓b22_59, ↓b22_63, ↓b22_65, ↓b22_71, ↓b22_77, ↓b22_80, ↓b22_85, ↓b22_91, v_rs, v_rn, v_pa, v_vc, v_vt, v_vl, v_ir, v_in, v_po, v_pn, v_re, v_rN, v_Nr, v_fe, v_fN, v_c1i, v_c1r, v_c1n, v_c1u, v_c1f, v_if, h_II, h_LL, h_RR, h_IL, h_IR, h_LI, h_LR, h_RI, h_RL, h_Ic, h_Lc, h_Rc, h_Id, h_Ld, h_Rd, h_cls_sI, h_cls_sL, h_cls_sR, h_cls_cI, h_cls_cL, h_tp_sI, h_tp_sL, h_tp_sR, h_tp_cI, h_tp_cL, h_ln_sI, h_ln_sL, h_ln_sR, h_ln_cI, h_ln_cL, v_if, j_ks, j_ke, t_addo, t_subo, t_mulo, t_of, t_divc, t_remc, t_em, Int.toNat_zero, j_ix, Int.toNat_natCast, t_addc, t_subc, t_mulc, t_bz0, t_bz1, Classical.not_not, not_false_eq_true, if_true, if_false, and_true, true_and, and_false, false_and, and_self, or_true, true_or, or_false, false_or, not_true_eq_false, reduceIte, ite_self, implies_true, f1', hq]
        exact aF e2 X (hfr.trans hX)
      · rw [ho] at e1; cases e1
      · rw [ho] at e1; cases e1
      · rw [ho] at e1; cases e1
