/-! ACTS -/
/-- bodies written in a row of cells, and how many ran -/
def j_bo (a c s : Nat) : Nat → List Int → j_H → j_H
  | _, [], H => H
  | k, x :: r, H => j_bo a c s (k + 1) r (j_sI (j_sI H a k (Int32.ofInt x)) c s (Int32.ofInt ((k : Int) + 1)))
theorem bo_sh {a c s : Nat} : ∀ (bs : List Int) (k : Nat) (H : j_H), (j_bo a c s k bs H).1 = H.1
  | [], _, _ => rfl
  | _ :: r, k, H => bo_sh r (k + 1) _
theorem bo_R {a c s : Nat} : ∀ (bs : List Int) (k : Nat) (H : j_H) (d l : Nat), j_R (j_bo a c s k bs H) d l = j_R H d l ∧ j_L (j_bo a c s k bs H) d l = j_L H d l
  | [], _, _, _, _ => ⟨rfl, rfl⟩
  | _ :: r, k, H, d, l => bo_R r (k + 1) _ d l
theorem bo_o {a c s : Nat} : ∀ (bs : List Int) (k : Nat) (H : j_H) (d l : Nat), ¬ d = a → ¬ (d = c ∧ l = s) → j_I (j_bo a c s k bs H) d l = j_I H d l
  | [], _, _, _, _, _, _ => rfl
  | _ :: r, k, H, d, l, h1, h2 => by
    rw [j_bo, bo_o r (k + 1) _ d l h1 h2, h_II, if_neg h2, h_II, if_neg (fun h => h1 h.1)]
theorem bo_n {a c s : Nat} (hac : ¬ a = c) : ∀ (bs : List Int) (k : Nat) (H : j_H), j_I H c s = Int32.ofInt (k : Int) → j_I (j_bo a c s k bs H) c s = Int32.ofInt ((k : Int) + bs.length)
  | [], k, H, h => by rw [j_bo, h]; simp
  | x :: r, k, H, h => by
    rw [j_bo, bo_n hac r (k + 1) _ (by rw [h_II, if_pos ⟨rfl, rfl⟩]; rfl), List.length_cons]
    congr 1; omega
theorem bo_c {a c s : Nat} (hac : ¬ a = c) : ∀ (bs : List Int) (k : Nat) (H : j_H) (l : Nat), j_I (j_bo a c s k bs H) a l = if k ≤ l ∧ l < k + bs.length then Int32.ofInt (bs.getD (l - k) 0) else j_I H a l
  | [], k, H, l => by rw [j_bo, if_neg (by rw [List.length_nil]; omega)]
  | x :: r, k, H, l => by
    have e1 : j_I (j_sI (j_sI H a k (Int32.ofInt x)) c s (Int32.ofInt ((k : Int) + 1))) a l = if a = a ∧ l = k then Int32.ofInt x else j_I H a l := by rw [h_II, if_neg (fun h => hac h.1), h_II]
    rw [j_bo, bo_c hac r (k + 1) _ l, e1, List.length_cons]
    by_cases h : k ≤ l ∧ l < k + (r.length + 1)
    · rw [if_pos h]
      by_cases e : l = k
      · rw [if_neg (show ¬ (k + 1 ≤ l ∧ l < k + 1 + r.length) by omega), if_pos ⟨rfl, e⟩, e, Nat.sub_self]; rfl
      · rw [if_pos (show k + 1 ≤ l ∧ l < k + 1 + r.length by omega), show l - k = l - (k + 1) + 1 by omega]; rfl
    · rw [if_neg h, if_neg (show ¬ (k + 1 ≤ l ∧ l < k + 1 + r.length) by omega), if_neg (show ¬ (a = a ∧ l = k) by omega)]
theorem bo_co {a c s : Nat} (ha : ∀ k, j_scr a k = false) (hc : j_scr c s = false) : ∀ (bs : List Int) (k : Nat) (H : j_H), j_co (j_bo a c s k bs H) = j_bo a c s k bs (j_co H)
  | [], _, _ => rfl
  | x :: r, k, H => by
    rw [j_bo, j_bo, bo_co ha hc r (k + 1), c_sI' hc, c_sI' (ha k)]
theorem In_act {C : j_H} (hI : j_In C) (bs : List Int) (hb : bs.length ≤ 20) : j_In (j_bo 110 81 52 0 bs (j_sI (j_bo 75 74 1 0 bs (j_sI C 74 1 (Int32.ofInt 0))) 81 52 (Int32.ofInt 0))) := by
  obtain ⟨C', hC'⟩ : ∃ C', C' = j_bo 110 81 52 0 bs (j_sI (j_bo 75 74 1 0 bs (j_sI C 74 1 (Int32.ofInt 0))) 81 52 (Int32.ofInt 0)) := ⟨_, rfl⟩
  rw [← hC']
  have hs : C'.1 = C.1 := by
    rw [hC', bo_sh]
    show (j_bo 75 74 1 0 bs (j_sI C 74 1 (Int32.ofInt 0))).1 = C.1
    rw [bo_sh]; rfl
  have hR : ∀ a k, j_R C' a k = j_R C a k := fun a k => by rw [hC', (bo_R _ _ _ _ _).1, h_RI, (bo_R _ _ _ _ _).1, h_RI]
  have hL : ∀ a k, j_L C' a k = j_L C a k := fun a k => by rw [hC', (bo_R _ _ _ _ _).2, h_LI, (bo_R _ _ _ _ _).2, h_LI]
  have hO : ∀ a k, ¬ a = 110 → ¬ a = 75 → ¬ (a = 81 ∧ k = 52) → ¬ (a = 74 ∧ k = 1) → j_I C' a k = j_I C a k := fun a k h1 h2 h3 h4 => by
    rw [hC', bo_o _ _ _ _ _ h1 h3, h_II, if_neg h3, bo_o _ _ _ _ _ h2 h4, h_II, if_neg h4]
  have h74 : j_I C' 74 1 = Int32.ofInt (0 + bs.length) := by
    rw [hC', bo_o _ _ _ _ _ (by decide) (by decide), h_II, if_neg (by decide)]
    exact bo_n (by decide) bs 0 _ (by rw [h_II, if_pos ⟨rfl, rfl⟩]; rfl)
  have h52 : j_I C' 81 52 = Int32.ofInt (0 + bs.length) := by
    rw [hC']
    exact bo_n (by decide) bs 0 _ (by rw [h_II, if_pos ⟨rfl, rfl⟩]; rfl)
  obtain ⟨x1, ⟨es, er, et, eg, ew, eb⟩, x3, x4, x5, x6, x7, x8, x9⟩ := hI
  obtain ⟨-, -, -, t4⟩ := x8
  have o := fun a k h1 h2 h3 h4 => hO a k h1 h2 h3 h4
  refine ⟨⟨fun a x hx => by rw [hs]; exact x1.1 a x hx, fun p hp => (hR p.1 p.2.1).trans (x1.2.1 p hp), by rw [hs]; exact x1.2.2⟩, ⟨tr_Es (by intros; refine o _ _ ?_ ?_ ?_ ?_ <;> omega) (by intros; refine o _ _ ?_ ?_ ?_ ?_ <;> omega) (by intros; refine o _ _ ?_ ?_ ?_ ?_ <;> omega) (by intros; refine o _ _ ?_ ?_ ?_ ?_ <;> omega) (by intros; refine o _ _ ?_ ?_ ?_ ?_ <;> omega) (by intros; refine o _ _ ?_ ?_ ?_ ?_ <;> omega) (by intros; refine o _ _ ?_ ?_ ?_ ?_ <;> omega) es, tr_Er (by intros; refine o _ _ ?_ ?_ ?_ ?_ <;> omega) (by intros; refine o _ _ ?_ ?_ ?_ ?_ <;> omega) (by intros; refine o _ _ ?_ ?_ ?_ ?_ <;> omega) (by intros; refine o _ _ ?_ ?_ ?_ ?_ <;> omega) (by intros; refine o _ _ ?_ ?_ ?_ ?_ <;> omega) (by intros; refine o _ _ ?_ ?_ ?_ ?_ <;> omega) er, tr_Et (by intros; refine o _ _ ?_ ?_ ?_ ?_ <;> omega) (by intros; refine o _ _ ?_ ?_ ?_ ?_ <;> omega) (hR _ _) et, tr_Eg (by intros; refine o _ _ ?_ ?_ ?_ ?_ <;> omega) (fun _ => hR _ _) (by intros; refine o _ _ ?_ ?_ ?_ ?_ <;> omega) (by intros; refine o _ _ ?_ ?_ ?_ ?_ <;> omega) (by intros; refine o _ _ ?_ ?_ ?_ ?_ <;> omega) (by intros; refine o _ _ ?_ ?_ ?_ ?_ <;> omega) hs eg, tr_Ew (by intros; refine o _ _ ?_ ?_ ?_ ?_ <;> omega) (by intros; refine o _ _ ?_ ?_ ?_ ?_ <;> omega) ew, tr_Eb (by intros; refine o _ _ ?_ ?_ ?_ ?_ <;> omega) (by intros; refine o _ _ ?_ ?_ ?_ ?_ <;> omega) (by intros; refine o _ _ ?_ ?_ ?_ ?_ <;> omega) (by intros; refine o _ _ ?_ ?_ ?_ ?_ <;> omega) (by intros; refine o _ _ ?_ ?_ ?_ ?_ <;> omega) (by intros; refine o _ _ ?_ ?_ ?_ ?_ <;> omega) (by intros; refine o _ _ ?_ ?_ ?_ ?_ <;> omega) eb⟩, tr_Ev (by intros; refine o _ _ ?_ ?_ ?_ ?_ <;> omega) (fun a k _ _ => hR a k) (by intros; refine o _ _ ?_ ?_ ?_ ?_ <;> omega) (by intros; refine o _ _ ?_ ?_ ?_ ?_ <;> omega) (by intros; refine o _ _ ?_ ?_ ?_ ?_ <;> omega) (by intros; refine o _ _ ?_ ?_ ?_ ?_ <;> omega) (by intros; refine o _ _ ?_ ?_ ?_ ?_ <;> omega) (by intros; refine o _ _ ?_ ?_ ?_ ?_ <;> omega) (by intros; refine o _ _ ?_ ?_ ?_ ?_ <;> omega) (by intros; refine o _ _ ?_ ?_ ?_ ?_ <;> omega) (by intros; refine o _ _ ?_ ?_ ?_ ?_ <;> omega) (by intros; refine o _ _ ?_ ?_ ?_ ?_ <;> omega) (by intros; refine o _ _ ?_ ?_ ?_ ?_ <;> omega) (by intros; refine o _ _ ?_ ?_ ?_ ?_ <;> omega) (by intros; refine o _ _ ?_ ?_ ?_ ?_ <;> omega) (by intros; refine o _ _ ?_ ?_ ?_ ?_ <;> omega) (by intros; refine o _ _ ?_ ?_ ?_ ?_ <;> omega) hs x3, ?_, tr_Hs (by intros; refine o _ _ ?_ ?_ ?_ ?_ <;> omega) (by intros; refine o _ _ ?_ ?_ ?_ ?_ <;> omega) (by intros; refine o _ _ ?_ ?_ ?_ ?_ <;> omega) (by intros; refine o _ _ ?_ ?_ ?_ ?_ <;> omega) (by intros; refine o _ _ ?_ ?_ ?_ ?_ <;> omega) (by intros; refine o _ _ ?_ ?_ ?_ ?_ <;> omega) (by intros; refine o _ _ ?_ ?_ ?_ ?_ <;> omega) (by intros; refine o _ _ ?_ ?_ ?_ ?_ <;> omega) (by intros; refine o _ _ ?_ ?_ ?_ ?_ <;> omega) x5, tr_Tx (by intros; refine o _ _ ?_ ?_ ?_ ?_ <;> omega) (by intros; refine o _ _ ?_ ?_ ?_ ?_ <;> omega) (by intros; refine o _ _ ?_ ?_ ?_ ?_ <;> omega) (by intros; refine o _ _ ?_ ?_ ?_ ?_ <;> omega) x6, tr_Ta (by intros; refine o _ _ ?_ ?_ ?_ ?_ <;> omega) (fun a k _ _ => hL a k) (by intros; refine o _ _ ?_ ?_ ?_ ?_ <;> omega) (by intros; refine o _ _ ?_ ?_ ?_ ?_ <;> omega) (fun _ => hL _ _) x7, ?_, ?_⟩
  · rw [o 12 2 (by omega) (by omega) (by omega) (by omega), o 81 38 (by omega) (by omega) (by omega) (by omega)]; exact x4
  · refine ⟨by rw [h74, h52], ?_, ?_, fun k hk => ?_⟩
    · rw [h52, t_of (by omega) (by omega)]; omega
    · rw [h52, t_of (by omega) (by omega)]; omega
    · have q1 : j_I (j_sI C 74 1 (Int32.ofInt 0)) 75 k = j_I C 75 k := by rw [h_II, if_neg (by omega)]
      have q2 : j_I (j_sI (j_bo 75 74 1 0 bs (j_sI C 74 1 (Int32.ofInt 0))) 81 52 (Int32.ofInt 0)) 110 k = j_I C 110 k := by rw [h_II, if_neg (by omega), bo_o (a := 75) (c := 74) (s := 1) _ _ _ 110 k (by decide) (by omega), h_II, if_neg (by omega)]
      have L1 : j_I C' 75 k = if 0 ≤ k ∧ k < 0 + bs.length then Int32.ofInt (bs.getD (k - 0) 0) else j_I C 75 k := by
        rw [hC', bo_o (a := 110) (c := 81) (s := 52) _ _ _ 75 k (by decide) (by omega), h_II, if_neg (by omega), bo_c (a := 75) (c := 74) (s := 1) (by decide), q1]
      have L2 : j_I C' 110 k = if 0 ≤ k ∧ k < 0 + bs.length then Int32.ofInt (bs.getD (k - 0) 0) else j_I C 110 k := by
        rw [hC', bo_c (a := 110) (c := 81) (s := 52) (by decide), q2]
      rw [L1, L2, t4 k hk]
  · refine ⟨fun k hk => ?_, tr_St (by intros; refine o _ _ ?_ ?_ ?_ ?_ <;> omega) (fun a k _ => hR a k) x9.2⟩
    rw [o 94 k (by omega) (by omega) (by omega) (by omega)]; exact x9.1 k hk
theorem t_bzT {P : Prop} [Decidable P] (h : P) : j_bz P = Int32.ofInt 1 := by unfold j_bz; rw [if_pos h]
theorem t_bzF {P : Prop} [Decidable P] (h : ¬ P) : j_bz P = Int32.ofInt 0 := by unfold j_bz; rw [if_neg h]
theorem bo_app {a c s : Nat} {x : Int} : ∀ (bs : List Int) (k : Nat) (H : j_H), j_bo a c s k (bs ++ [x]) H = j_sI (j_sI (j_bo a c s k bs H) a (k + bs.length) (Int32.ofInt x)) c s (Int32.ofInt (((k + bs.length : Nat) : Int) + 1))
  | [], k, H => rfl
  | y :: r, k, H => by
    rw [List.cons_append, j_bo, bo_app r (k + 1), j_bo, List.length_cons, show k + 1 + r.length = k + (r.length + 1) by omega]
/-- the heaps of an act -/
def j_aB (H : j_H) (bs : List Int) : j_H := j_bo 75 74 1 0 bs (j_sI H 74 1 (Int32.ofInt 0))
def j_aM (H : j_H) (bs : List Int) : j_H := j_bo 110 81 52 0 bs (j_sI H 81 52 (Int32.ofInt 0))
theorem tb_I {H : j_H} {bs : List Int} {a k : Nat} (h : ¬ (a = 74 ∨ a = 75)) : j_I (j_aB H bs) a k = j_I H a k := by
  unfold j_aB; rw [bo_o _ _ _ _ _ (fun e => h (Or.inr e)) (fun e => h (Or.inl e.1)), h_II, if_neg (fun e => h (Or.inl e.1))]
theorem tb_R {H : j_H} {bs : List Int} {a k : Nat} : j_R (j_aB H bs) a k = j_R H a k := by unfold j_aB; rw [(bo_R _ _ _ _ _).1, h_RI]
theorem tb_sh {H : j_H} {bs : List Int} (a : Nat) : j_sh (j_aB H bs) a = j_sh H a := by unfold j_sh j_aB; rw [bo_sh]; rfl
theorem tb_cls {H : j_H} {bs : List Int} {a : Nat} : j_cls (j_aB H bs) a = j_cls H a := by unfold j_cls; rw [tb_sh]
theorem tb_tp {H : j_H} {bs : List Int} {a : Nat} : j_tp (j_aB H bs) a = j_tp H a := by unfold j_tp; rw [tb_sh]
theorem tb_ln {H : j_H} {bs : List Int} {a : Nat} : j_ln (j_aB H bs) a = j_ln H a := by unfold j_ln; rw [tb_sh]
theorem tm_I {H : j_H} {bs : List Int} {a k : Nat} (h : ¬ a = 110) (h2 : ¬ (a = 81 ∧ k = 52)) : j_I (j_aM H bs) a k = j_I H a k := by
  unfold j_aM; rw [bo_o _ _ _ _ _ h h2, h_II, if_neg h2]
theorem tm_R {H : j_H} {bs : List Int} {a k : Nat} : j_R (j_aM H bs) a k = j_R H a k := by unfold j_aM; rw [(bo_R _ _ _ _ _).1, h_RI]
theorem tm_sh {H : j_H} {bs : List Int} (a : Nat) : j_sh (j_aM H bs) a = j_sh H a := by unfold j_sh j_aM; rw [bo_sh]; rfl
theorem tm_cls {H : j_H} {bs : List Int} {a : Nat} : j_cls (j_aM H bs) a = j_cls H a := by unfold j_cls; rw [tm_sh]
theorem tm_tp {H : j_H} {bs : List Int} {a : Nat} : j_tp (j_aM H bs) a = j_tp H a := by unfold j_tp; rw [tm_sh]
theorem tm_ln {H : j_H} {bs : List Int} {a : Nat} : j_ln (j_aM H bs) a = j_ln H a := by unfold j_ln; rw [tm_sh]
theorem k63 {b : Nat} {H C : j_H} {bs : List Int} {x : Int} {Q : Option Value → j_H → Prop} (hC : j_co H = C) (hW : j_Wd C) (hl : bs.length < 20) : j_wp b 63 0 [.ref 74, .int (Int32.ofInt x)] [] (j_aB H bs) Q = Q none (j_aB H (bs ++ [x])) := by
  have r1 : j_R (j_aB H bs) 74 0 = some 75 := tb_R.trans ((rd_R hC rfl).trans (w_r74_0 hW))
  have r2 : j_cls (j_aB H bs) 74 = 10 := tb_cls.trans ((rd_cls hC).trans (w_c74 hW))
  have r3 : j_tp (j_aB H bs) 75 = 0 := tb_tp.trans ((rd_tp hC).trans (w_t75 hW))
  have r4 : j_ln (j_aB H bs) 75 = 20 := tb_ln.trans ((rd_ln hC).trans (w_n75 hW))
  have r5 : j_I (j_aB H bs) 74 1 = Int32.ofInt (bs.length : Int) := by
    unfold j_aB
    rw [bo_n (by decide) bs 0 _ (by rw [h_II, if_pos ⟨rfl, rfl⟩]; rfl)]
    congr 1; omega
  have h2 : ¬ (bs.length : Int) < 0 := by omega
  have h3 : ¬ 20 ≤ (bs.length : Int) := by omega
  have h4 : (bs.length : Int) < 20 := by omega
  have e : j_aB H (bs ++ [x]) = j_sI (j_sI (j_aB H bs) 75 bs.length (Int32.ofInt x)) 74 1 (Int32.ofInt ((bs.length : Int) + 1)) := by
    unfold j_aB; rw [bo_app, Nat.zero_add]
  rw [e]
  simp (disch := (first | assumption | exact n_N11 | exact n_R11 (by decide) | exact n_bz | (simp (disch := (first | assumption | omega | decide)) only [v_rs, v_rn, v_pa, v_vc, v_vt, v_vl, v_ir, v_in, v_po, v_pn, v_re, v_rN, v_Nr, v_fe, v_fN, v_c1i, v_c1r, v_c1n, v_c1u, v_c1f, v_if, h_II, h_LL, h_RR, h_IL, h_IR, h_LI, h_LR, h_RI, h_RL, h_Ic, h_Lc, h_Rc, h_Id, h_Ld, h_Rd, h_cls_sI, h_cls_sL, h_cls_sR, h_cls_cI, h_cls_cL, h_tp_sI, h_tp_sL, h_tp_sR, h_tp_cI, h_tp_cL, h_ln_sI, h_ln_sL, h_ln_sR, h_ln_cI, h_ln_cL, v_if, j_scr, j_Wd_I, j_Wd_L, t_addo, t_subo, t_mulo, t_of, t_divc, t_remc, t_em, Int.toNat_zero, j_ix, Int.toNat_natCast, t_addc, t_subc, t_mulc, t_bz0, t_bz1, Classical.not_not, not_false_eq_true, if_true, if_false, and_true, true_and, and_false, false_and, and_self, or_true, true_or, or_false, false_or, not_true_eq_false, reduceIte, ite_self, implies_true, r1, r2, r3, r4, r5, h2, h3, h4] <;> first | omega | rfl | decide) | omega | decide | fail)) only [↓if_pos, ↓if_neg, ↓b63_0, ↓b63_7, ↓b63_19, ↓b63_29, ↓b63_39, v_rs, v_rn, v_pa, v_vc, v_vt, v_vl, v_ir, v_in, v_po, v_pn, v_re, v_rN, v_Nr, v_fe, v_fN, v_c1i, v_c1r, v_c1n, v_c1u, v_c1f, v_if, h_II, h_LL, h_RR, h_IL, h_IR, h_LI, h_LR, h_RI, h_RL, h_Ic, h_Lc, h_Rc, h_Id, h_Ld, h_Rd, h_cls_sI, h_cls_sL, h_cls_sR, h_cls_cI, h_cls_cL, h_tp_sI, h_tp_sL, h_tp_sR, h_tp_cI, h_tp_cL, h_ln_sI, h_ln_sL, h_ln_sR, h_ln_cI, h_ln_cL, v_if, j_ks, j_ke, t_addo, t_subo, t_mulo, t_of, t_divc, t_remc, t_em, Int.toNat_zero, j_ix, Int.toNat_natCast, t_addc, t_subc, t_mulc, t_bz0, t_bz1, Classical.not_not, not_false_eq_true, if_true, if_false, and_true, true_and, and_false, false_and, and_self, or_true, true_or, or_false, false_or, not_true_eq_false, reduceIte, ite_self, implies_true, r1, r2, r3, r4, r5, h2, h3, h4]
theorem k183 {b : Nat} {H C : j_H} {bs : List Int} {x : Int} {Q : Option Value → j_H → Prop} (hC : j_co H = C) (hW : j_Wd C) (hl : bs.length < 20) : j_wp b 183 0 [.ref 81, .int (Int32.ofInt x)] [] (j_aM H bs) Q = Q none (j_aM H (bs ++ [x])) := by
  have r1 : j_R (j_aM H bs) 81 53 = some 110 := tm_R.trans ((rd_R hC rfl).trans (w_r81_53 hW))
  have r2 : j_cls (j_aM H bs) 81 = 12 := tm_cls.trans ((rd_cls hC).trans (w_c81 hW))
  have r3 : j_tp (j_aM H bs) 110 = 0 := tm_tp.trans ((rd_tp hC).trans (w_t110 hW))
  have r4 : j_ln (j_aM H bs) 110 = 20 := tm_ln.trans ((rd_ln hC).trans (w_n110 hW))
  have r5 : j_I (j_aM H bs) 81 52 = Int32.ofInt (bs.length : Int) := by
    unfold j_aM
    rw [bo_n (by decide) bs 0 _ (by rw [h_II, if_pos ⟨rfl, rfl⟩]; rfl)]
    congr 1; omega
  have h2 : ¬ 20 ≤ (bs.length : Int) := by omega
  have h3 : ¬ (bs.length : Int) < 0 := by omega
  have h4 : (bs.length : Int) < 20 := by omega
  have e : j_aM H (bs ++ [x]) = j_sI (j_sI (j_aM H bs) 110 bs.length (Int32.ofInt x)) 81 52 (Int32.ofInt ((bs.length : Int) + 1)) := by
    unfold j_aM; rw [bo_app, Nat.zero_add]
  rw [e]
  simp (disch := (first | assumption | exact n_N11 | exact n_R11 (by decide) | exact n_bz | (simp (disch := (first | assumption | omega | decide)) only [v_rs, v_rn, v_pa, v_vc, v_vt, v_vl, v_ir, v_in, v_po, v_pn, v_re, v_rN, v_Nr, v_fe, v_fN, v_c1i, v_c1r, v_c1n, v_c1u, v_c1f, v_if, h_II, h_LL, h_RR, h_IL, h_IR, h_LI, h_LR, h_RI, h_RL, h_Ic, h_Lc, h_Rc, h_Id, h_Ld, h_Rd, h_cls_sI, h_cls_sL, h_cls_sR, h_cls_cI, h_cls_cL, h_tp_sI, h_tp_sL, h_tp_sR, h_tp_cI, h_tp_cL, h_ln_sI, h_ln_sL, h_ln_sR, h_ln_cI, h_ln_cL, v_if, j_scr, j_Wd_I, j_Wd_L, t_addo, t_subo, t_mulo, t_of, t_divc, t_remc, t_em, Int.toNat_zero, j_ix, Int.toNat_natCast, t_addc, t_subc, t_mulc, t_bz0, t_bz1, Classical.not_not, not_false_eq_true, if_true, if_false, and_true, true_and, and_false, false_and, and_self, or_true, true_or, or_false, false_or, not_true_eq_false, reduceIte, ite_self, implies_true, r1, r2, r3, r4, r5, h2, h3, h4] <;> first | omega | rfl | decide) | omega | decide | fail)) only [↓if_pos, ↓if_neg, ↓b183_0, ↓b183_9, ↓b183_19, ↓b183_29, v_rs, v_rn, v_pa, v_vc, v_vt, v_vl, v_ir, v_in, v_po, v_pn, v_re, v_rN, v_Nr, v_fe, v_fN, v_c1i, v_c1r, v_c1n, v_c1u, v_c1f, v_if, h_II, h_LL, h_RR, h_IL, h_IR, h_LI, h_LR, h_RI, h_RL, h_Ic, h_Lc, h_Rc, h_Id, h_Ld, h_Rd, h_cls_sI, h_cls_sL, h_cls_sR, h_cls_cI, h_cls_cL, h_tp_sI, h_tp_sL, h_tp_sR, h_tp_cI, h_tp_cL, h_ln_sI, h_ln_sL, h_ln_sR, h_ln_cI, h_ln_cL, v_if, j_ks, j_ke, t_addo, t_subo, t_mulo, t_of, t_divc, t_remc, t_em, Int.toNat_zero, j_ix, Int.toNat_natCast, t_addc, t_subc, t_mulc, t_bz0, t_bz1, Classical.not_not, not_false_eq_true, if_true, if_false, and_true, true_and, and_false, false_and, and_self, or_true, true_or, or_false, false_or, not_true_eq_false, reduceIte, ite_self, implies_true, r1, r2, r3, r4, r5, h2, h3, h4]
def j_acb (k a : Int) : List Int :=
  if a = 0 then (if k = 0 then [10] else if k = 1 then [10] else if k = 2 then [30, 10] else if k = 3 then [10] else if k = 4 then [50, 10] else if k = 5 then [30, 10] else [71, 10])
  else if a = 1 then (if k = 0 then [11, 10] else if k = 1 then [20, 11, 10] else if k = 2 then [11, 30, 10] else if k = 3 then [11, 10] else if k = 4 then [51, 20, 11, 50, 10] else if k = 5 then [11, 30, 10] else [70, 11, 71, 10, 10])
  else (if k = 0 then [12, 11, 10] else if k = 1 then [12, 20, 11, 10] else if k = 2 then [12, 11, 30, 10] else if k = 3 then [40, 12, 11, 10, 11, 10] else if k = 4 then [12, 51, 20, 11, 50, 10] else if k = 5 then [60, 12, 11, 30, 10] else [40, 12, 70, 11, 71, 10, 10, 70, 11, 71, 10, 10])
def j_acv (k a : Int) (x g v : Int32) : Int32 :=
  if a = 0 then (if k = 0 then (x + g) else if k = 1 then (x + g) else if k = 2 then (x * Int32.ofInt 3 + g) else if k = 3 then (x + g) else if k = 4 then (-(x + g)) else if k = 5 then (x * Int32.ofInt 3 + g) else ((x + g) ^^^ v))
  else if a = 1 then (if k = 0 then ((x + g) - v) else if k = 1 then (((x + g) - v) ^^^ Int32.ofInt 6) else if k = 2 then ((x * Int32.ofInt 3 + g) - v) else if k = 3 then ((x + g) - v) else if k = 4 then (((-((x + Int32.ofInt 1) + g)) - v) ^^^ Int32.ofInt 6) else if k = 5 then ((x * Int32.ofInt 3 + g) - v) else ((((x + g) ^^^ v) - v) + (Int32.ofInt 2 + g)))
  else (if k = 0 then (((x + g) - v) * Int32.ofInt 2) else if k = 1 then ((((x + g) - v) ^^^ Int32.ofInt 6) * Int32.ofInt 2) else if k = 2 then (((x * Int32.ofInt 3 + g) - v) * Int32.ofInt 2) else if k = 3 then ((((x + g) - v) * Int32.ofInt 2) + (((Int32.ofInt 1) + g) - v)) else if k = 4 then ((((-((x + Int32.ofInt 1) + g)) - v) ^^^ Int32.ofInt 6) * Int32.ofInt 2) else if k = 5 then ((((x - g) * Int32.ofInt 3 + g) - v) * Int32.ofInt 2) else ((((((x + g) ^^^ v) - v) + (Int32.ofInt 2 + g)) * Int32.ofInt 2) + (((((Int32.ofInt 1) + g) ^^^ v) - v) + (Int32.ofInt 2 + g))))
set_option maxHeartbeats 200000 in
theorem k92_0_0 {b : Nat} {H C : j_H} {g act x : Int32} {Q : Option Value → j_H → Prop} (hC : j_co H = C) (hI : j_In C) (hg : 0 ≤ g.toInt ∧ g.toInt < j_n C) (ha : act.toInt = 0) (hk : j_kd C g.toInt = 0) : j_wp (b + 20) 92 0 [.ref 12, .int g, .int act, .int x, j_u] [] H Q = Q (some (.int (j_acv 0 0 x g (j_I C 83 g.toInt.toNat)))) (j_bo 75 74 1 0 (j_acb 0 0) (j_sI H 74 1 (Int32.ofInt 0))) := by
  have hW := hI.1
  have hN := i_G hI
  obtain ⟨e4, -⟩ := i_n hI
  obtain ⟨a1, a2, -⟩ := i_r hI
  have h2 : 0 ≤ g.toInt ∧ g.toInt < (j_I C 81 0).toInt := hg
  obtain ⟨r, hr, hG⟩ := i_gs hI hg.1 hg.2
  obtain ⟨g1, g2, g3, g4, g5, -⟩ := id hG
  rw [hk] at g2
  have gk : j_cls C r = 2 := g2
  have sr := j_scr_r g1
  have g4' : j_I C r 1 = g := t_ext g4
  have g5' : j_I C r 2 = j_I C 83 g.toInt.toNat := t_ext g5
  have hC1 : j_co (j_sI H 74 1 (Int32.ofInt 0)) = j_sI C 74 1 (Int32.ofInt 0) := by rw [c_sI' rfl, hC]
  have e134 : j_I (j_sI C 74 1 (Int32.ofInt 0)) 13 4 = j_I C 81 0 := by rw [h_II, if_neg (by decide)]; exact e4
  have hk1 := fun (b' : Nat) (Q : Option Value → j_H → Prop) => k1 (b := b') (x := g) (Q := Q) hC1 (show j_Wd (j_sI C 74 1 (Int32.ofInt 0)) from hW) (by rw [e134]; exact a2) hN
  simp only [e134] at hk1
  have hr' : va_rf (j_R (j_sI C 74 1 (Int32.ofInt 0)) 14 (j_ix g)) = .ref r := by show va_rf (j_R C 14 g.toInt.toNat) = _; rw [hr]; rfl
  simp only [if_pos h2, hr'] at hk1
  have n11 : ¬ r = 11 := by omega
  have n74 : ¬ (r = 74 ∨ r = 75) := by omega
  obtain ⟨B, hB⟩ : ∃ B, B = j_aB H := ⟨_, rfl⟩
  have etb : j_sI H 74 1 (Int32.ofInt 0) = B [] := by rw [hB]; rfl
  have hBI : ∀ bs a k, ¬ (a = 74 ∨ a = 75) → j_scr a k = false → j_I (B bs) a k = j_I C a k := fun bs a k h1 h2 => by rw [hB, tb_I h1, rd_I hC h2]
  have hBR : ∀ bs a k, j_scr a k = false → j_R (B bs) a k = j_R C a k := fun bs a k h2 => by rw [hB, tb_R, rd_R hC h2]
  have hBc : ∀ bs a, j_cls (B bs) a = j_cls C a := fun bs a => by rw [hB, tb_cls, rd_cls hC]
  have hBt : ∀ bs a, j_tp (B bs) a = j_tp C a := fun bs a => by rw [hB, tb_tp, rd_tp hC]
  have hBl : ∀ bs a, j_ln (B bs) a = j_ln C a := fun bs a => by rw [hB, tb_ln, rd_ln hC]
  have hk63 : ∀ (b' : Nat) (bs : List Int) (y : Int) (Q : Option Value → j_H → Prop), bs.length < 20 → j_wp b' 63 0 [.ref 74, .int (Int32.ofInt y)] [] (B bs) Q = Q none (B (bs ++ [y])) := fun b' bs y Q hl => by rw [hB]; exact k63 hC hW hl
  rw [etb] at hk1
  have hfin : Q (some (.int (j_acv 0 0 x g (j_I C 83 g.toInt.toNat)))) (j_bo 75 74 1 0 (j_acb 0 0) (j_sI H 74 1 (Int32.ofInt 0))) = Q (some (.int (j_acv 0 0 x g (j_I C 83 g.toInt.toNat)))) (B (j_acb 0 0)) := by rw [hB]; rfl
  rw [hfin]
  clear hfin hB hk hG hI hN hg h2 hr hr'
  simp (disch := (first | assumption | exact n_N11 | exact n_R11 (by decide) | exact n_bz | (simp (disch := (first | assumption | omega | decide)) only [v_rs, v_rn, v_pa, v_vc, v_vt, v_vl, v_ir, v_in, v_po, v_pn, v_re, v_rN, v_Nr, v_fe, v_fN, v_c1i, v_c1r, v_c1n, v_c1u, v_c1f, v_if, h_II, h_LL, h_RR, h_IL, h_IR, h_LI, h_LR, h_RI, h_RL, h_Ic, h_Lc, h_Rc, h_Id, h_Ld, h_Rd, h_cls_sI, h_cls_sL, h_cls_sR, h_cls_cI, h_cls_cL, h_tp_sI, h_tp_sL, h_tp_sR, h_tp_cI, h_tp_cL, h_ln_sI, h_ln_sL, h_ln_sR, h_ln_cI, h_ln_cL, v_if, j_scr, w_c12 hW, w_r12_0 hW, w_r12_1 hW, w_r12_3 hW, w_r12_5 hW, w_r12_7 hW, w_r12_8 hW, w_r12_9 hW, w_r12_10 hW, w_r12_11 hW, w_r12_12 hW, w_r12_13 hW, w_c74 hW, w_r74_0 hW, j_Wd_I, j_Wd_L, t_addo, t_subo, t_mulo, t_of, t_divc, t_remc, t_em, Int.toNat_zero, j_ix, Int.toNat_natCast, t_addc, t_subc, t_mulc, t_bz0, t_bz1, Classical.not_not, not_false_eq_true, if_true, if_false, and_true, true_and, and_false, false_and, and_self, or_true, true_or, or_false, false_or, not_true_eq_false, reduceIte, ite_self, implies_true, p_I, p_L, p_R, q_I, q_L, q_R, p_cls, p_tp, p_ln, p_cop, p_cov, rd_I hC, rd_L hC, rd_R hC, rd_cls hC, rd_tp hC, rd_ln hC, hC, hW] <;> first | omega | rfl | decide) | omega | decide | fail)) only [↓if_pos, ↓if_neg, ↓b92_0, ↓b92_62, ↓b92_73, ↓b92_84, ↓b92_85, ↓b62_0, ↓b62_5, v_rs, v_rn, v_pa, v_vc, v_vt, v_vl, v_ir, v_in, v_po, v_pn, v_re, v_rN, v_Nr, v_fe, v_fN, v_c1i, v_c1r, v_c1n, v_c1u, v_c1f, v_if, h_II, h_LL, h_RR, h_IL, h_IR, h_LI, h_LR, h_RI, h_RL, h_Ic, h_Lc, h_Rc, h_Id, h_Ld, h_Rd, h_cls_sI, h_cls_sL, h_cls_sR, h_cls_cI, h_cls_cL, h_tp_sI, h_tp_sL, h_tp_sR, h_tp_cI, h_tp_cL, h_ln_sI, h_ln_sL, h_ln_sR, h_ln_cI, h_ln_cL, v_if, w_c12 hW, w_r12_0 hW, w_r12_1 hW, w_r12_3 hW, w_r12_5 hW, w_r12_7 hW, w_r12_8 hW, w_r12_9 hW, w_r12_10 hW, w_r12_11 hW, w_r12_12 hW, w_r12_13 hW, w_c74 hW, w_r74_0 hW, j_ks, j_ke, t_addo, t_subo, t_mulo, t_of, t_divc, t_remc, t_em, Int.toNat_zero, j_ix, Int.toNat_natCast, t_addc, t_subc, t_mulc, t_bz0, t_bz1, Classical.not_not, not_false_eq_true, if_true, if_false, and_true, true_and, and_false, false_and, and_self, or_true, true_or, or_false, false_or, not_true_eq_false, reduceIte, ite_self, implies_true, p_I, p_L, p_R, q_I, q_L, q_R, p_cls, p_tp, p_ln, p_cop, p_cov, rd_I hC, rd_L hC, rd_R hC, rd_cls hC, rd_tp hC, rd_ln hC, hC, hW]
  rw [etb]
  have c74 : ∀ bs, j_vc (B bs) (.ref 74) = 10 := fun bs => by rw [v_vc, hBc]; exact w_c74 hW
  have c12 : ∀ bs, j_vc (B bs) (.ref 12) = 11 := fun bs => by rw [v_vc, hBc]; exact w_c12 hW
  have cr : ∀ bs, j_vc (B bs) (.ref r) = 2 := fun bs => by rw [v_vc, hBc]; exact gk
  have a12 : ∀ bs, va_rf (j_R (B bs) (j_pa (.ref 12)) 8) = .ref 74 := fun bs => by rw [v_pa, hBR _ _ _ rfl, w_r12_8 hW]; rfl
  have a120 : ∀ bs, va_rf (j_R (B bs) (j_pa (.ref 12)) 0) = .ref 13 := fun bs => by rw [v_pa, hBR _ _ _ rfl, w_r12_0 hW]; rfl
  have a12' : ∀ bs, va_rf (j_R (B bs) 12 8) = .ref 74 := a12
  have a120' : ∀ bs, va_rf (j_R (B bs) 12 0) = .ref 13 := a120
  have c13 : ∀ bs, j_vc (B bs) (.ref 13) = 0 := fun bs => by rw [v_vc, hBc]; exact w_c13 hW
  have gI1 : ∀ bs, j_I (B bs) r 1 = g := fun bs => (hBI _ _ _ n74 (sr _)).trans g4'
  have gI2 : ∀ bs, j_I (B bs) r 2 = j_I C 83 g.toInt.toNat := fun bs => (hBI _ _ _ n74 (sr _)).trans g5'
  have nr11 : ¬ (Value.ref r) = .ref 11 := fun h => by injection h; contradiction
  have nrn : ¬ (Value.ref r) = .null := fun h => by cases h
  clear hBI hBR hBc hBt hBl g2 g3 g4 g5 hC1 e134 n11 n74 sr gk g4' g5' e4 a1 a2
  simp (disch := (first | exact c74 _ | exact cr _ | exact c12 _ | exact v_ir | exact nr11 | exact nrn | exact ha | (simp only [a12, a120, a12', a120', c74, cr, c12, c13, v_ir] <;> decide) | decide | omega | fail)) only [↓if_pos, ↓if_neg, ↓b92_7, ↓b92_15, ↓b92_22, ↓b92_24, ↓b92_52_2, ↓b92_62, ↓b92_63_2, ↓b92_73, ↓b92_74_2, ↓b92_84, ↓b92_85, ↓b18_0, ↓b18_6, ↓b44_0, ↓b44_6, ↓b44_14, ↓b47_0, ↓b47_6, ↓b47_12, ↓b60_0, ↓b60_6, ↓b60_12, j_ks, j_ke, hk1, hk63, a12, a120, a12', a120', v_pa, gI1, gI2, List.nil_append, List.cons_append]
  all_goals rfl
set_option maxHeartbeats 200000 in
theorem k191_0_0 {b : Nat} {H C : j_H} {g act x : Int32} {Q : Option Value → j_H → Prop} (hC : j_co H = C) (hW : j_Wd C) (hn : 0 ≤ (j_I C 81 0).toInt) (hn2 : (j_I C 81 0).toInt ≤ 7) (hg : 0 ≤ g.toInt ∧ g.toInt < j_n C) (ha : act.toInt = 0) (hk : j_kd C g.toInt = 0) : j_wp (b + 20) 191 0 [.ref 81, .int g, .int act, .int x] [] H Q = Q (some (.int (j_acv 0 0 x g (j_I C 83 g.toInt.toNat)))) (j_bo 110 81 52 0 (j_acb 0 0) (j_sI H 81 52 (Int32.ofInt 0))) := by
  have h2 : 0 ≤ g.toInt ∧ g.toInt < (j_I C 81 0).toInt := hg
  have hk' : (j_I C 82 g.toInt.toNat).toInt = 0 := hk
  have hC1 : j_co (j_sI H 81 52 (Int32.ofInt 0)) = j_sI C 81 52 (Int32.ofInt 0) := by rw [c_sI' rfl, hC]
  have e810 : j_I (j_sI C 81 52 (Int32.ofInt 0)) 81 0 = j_I C 81 0 := by rw [h_II, if_neg (by decide)]
  have hk1 := fun (b' : Nat) (Q : Option Value → j_H → Prop) => k124 (b := b') (x := g) (Q := Q) hC1 (show j_Wd (j_sI C 81 52 (Int32.ofInt 0)) from hW) (by rw [e810]; exact hn) (by rw [e810]; exact hn2)
  simp only [e810, t_bzT h2] at hk1
  have hk121 : ∀ (b' : Nat) (v : Value) (H : j_H) (Q : Option Value → j_H → Prop), j_wp b' 121 0 [v, .int act, .int (Int32.ofInt 0), .int (Int32.ofInt 2)] [] H Q = Q (some (.int (Int32.ofInt 1))) H := fun b' v H Q => by
    rw [k121, t_bzT (by rw [ha]; decide)]
  obtain ⟨B, hB⟩ : ∃ B, B = j_aM H := ⟨_, rfl⟩
  have etm : j_sI H 81 52 (Int32.ofInt 0) = B [] := by rw [hB]; rfl
  have hBI : ∀ bs a k, ¬ a = 110 → ¬ (a = 81 ∧ k = 52) → j_scr a k = false → j_I (B bs) a k = j_I C a k := fun bs a k h1 h3 h4 => by rw [hB, tm_I h1 h3, rd_I hC h4]
  have hBR : ∀ bs a k, j_scr a k = false → j_R (B bs) a k = j_R C a k := fun bs a k h2 => by rw [hB, tm_R, rd_R hC h2]
  have hBc : ∀ bs a, j_cls (B bs) a = j_cls C a := fun bs a => by rw [hB, tm_cls, rd_cls hC]
  have hBt : ∀ bs a, j_tp (B bs) a = j_tp C a := fun bs a => by rw [hB, tm_tp, rd_tp hC]
  have hBl : ∀ bs a, j_ln (B bs) a = j_ln C a := fun bs a => by rw [hB, tm_ln, rd_ln hC]
  have hk63 : ∀ (b' : Nat) (bs : List Int) (y : Int) (Q : Option Value → j_H → Prop), bs.length < 20 → j_wp b' 183 0 [.ref 81, .int (Int32.ofInt y)] [] (B bs) Q = Q none (B (bs ++ [y])) := fun b' bs y Q hl => by rw [hB]; exact k183 hC hW hl
  rw [etm] at hk1
  have hfin : Q (some (.int (j_acv 0 0 x g (j_I C 83 g.toInt.toNat)))) (j_bo 110 81 52 0 (j_acb 0 0) (j_sI H 81 52 (Int32.ofInt 0))) = Q (some (.int (j_acv 0 0 x g (j_I C 83 g.toInt.toNat)))) (B (j_acb 0 0)) := by rw [hB]; rfl
  rw [hfin]
  have p1 : ∀ bs, j_vc (B bs) (.ref 81) = 12 := fun bs => by rw [v_vc, hBc]; exact w_c81 hW
  have f4 : ∀ bs, va_rf (j_R (B bs) (j_pa (.ref 81)) 4) = .ref 82 := fun bs => by rw [v_pa, hBR _ _ _ rfl, w_r81_4 hW]; rfl
  have f5 : ∀ bs, va_rf (j_R (B bs) (j_pa (.ref 81)) 5) = .ref 83 := fun bs => by rw [v_pa, hBR _ _ _ rfl, w_r81_5 hW]; rfl
  have p2 : ∀ bs, j_vt (B bs) (va_rf (j_R (B bs) (j_pa (.ref 81)) 4)) = 0 := fun bs => by rw [f4, v_vt, hBt]; exact w_t82 hW
  have p2' : ∀ bs, j_vt (B bs) (va_rf (j_R (B bs) (j_pa (.ref 81)) 5)) = 0 := fun bs => by rw [f5, v_vt, hBt]; exact w_t83 hW
  have p3 : 0 ≤ g.toInt := hg.1
  have p4 : ∀ bs, g.toInt < ((j_vl (B bs) (va_rf (j_R (B bs) (j_pa (.ref 81)) 4)) : Nat) : Int) := fun bs => by rw [f4, v_vl, hBl, w_n82 hW]; have := h2.2; omega
  have p4' : ∀ bs, g.toInt < ((j_vl (B bs) (va_rf (j_R (B bs) (j_pa (.ref 81)) 5)) : Nat) : Int) := fun bs => by rw [f5, v_vl, hBl, w_n83 hW]; have := h2.2; omega
  have kd : ∀ bs, (j_I (B bs) (j_pa (va_rf (j_R (B bs) (j_pa (.ref 81)) 4))) (j_ix g)).toInt = 0 := fun bs => by rw [f4, v_pa, hBI _ _ _ (by decide) (by omega) rfl]; exact hk'
  have vv : ∀ bs, j_I (B bs) (j_pa (va_rf (j_R (B bs) (j_pa (.ref 81)) 5))) (j_ix g) = j_I C 83 g.toInt.toNat := fun bs => by rw [f5, v_pa, hBI _ _ _ (by decide) (by omega) rfl]; rfl
  rw [b191_0 (by rw [v_vc, rd_cls hC]; exact w_c81 hW), v_pa, etm]
  clear hfin hB hk hn hn2 hg hC1 e810 hBI hBR hBc hBt hBl f4 f5 etm
  simp (disch := (first | exact p1 _ | exact p2 _ | exact p2' _ | exact p3 | exact p4 _ | exact p4' _ | (simp only [kd] <;> omega) | decide | omega | fail)) only [↓if_pos, ↓if_neg, ↓b191_5, ↓b191_10, ↓b191_13, ↓b191_20, ↓b191_23, ↓b191_25, ↓b191_29, ↓b191_35, ↓b191_38, ↓b191_43, ↓b191_49, ↓b191_52, ↓b191_58, ↓b184_0, ↓b184_6, ↓b185_0, ↓b185_40, ↓b185_46, ↓b185_54, ↓b185_55, ↓b185_61, ↓b185_67, ↓b185_69, ↓b185_75, ↓b185_81, ↓b185_89, ↓b185_95, j_ks, j_ke, hk1, hk121, hk63, vv, List.nil_append, List.cons_append]
  all_goals rfl
set_option maxHeartbeats 200000 in
theorem k92_1_0 {b : Nat} {H C : j_H} {g act x : Int32} {Q : Option Value → j_H → Prop} (hC : j_co H = C) (hI : j_In C) (hg : 0 ≤ g.toInt ∧ g.toInt < j_n C) (ha : act.toInt = 0) (hk : j_kd C g.toInt = 1) : j_wp (b + 20) 92 0 [.ref 12, .int g, .int act, .int x, j_u] [] H Q = Q (some (.int (j_acv 1 0 x g (j_I C 83 g.toInt.toNat)))) (j_bo 75 74 1 0 (j_acb 1 0) (j_sI H 74 1 (Int32.ofInt 0))) := by
  have hW := hI.1
  have hN := i_G hI
  obtain ⟨e4, -⟩ := i_n hI
  obtain ⟨a1, a2, -⟩ := i_r hI
  have h2 : 0 ≤ g.toInt ∧ g.toInt < (j_I C 81 0).toInt := hg
  obtain ⟨r, hr, hG⟩ := i_gs hI hg.1 hg.2
  obtain ⟨g1, g2, g3, g4, g5, -⟩ := id hG
  rw [hk] at g2
  have gk : j_cls C r = 4 := g2
  have sr := j_scr_r g1
  have g4' : j_I C r 1 = g := t_ext g4
  have g5' : j_I C r 2 = j_I C 83 g.toInt.toNat := t_ext g5
  have hC1 : j_co (j_sI H 74 1 (Int32.ofInt 0)) = j_sI C 74 1 (Int32.ofInt 0) := by rw [c_sI' rfl, hC]
  have e134 : j_I (j_sI C 74 1 (Int32.ofInt 0)) 13 4 = j_I C 81 0 := by rw [h_II, if_neg (by decide)]; exact e4
  have hk1 := fun (b' : Nat) (Q : Option Value → j_H → Prop) => k1 (b := b') (x := g) (Q := Q) hC1 (show j_Wd (j_sI C 74 1 (Int32.ofInt 0)) from hW) (by rw [e134]; exact a2) hN
  simp only [e134] at hk1
  have hr' : va_rf (j_R (j_sI C 74 1 (Int32.ofInt 0)) 14 (j_ix g)) = .ref r := by show va_rf (j_R C 14 g.toInt.toNat) = _; rw [hr]; rfl
  simp only [if_pos h2, hr'] at hk1
  have n11 : ¬ r = 11 := by omega
  have n74 : ¬ (r = 74 ∨ r = 75) := by omega
  obtain ⟨B, hB⟩ : ∃ B, B = j_aB H := ⟨_, rfl⟩
  have etb : j_sI H 74 1 (Int32.ofInt 0) = B [] := by rw [hB]; rfl
  have hBI : ∀ bs a k, ¬ (a = 74 ∨ a = 75) → j_scr a k = false → j_I (B bs) a k = j_I C a k := fun bs a k h1 h2 => by rw [hB, tb_I h1, rd_I hC h2]
  have hBR : ∀ bs a k, j_scr a k = false → j_R (B bs) a k = j_R C a k := fun bs a k h2 => by rw [hB, tb_R, rd_R hC h2]
  have hBc : ∀ bs a, j_cls (B bs) a = j_cls C a := fun bs a => by rw [hB, tb_cls, rd_cls hC]
  have hBt : ∀ bs a, j_tp (B bs) a = j_tp C a := fun bs a => by rw [hB, tb_tp, rd_tp hC]
  have hBl : ∀ bs a, j_ln (B bs) a = j_ln C a := fun bs a => by rw [hB, tb_ln, rd_ln hC]
  have hk63 : ∀ (b' : Nat) (bs : List Int) (y : Int) (Q : Option Value → j_H → Prop), bs.length < 20 → j_wp b' 63 0 [.ref 74, .int (Int32.ofInt y)] [] (B bs) Q = Q none (B (bs ++ [y])) := fun b' bs y Q hl => by rw [hB]; exact k63 hC hW hl
  rw [etb] at hk1
  have hfin : Q (some (.int (j_acv 1 0 x g (j_I C 83 g.toInt.toNat)))) (j_bo 75 74 1 0 (j_acb 1 0) (j_sI H 74 1 (Int32.ofInt 0))) = Q (some (.int (j_acv 1 0 x g (j_I C 83 g.toInt.toNat)))) (B (j_acb 1 0)) := by rw [hB]; rfl
  rw [hfin]
  clear hfin hB hk hG hI hN hg h2 hr hr'
  simp (disch := (first | assumption | exact n_N11 | exact n_R11 (by decide) | exact n_bz | (simp (disch := (first | assumption | omega | decide)) only [v_rs, v_rn, v_pa, v_vc, v_vt, v_vl, v_ir, v_in, v_po, v_pn, v_re, v_rN, v_Nr, v_fe, v_fN, v_c1i, v_c1r, v_c1n, v_c1u, v_c1f, v_if, h_II, h_LL, h_RR, h_IL, h_IR, h_LI, h_LR, h_RI, h_RL, h_Ic, h_Lc, h_Rc, h_Id, h_Ld, h_Rd, h_cls_sI, h_cls_sL, h_cls_sR, h_cls_cI, h_cls_cL, h_tp_sI, h_tp_sL, h_tp_sR, h_tp_cI, h_tp_cL, h_ln_sI, h_ln_sL, h_ln_sR, h_ln_cI, h_ln_cL, v_if, j_scr, w_c12 hW, w_r12_0 hW, w_r12_1 hW, w_r12_3 hW, w_r12_5 hW, w_r12_7 hW, w_r12_8 hW, w_r12_9 hW, w_r12_10 hW, w_r12_11 hW, w_r12_12 hW, w_r12_13 hW, w_c74 hW, w_r74_0 hW, j_Wd_I, j_Wd_L, t_addo, t_subo, t_mulo, t_of, t_divc, t_remc, t_em, Int.toNat_zero, j_ix, Int.toNat_natCast, t_addc, t_subc, t_mulc, t_bz0, t_bz1, Classical.not_not, not_false_eq_true, if_true, if_false, and_true, true_and, and_false, false_and, and_self, or_true, true_or, or_false, false_or, not_true_eq_false, reduceIte, ite_self, implies_true, p_I, p_L, p_R, q_I, q_L, q_R, p_cls, p_tp, p_ln, p_cop, p_cov, rd_I hC, rd_L hC, rd_R hC, rd_cls hC, rd_tp hC, rd_ln hC, hC, hW] <;> first | omega | rfl | decide) | omega | decide | fail)) only [↓if_pos, ↓if_neg, ↓b92_0, ↓b92_62, ↓b92_73, ↓b92_84, ↓b92_85, ↓b62_0, ↓b62_5, v_rs, v_rn, v_pa, v_vc, v_vt, v_vl, v_ir, v_in, v_po, v_pn, v_re, v_rN, v_Nr, v_fe, v_fN, v_c1i, v_c1r, v_c1n, v_c1u, v_c1f, v_if, h_II, h_LL, h_RR, h_IL, h_IR, h_LI, h_LR, h_RI, h_RL, h_Ic, h_Lc, h_Rc, h_Id, h_Ld, h_Rd, h_cls_sI, h_cls_sL, h_cls_sR, h_cls_cI, h_cls_cL, h_tp_sI, h_tp_sL, h_tp_sR, h_tp_cI, h_tp_cL, h_ln_sI, h_ln_sL, h_ln_sR, h_ln_cI, h_ln_cL, v_if, w_c12 hW, w_r12_0 hW, w_r12_1 hW, w_r12_3 hW, w_r12_5 hW, w_r12_7 hW, w_r12_8 hW, w_r12_9 hW, w_r12_10 hW, w_r12_11 hW, w_r12_12 hW, w_r12_13 hW, w_c74 hW, w_r74_0 hW, j_ks, j_ke, t_addo, t_subo, t_mulo, t_of, t_divc, t_remc, t_em, Int.toNat_zero, j_ix, Int.toNat_natCast, t_addc, t_subc, t_mulc, t_bz0, t_bz1, Classical.not_not, not_false_eq_true, if_true, if_false, and_true, true_and, and_false, false_and, and_self, or_true, true_or, or_false, false_or, not_true_eq_false, reduceIte, ite_self, implies_true, p_I, p_L, p_R, q_I, q_L, q_R, p_cls, p_tp, p_ln, p_cop, p_cov, rd_I hC, rd_L hC, rd_R hC, rd_cls hC, rd_tp hC, rd_ln hC, hC, hW]
  rw [etb]
  have c74 : ∀ bs, j_vc (B bs) (.ref 74) = 10 := fun bs => by rw [v_vc, hBc]; exact w_c74 hW
  have c12 : ∀ bs, j_vc (B bs) (.ref 12) = 11 := fun bs => by rw [v_vc, hBc]; exact w_c12 hW
  have cr : ∀ bs, j_vc (B bs) (.ref r) = 4 := fun bs => by rw [v_vc, hBc]; exact gk
  have a12 : ∀ bs, va_rf (j_R (B bs) (j_pa (.ref 12)) 8) = .ref 74 := fun bs => by rw [v_pa, hBR _ _ _ rfl, w_r12_8 hW]; rfl
  have a120 : ∀ bs, va_rf (j_R (B bs) (j_pa (.ref 12)) 0) = .ref 13 := fun bs => by rw [v_pa, hBR _ _ _ rfl, w_r12_0 hW]; rfl
  have a12' : ∀ bs, va_rf (j_R (B bs) 12 8) = .ref 74 := a12
  have a120' : ∀ bs, va_rf (j_R (B bs) 12 0) = .ref 13 := a120
  have c13 : ∀ bs, j_vc (B bs) (.ref 13) = 0 := fun bs => by rw [v_vc, hBc]; exact w_c13 hW
  have gI1 : ∀ bs, j_I (B bs) r 1 = g := fun bs => (hBI _ _ _ n74 (sr _)).trans g4'
  have gI2 : ∀ bs, j_I (B bs) r 2 = j_I C 83 g.toInt.toNat := fun bs => (hBI _ _ _ n74 (sr _)).trans g5'
  have nr11 : ¬ (Value.ref r) = .ref 11 := fun h => by injection h; contradiction
  have nrn : ¬ (Value.ref r) = .null := fun h => by cases h
  clear hBI hBR hBc hBt hBl g2 g3 g4 g5 hC1 e134 n11 n74 sr gk g4' g5' e4 a1 a2
  simp (disch := (first | exact c74 _ | exact cr _ | exact c12 _ | exact v_ir | exact nr11 | exact nrn | exact ha | (simp only [a12, a120, a12', a120', c74, cr, c12, c13, v_ir] <;> decide) | decide | omega | fail)) only [↓if_pos, ↓if_neg, ↓b92_7, ↓b92_15, ↓b92_22, ↓b92_24, ↓b92_52_4, ↓b92_62, ↓b92_63_4, ↓b92_73, ↓b92_74_4, ↓b92_84, ↓b92_85, ↓b18_0, ↓b18_6, ↓b44_0, ↓b44_6, ↓b44_14, ↓b47_0, ↓b47_6, ↓b47_12, ↓b60_0, ↓b60_6, ↓b60_12, j_ks, j_ke, hk1, hk63, a12, a120, a12', a120', v_pa, gI1, gI2, List.nil_append, List.cons_append]
  all_goals rfl
set_option maxHeartbeats 200000 in
theorem k191_1_0 {b : Nat} {H C : j_H} {g act x : Int32} {Q : Option Value → j_H → Prop} (hC : j_co H = C) (hW : j_Wd C) (hn : 0 ≤ (j_I C 81 0).toInt) (hn2 : (j_I C 81 0).toInt ≤ 7) (hg : 0 ≤ g.toInt ∧ g.toInt < j_n C) (ha : act.toInt = 0) (hk : j_kd C g.toInt = 1) : j_wp (b + 20) 191 0 [.ref 81, .int g, .int act, .int x] [] H Q = Q (some (.int (j_acv 1 0 x g (j_I C 83 g.toInt.toNat)))) (j_bo 110 81 52 0 (j_acb 1 0) (j_sI H 81 52 (Int32.ofInt 0))) := by
  have h2 : 0 ≤ g.toInt ∧ g.toInt < (j_I C 81 0).toInt := hg
  have hk' : (j_I C 82 g.toInt.toNat).toInt = 1 := hk
  have hC1 : j_co (j_sI H 81 52 (Int32.ofInt 0)) = j_sI C 81 52 (Int32.ofInt 0) := by rw [c_sI' rfl, hC]
  have e810 : j_I (j_sI C 81 52 (Int32.ofInt 0)) 81 0 = j_I C 81 0 := by rw [h_II, if_neg (by decide)]
  have hk1 := fun (b' : Nat) (Q : Option Value → j_H → Prop) => k124 (b := b') (x := g) (Q := Q) hC1 (show j_Wd (j_sI C 81 52 (Int32.ofInt 0)) from hW) (by rw [e810]; exact hn) (by rw [e810]; exact hn2)
  simp only [e810, t_bzT h2] at hk1
  have hk121 : ∀ (b' : Nat) (v : Value) (H : j_H) (Q : Option Value → j_H → Prop), j_wp b' 121 0 [v, .int act, .int (Int32.ofInt 0), .int (Int32.ofInt 2)] [] H Q = Q (some (.int (Int32.ofInt 1))) H := fun b' v H Q => by
    rw [k121, t_bzT (by rw [ha]; decide)]
  obtain ⟨B, hB⟩ : ∃ B, B = j_aM H := ⟨_, rfl⟩
  have etm : j_sI H 81 52 (Int32.ofInt 0) = B [] := by rw [hB]; rfl
  have hBI : ∀ bs a k, ¬ a = 110 → ¬ (a = 81 ∧ k = 52) → j_scr a k = false → j_I (B bs) a k = j_I C a k := fun bs a k h1 h3 h4 => by rw [hB, tm_I h1 h3, rd_I hC h4]
  have hBR : ∀ bs a k, j_scr a k = false → j_R (B bs) a k = j_R C a k := fun bs a k h2 => by rw [hB, tm_R, rd_R hC h2]
  have hBc : ∀ bs a, j_cls (B bs) a = j_cls C a := fun bs a => by rw [hB, tm_cls, rd_cls hC]
  have hBt : ∀ bs a, j_tp (B bs) a = j_tp C a := fun bs a => by rw [hB, tm_tp, rd_tp hC]
  have hBl : ∀ bs a, j_ln (B bs) a = j_ln C a := fun bs a => by rw [hB, tm_ln, rd_ln hC]
  have hk63 : ∀ (b' : Nat) (bs : List Int) (y : Int) (Q : Option Value → j_H → Prop), bs.length < 20 → j_wp b' 183 0 [.ref 81, .int (Int32.ofInt y)] [] (B bs) Q = Q none (B (bs ++ [y])) := fun b' bs y Q hl => by rw [hB]; exact k183 hC hW hl
  rw [etm] at hk1
  have hfin : Q (some (.int (j_acv 1 0 x g (j_I C 83 g.toInt.toNat)))) (j_bo 110 81 52 0 (j_acb 1 0) (j_sI H 81 52 (Int32.ofInt 0))) = Q (some (.int (j_acv 1 0 x g (j_I C 83 g.toInt.toNat)))) (B (j_acb 1 0)) := by rw [hB]; rfl
  rw [hfin]
  have p1 : ∀ bs, j_vc (B bs) (.ref 81) = 12 := fun bs => by rw [v_vc, hBc]; exact w_c81 hW
  have f4 : ∀ bs, va_rf (j_R (B bs) (j_pa (.ref 81)) 4) = .ref 82 := fun bs => by rw [v_pa, hBR _ _ _ rfl, w_r81_4 hW]; rfl
  have f5 : ∀ bs, va_rf (j_R (B bs) (j_pa (.ref 81)) 5) = .ref 83 := fun bs => by rw [v_pa, hBR _ _ _ rfl, w_r81_5 hW]; rfl
  have p2 : ∀ bs, j_vt (B bs) (va_rf (j_R (B bs) (j_pa (.ref 81)) 4)) = 0 := fun bs => by rw [f4, v_vt, hBt]; exact w_t82 hW
  have p2' : ∀ bs, j_vt (B bs) (va_rf (j_R (B bs) (j_pa (.ref 81)) 5)) = 0 := fun bs => by rw [f5, v_vt, hBt]; exact w_t83 hW
  have p3 : 0 ≤ g.toInt := hg.1
  have p4 : ∀ bs, g.toInt < ((j_vl (B bs) (va_rf (j_R (B bs) (j_pa (.ref 81)) 4)) : Nat) : Int) := fun bs => by rw [f4, v_vl, hBl, w_n82 hW]; have := h2.2; omega
  have p4' : ∀ bs, g.toInt < ((j_vl (B bs) (va_rf (j_R (B bs) (j_pa (.ref 81)) 5)) : Nat) : Int) := fun bs => by rw [f5, v_vl, hBl, w_n83 hW]; have := h2.2; omega
  have kd : ∀ bs, (j_I (B bs) (j_pa (va_rf (j_R (B bs) (j_pa (.ref 81)) 4))) (j_ix g)).toInt = 1 := fun bs => by rw [f4, v_pa, hBI _ _ _ (by decide) (by omega) rfl]; exact hk'
  have vv : ∀ bs, j_I (B bs) (j_pa (va_rf (j_R (B bs) (j_pa (.ref 81)) 5))) (j_ix g) = j_I C 83 g.toInt.toNat := fun bs => by rw [f5, v_pa, hBI _ _ _ (by decide) (by omega) rfl]; rfl
  rw [b191_0 (by rw [v_vc, rd_cls hC]; exact w_c81 hW), v_pa, etm]
  clear hfin hB hk hn hn2 hg hC1 e810 hBI hBR hBc hBt hBl f4 f5 etm
  simp (disch := (first | exact p1 _ | exact p2 _ | exact p2' _ | exact p3 | exact p4 _ | exact p4' _ | (simp only [kd] <;> omega) | decide | omega | fail)) only [↓if_pos, ↓if_neg, ↓b191_5, ↓b191_10, ↓b191_13, ↓b191_20, ↓b191_23, ↓b191_25, ↓b191_29, ↓b191_35, ↓b191_38, ↓b191_43, ↓b191_49, ↓b191_52, ↓b191_58, ↓b184_0, ↓b184_6, ↓b185_0, ↓b185_40, ↓b185_46, ↓b185_54, ↓b185_55, ↓b185_61, ↓b185_67, ↓b185_69, ↓b185_75, ↓b185_81, ↓b185_89, ↓b185_95, j_ks, j_ke, hk1, hk121, hk63, vv, List.nil_append, List.cons_append]
  all_goals rfl
set_option maxHeartbeats 200000 in
theorem k92_2_0 {b : Nat} {H C : j_H} {g act x : Int32} {Q : Option Value → j_H → Prop} (hC : j_co H = C) (hI : j_In C) (hg : 0 ≤ g.toInt ∧ g.toInt < j_n C) (ha : act.toInt = 0) (hk : j_kd C g.toInt = 2) : j_wp (b + 20) 92 0 [.ref 12, .int g, .int act, .int x, j_u] [] H Q = Q (some (.int (j_acv 2 0 x g (j_I C 83 g.toInt.toNat)))) (j_bo 75 74 1 0 (j_acb 2 0) (j_sI H 74 1 (Int32.ofInt 0))) := by
  have hW := hI.1
  have hN := i_G hI
  obtain ⟨e4, -⟩ := i_n hI
  obtain ⟨a1, a2, -⟩ := i_r hI
  have h2 : 0 ≤ g.toInt ∧ g.toInt < (j_I C 81 0).toInt := hg
  obtain ⟨r, hr, hG⟩ := i_gs hI hg.1 hg.2
  obtain ⟨g1, g2, g3, g4, g5, -⟩ := id hG
  rw [hk] at g2
  have gk : j_cls C r = 6 := g2
  have sr := j_scr_r g1
  have g4' : j_I C r 1 = g := t_ext g4
  have g5' : j_I C r 2 = j_I C 83 g.toInt.toNat := t_ext g5
  have hC1 : j_co (j_sI H 74 1 (Int32.ofInt 0)) = j_sI C 74 1 (Int32.ofInt 0) := by rw [c_sI' rfl, hC]
  have e134 : j_I (j_sI C 74 1 (Int32.ofInt 0)) 13 4 = j_I C 81 0 := by rw [h_II, if_neg (by decide)]; exact e4
  have hk1 := fun (b' : Nat) (Q : Option Value → j_H → Prop) => k1 (b := b') (x := g) (Q := Q) hC1 (show j_Wd (j_sI C 74 1 (Int32.ofInt 0)) from hW) (by rw [e134]; exact a2) hN
  simp only [e134] at hk1
  have hr' : va_rf (j_R (j_sI C 74 1 (Int32.ofInt 0)) 14 (j_ix g)) = .ref r := by show va_rf (j_R C 14 g.toInt.toNat) = _; rw [hr]; rfl
  simp only [if_pos h2, hr'] at hk1
  have n11 : ¬ r = 11 := by omega
  have n74 : ¬ (r = 74 ∨ r = 75) := by omega
  obtain ⟨B, hB⟩ : ∃ B, B = j_aB H := ⟨_, rfl⟩
  have etb : j_sI H 74 1 (Int32.ofInt 0) = B [] := by rw [hB]; rfl
  have hBI : ∀ bs a k, ¬ (a = 74 ∨ a = 75) → j_scr a k = false → j_I (B bs) a k = j_I C a k := fun bs a k h1 h2 => by rw [hB, tb_I h1, rd_I hC h2]
  have hBR : ∀ bs a k, j_scr a k = false → j_R (B bs) a k = j_R C a k := fun bs a k h2 => by rw [hB, tb_R, rd_R hC h2]
  have hBc : ∀ bs a, j_cls (B bs) a = j_cls C a := fun bs a => by rw [hB, tb_cls, rd_cls hC]
  have hBt : ∀ bs a, j_tp (B bs) a = j_tp C a := fun bs a => by rw [hB, tb_tp, rd_tp hC]
  have hBl : ∀ bs a, j_ln (B bs) a = j_ln C a := fun bs a => by rw [hB, tb_ln, rd_ln hC]
  have hk63 : ∀ (b' : Nat) (bs : List Int) (y : Int) (Q : Option Value → j_H → Prop), bs.length < 20 → j_wp b' 63 0 [.ref 74, .int (Int32.ofInt y)] [] (B bs) Q = Q none (B (bs ++ [y])) := fun b' bs y Q hl => by rw [hB]; exact k63 hC hW hl
  rw [etb] at hk1
  have hfin : Q (some (.int (j_acv 2 0 x g (j_I C 83 g.toInt.toNat)))) (j_bo 75 74 1 0 (j_acb 2 0) (j_sI H 74 1 (Int32.ofInt 0))) = Q (some (.int (j_acv 2 0 x g (j_I C 83 g.toInt.toNat)))) (B (j_acb 2 0)) := by rw [hB]; rfl
  rw [hfin]
  clear hfin hB hk hG hI hN hg h2 hr hr'
  simp (disch := (first | assumption | exact n_N11 | exact n_R11 (by decide) | exact n_bz | (simp (disch := (first | assumption | omega | decide)) only [v_rs, v_rn, v_pa, v_vc, v_vt, v_vl, v_ir, v_in, v_po, v_pn, v_re, v_rN, v_Nr, v_fe, v_fN, v_c1i, v_c1r, v_c1n, v_c1u, v_c1f, v_if, h_II, h_LL, h_RR, h_IL, h_IR, h_LI, h_LR, h_RI, h_RL, h_Ic, h_Lc, h_Rc, h_Id, h_Ld, h_Rd, h_cls_sI, h_cls_sL, h_cls_sR, h_cls_cI, h_cls_cL, h_tp_sI, h_tp_sL, h_tp_sR, h_tp_cI, h_tp_cL, h_ln_sI, h_ln_sL, h_ln_sR, h_ln_cI, h_ln_cL, v_if, j_scr, w_c12 hW, w_r12_0 hW, w_r12_1 hW, w_r12_3 hW, w_r12_5 hW, w_r12_7 hW, w_r12_8 hW, w_r12_9 hW, w_r12_10 hW, w_r12_11 hW, w_r12_12 hW, w_r12_13 hW, w_c74 hW, w_r74_0 hW, j_Wd_I, j_Wd_L, t_addo, t_subo, t_mulo, t_of, t_divc, t_remc, t_em, Int.toNat_zero, j_ix, Int.toNat_natCast, t_addc, t_subc, t_mulc, t_bz0, t_bz1, Classical.not_not, not_false_eq_true, if_true, if_false, and_true, true_and, and_false, false_and, and_self, or_true, true_or, or_false, false_or, not_true_eq_false, reduceIte, ite_self, implies_true, p_I, p_L, p_R, q_I, q_L, q_R, p_cls, p_tp, p_ln, p_cop, p_cov, rd_I hC, rd_L hC, rd_R hC, rd_cls hC, rd_tp hC, rd_ln hC, hC, hW] <;> first | omega | rfl | decide) | omega | decide | fail)) only [↓if_pos, ↓if_neg, ↓b92_0, ↓b92_62, ↓b92_73, ↓b92_84, ↓b92_85, ↓b62_0, ↓b62_5, v_rs, v_rn, v_pa, v_vc, v_vt, v_vl, v_ir, v_in, v_po, v_pn, v_re, v_rN, v_Nr, v_fe, v_fN, v_c1i, v_c1r, v_c1n, v_c1u, v_c1f, v_if, h_II, h_LL, h_RR, h_IL, h_IR, h_LI, h_LR, h_RI, h_RL, h_Ic, h_Lc, h_Rc, h_Id, h_Ld, h_Rd, h_cls_sI, h_cls_sL, h_cls_sR, h_cls_cI, h_cls_cL, h_tp_sI, h_tp_sL, h_tp_sR, h_tp_cI, h_tp_cL, h_ln_sI, h_ln_sL, h_ln_sR, h_ln_cI, h_ln_cL, v_if, w_c12 hW, w_r12_0 hW, w_r12_1 hW, w_r12_3 hW, w_r12_5 hW, w_r12_7 hW, w_r12_8 hW, w_r12_9 hW, w_r12_10 hW, w_r12_11 hW, w_r12_12 hW, w_r12_13 hW, w_c74 hW, w_r74_0 hW, j_ks, j_ke, t_addo, t_subo, t_mulo, t_of, t_divc, t_remc, t_em, Int.toNat_zero, j_ix, Int.toNat_natCast, t_addc, t_subc, t_mulc, t_bz0, t_bz1, Classical.not_not, not_false_eq_true, if_true, if_false, and_true, true_and, and_false, false_and, and_self, or_true, true_or, or_false, false_or, not_true_eq_false, reduceIte, ite_self, implies_true, p_I, p_L, p_R, q_I, q_L, q_R, p_cls, p_tp, p_ln, p_cop, p_cov, rd_I hC, rd_L hC, rd_R hC, rd_cls hC, rd_tp hC, rd_ln hC, hC, hW]
  rw [etb]
  have c74 : ∀ bs, j_vc (B bs) (.ref 74) = 10 := fun bs => by rw [v_vc, hBc]; exact w_c74 hW
  have c12 : ∀ bs, j_vc (B bs) (.ref 12) = 11 := fun bs => by rw [v_vc, hBc]; exact w_c12 hW
  have cr : ∀ bs, j_vc (B bs) (.ref r) = 6 := fun bs => by rw [v_vc, hBc]; exact gk
  have a12 : ∀ bs, va_rf (j_R (B bs) (j_pa (.ref 12)) 8) = .ref 74 := fun bs => by rw [v_pa, hBR _ _ _ rfl, w_r12_8 hW]; rfl
  have a120 : ∀ bs, va_rf (j_R (B bs) (j_pa (.ref 12)) 0) = .ref 13 := fun bs => by rw [v_pa, hBR _ _ _ rfl, w_r12_0 hW]; rfl
  have a12' : ∀ bs, va_rf (j_R (B bs) 12 8) = .ref 74 := a12
  have a120' : ∀ bs, va_rf (j_R (B bs) 12 0) = .ref 13 := a120
  have c13 : ∀ bs, j_vc (B bs) (.ref 13) = 0 := fun bs => by rw [v_vc, hBc]; exact w_c13 hW
  have gI1 : ∀ bs, j_I (B bs) r 1 = g := fun bs => (hBI _ _ _ n74 (sr _)).trans g4'
  have gI2 : ∀ bs, j_I (B bs) r 2 = j_I C 83 g.toInt.toNat := fun bs => (hBI _ _ _ n74 (sr _)).trans g5'
  have nr11 : ¬ (Value.ref r) = .ref 11 := fun h => by injection h; contradiction
  have nrn : ¬ (Value.ref r) = .null := fun h => by cases h
  clear hBI hBR hBc hBt hBl g2 g3 g4 g5 hC1 e134 n11 n74 sr gk g4' g5' e4 a1 a2
  simp (disch := (first | exact c74 _ | exact cr _ | exact c12 _ | exact v_ir | exact nr11 | exact nrn | exact ha | (simp only [a12, a120, a12', a120', c74, cr, c12, c13, v_ir] <;> decide) | decide | omega | fail)) only [↓if_pos, ↓if_neg, ↓b92_7, ↓b92_15, ↓b92_22, ↓b92_24, ↓b92_52_6, ↓b92_62, ↓b92_63_6, ↓b92_73, ↓b92_74_6, ↓b92_84, ↓b92_85, ↓b18_0, ↓b18_6, ↓b44_0, ↓b44_6, ↓b44_14, ↓b47_0, ↓b47_6, ↓b47_12, ↓b60_0, ↓b60_6, ↓b60_12, j_ks, j_ke, hk1, hk63, a12, a120, a12', a120', v_pa, gI1, gI2, List.nil_append, List.cons_append]
  all_goals rfl
set_option maxHeartbeats 200000 in
theorem k191_2_0 {b : Nat} {H C : j_H} {g act x : Int32} {Q : Option Value → j_H → Prop} (hC : j_co H = C) (hW : j_Wd C) (hn : 0 ≤ (j_I C 81 0).toInt) (hn2 : (j_I C 81 0).toInt ≤ 7) (hg : 0 ≤ g.toInt ∧ g.toInt < j_n C) (ha : act.toInt = 0) (hk : j_kd C g.toInt = 2) : j_wp (b + 20) 191 0 [.ref 81, .int g, .int act, .int x] [] H Q = Q (some (.int (j_acv 2 0 x g (j_I C 83 g.toInt.toNat)))) (j_bo 110 81 52 0 (j_acb 2 0) (j_sI H 81 52 (Int32.ofInt 0))) := by
  have h2 : 0 ≤ g.toInt ∧ g.toInt < (j_I C 81 0).toInt := hg
  have hk' : (j_I C 82 g.toInt.toNat).toInt = 2 := hk
  have hC1 : j_co (j_sI H 81 52 (Int32.ofInt 0)) = j_sI C 81 52 (Int32.ofInt 0) := by rw [c_sI' rfl, hC]
  have e810 : j_I (j_sI C 81 52 (Int32.ofInt 0)) 81 0 = j_I C 81 0 := by rw [h_II, if_neg (by decide)]
  have hk1 := fun (b' : Nat) (Q : Option Value → j_H → Prop) => k124 (b := b') (x := g) (Q := Q) hC1 (show j_Wd (j_sI C 81 52 (Int32.ofInt 0)) from hW) (by rw [e810]; exact hn) (by rw [e810]; exact hn2)
  simp only [e810, t_bzT h2] at hk1
  have hk121 : ∀ (b' : Nat) (v : Value) (H : j_H) (Q : Option Value → j_H → Prop), j_wp b' 121 0 [v, .int act, .int (Int32.ofInt 0), .int (Int32.ofInt 2)] [] H Q = Q (some (.int (Int32.ofInt 1))) H := fun b' v H Q => by
    rw [k121, t_bzT (by rw [ha]; decide)]
  obtain ⟨B, hB⟩ : ∃ B, B = j_aM H := ⟨_, rfl⟩
  have etm : j_sI H 81 52 (Int32.ofInt 0) = B [] := by rw [hB]; rfl
  have hBI : ∀ bs a k, ¬ a = 110 → ¬ (a = 81 ∧ k = 52) → j_scr a k = false → j_I (B bs) a k = j_I C a k := fun bs a k h1 h3 h4 => by rw [hB, tm_I h1 h3, rd_I hC h4]
  have hBR : ∀ bs a k, j_scr a k = false → j_R (B bs) a k = j_R C a k := fun bs a k h2 => by rw [hB, tm_R, rd_R hC h2]
  have hBc : ∀ bs a, j_cls (B bs) a = j_cls C a := fun bs a => by rw [hB, tm_cls, rd_cls hC]
  have hBt : ∀ bs a, j_tp (B bs) a = j_tp C a := fun bs a => by rw [hB, tm_tp, rd_tp hC]
  have hBl : ∀ bs a, j_ln (B bs) a = j_ln C a := fun bs a => by rw [hB, tm_ln, rd_ln hC]
  have hk63 : ∀ (b' : Nat) (bs : List Int) (y : Int) (Q : Option Value → j_H → Prop), bs.length < 20 → j_wp b' 183 0 [.ref 81, .int (Int32.ofInt y)] [] (B bs) Q = Q none (B (bs ++ [y])) := fun b' bs y Q hl => by rw [hB]; exact k183 hC hW hl
  rw [etm] at hk1
  have hfin : Q (some (.int (j_acv 2 0 x g (j_I C 83 g.toInt.toNat)))) (j_bo 110 81 52 0 (j_acb 2 0) (j_sI H 81 52 (Int32.ofInt 0))) = Q (some (.int (j_acv 2 0 x g (j_I C 83 g.toInt.toNat)))) (B (j_acb 2 0)) := by rw [hB]; rfl
  rw [hfin]
  have p1 : ∀ bs, j_vc (B bs) (.ref 81) = 12 := fun bs => by rw [v_vc, hBc]; exact w_c81 hW
  have f4 : ∀ bs, va_rf (j_R (B bs) (j_pa (.ref 81)) 4) = .ref 82 := fun bs => by rw [v_pa, hBR _ _ _ rfl, w_r81_4 hW]; rfl
  have f5 : ∀ bs, va_rf (j_R (B bs) (j_pa (.ref 81)) 5) = .ref 83 := fun bs => by rw [v_pa, hBR _ _ _ rfl, w_r81_5 hW]; rfl
  have p2 : ∀ bs, j_vt (B bs) (va_rf (j_R (B bs) (j_pa (.ref 81)) 4)) = 0 := fun bs => by rw [f4, v_vt, hBt]; exact w_t82 hW
  have p2' : ∀ bs, j_vt (B bs) (va_rf (j_R (B bs) (j_pa (.ref 81)) 5)) = 0 := fun bs => by rw [f5, v_vt, hBt]; exact w_t83 hW
  have p3 : 0 ≤ g.toInt := hg.1
  have p4 : ∀ bs, g.toInt < ((j_vl (B bs) (va_rf (j_R (B bs) (j_pa (.ref 81)) 4)) : Nat) : Int) := fun bs => by rw [f4, v_vl, hBl, w_n82 hW]; have := h2.2; omega
  have p4' : ∀ bs, g.toInt < ((j_vl (B bs) (va_rf (j_R (B bs) (j_pa (.ref 81)) 5)) : Nat) : Int) := fun bs => by rw [f5, v_vl, hBl, w_n83 hW]; have := h2.2; omega
  have kd : ∀ bs, (j_I (B bs) (j_pa (va_rf (j_R (B bs) (j_pa (.ref 81)) 4))) (j_ix g)).toInt = 2 := fun bs => by rw [f4, v_pa, hBI _ _ _ (by decide) (by omega) rfl]; exact hk'
  have vv : ∀ bs, j_I (B bs) (j_pa (va_rf (j_R (B bs) (j_pa (.ref 81)) 5))) (j_ix g) = j_I C 83 g.toInt.toNat := fun bs => by rw [f5, v_pa, hBI _ _ _ (by decide) (by omega) rfl]; rfl
  rw [b191_0 (by rw [v_vc, rd_cls hC]; exact w_c81 hW), v_pa, etm]
  clear hfin hB hk hn hn2 hg hC1 e810 hBI hBR hBc hBt hBl f4 f5 etm
  simp (disch := (first | exact p1 _ | exact p2 _ | exact p2' _ | exact p3 | exact p4 _ | exact p4' _ | (simp only [kd] <;> omega) | decide | omega | fail)) only [↓if_pos, ↓if_neg, ↓b191_5, ↓b191_10, ↓b191_13, ↓b191_20, ↓b191_23, ↓b191_25, ↓b191_29, ↓b191_35, ↓b191_38, ↓b191_43, ↓b191_49, ↓b191_52, ↓b191_58, ↓b184_0, ↓b184_6, ↓b185_0, ↓b185_40, ↓b185_46, ↓b185_54, ↓b185_55, ↓b185_61, ↓b185_67, ↓b185_69, ↓b185_75, ↓b185_81, ↓b185_89, ↓b185_95, j_ks, j_ke, hk1, hk121, hk63, vv, List.nil_append, List.cons_append]
  all_goals rfl
set_option maxHeartbeats 200000 in
theorem k92_3_0 {b : Nat} {H C : j_H} {g act x : Int32} {Q : Option Value → j_H → Prop} (hC : j_co H = C) (hI : j_In C) (hg : 0 ≤ g.toInt ∧ g.toInt < j_n C) (ha : act.toInt = 0) (hk : j_kd C g.toInt = 3) : j_wp (b + 20) 92 0 [.ref 12, .int g, .int act, .int x, j_u] [] H Q = Q (some (.int (j_acv 3 0 x g (j_I C 83 g.toInt.toNat)))) (j_bo 75 74 1 0 (j_acb 3 0) (j_sI H 74 1 (Int32.ofInt 0))) := by
  have hW := hI.1
  have hN := i_G hI
  obtain ⟨e4, -⟩ := i_n hI
  obtain ⟨a1, a2, -⟩ := i_r hI
  have h2 : 0 ≤ g.toInt ∧ g.toInt < (j_I C 81 0).toInt := hg
  obtain ⟨r, hr, hG⟩ := i_gs hI hg.1 hg.2
  obtain ⟨g1, g2, g3, g4, g5, -⟩ := id hG
  rw [hk] at g2
  have gk : j_cls C r = 5 := g2
  have sr := j_scr_r g1
  have g4' : j_I C r 1 = g := t_ext g4
  have g5' : j_I C r 2 = j_I C 83 g.toInt.toNat := t_ext g5
  have hC1 : j_co (j_sI H 74 1 (Int32.ofInt 0)) = j_sI C 74 1 (Int32.ofInt 0) := by rw [c_sI' rfl, hC]
  have e134 : j_I (j_sI C 74 1 (Int32.ofInt 0)) 13 4 = j_I C 81 0 := by rw [h_II, if_neg (by decide)]; exact e4
  have hk1 := fun (b' : Nat) (Q : Option Value → j_H → Prop) => k1 (b := b') (x := g) (Q := Q) hC1 (show j_Wd (j_sI C 74 1 (Int32.ofInt 0)) from hW) (by rw [e134]; exact a2) hN
  simp only [e134] at hk1
  have hr' : va_rf (j_R (j_sI C 74 1 (Int32.ofInt 0)) 14 (j_ix g)) = .ref r := by show va_rf (j_R C 14 g.toInt.toNat) = _; rw [hr]; rfl
  simp only [if_pos h2, hr'] at hk1
  have n11 : ¬ r = 11 := by omega
  have n74 : ¬ (r = 74 ∨ r = 75) := by omega
  obtain ⟨B, hB⟩ : ∃ B, B = j_aB H := ⟨_, rfl⟩
  have etb : j_sI H 74 1 (Int32.ofInt 0) = B [] := by rw [hB]; rfl
  have hBI : ∀ bs a k, ¬ (a = 74 ∨ a = 75) → j_scr a k = false → j_I (B bs) a k = j_I C a k := fun bs a k h1 h2 => by rw [hB, tb_I h1, rd_I hC h2]
  have hBR : ∀ bs a k, j_scr a k = false → j_R (B bs) a k = j_R C a k := fun bs a k h2 => by rw [hB, tb_R, rd_R hC h2]
  have hBc : ∀ bs a, j_cls (B bs) a = j_cls C a := fun bs a => by rw [hB, tb_cls, rd_cls hC]
  have hBt : ∀ bs a, j_tp (B bs) a = j_tp C a := fun bs a => by rw [hB, tb_tp, rd_tp hC]
  have hBl : ∀ bs a, j_ln (B bs) a = j_ln C a := fun bs a => by rw [hB, tb_ln, rd_ln hC]
  have hk63 : ∀ (b' : Nat) (bs : List Int) (y : Int) (Q : Option Value → j_H → Prop), bs.length < 20 → j_wp b' 63 0 [.ref 74, .int (Int32.ofInt y)] [] (B bs) Q = Q none (B (bs ++ [y])) := fun b' bs y Q hl => by rw [hB]; exact k63 hC hW hl
  rw [etb] at hk1
  have hfin : Q (some (.int (j_acv 3 0 x g (j_I C 83 g.toInt.toNat)))) (j_bo 75 74 1 0 (j_acb 3 0) (j_sI H 74 1 (Int32.ofInt 0))) = Q (some (.int (j_acv 3 0 x g (j_I C 83 g.toInt.toNat)))) (B (j_acb 3 0)) := by rw [hB]; rfl
  rw [hfin]
  clear hfin hB hk hG hI hN hg h2 hr hr'
  simp (disch := (first | assumption | exact n_N11 | exact n_R11 (by decide) | exact n_bz | (simp (disch := (first | assumption | omega | decide)) only [v_rs, v_rn, v_pa, v_vc, v_vt, v_vl, v_ir, v_in, v_po, v_pn, v_re, v_rN, v_Nr, v_fe, v_fN, v_c1i, v_c1r, v_c1n, v_c1u, v_c1f, v_if, h_II, h_LL, h_RR, h_IL, h_IR, h_LI, h_LR, h_RI, h_RL, h_Ic, h_Lc, h_Rc, h_Id, h_Ld, h_Rd, h_cls_sI, h_cls_sL, h_cls_sR, h_cls_cI, h_cls_cL, h_tp_sI, h_tp_sL, h_tp_sR, h_tp_cI, h_tp_cL, h_ln_sI, h_ln_sL, h_ln_sR, h_ln_cI, h_ln_cL, v_if, j_scr, w_c12 hW, w_r12_0 hW, w_r12_1 hW, w_r12_3 hW, w_r12_5 hW, w_r12_7 hW, w_r12_8 hW, w_r12_9 hW, w_r12_10 hW, w_r12_11 hW, w_r12_12 hW, w_r12_13 hW, w_c74 hW, w_r74_0 hW, j_Wd_I, j_Wd_L, t_addo, t_subo, t_mulo, t_of, t_divc, t_remc, t_em, Int.toNat_zero, j_ix, Int.toNat_natCast, t_addc, t_subc, t_mulc, t_bz0, t_bz1, Classical.not_not, not_false_eq_true, if_true, if_false, and_true, true_and, and_false, false_and, and_self, or_true, true_or, or_false, false_or, not_true_eq_false, reduceIte, ite_self, implies_true, p_I, p_L, p_R, q_I, q_L, q_R, p_cls, p_tp, p_ln, p_cop, p_cov, rd_I hC, rd_L hC, rd_R hC, rd_cls hC, rd_tp hC, rd_ln hC, hC, hW] <;> first | omega | rfl | decide) | omega | decide | fail)) only [↓if_pos, ↓if_neg, ↓b92_0, ↓b92_62, ↓b92_73, ↓b92_84, ↓b92_85, ↓b62_0, ↓b62_5, v_rs, v_rn, v_pa, v_vc, v_vt, v_vl, v_ir, v_in, v_po, v_pn, v_re, v_rN, v_Nr, v_fe, v_fN, v_c1i, v_c1r, v_c1n, v_c1u, v_c1f, v_if, h_II, h_LL, h_RR, h_IL, h_IR, h_LI, h_LR, h_RI, h_RL, h_Ic, h_Lc, h_Rc, h_Id, h_Ld, h_Rd, h_cls_sI, h_cls_sL, h_cls_sR, h_cls_cI, h_cls_cL, h_tp_sI, h_tp_sL, h_tp_sR, h_tp_cI, h_tp_cL, h_ln_sI, h_ln_sL, h_ln_sR, h_ln_cI, h_ln_cL, v_if, w_c12 hW, w_r12_0 hW, w_r12_1 hW, w_r12_3 hW, w_r12_5 hW, w_r12_7 hW, w_r12_8 hW, w_r12_9 hW, w_r12_10 hW, w_r12_11 hW, w_r12_12 hW, w_r12_13 hW, w_c74 hW, w_r74_0 hW, j_ks, j_ke, t_addo, t_subo, t_mulo, t_of, t_divc, t_remc, t_em, Int.toNat_zero, j_ix, Int.toNat_natCast, t_addc, t_subc, t_mulc, t_bz0, t_bz1, Classical.not_not, not_false_eq_true, if_true, if_false, and_true, true_and, and_false, false_and, and_self, or_true, true_or, or_false, false_or, not_true_eq_false, reduceIte, ite_self, implies_true, p_I, p_L, p_R, q_I, q_L, q_R, p_cls, p_tp, p_ln, p_cop, p_cov, rd_I hC, rd_L hC, rd_R hC, rd_cls hC, rd_tp hC, rd_ln hC, hC, hW]
  rw [etb]
  have c74 : ∀ bs, j_vc (B bs) (.ref 74) = 10 := fun bs => by rw [v_vc, hBc]; exact w_c74 hW
  have c12 : ∀ bs, j_vc (B bs) (.ref 12) = 11 := fun bs => by rw [v_vc, hBc]; exact w_c12 hW
  have cr : ∀ bs, j_vc (B bs) (.ref r) = 5 := fun bs => by rw [v_vc, hBc]; exact gk
  have a12 : ∀ bs, va_rf (j_R (B bs) (j_pa (.ref 12)) 8) = .ref 74 := fun bs => by rw [v_pa, hBR _ _ _ rfl, w_r12_8 hW]; rfl
  have a120 : ∀ bs, va_rf (j_R (B bs) (j_pa (.ref 12)) 0) = .ref 13 := fun bs => by rw [v_pa, hBR _ _ _ rfl, w_r12_0 hW]; rfl
  have a12' : ∀ bs, va_rf (j_R (B bs) 12 8) = .ref 74 := a12
  have a120' : ∀ bs, va_rf (j_R (B bs) 12 0) = .ref 13 := a120
  have c13 : ∀ bs, j_vc (B bs) (.ref 13) = 0 := fun bs => by rw [v_vc, hBc]; exact w_c13 hW
  have gI1 : ∀ bs, j_I (B bs) r 1 = g := fun bs => (hBI _ _ _ n74 (sr _)).trans g4'
  have gI2 : ∀ bs, j_I (B bs) r 2 = j_I C 83 g.toInt.toNat := fun bs => (hBI _ _ _ n74 (sr _)).trans g5'
  have nr11 : ¬ (Value.ref r) = .ref 11 := fun h => by injection h; contradiction
  have nrn : ¬ (Value.ref r) = .null := fun h => by cases h
  clear hBI hBR hBc hBt hBl g2 g3 g4 g5 hC1 e134 n11 n74 sr gk g4' g5' e4 a1 a2
  simp (disch := (first | exact c74 _ | exact cr _ | exact c12 _ | exact v_ir | exact nr11 | exact nrn | exact ha | (simp only [a12, a120, a12', a120', c74, cr, c12, c13, v_ir] <;> decide) | decide | omega | fail)) only [↓if_pos, ↓if_neg, ↓b92_7, ↓b92_15, ↓b92_22, ↓b92_24, ↓b92_52_5, ↓b92_62, ↓b92_63_5, ↓b92_73, ↓b92_74_5, ↓b92_84, ↓b92_85, ↓b18_0, ↓b18_6, ↓b44_0, ↓b44_6, ↓b44_14, ↓b47_0, ↓b47_6, ↓b47_12, ↓b60_0, ↓b60_6, ↓b60_12, j_ks, j_ke, hk1, hk63, a12, a120, a12', a120', v_pa, gI1, gI2, List.nil_append, List.cons_append]
  all_goals rfl
set_option maxHeartbeats 200000 in
theorem k191_3_0 {b : Nat} {H C : j_H} {g act x : Int32} {Q : Option Value → j_H → Prop} (hC : j_co H = C) (hW : j_Wd C) (hn : 0 ≤ (j_I C 81 0).toInt) (hn2 : (j_I C 81 0).toInt ≤ 7) (hg : 0 ≤ g.toInt ∧ g.toInt < j_n C) (ha : act.toInt = 0) (hk : j_kd C g.toInt = 3) : j_wp (b + 20) 191 0 [.ref 81, .int g, .int act, .int x] [] H Q = Q (some (.int (j_acv 3 0 x g (j_I C 83 g.toInt.toNat)))) (j_bo 110 81 52 0 (j_acb 3 0) (j_sI H 81 52 (Int32.ofInt 0))) := by
  have h2 : 0 ≤ g.toInt ∧ g.toInt < (j_I C 81 0).toInt := hg
  have hk' : (j_I C 82 g.toInt.toNat).toInt = 3 := hk
  have hC1 : j_co (j_sI H 81 52 (Int32.ofInt 0)) = j_sI C 81 52 (Int32.ofInt 0) := by rw [c_sI' rfl, hC]
  have e810 : j_I (j_sI C 81 52 (Int32.ofInt 0)) 81 0 = j_I C 81 0 := by rw [h_II, if_neg (by decide)]
  have hk1 := fun (b' : Nat) (Q : Option Value → j_H → Prop) => k124 (b := b') (x := g) (Q := Q) hC1 (show j_Wd (j_sI C 81 52 (Int32.ofInt 0)) from hW) (by rw [e810]; exact hn) (by rw [e810]; exact hn2)
  simp only [e810, t_bzT h2] at hk1
  have hk121 : ∀ (b' : Nat) (v : Value) (H : j_H) (Q : Option Value → j_H → Prop), j_wp b' 121 0 [v, .int act, .int (Int32.ofInt 0), .int (Int32.ofInt 2)] [] H Q = Q (some (.int (Int32.ofInt 1))) H := fun b' v H Q => by
    rw [k121, t_bzT (by rw [ha]; decide)]
  obtain ⟨B, hB⟩ : ∃ B, B = j_aM H := ⟨_, rfl⟩
  have etm : j_sI H 81 52 (Int32.ofInt 0) = B [] := by rw [hB]; rfl
  have hBI : ∀ bs a k, ¬ a = 110 → ¬ (a = 81 ∧ k = 52) → j_scr a k = false → j_I (B bs) a k = j_I C a k := fun bs a k h1 h3 h4 => by rw [hB, tm_I h1 h3, rd_I hC h4]
  have hBR : ∀ bs a k, j_scr a k = false → j_R (B bs) a k = j_R C a k := fun bs a k h2 => by rw [hB, tm_R, rd_R hC h2]
  have hBc : ∀ bs a, j_cls (B bs) a = j_cls C a := fun bs a => by rw [hB, tm_cls, rd_cls hC]
  have hBt : ∀ bs a, j_tp (B bs) a = j_tp C a := fun bs a => by rw [hB, tm_tp, rd_tp hC]
  have hBl : ∀ bs a, j_ln (B bs) a = j_ln C a := fun bs a => by rw [hB, tm_ln, rd_ln hC]
  have hk63 : ∀ (b' : Nat) (bs : List Int) (y : Int) (Q : Option Value → j_H → Prop), bs.length < 20 → j_wp b' 183 0 [.ref 81, .int (Int32.ofInt y)] [] (B bs) Q = Q none (B (bs ++ [y])) := fun b' bs y Q hl => by rw [hB]; exact k183 hC hW hl
  rw [etm] at hk1
  have hfin : Q (some (.int (j_acv 3 0 x g (j_I C 83 g.toInt.toNat)))) (j_bo 110 81 52 0 (j_acb 3 0) (j_sI H 81 52 (Int32.ofInt 0))) = Q (some (.int (j_acv 3 0 x g (j_I C 83 g.toInt.toNat)))) (B (j_acb 3 0)) := by rw [hB]; rfl
  rw [hfin]
  have p1 : ∀ bs, j_vc (B bs) (.ref 81) = 12 := fun bs => by rw [v_vc, hBc]; exact w_c81 hW
  have f4 : ∀ bs, va_rf (j_R (B bs) (j_pa (.ref 81)) 4) = .ref 82 := fun bs => by rw [v_pa, hBR _ _ _ rfl, w_r81_4 hW]; rfl
  have f5 : ∀ bs, va_rf (j_R (B bs) (j_pa (.ref 81)) 5) = .ref 83 := fun bs => by rw [v_pa, hBR _ _ _ rfl, w_r81_5 hW]; rfl
  have p2 : ∀ bs, j_vt (B bs) (va_rf (j_R (B bs) (j_pa (.ref 81)) 4)) = 0 := fun bs => by rw [f4, v_vt, hBt]; exact w_t82 hW
  have p2' : ∀ bs, j_vt (B bs) (va_rf (j_R (B bs) (j_pa (.ref 81)) 5)) = 0 := fun bs => by rw [f5, v_vt, hBt]; exact w_t83 hW
  have p3 : 0 ≤ g.toInt := hg.1
  have p4 : ∀ bs, g.toInt < ((j_vl (B bs) (va_rf (j_R (B bs) (j_pa (.ref 81)) 4)) : Nat) : Int) := fun bs => by rw [f4, v_vl, hBl, w_n82 hW]; have := h2.2; omega
  have p4' : ∀ bs, g.toInt < ((j_vl (B bs) (va_rf (j_R (B bs) (j_pa (.ref 81)) 5)) : Nat) : Int) := fun bs => by rw [f5, v_vl, hBl, w_n83 hW]; have := h2.2; omega
  have kd : ∀ bs, (j_I (B bs) (j_pa (va_rf (j_R (B bs) (j_pa (.ref 81)) 4))) (j_ix g)).toInt = 3 := fun bs => by rw [f4, v_pa, hBI _ _ _ (by decide) (by omega) rfl]; exact hk'
  have vv : ∀ bs, j_I (B bs) (j_pa (va_rf (j_R (B bs) (j_pa (.ref 81)) 5))) (j_ix g) = j_I C 83 g.toInt.toNat := fun bs => by rw [f5, v_pa, hBI _ _ _ (by decide) (by omega) rfl]; rfl
  rw [b191_0 (by rw [v_vc, rd_cls hC]; exact w_c81 hW), v_pa, etm]
  clear hfin hB hk hn hn2 hg hC1 e810 hBI hBR hBc hBt hBl f4 f5 etm
  simp (disch := (first | exact p1 _ | exact p2 _ | exact p2' _ | exact p3 | exact p4 _ | exact p4' _ | (simp only [kd] <;> omega) | decide | omega | fail)) only [↓if_pos, ↓if_neg, ↓b191_5, ↓b191_10, ↓b191_13, ↓b191_20, ↓b191_23, ↓b191_25, ↓b191_29, ↓b191_35, ↓b191_38, ↓b191_43, ↓b191_49, ↓b191_52, ↓b191_58, ↓b184_0, ↓b184_6, ↓b185_0, ↓b185_40, ↓b185_46, ↓b185_54, ↓b185_55, ↓b185_61, ↓b185_67, ↓b185_69, ↓b185_75, ↓b185_81, ↓b185_89, ↓b185_95, j_ks, j_ke, hk1, hk121, hk63, vv, List.nil_append, List.cons_append]
  all_goals rfl
set_option maxHeartbeats 200000 in
theorem k92_4_0 {b : Nat} {H C : j_H} {g act x : Int32} {Q : Option Value → j_H → Prop} (hC : j_co H = C) (hI : j_In C) (hg : 0 ≤ g.toInt ∧ g.toInt < j_n C) (ha : act.toInt = 0) (hk : j_kd C g.toInt = 4) : j_wp (b + 20) 92 0 [.ref 12, .int g, .int act, .int x, j_u] [] H Q = Q (some (.int (j_acv 4 0 x g (j_I C 83 g.toInt.toNat)))) (j_bo 75 74 1 0 (j_acb 4 0) (j_sI H 74 1 (Int32.ofInt 0))) := by
  have hW := hI.1
  have hN := i_G hI
  obtain ⟨e4, -⟩ := i_n hI
  obtain ⟨a1, a2, -⟩ := i_r hI
  have h2 : 0 ≤ g.toInt ∧ g.toInt < (j_I C 81 0).toInt := hg
  obtain ⟨r, hr, hG⟩ := i_gs hI hg.1 hg.2
  obtain ⟨g1, g2, g3, g4, g5, -⟩ := id hG
  rw [hk] at g2
  have gk : j_cls C r = 7 := g2
  have sr := j_scr_r g1
  have g4' : j_I C r 1 = g := t_ext g4
  have g5' : j_I C r 2 = j_I C 83 g.toInt.toNat := t_ext g5
  have hC1 : j_co (j_sI H 74 1 (Int32.ofInt 0)) = j_sI C 74 1 (Int32.ofInt 0) := by rw [c_sI' rfl, hC]
  have e134 : j_I (j_sI C 74 1 (Int32.ofInt 0)) 13 4 = j_I C 81 0 := by rw [h_II, if_neg (by decide)]; exact e4
  have hk1 := fun (b' : Nat) (Q : Option Value → j_H → Prop) => k1 (b := b') (x := g) (Q := Q) hC1 (show j_Wd (j_sI C 74 1 (Int32.ofInt 0)) from hW) (by rw [e134]; exact a2) hN
  simp only [e134] at hk1
  have hr' : va_rf (j_R (j_sI C 74 1 (Int32.ofInt 0)) 14 (j_ix g)) = .ref r := by show va_rf (j_R C 14 g.toInt.toNat) = _; rw [hr]; rfl
  simp only [if_pos h2, hr'] at hk1
  have n11 : ¬ r = 11 := by omega
  have n74 : ¬ (r = 74 ∨ r = 75) := by omega
  obtain ⟨B, hB⟩ : ∃ B, B = j_aB H := ⟨_, rfl⟩
  have etb : j_sI H 74 1 (Int32.ofInt 0) = B [] := by rw [hB]; rfl
  have hBI : ∀ bs a k, ¬ (a = 74 ∨ a = 75) → j_scr a k = false → j_I (B bs) a k = j_I C a k := fun bs a k h1 h2 => by rw [hB, tb_I h1, rd_I hC h2]
  have hBR : ∀ bs a k, j_scr a k = false → j_R (B bs) a k = j_R C a k := fun bs a k h2 => by rw [hB, tb_R, rd_R hC h2]
  have hBc : ∀ bs a, j_cls (B bs) a = j_cls C a := fun bs a => by rw [hB, tb_cls, rd_cls hC]
  have hBt : ∀ bs a, j_tp (B bs) a = j_tp C a := fun bs a => by rw [hB, tb_tp, rd_tp hC]
  have hBl : ∀ bs a, j_ln (B bs) a = j_ln C a := fun bs a => by rw [hB, tb_ln, rd_ln hC]
  have hk63 : ∀ (b' : Nat) (bs : List Int) (y : Int) (Q : Option Value → j_H → Prop), bs.length < 20 → j_wp b' 63 0 [.ref 74, .int (Int32.ofInt y)] [] (B bs) Q = Q none (B (bs ++ [y])) := fun b' bs y Q hl => by rw [hB]; exact k63 hC hW hl
  rw [etb] at hk1
  have hfin : Q (some (.int (j_acv 4 0 x g (j_I C 83 g.toInt.toNat)))) (j_bo 75 74 1 0 (j_acb 4 0) (j_sI H 74 1 (Int32.ofInt 0))) = Q (some (.int (j_acv 4 0 x g (j_I C 83 g.toInt.toNat)))) (B (j_acb 4 0)) := by rw [hB]; rfl
  rw [hfin]
  clear hfin hB hk hG hI hN hg h2 hr hr'
  simp (disch := (first | assumption | exact n_N11 | exact n_R11 (by decide) | exact n_bz | (simp (disch := (first | assumption | omega | decide)) only [v_rs, v_rn, v_pa, v_vc, v_vt, v_vl, v_ir, v_in, v_po, v_pn, v_re, v_rN, v_Nr, v_fe, v_fN, v_c1i, v_c1r, v_c1n, v_c1u, v_c1f, v_if, h_II, h_LL, h_RR, h_IL, h_IR, h_LI, h_LR, h_RI, h_RL, h_Ic, h_Lc, h_Rc, h_Id, h_Ld, h_Rd, h_cls_sI, h_cls_sL, h_cls_sR, h_cls_cI, h_cls_cL, h_tp_sI, h_tp_sL, h_tp_sR, h_tp_cI, h_tp_cL, h_ln_sI, h_ln_sL, h_ln_sR, h_ln_cI, h_ln_cL, v_if, j_scr, w_c12 hW, w_r12_0 hW, w_r12_1 hW, w_r12_3 hW, w_r12_5 hW, w_r12_7 hW, w_r12_8 hW, w_r12_9 hW, w_r12_10 hW, w_r12_11 hW, w_r12_12 hW, w_r12_13 hW, w_c74 hW, w_r74_0 hW, j_Wd_I, j_Wd_L, t_addo, t_subo, t_mulo, t_of, t_divc, t_remc, t_em, Int.toNat_zero, j_ix, Int.toNat_natCast, t_addc, t_subc, t_mulc, t_bz0, t_bz1, Classical.not_not, not_false_eq_true, if_true, if_false, and_true, true_and, and_false, false_and, and_self, or_true, true_or, or_false, false_or, not_true_eq_false, reduceIte, ite_self, implies_true, p_I, p_L, p_R, q_I, q_L, q_R, p_cls, p_tp, p_ln, p_cop, p_cov, rd_I hC, rd_L hC, rd_R hC, rd_cls hC, rd_tp hC, rd_ln hC, hC, hW] <;> first | omega | rfl | decide) | omega | decide | fail)) only [↓if_pos, ↓if_neg, ↓b92_0, ↓b92_62, ↓b92_73, ↓b92_84, ↓b92_85, ↓b62_0, ↓b62_5, v_rs, v_rn, v_pa, v_vc, v_vt, v_vl, v_ir, v_in, v_po, v_pn, v_re, v_rN, v_Nr, v_fe, v_fN, v_c1i, v_c1r, v_c1n, v_c1u, v_c1f, v_if, h_II, h_LL, h_RR, h_IL, h_IR, h_LI, h_LR, h_RI, h_RL, h_Ic, h_Lc, h_Rc, h_Id, h_Ld, h_Rd, h_cls_sI, h_cls_sL, h_cls_sR, h_cls_cI, h_cls_cL, h_tp_sI, h_tp_sL, h_tp_sR, h_tp_cI, h_tp_cL, h_ln_sI, h_ln_sL, h_ln_sR, h_ln_cI, h_ln_cL, v_if, w_c12 hW, w_r12_0 hW, w_r12_1 hW, w_r12_3 hW, w_r12_5 hW, w_r12_7 hW, w_r12_8 hW, w_r12_9 hW, w_r12_10 hW, w_r12_11 hW, w_r12_12 hW, w_r12_13 hW, w_c74 hW, w_r74_0 hW, j_ks, j_ke, t_addo, t_subo, t_mulo, t_of, t_divc, t_remc, t_em, Int.toNat_zero, j_ix, Int.toNat_natCast, t_addc, t_subc, t_mulc, t_bz0, t_bz1, Classical.not_not, not_false_eq_true, if_true, if_false, and_true, true_and, and_false, false_and, and_self, or_true, true_or, or_false, false_or, not_true_eq_false, reduceIte, ite_self, implies_true, p_I, p_L, p_R, q_I, q_L, q_R, p_cls, p_tp, p_ln, p_cop, p_cov, rd_I hC, rd_L hC, rd_R hC, rd_cls hC, rd_tp hC, rd_ln hC, hC, hW]
  rw [etb]
  have c74 : ∀ bs, j_vc (B bs) (.ref 74) = 10 := fun bs => by rw [v_vc, hBc]; exact w_c74 hW
  have c12 : ∀ bs, j_vc (B bs) (.ref 12) = 11 := fun bs => by rw [v_vc, hBc]; exact w_c12 hW
  have cr : ∀ bs, j_vc (B bs) (.ref r) = 7 := fun bs => by rw [v_vc, hBc]; exact gk
  have a12 : ∀ bs, va_rf (j_R (B bs) (j_pa (.ref 12)) 8) = .ref 74 := fun bs => by rw [v_pa, hBR _ _ _ rfl, w_r12_8 hW]; rfl
  have a120 : ∀ bs, va_rf (j_R (B bs) (j_pa (.ref 12)) 0) = .ref 13 := fun bs => by rw [v_pa, hBR _ _ _ rfl, w_r12_0 hW]; rfl
  have a12' : ∀ bs, va_rf (j_R (B bs) 12 8) = .ref 74 := a12
  have a120' : ∀ bs, va_rf (j_R (B bs) 12 0) = .ref 13 := a120
  have c13 : ∀ bs, j_vc (B bs) (.ref 13) = 0 := fun bs => by rw [v_vc, hBc]; exact w_c13 hW
  have gI1 : ∀ bs, j_I (B bs) r 1 = g := fun bs => (hBI _ _ _ n74 (sr _)).trans g4'
  have gI2 : ∀ bs, j_I (B bs) r 2 = j_I C 83 g.toInt.toNat := fun bs => (hBI _ _ _ n74 (sr _)).trans g5'
  have nr11 : ¬ (Value.ref r) = .ref 11 := fun h => by injection h; contradiction
  have nrn : ¬ (Value.ref r) = .null := fun h => by cases h
  clear hBI hBR hBc hBt hBl g2 g3 g4 g5 hC1 e134 n11 n74 sr gk g4' g5' e4 a1 a2
  simp (disch := (first | exact c74 _ | exact cr _ | exact c12 _ | exact v_ir | exact nr11 | exact nrn | exact ha | (simp only [a12, a120, a12', a120', c74, cr, c12, c13, v_ir] <;> decide) | decide | omega | fail)) only [↓if_pos, ↓if_neg, ↓b92_7, ↓b92_15, ↓b92_22, ↓b92_24, ↓b92_52_7, ↓b92_62, ↓b92_63_7, ↓b92_73, ↓b92_74_7, ↓b92_84, ↓b92_85, ↓b18_0, ↓b18_6, ↓b44_0, ↓b44_6, ↓b44_14, ↓b47_0, ↓b47_6, ↓b47_12, ↓b60_0, ↓b60_6, ↓b60_12, j_ks, j_ke, hk1, hk63, a12, a120, a12', a120', v_pa, gI1, gI2, List.nil_append, List.cons_append]
  all_goals rfl
set_option maxHeartbeats 200000 in
theorem k191_4_0 {b : Nat} {H C : j_H} {g act x : Int32} {Q : Option Value → j_H → Prop} (hC : j_co H = C) (hW : j_Wd C) (hn : 0 ≤ (j_I C 81 0).toInt) (hn2 : (j_I C 81 0).toInt ≤ 7) (hg : 0 ≤ g.toInt ∧ g.toInt < j_n C) (ha : act.toInt = 0) (hk : j_kd C g.toInt = 4) : j_wp (b + 20) 191 0 [.ref 81, .int g, .int act, .int x] [] H Q = Q (some (.int (j_acv 4 0 x g (j_I C 83 g.toInt.toNat)))) (j_bo 110 81 52 0 (j_acb 4 0) (j_sI H 81 52 (Int32.ofInt 0))) := by
  have h2 : 0 ≤ g.toInt ∧ g.toInt < (j_I C 81 0).toInt := hg
  have hk' : (j_I C 82 g.toInt.toNat).toInt = 4 := hk
  have hC1 : j_co (j_sI H 81 52 (Int32.ofInt 0)) = j_sI C 81 52 (Int32.ofInt 0) := by rw [c_sI' rfl, hC]
  have e810 : j_I (j_sI C 81 52 (Int32.ofInt 0)) 81 0 = j_I C 81 0 := by rw [h_II, if_neg (by decide)]
  have hk1 := fun (b' : Nat) (Q : Option Value → j_H → Prop) => k124 (b := b') (x := g) (Q := Q) hC1 (show j_Wd (j_sI C 81 52 (Int32.ofInt 0)) from hW) (by rw [e810]; exact hn) (by rw [e810]; exact hn2)
  simp only [e810, t_bzT h2] at hk1
  have hk121 : ∀ (b' : Nat) (v : Value) (H : j_H) (Q : Option Value → j_H → Prop), j_wp b' 121 0 [v, .int act, .int (Int32.ofInt 0), .int (Int32.ofInt 2)] [] H Q = Q (some (.int (Int32.ofInt 1))) H := fun b' v H Q => by
    rw [k121, t_bzT (by rw [ha]; decide)]
  obtain ⟨B, hB⟩ : ∃ B, B = j_aM H := ⟨_, rfl⟩
  have etm : j_sI H 81 52 (Int32.ofInt 0) = B [] := by rw [hB]; rfl
  have hBI : ∀ bs a k, ¬ a = 110 → ¬ (a = 81 ∧ k = 52) → j_scr a k = false → j_I (B bs) a k = j_I C a k := fun bs a k h1 h3 h4 => by rw [hB, tm_I h1 h3, rd_I hC h4]
  have hBR : ∀ bs a k, j_scr a k = false → j_R (B bs) a k = j_R C a k := fun bs a k h2 => by rw [hB, tm_R, rd_R hC h2]
  have hBc : ∀ bs a, j_cls (B bs) a = j_cls C a := fun bs a => by rw [hB, tm_cls, rd_cls hC]
  have hBt : ∀ bs a, j_tp (B bs) a = j_tp C a := fun bs a => by rw [hB, tm_tp, rd_tp hC]
  have hBl : ∀ bs a, j_ln (B bs) a = j_ln C a := fun bs a => by rw [hB, tm_ln, rd_ln hC]
  have hk63 : ∀ (b' : Nat) (bs : List Int) (y : Int) (Q : Option Value → j_H → Prop), bs.length < 20 → j_wp b' 183 0 [.ref 81, .int (Int32.ofInt y)] [] (B bs) Q = Q none (B (bs ++ [y])) := fun b' bs y Q hl => by rw [hB]; exact k183 hC hW hl
  rw [etm] at hk1
  have hfin : Q (some (.int (j_acv 4 0 x g (j_I C 83 g.toInt.toNat)))) (j_bo 110 81 52 0 (j_acb 4 0) (j_sI H 81 52 (Int32.ofInt 0))) = Q (some (.int (j_acv 4 0 x g (j_I C 83 g.toInt.toNat)))) (B (j_acb 4 0)) := by rw [hB]; rfl
  rw [hfin]
  have p1 : ∀ bs, j_vc (B bs) (.ref 81) = 12 := fun bs => by rw [v_vc, hBc]; exact w_c81 hW
  have f4 : ∀ bs, va_rf (j_R (B bs) (j_pa (.ref 81)) 4) = .ref 82 := fun bs => by rw [v_pa, hBR _ _ _ rfl, w_r81_4 hW]; rfl
  have f5 : ∀ bs, va_rf (j_R (B bs) (j_pa (.ref 81)) 5) = .ref 83 := fun bs => by rw [v_pa, hBR _ _ _ rfl, w_r81_5 hW]; rfl
  have p2 : ∀ bs, j_vt (B bs) (va_rf (j_R (B bs) (j_pa (.ref 81)) 4)) = 0 := fun bs => by rw [f4, v_vt, hBt]; exact w_t82 hW
  have p2' : ∀ bs, j_vt (B bs) (va_rf (j_R (B bs) (j_pa (.ref 81)) 5)) = 0 := fun bs => by rw [f5, v_vt, hBt]; exact w_t83 hW
  have p3 : 0 ≤ g.toInt := hg.1
  have p4 : ∀ bs, g.toInt < ((j_vl (B bs) (va_rf (j_R (B bs) (j_pa (.ref 81)) 4)) : Nat) : Int) := fun bs => by rw [f4, v_vl, hBl, w_n82 hW]; have := h2.2; omega
  have p4' : ∀ bs, g.toInt < ((j_vl (B bs) (va_rf (j_R (B bs) (j_pa (.ref 81)) 5)) : Nat) : Int) := fun bs => by rw [f5, v_vl, hBl, w_n83 hW]; have := h2.2; omega
  have kd : ∀ bs, (j_I (B bs) (j_pa (va_rf (j_R (B bs) (j_pa (.ref 81)) 4))) (j_ix g)).toInt = 4 := fun bs => by rw [f4, v_pa, hBI _ _ _ (by decide) (by omega) rfl]; exact hk'
  have vv : ∀ bs, j_I (B bs) (j_pa (va_rf (j_R (B bs) (j_pa (.ref 81)) 5))) (j_ix g) = j_I C 83 g.toInt.toNat := fun bs => by rw [f5, v_pa, hBI _ _ _ (by decide) (by omega) rfl]; rfl
  rw [b191_0 (by rw [v_vc, rd_cls hC]; exact w_c81 hW), v_pa, etm]
  clear hfin hB hk hn hn2 hg hC1 e810 hBI hBR hBc hBt hBl f4 f5 etm
  simp (disch := (first | exact p1 _ | exact p2 _ | exact p2' _ | exact p3 | exact p4 _ | exact p4' _ | (simp only [kd] <;> omega) | decide | omega | fail)) only [↓if_pos, ↓if_neg, ↓b191_5, ↓b191_10, ↓b191_13, ↓b191_20, ↓b191_23, ↓b191_25, ↓b191_29, ↓b191_35, ↓b191_38, ↓b191_43, ↓b191_49, ↓b191_52, ↓b191_58, ↓b184_0, ↓b184_6, ↓b185_0, ↓b185_40, ↓b185_46, ↓b185_54, ↓b185_55, ↓b185_61, ↓b185_67, ↓b185_69, ↓b185_75, ↓b185_81, ↓b185_89, ↓b185_95, j_ks, j_ke, hk1, hk121, hk63, vv, List.nil_append, List.cons_append]
  all_goals rfl
set_option maxHeartbeats 200000 in
theorem k92_5_0 {b : Nat} {H C : j_H} {g act x : Int32} {Q : Option Value → j_H → Prop} (hC : j_co H = C) (hI : j_In C) (hg : 0 ≤ g.toInt ∧ g.toInt < j_n C) (ha : act.toInt = 0) (hk : j_kd C g.toInt = 5) : j_wp (b + 20) 92 0 [.ref 12, .int g, .int act, .int x, j_u] [] H Q = Q (some (.int (j_acv 5 0 x g (j_I C 83 g.toInt.toNat)))) (j_bo 75 74 1 0 (j_acb 5 0) (j_sI H 74 1 (Int32.ofInt 0))) := by
  have hW := hI.1
  have hN := i_G hI
  obtain ⟨e4, -⟩ := i_n hI
  obtain ⟨a1, a2, -⟩ := i_r hI
  have h2 : 0 ≤ g.toInt ∧ g.toInt < (j_I C 81 0).toInt := hg
  obtain ⟨r, hr, hG⟩ := i_gs hI hg.1 hg.2
  obtain ⟨g1, g2, g3, g4, g5, -⟩ := id hG
  rw [hk] at g2
  have gk : j_cls C r = 1 := g2
  have sr := j_scr_r g1
  have g4' : j_I C r 1 = g := t_ext g4
  have g5' : j_I C r 2 = j_I C 83 g.toInt.toNat := t_ext g5
  have hC1 : j_co (j_sI H 74 1 (Int32.ofInt 0)) = j_sI C 74 1 (Int32.ofInt 0) := by rw [c_sI' rfl, hC]
  have e134 : j_I (j_sI C 74 1 (Int32.ofInt 0)) 13 4 = j_I C 81 0 := by rw [h_II, if_neg (by decide)]; exact e4
  have hk1 := fun (b' : Nat) (Q : Option Value → j_H → Prop) => k1 (b := b') (x := g) (Q := Q) hC1 (show j_Wd (j_sI C 74 1 (Int32.ofInt 0)) from hW) (by rw [e134]; exact a2) hN
  simp only [e134] at hk1
  have hr' : va_rf (j_R (j_sI C 74 1 (Int32.ofInt 0)) 14 (j_ix g)) = .ref r := by show va_rf (j_R C 14 g.toInt.toNat) = _; rw [hr]; rfl
  simp only [if_pos h2, hr'] at hk1
  have n11 : ¬ r = 11 := by omega
  have n74 : ¬ (r = 74 ∨ r = 75) := by omega
  obtain ⟨B, hB⟩ : ∃ B, B = j_aB H := ⟨_, rfl⟩
  have etb : j_sI H 74 1 (Int32.ofInt 0) = B [] := by rw [hB]; rfl
  have hBI : ∀ bs a k, ¬ (a = 74 ∨ a = 75) → j_scr a k = false → j_I (B bs) a k = j_I C a k := fun bs a k h1 h2 => by rw [hB, tb_I h1, rd_I hC h2]
  have hBR : ∀ bs a k, j_scr a k = false → j_R (B bs) a k = j_R C a k := fun bs a k h2 => by rw [hB, tb_R, rd_R hC h2]
  have hBc : ∀ bs a, j_cls (B bs) a = j_cls C a := fun bs a => by rw [hB, tb_cls, rd_cls hC]
  have hBt : ∀ bs a, j_tp (B bs) a = j_tp C a := fun bs a => by rw [hB, tb_tp, rd_tp hC]
  have hBl : ∀ bs a, j_ln (B bs) a = j_ln C a := fun bs a => by rw [hB, tb_ln, rd_ln hC]
  have hk63 : ∀ (b' : Nat) (bs : List Int) (y : Int) (Q : Option Value → j_H → Prop), bs.length < 20 → j_wp b' 63 0 [.ref 74, .int (Int32.ofInt y)] [] (B bs) Q = Q none (B (bs ++ [y])) := fun b' bs y Q hl => by rw [hB]; exact k63 hC hW hl
  rw [etb] at hk1
  have hfin : Q (some (.int (j_acv 5 0 x g (j_I C 83 g.toInt.toNat)))) (j_bo 75 74 1 0 (j_acb 5 0) (j_sI H 74 1 (Int32.ofInt 0))) = Q (some (.int (j_acv 5 0 x g (j_I C 83 g.toInt.toNat)))) (B (j_acb 5 0)) := by rw [hB]; rfl
  rw [hfin]
  clear hfin hB hk hG hI hN hg h2 hr hr'
  simp (disch := (first | assumption | exact n_N11 | exact n_R11 (by decide) | exact n_bz | (simp (disch := (first | assumption | omega | decide)) only [v_rs, v_rn, v_pa, v_vc, v_vt, v_vl, v_ir, v_in, v_po, v_pn, v_re, v_rN, v_Nr, v_fe, v_fN, v_c1i, v_c1r, v_c1n, v_c1u, v_c1f, v_if, h_II, h_LL, h_RR, h_IL, h_IR, h_LI, h_LR, h_RI, h_RL, h_Ic, h_Lc, h_Rc, h_Id, h_Ld, h_Rd, h_cls_sI, h_cls_sL, h_cls_sR, h_cls_cI, h_cls_cL, h_tp_sI, h_tp_sL, h_tp_sR, h_tp_cI, h_tp_cL, h_ln_sI, h_ln_sL, h_ln_sR, h_ln_cI, h_ln_cL, v_if, j_scr, w_c12 hW, w_r12_0 hW, w_r12_1 hW, w_r12_3 hW, w_r12_5 hW, w_r12_7 hW, w_r12_8 hW, w_r12_9 hW, w_r12_10 hW, w_r12_11 hW, w_r12_12 hW, w_r12_13 hW, w_c74 hW, w_r74_0 hW, j_Wd_I, j_Wd_L, t_addo, t_subo, t_mulo, t_of, t_divc, t_remc, t_em, Int.toNat_zero, j_ix, Int.toNat_natCast, t_addc, t_subc, t_mulc, t_bz0, t_bz1, Classical.not_not, not_false_eq_true, if_true, if_false, and_true, true_and, and_false, false_and, and_self, or_true, true_or, or_false, false_or, not_true_eq_false, reduceIte, ite_self, implies_true, p_I, p_L, p_R, q_I, q_L, q_R, p_cls, p_tp, p_ln, p_cop, p_cov, rd_I hC, rd_L hC, rd_R hC, rd_cls hC, rd_tp hC, rd_ln hC, hC, hW] <;> first | omega | rfl | decide) | omega | decide | fail)) only [↓if_pos, ↓if_neg, ↓b92_0, ↓b92_62, ↓b92_73, ↓b92_84, ↓b92_85, ↓b62_0, ↓b62_5, v_rs, v_rn, v_pa, v_vc, v_vt, v_vl, v_ir, v_in, v_po, v_pn, v_re, v_rN, v_Nr, v_fe, v_fN, v_c1i, v_c1r, v_c1n, v_c1u, v_c1f, v_if, h_II, h_LL, h_RR, h_IL, h_IR, h_LI, h_LR, h_RI, h_RL, h_Ic, h_Lc, h_Rc, h_Id, h_Ld, h_Rd, h_cls_sI, h_cls_sL, h_cls_sR, h_cls_cI, h_cls_cL, h_tp_sI, h_tp_sL, h_tp_sR, h_tp_cI, h_tp_cL, h_ln_sI, h_ln_sL, h_ln_sR, h_ln_cI, h_ln_cL, v_if, w_c12 hW, w_r12_0 hW, w_r12_1 hW, w_r12_3 hW, w_r12_5 hW, w_r12_7 hW, w_r12_8 hW, w_r12_9 hW, w_r12_10 hW, w_r12_11 hW, w_r12_12 hW, w_r12_13 hW, w_c74 hW, w_r74_0 hW, j_ks, j_ke, t_addo, t_subo, t_mulo, t_of, t_divc, t_remc, t_em, Int.toNat_zero, j_ix, Int.toNat_natCast, t_addc, t_subc, t_mulc, t_bz0, t_bz1, Classical.not_not, not_false_eq_true, if_true, if_false, and_true, true_and, and_false, false_and, and_self, or_true, true_or, or_false, false_or, not_true_eq_false, reduceIte, ite_self, implies_true, p_I, p_L, p_R, q_I, q_L, q_R, p_cls, p_tp, p_ln, p_cop, p_cov, rd_I hC, rd_L hC, rd_R hC, rd_cls hC, rd_tp hC, rd_ln hC, hC, hW]
  rw [etb]
  have c74 : ∀ bs, j_vc (B bs) (.ref 74) = 10 := fun bs => by rw [v_vc, hBc]; exact w_c74 hW
  have c12 : ∀ bs, j_vc (B bs) (.ref 12) = 11 := fun bs => by rw [v_vc, hBc]; exact w_c12 hW
  have cr : ∀ bs, j_vc (B bs) (.ref r) = 1 := fun bs => by rw [v_vc, hBc]; exact gk
  have a12 : ∀ bs, va_rf (j_R (B bs) (j_pa (.ref 12)) 8) = .ref 74 := fun bs => by rw [v_pa, hBR _ _ _ rfl, w_r12_8 hW]; rfl
  have a120 : ∀ bs, va_rf (j_R (B bs) (j_pa (.ref 12)) 0) = .ref 13 := fun bs => by rw [v_pa, hBR _ _ _ rfl, w_r12_0 hW]; rfl
  have a12' : ∀ bs, va_rf (j_R (B bs) 12 8) = .ref 74 := a12
  have a120' : ∀ bs, va_rf (j_R (B bs) 12 0) = .ref 13 := a120
  have c13 : ∀ bs, j_vc (B bs) (.ref 13) = 0 := fun bs => by rw [v_vc, hBc]; exact w_c13 hW
  have gI1 : ∀ bs, j_I (B bs) r 1 = g := fun bs => (hBI _ _ _ n74 (sr _)).trans g4'
  have gI2 : ∀ bs, j_I (B bs) r 2 = j_I C 83 g.toInt.toNat := fun bs => (hBI _ _ _ n74 (sr _)).trans g5'
  have nr11 : ¬ (Value.ref r) = .ref 11 := fun h => by injection h; contradiction
  have nrn : ¬ (Value.ref r) = .null := fun h => by cases h
  clear hBI hBR hBc hBt hBl g2 g3 g4 g5 hC1 e134 n11 n74 sr gk g4' g5' e4 a1 a2
  simp (disch := (first | exact c74 _ | exact cr _ | exact c12 _ | exact v_ir | exact nr11 | exact nrn | exact ha | (simp only [a12, a120, a12', a120', c74, cr, c12, c13, v_ir] <;> decide) | decide | omega | fail)) only [↓if_pos, ↓if_neg, ↓b92_7, ↓b92_15, ↓b92_22, ↓b92_24, ↓b92_52_1, ↓b92_62, ↓b92_63_1, ↓b92_73, ↓b92_74_1, ↓b92_84, ↓b92_85, ↓b18_0, ↓b18_6, ↓b44_0, ↓b44_6, ↓b44_14, ↓b47_0, ↓b47_6, ↓b47_12, ↓b60_0, ↓b60_6, ↓b60_12, j_ks, j_ke, hk1, hk63, a12, a120, a12', a120', v_pa, gI1, gI2, List.nil_append, List.cons_append]
  all_goals rfl
set_option maxHeartbeats 200000 in
theorem k191_5_0 {b : Nat} {H C : j_H} {g act x : Int32} {Q : Option Value → j_H → Prop} (hC : j_co H = C) (hW : j_Wd C) (hn : 0 ≤ (j_I C 81 0).toInt) (hn2 : (j_I C 81 0).toInt ≤ 7) (hg : 0 ≤ g.toInt ∧ g.toInt < j_n C) (ha : act.toInt = 0) (hk : j_kd C g.toInt = 5) : j_wp (b + 20) 191 0 [.ref 81, .int g, .int act, .int x] [] H Q = Q (some (.int (j_acv 5 0 x g (j_I C 83 g.toInt.toNat)))) (j_bo 110 81 52 0 (j_acb 5 0) (j_sI H 81 52 (Int32.ofInt 0))) := by
  have h2 : 0 ≤ g.toInt ∧ g.toInt < (j_I C 81 0).toInt := hg
  have hk' : (j_I C 82 g.toInt.toNat).toInt = 5 := hk
  have hC1 : j_co (j_sI H 81 52 (Int32.ofInt 0)) = j_sI C 81 52 (Int32.ofInt 0) := by rw [c_sI' rfl, hC]
  have e810 : j_I (j_sI C 81 52 (Int32.ofInt 0)) 81 0 = j_I C 81 0 := by rw [h_II, if_neg (by decide)]
  have hk1 := fun (b' : Nat) (Q : Option Value → j_H → Prop) => k124 (b := b') (x := g) (Q := Q) hC1 (show j_Wd (j_sI C 81 52 (Int32.ofInt 0)) from hW) (by rw [e810]; exact hn) (by rw [e810]; exact hn2)
  simp only [e810, t_bzT h2] at hk1
  have hk121 : ∀ (b' : Nat) (v : Value) (H : j_H) (Q : Option Value → j_H → Prop), j_wp b' 121 0 [v, .int act, .int (Int32.ofInt 0), .int (Int32.ofInt 2)] [] H Q = Q (some (.int (Int32.ofInt 1))) H := fun b' v H Q => by
    rw [k121, t_bzT (by rw [ha]; decide)]
  obtain ⟨B, hB⟩ : ∃ B, B = j_aM H := ⟨_, rfl⟩
  have etm : j_sI H 81 52 (Int32.ofInt 0) = B [] := by rw [hB]; rfl
  have hBI : ∀ bs a k, ¬ a = 110 → ¬ (a = 81 ∧ k = 52) → j_scr a k = false → j_I (B bs) a k = j_I C a k := fun bs a k h1 h3 h4 => by rw [hB, tm_I h1 h3, rd_I hC h4]
  have hBR : ∀ bs a k, j_scr a k = false → j_R (B bs) a k = j_R C a k := fun bs a k h2 => by rw [hB, tm_R, rd_R hC h2]
  have hBc : ∀ bs a, j_cls (B bs) a = j_cls C a := fun bs a => by rw [hB, tm_cls, rd_cls hC]
  have hBt : ∀ bs a, j_tp (B bs) a = j_tp C a := fun bs a => by rw [hB, tm_tp, rd_tp hC]
  have hBl : ∀ bs a, j_ln (B bs) a = j_ln C a := fun bs a => by rw [hB, tm_ln, rd_ln hC]
  have hk63 : ∀ (b' : Nat) (bs : List Int) (y : Int) (Q : Option Value → j_H → Prop), bs.length < 20 → j_wp b' 183 0 [.ref 81, .int (Int32.ofInt y)] [] (B bs) Q = Q none (B (bs ++ [y])) := fun b' bs y Q hl => by rw [hB]; exact k183 hC hW hl
  rw [etm] at hk1
  have hfin : Q (some (.int (j_acv 5 0 x g (j_I C 83 g.toInt.toNat)))) (j_bo 110 81 52 0 (j_acb 5 0) (j_sI H 81 52 (Int32.ofInt 0))) = Q (some (.int (j_acv 5 0 x g (j_I C 83 g.toInt.toNat)))) (B (j_acb 5 0)) := by rw [hB]; rfl
  rw [hfin]
  have p1 : ∀ bs, j_vc (B bs) (.ref 81) = 12 := fun bs => by rw [v_vc, hBc]; exact w_c81 hW
  have f4 : ∀ bs, va_rf (j_R (B bs) (j_pa (.ref 81)) 4) = .ref 82 := fun bs => by rw [v_pa, hBR _ _ _ rfl, w_r81_4 hW]; rfl
  have f5 : ∀ bs, va_rf (j_R (B bs) (j_pa (.ref 81)) 5) = .ref 83 := fun bs => by rw [v_pa, hBR _ _ _ rfl, w_r81_5 hW]; rfl
  have p2 : ∀ bs, j_vt (B bs) (va_rf (j_R (B bs) (j_pa (.ref 81)) 4)) = 0 := fun bs => by rw [f4, v_vt, hBt]; exact w_t82 hW
  have p2' : ∀ bs, j_vt (B bs) (va_rf (j_R (B bs) (j_pa (.ref 81)) 5)) = 0 := fun bs => by rw [f5, v_vt, hBt]; exact w_t83 hW
  have p3 : 0 ≤ g.toInt := hg.1
  have p4 : ∀ bs, g.toInt < ((j_vl (B bs) (va_rf (j_R (B bs) (j_pa (.ref 81)) 4)) : Nat) : Int) := fun bs => by rw [f4, v_vl, hBl, w_n82 hW]; have := h2.2; omega
  have p4' : ∀ bs, g.toInt < ((j_vl (B bs) (va_rf (j_R (B bs) (j_pa (.ref 81)) 5)) : Nat) : Int) := fun bs => by rw [f5, v_vl, hBl, w_n83 hW]; have := h2.2; omega
  have kd : ∀ bs, (j_I (B bs) (j_pa (va_rf (j_R (B bs) (j_pa (.ref 81)) 4))) (j_ix g)).toInt = 5 := fun bs => by rw [f4, v_pa, hBI _ _ _ (by decide) (by omega) rfl]; exact hk'
  have vv : ∀ bs, j_I (B bs) (j_pa (va_rf (j_R (B bs) (j_pa (.ref 81)) 5))) (j_ix g) = j_I C 83 g.toInt.toNat := fun bs => by rw [f5, v_pa, hBI _ _ _ (by decide) (by omega) rfl]; rfl
  rw [b191_0 (by rw [v_vc, rd_cls hC]; exact w_c81 hW), v_pa, etm]
  clear hfin hB hk hn hn2 hg hC1 e810 hBI hBR hBc hBt hBl f4 f5 etm
  simp (disch := (first | exact p1 _ | exact p2 _ | exact p2' _ | exact p3 | exact p4 _ | exact p4' _ | (simp only [kd] <;> omega) | decide | omega | fail)) only [↓if_pos, ↓if_neg, ↓b191_5, ↓b191_10, ↓b191_13, ↓b191_20, ↓b191_23, ↓b191_25, ↓b191_29, ↓b191_35, ↓b191_38, ↓b191_43, ↓b191_49, ↓b191_52, ↓b191_58, ↓b184_0, ↓b184_6, ↓b185_0, ↓b185_40, ↓b185_46, ↓b185_54, ↓b185_55, ↓b185_61, ↓b185_67, ↓b185_69, ↓b185_75, ↓b185_81, ↓b185_89, ↓b185_95, j_ks, j_ke, hk1, hk121, hk63, vv, List.nil_append, List.cons_append]
  all_goals rfl
set_option maxHeartbeats 200000 in
theorem k92_6_0 {b : Nat} {H C : j_H} {g act x : Int32} {Q : Option Value → j_H → Prop} (hC : j_co H = C) (hI : j_In C) (hg : 0 ≤ g.toInt ∧ g.toInt < j_n C) (ha : act.toInt = 0) (hk : j_kd C g.toInt = 6) : j_wp (b + 20) 92 0 [.ref 12, .int g, .int act, .int x, j_u] [] H Q = Q (some (.int (j_acv 6 0 x g (j_I C 83 g.toInt.toNat)))) (j_bo 75 74 1 0 (j_acb 6 0) (j_sI H 74 1 (Int32.ofInt 0))) := by
  have hW := hI.1
  have hN := i_G hI
  obtain ⟨e4, -⟩ := i_n hI
  obtain ⟨a1, a2, -⟩ := i_r hI
  have h2 : 0 ≤ g.toInt ∧ g.toInt < (j_I C 81 0).toInt := hg
  obtain ⟨r, hr, hG⟩ := i_gs hI hg.1 hg.2
  obtain ⟨g1, g2, g3, g4, g5, -⟩ := id hG
  rw [hk] at g2
  have gk : j_cls C r = 9 := g2
  have sr := j_scr_r g1
  have g4' : j_I C r 1 = g := t_ext g4
  have g5' : j_I C r 2 = j_I C 83 g.toInt.toNat := t_ext g5
  have hC1 : j_co (j_sI H 74 1 (Int32.ofInt 0)) = j_sI C 74 1 (Int32.ofInt 0) := by rw [c_sI' rfl, hC]
  have e134 : j_I (j_sI C 74 1 (Int32.ofInt 0)) 13 4 = j_I C 81 0 := by rw [h_II, if_neg (by decide)]; exact e4
  have hk1 := fun (b' : Nat) (Q : Option Value → j_H → Prop) => k1 (b := b') (x := g) (Q := Q) hC1 (show j_Wd (j_sI C 74 1 (Int32.ofInt 0)) from hW) (by rw [e134]; exact a2) hN
  simp only [e134] at hk1
  have hr' : va_rf (j_R (j_sI C 74 1 (Int32.ofInt 0)) 14 (j_ix g)) = .ref r := by show va_rf (j_R C 14 g.toInt.toNat) = _; rw [hr]; rfl
  simp only [if_pos h2, hr'] at hk1
  have n11 : ¬ r = 11 := by omega
  have n74 : ¬ (r = 74 ∨ r = 75) := by omega
  obtain ⟨B, hB⟩ : ∃ B, B = j_aB H := ⟨_, rfl⟩
  have etb : j_sI H 74 1 (Int32.ofInt 0) = B [] := by rw [hB]; rfl
  have hBI : ∀ bs a k, ¬ (a = 74 ∨ a = 75) → j_scr a k = false → j_I (B bs) a k = j_I C a k := fun bs a k h1 h2 => by rw [hB, tb_I h1, rd_I hC h2]
  have hBR : ∀ bs a k, j_scr a k = false → j_R (B bs) a k = j_R C a k := fun bs a k h2 => by rw [hB, tb_R, rd_R hC h2]
  have hBc : ∀ bs a, j_cls (B bs) a = j_cls C a := fun bs a => by rw [hB, tb_cls, rd_cls hC]
  have hBt : ∀ bs a, j_tp (B bs) a = j_tp C a := fun bs a => by rw [hB, tb_tp, rd_tp hC]
  have hBl : ∀ bs a, j_ln (B bs) a = j_ln C a := fun bs a => by rw [hB, tb_ln, rd_ln hC]
  have hk63 : ∀ (b' : Nat) (bs : List Int) (y : Int) (Q : Option Value → j_H → Prop), bs.length < 20 → j_wp b' 63 0 [.ref 74, .int (Int32.ofInt y)] [] (B bs) Q = Q none (B (bs ++ [y])) := fun b' bs y Q hl => by rw [hB]; exact k63 hC hW hl
  rw [etb] at hk1
  have hfin : Q (some (.int (j_acv 6 0 x g (j_I C 83 g.toInt.toNat)))) (j_bo 75 74 1 0 (j_acb 6 0) (j_sI H 74 1 (Int32.ofInt 0))) = Q (some (.int (j_acv 6 0 x g (j_I C 83 g.toInt.toNat)))) (B (j_acb 6 0)) := by rw [hB]; rfl
  rw [hfin]
  clear hfin hB hk hG hI hN hg h2 hr hr'
  simp (disch := (first | assumption | exact n_N11 | exact n_R11 (by decide) | exact n_bz | (simp (disch := (first | assumption | omega | decide)) only [v_rs, v_rn, v_pa, v_vc, v_vt, v_vl, v_ir, v_in, v_po, v_pn, v_re, v_rN, v_Nr, v_fe, v_fN, v_c1i, v_c1r, v_c1n, v_c1u, v_c1f, v_if, h_II, h_LL, h_RR, h_IL, h_IR, h_LI, h_LR, h_RI, h_RL, h_Ic, h_Lc, h_Rc, h_Id, h_Ld, h_Rd, h_cls_sI, h_cls_sL, h_cls_sR, h_cls_cI, h_cls_cL, h_tp_sI, h_tp_sL, h_tp_sR, h_tp_cI, h_tp_cL, h_ln_sI, h_ln_sL, h_ln_sR, h_ln_cI, h_ln_cL, v_if, j_scr, w_c12 hW, w_r12_0 hW, w_r12_1 hW, w_r12_3 hW, w_r12_5 hW, w_r12_7 hW, w_r12_8 hW, w_r12_9 hW, w_r12_10 hW, w_r12_11 hW, w_r12_12 hW, w_r12_13 hW, w_c74 hW, w_r74_0 hW, j_Wd_I, j_Wd_L, t_addo, t_subo, t_mulo, t_of, t_divc, t_remc, t_em, Int.toNat_zero, j_ix, Int.toNat_natCast, t_addc, t_subc, t_mulc, t_bz0, t_bz1, Classical.not_not, not_false_eq_true, if_true, if_false, and_true, true_and, and_false, false_and, and_self, or_true, true_or, or_false, false_or, not_true_eq_false, reduceIte, ite_self, implies_true, p_I, p_L, p_R, q_I, q_L, q_R, p_cls, p_tp, p_ln, p_cop, p_cov, rd_I hC, rd_L hC, rd_R hC, rd_cls hC, rd_tp hC, rd_ln hC, hC, hW] <;> first | omega | rfl | decide) | omega | decide | fail)) only [↓if_pos, ↓if_neg, ↓b92_0, ↓b92_62, ↓b92_73, ↓b92_84, ↓b92_85, ↓b62_0, ↓b62_5, v_rs, v_rn, v_pa, v_vc, v_vt, v_vl, v_ir, v_in, v_po, v_pn, v_re, v_rN, v_Nr, v_fe, v_fN, v_c1i, v_c1r, v_c1n, v_c1u, v_c1f, v_if, h_II, h_LL, h_RR, h_IL, h_IR, h_LI, h_LR, h_RI, h_RL, h_Ic, h_Lc, h_Rc, h_Id, h_Ld, h_Rd, h_cls_sI, h_cls_sL, h_cls_sR, h_cls_cI, h_cls_cL, h_tp_sI, h_tp_sL, h_tp_sR, h_tp_cI, h_tp_cL, h_ln_sI, h_ln_sL, h_ln_sR, h_ln_cI, h_ln_cL, v_if, w_c12 hW, w_r12_0 hW, w_r12_1 hW, w_r12_3 hW, w_r12_5 hW, w_r12_7 hW, w_r12_8 hW, w_r12_9 hW, w_r12_10 hW, w_r12_11 hW, w_r12_12 hW, w_r12_13 hW, w_c74 hW, w_r74_0 hW, j_ks, j_ke, t_addo, t_subo, t_mulo, t_of, t_divc, t_remc, t_em, Int.toNat_zero, j_ix, Int.toNat_natCast, t_addc, t_subc, t_mulc, t_bz0, t_bz1, Classical.not_not, not_false_eq_true, if_true, if_false, and_true, true_and, and_false, false_and, and_self, or_true, true_or, or_false, false_or, not_true_eq_false, reduceIte, ite_self, implies_true, p_I, p_L, p_R, q_I, q_L, q_R, p_cls, p_tp, p_ln, p_cop, p_cov, rd_I hC, rd_L hC, rd_R hC, rd_cls hC, rd_tp hC, rd_ln hC, hC, hW]
  rw [etb]
  have c74 : ∀ bs, j_vc (B bs) (.ref 74) = 10 := fun bs => by rw [v_vc, hBc]; exact w_c74 hW
  have c12 : ∀ bs, j_vc (B bs) (.ref 12) = 11 := fun bs => by rw [v_vc, hBc]; exact w_c12 hW
  have cr : ∀ bs, j_vc (B bs) (.ref r) = 9 := fun bs => by rw [v_vc, hBc]; exact gk
  have a12 : ∀ bs, va_rf (j_R (B bs) (j_pa (.ref 12)) 8) = .ref 74 := fun bs => by rw [v_pa, hBR _ _ _ rfl, w_r12_8 hW]; rfl
  have a120 : ∀ bs, va_rf (j_R (B bs) (j_pa (.ref 12)) 0) = .ref 13 := fun bs => by rw [v_pa, hBR _ _ _ rfl, w_r12_0 hW]; rfl
  have a12' : ∀ bs, va_rf (j_R (B bs) 12 8) = .ref 74 := a12
  have a120' : ∀ bs, va_rf (j_R (B bs) 12 0) = .ref 13 := a120
  have c13 : ∀ bs, j_vc (B bs) (.ref 13) = 0 := fun bs => by rw [v_vc, hBc]; exact w_c13 hW
  have gI1 : ∀ bs, j_I (B bs) r 1 = g := fun bs => (hBI _ _ _ n74 (sr _)).trans g4'
  have gI2 : ∀ bs, j_I (B bs) r 2 = j_I C 83 g.toInt.toNat := fun bs => (hBI _ _ _ n74 (sr _)).trans g5'
  have nr11 : ¬ (Value.ref r) = .ref 11 := fun h => by injection h; contradiction
  have nrn : ¬ (Value.ref r) = .null := fun h => by cases h
  clear hBI hBR hBc hBt hBl g2 g3 g4 g5 hC1 e134 n11 n74 sr gk g4' g5' e4 a1 a2
  simp (disch := (first | exact c74 _ | exact cr _ | exact c12 _ | exact v_ir | exact nr11 | exact nrn | exact ha | (simp only [a12, a120, a12', a120', c74, cr, c12, c13, v_ir] <;> decide) | decide | omega | fail)) only [↓if_pos, ↓if_neg, ↓b92_7, ↓b92_15, ↓b92_22, ↓b92_24, ↓b92_52_9, ↓b92_62, ↓b92_63_9, ↓b92_73, ↓b92_74_9, ↓b92_84, ↓b92_85, ↓b18_0, ↓b18_6, ↓b44_0, ↓b44_6, ↓b44_14, ↓b47_0, ↓b47_6, ↓b47_12, ↓b60_0, ↓b60_6, ↓b60_12, j_ks, j_ke, hk1, hk63, a12, a120, a12', a120', v_pa, gI1, gI2, List.nil_append, List.cons_append]
  all_goals rfl
set_option maxHeartbeats 200000 in
theorem k191_6_0 {b : Nat} {H C : j_H} {g act x : Int32} {Q : Option Value → j_H → Prop} (hC : j_co H = C) (hW : j_Wd C) (hn : 0 ≤ (j_I C 81 0).toInt) (hn2 : (j_I C 81 0).toInt ≤ 7) (hg : 0 ≤ g.toInt ∧ g.toInt < j_n C) (ha : act.toInt = 0) (hk : j_kd C g.toInt = 6) : j_wp (b + 20) 191 0 [.ref 81, .int g, .int act, .int x] [] H Q = Q (some (.int (j_acv 6 0 x g (j_I C 83 g.toInt.toNat)))) (j_bo 110 81 52 0 (j_acb 6 0) (j_sI H 81 52 (Int32.ofInt 0))) := by
  have h2 : 0 ≤ g.toInt ∧ g.toInt < (j_I C 81 0).toInt := hg
  have hk' : (j_I C 82 g.toInt.toNat).toInt = 6 := hk
  have hC1 : j_co (j_sI H 81 52 (Int32.ofInt 0)) = j_sI C 81 52 (Int32.ofInt 0) := by rw [c_sI' rfl, hC]
  have e810 : j_I (j_sI C 81 52 (Int32.ofInt 0)) 81 0 = j_I C 81 0 := by rw [h_II, if_neg (by decide)]
  have hk1 := fun (b' : Nat) (Q : Option Value → j_H → Prop) => k124 (b := b') (x := g) (Q := Q) hC1 (show j_Wd (j_sI C 81 52 (Int32.ofInt 0)) from hW) (by rw [e810]; exact hn) (by rw [e810]; exact hn2)
  simp only [e810, t_bzT h2] at hk1
  have hk121 : ∀ (b' : Nat) (v : Value) (H : j_H) (Q : Option Value → j_H → Prop), j_wp b' 121 0 [v, .int act, .int (Int32.ofInt 0), .int (Int32.ofInt 2)] [] H Q = Q (some (.int (Int32.ofInt 1))) H := fun b' v H Q => by
    rw [k121, t_bzT (by rw [ha]; decide)]
  obtain ⟨B, hB⟩ : ∃ B, B = j_aM H := ⟨_, rfl⟩
  have etm : j_sI H 81 52 (Int32.ofInt 0) = B [] := by rw [hB]; rfl
  have hBI : ∀ bs a k, ¬ a = 110 → ¬ (a = 81 ∧ k = 52) → j_scr a k = false → j_I (B bs) a k = j_I C a k := fun bs a k h1 h3 h4 => by rw [hB, tm_I h1 h3, rd_I hC h4]
  have hBR : ∀ bs a k, j_scr a k = false → j_R (B bs) a k = j_R C a k := fun bs a k h2 => by rw [hB, tm_R, rd_R hC h2]
  have hBc : ∀ bs a, j_cls (B bs) a = j_cls C a := fun bs a => by rw [hB, tm_cls, rd_cls hC]
  have hBt : ∀ bs a, j_tp (B bs) a = j_tp C a := fun bs a => by rw [hB, tm_tp, rd_tp hC]
  have hBl : ∀ bs a, j_ln (B bs) a = j_ln C a := fun bs a => by rw [hB, tm_ln, rd_ln hC]
  have hk63 : ∀ (b' : Nat) (bs : List Int) (y : Int) (Q : Option Value → j_H → Prop), bs.length < 20 → j_wp b' 183 0 [.ref 81, .int (Int32.ofInt y)] [] (B bs) Q = Q none (B (bs ++ [y])) := fun b' bs y Q hl => by rw [hB]; exact k183 hC hW hl
  rw [etm] at hk1
  have hfin : Q (some (.int (j_acv 6 0 x g (j_I C 83 g.toInt.toNat)))) (j_bo 110 81 52 0 (j_acb 6 0) (j_sI H 81 52 (Int32.ofInt 0))) = Q (some (.int (j_acv 6 0 x g (j_I C 83 g.toInt.toNat)))) (B (j_acb 6 0)) := by rw [hB]; rfl
  rw [hfin]
  have p1 : ∀ bs, j_vc (B bs) (.ref 81) = 12 := fun bs => by rw [v_vc, hBc]; exact w_c81 hW
  have f4 : ∀ bs, va_rf (j_R (B bs) (j_pa (.ref 81)) 4) = .ref 82 := fun bs => by rw [v_pa, hBR _ _ _ rfl, w_r81_4 hW]; rfl
  have f5 : ∀ bs, va_rf (j_R (B bs) (j_pa (.ref 81)) 5) = .ref 83 := fun bs => by rw [v_pa, hBR _ _ _ rfl, w_r81_5 hW]; rfl
  have p2 : ∀ bs, j_vt (B bs) (va_rf (j_R (B bs) (j_pa (.ref 81)) 4)) = 0 := fun bs => by rw [f4, v_vt, hBt]; exact w_t82 hW
  have p2' : ∀ bs, j_vt (B bs) (va_rf (j_R (B bs) (j_pa (.ref 81)) 5)) = 0 := fun bs => by rw [f5, v_vt, hBt]; exact w_t83 hW
  have p3 : 0 ≤ g.toInt := hg.1
  have p4 : ∀ bs, g.toInt < ((j_vl (B bs) (va_rf (j_R (B bs) (j_pa (.ref 81)) 4)) : Nat) : Int) := fun bs => by rw [f4, v_vl, hBl, w_n82 hW]; have := h2.2; omega
  have p4' : ∀ bs, g.toInt < ((j_vl (B bs) (va_rf (j_R (B bs) (j_pa (.ref 81)) 5)) : Nat) : Int) := fun bs => by rw [f5, v_vl, hBl, w_n83 hW]; have := h2.2; omega
  have kd : ∀ bs, (j_I (B bs) (j_pa (va_rf (j_R (B bs) (j_pa (.ref 81)) 4))) (j_ix g)).toInt = 6 := fun bs => by rw [f4, v_pa, hBI _ _ _ (by decide) (by omega) rfl]; exact hk'
  have vv : ∀ bs, j_I (B bs) (j_pa (va_rf (j_R (B bs) (j_pa (.ref 81)) 5))) (j_ix g) = j_I C 83 g.toInt.toNat := fun bs => by rw [f5, v_pa, hBI _ _ _ (by decide) (by omega) rfl]; rfl
  rw [b191_0 (by rw [v_vc, rd_cls hC]; exact w_c81 hW), v_pa, etm]
  clear hfin hB hk hn hn2 hg hC1 e810 hBI hBR hBc hBt hBl f4 f5 etm
  simp (disch := (first | exact p1 _ | exact p2 _ | exact p2' _ | exact p3 | exact p4 _ | exact p4' _ | (simp only [kd] <;> omega) | decide | omega | fail)) only [↓if_pos, ↓if_neg, ↓b191_5, ↓b191_10, ↓b191_13, ↓b191_20, ↓b191_23, ↓b191_25, ↓b191_29, ↓b191_35, ↓b191_38, ↓b191_43, ↓b191_49, ↓b191_52, ↓b191_58, ↓b184_0, ↓b184_6, ↓b185_0, ↓b185_40, ↓b185_46, ↓b185_54, ↓b185_55, ↓b185_61, ↓b185_67, ↓b185_69, ↓b185_75, ↓b185_81, ↓b185_89, ↓b185_95, j_ks, j_ke, hk1, hk121, hk63, vv, List.nil_append, List.cons_append]
  all_goals rfl
set_option maxHeartbeats 200000 in
theorem k92_0_1 {b : Nat} {H C : j_H} {g act x : Int32} {Q : Option Value → j_H → Prop} (hC : j_co H = C) (hI : j_In C) (hg : 0 ≤ g.toInt ∧ g.toInt < j_n C) (ha : act.toInt = 1) (hk : j_kd C g.toInt = 0) : j_wp (b + 20) 92 0 [.ref 12, .int g, .int act, .int x, j_u] [] H Q = Q (some (.int (j_acv 0 1 x g (j_I C 83 g.toInt.toNat)))) (j_bo 75 74 1 0 (j_acb 0 1) (j_sI H 74 1 (Int32.ofInt 0))) := by
  have hW := hI.1
  have hN := i_G hI
  obtain ⟨e4, -⟩ := i_n hI
  obtain ⟨a1, a2, -⟩ := i_r hI
  have h2 : 0 ≤ g.toInt ∧ g.toInt < (j_I C 81 0).toInt := hg
  obtain ⟨r, hr, hG⟩ := i_gs hI hg.1 hg.2
  obtain ⟨g1, g2, g3, g4, g5, -⟩ := id hG
  rw [hk] at g2
  have gk : j_cls C r = 2 := g2
  have sr := j_scr_r g1
  have g4' : j_I C r 1 = g := t_ext g4
  have g5' : j_I C r 2 = j_I C 83 g.toInt.toNat := t_ext g5
  have hC1 : j_co (j_sI H 74 1 (Int32.ofInt 0)) = j_sI C 74 1 (Int32.ofInt 0) := by rw [c_sI' rfl, hC]
  have e134 : j_I (j_sI C 74 1 (Int32.ofInt 0)) 13 4 = j_I C 81 0 := by rw [h_II, if_neg (by decide)]; exact e4
  have hk1 := fun (b' : Nat) (Q : Option Value → j_H → Prop) => k1 (b := b') (x := g) (Q := Q) hC1 (show j_Wd (j_sI C 74 1 (Int32.ofInt 0)) from hW) (by rw [e134]; exact a2) hN
  simp only [e134] at hk1
  have hr' : va_rf (j_R (j_sI C 74 1 (Int32.ofInt 0)) 14 (j_ix g)) = .ref r := by show va_rf (j_R C 14 g.toInt.toNat) = _; rw [hr]; rfl
  simp only [if_pos h2, hr'] at hk1
  have n11 : ¬ r = 11 := by omega
  have n74 : ¬ (r = 74 ∨ r = 75) := by omega
  obtain ⟨B, hB⟩ : ∃ B, B = j_aB H := ⟨_, rfl⟩
  have etb : j_sI H 74 1 (Int32.ofInt 0) = B [] := by rw [hB]; rfl
  have hBI : ∀ bs a k, ¬ (a = 74 ∨ a = 75) → j_scr a k = false → j_I (B bs) a k = j_I C a k := fun bs a k h1 h2 => by rw [hB, tb_I h1, rd_I hC h2]
  have hBR : ∀ bs a k, j_scr a k = false → j_R (B bs) a k = j_R C a k := fun bs a k h2 => by rw [hB, tb_R, rd_R hC h2]
  have hBc : ∀ bs a, j_cls (B bs) a = j_cls C a := fun bs a => by rw [hB, tb_cls, rd_cls hC]
  have hBt : ∀ bs a, j_tp (B bs) a = j_tp C a := fun bs a => by rw [hB, tb_tp, rd_tp hC]
  have hBl : ∀ bs a, j_ln (B bs) a = j_ln C a := fun bs a => by rw [hB, tb_ln, rd_ln hC]
  have hk63 : ∀ (b' : Nat) (bs : List Int) (y : Int) (Q : Option Value → j_H → Prop), bs.length < 20 → j_wp b' 63 0 [.ref 74, .int (Int32.ofInt y)] [] (B bs) Q = Q none (B (bs ++ [y])) := fun b' bs y Q hl => by rw [hB]; exact k63 hC hW hl
  rw [etb] at hk1
  have hfin : Q (some (.int (j_acv 0 1 x g (j_I C 83 g.toInt.toNat)))) (j_bo 75 74 1 0 (j_acb 0 1) (j_sI H 74 1 (Int32.ofInt 0))) = Q (some (.int (j_acv 0 1 x g (j_I C 83 g.toInt.toNat)))) (B (j_acb 0 1)) := by rw [hB]; rfl
  rw [hfin]
  clear hfin hB hk hG hI hN hg h2 hr hr'
  simp (disch := (first | assumption | exact n_N11 | exact n_R11 (by decide) | exact n_bz | (simp (disch := (first | assumption | omega | decide)) only [v_rs, v_rn, v_pa, v_vc, v_vt, v_vl, v_ir, v_in, v_po, v_pn, v_re, v_rN, v_Nr, v_fe, v_fN, v_c1i, v_c1r, v_c1n, v_c1u, v_c1f, v_if, h_II, h_LL, h_RR, h_IL, h_IR, h_LI, h_LR, h_RI, h_RL, h_Ic, h_Lc, h_Rc, h_Id, h_Ld, h_Rd, h_cls_sI, h_cls_sL, h_cls_sR, h_cls_cI, h_cls_cL, h_tp_sI, h_tp_sL, h_tp_sR, h_tp_cI, h_tp_cL, h_ln_sI, h_ln_sL, h_ln_sR, h_ln_cI, h_ln_cL, v_if, j_scr, w_c12 hW, w_r12_0 hW, w_r12_1 hW, w_r12_3 hW, w_r12_5 hW, w_r12_7 hW, w_r12_8 hW, w_r12_9 hW, w_r12_10 hW, w_r12_11 hW, w_r12_12 hW, w_r12_13 hW, w_c74 hW, w_r74_0 hW, j_Wd_I, j_Wd_L, t_addo, t_subo, t_mulo, t_of, t_divc, t_remc, t_em, Int.toNat_zero, j_ix, Int.toNat_natCast, t_addc, t_subc, t_mulc, t_bz0, t_bz1, Classical.not_not, not_false_eq_true, if_true, if_false, and_true, true_and, and_false, false_and, and_self, or_true, true_or, or_false, false_or, not_true_eq_false, reduceIte, ite_self, implies_true, p_I, p_L, p_R, q_I, q_L, q_R, p_cls, p_tp, p_ln, p_cop, p_cov, rd_I hC, rd_L hC, rd_R hC, rd_cls hC, rd_tp hC, rd_ln hC, hC, hW] <;> first | omega | rfl | decide) | omega | decide | fail)) only [↓if_pos, ↓if_neg, ↓b92_0, ↓b92_62, ↓b92_73, ↓b92_84, ↓b92_85, ↓b62_0, ↓b62_5, v_rs, v_rn, v_pa, v_vc, v_vt, v_vl, v_ir, v_in, v_po, v_pn, v_re, v_rN, v_Nr, v_fe, v_fN, v_c1i, v_c1r, v_c1n, v_c1u, v_c1f, v_if, h_II, h_LL, h_RR, h_IL, h_IR, h_LI, h_LR, h_RI, h_RL, h_Ic, h_Lc, h_Rc, h_Id, h_Ld, h_Rd, h_cls_sI, h_cls_sL, h_cls_sR, h_cls_cI, h_cls_cL, h_tp_sI, h_tp_sL, h_tp_sR, h_tp_cI, h_tp_cL, h_ln_sI, h_ln_sL, h_ln_sR, h_ln_cI, h_ln_cL, v_if, w_c12 hW, w_r12_0 hW, w_r12_1 hW, w_r12_3 hW, w_r12_5 hW, w_r12_7 hW, w_r12_8 hW, w_r12_9 hW, w_r12_10 hW, w_r12_11 hW, w_r12_12 hW, w_r12_13 hW, w_c74 hW, w_r74_0 hW, j_ks, j_ke, t_addo, t_subo, t_mulo, t_of, t_divc, t_remc, t_em, Int.toNat_zero, j_ix, Int.toNat_natCast, t_addc, t_subc, t_mulc, t_bz0, t_bz1, Classical.not_not, not_false_eq_true, if_true, if_false, and_true, true_and, and_false, false_and, and_self, or_true, true_or, or_false, false_or, not_true_eq_false, reduceIte, ite_self, implies_true, p_I, p_L, p_R, q_I, q_L, q_R, p_cls, p_tp, p_ln, p_cop, p_cov, rd_I hC, rd_L hC, rd_R hC, rd_cls hC, rd_tp hC, rd_ln hC, hC, hW]
  rw [etb]
  have c74 : ∀ bs, j_vc (B bs) (.ref 74) = 10 := fun bs => by rw [v_vc, hBc]; exact w_c74 hW
  have c12 : ∀ bs, j_vc (B bs) (.ref 12) = 11 := fun bs => by rw [v_vc, hBc]; exact w_c12 hW
  have cr : ∀ bs, j_vc (B bs) (.ref r) = 2 := fun bs => by rw [v_vc, hBc]; exact gk
  have a12 : ∀ bs, va_rf (j_R (B bs) (j_pa (.ref 12)) 8) = .ref 74 := fun bs => by rw [v_pa, hBR _ _ _ rfl, w_r12_8 hW]; rfl
  have a120 : ∀ bs, va_rf (j_R (B bs) (j_pa (.ref 12)) 0) = .ref 13 := fun bs => by rw [v_pa, hBR _ _ _ rfl, w_r12_0 hW]; rfl
  have a12' : ∀ bs, va_rf (j_R (B bs) 12 8) = .ref 74 := a12
  have a120' : ∀ bs, va_rf (j_R (B bs) 12 0) = .ref 13 := a120
  have c13 : ∀ bs, j_vc (B bs) (.ref 13) = 0 := fun bs => by rw [v_vc, hBc]; exact w_c13 hW
  have gI1 : ∀ bs, j_I (B bs) r 1 = g := fun bs => (hBI _ _ _ n74 (sr _)).trans g4'
  have gI2 : ∀ bs, j_I (B bs) r 2 = j_I C 83 g.toInt.toNat := fun bs => (hBI _ _ _ n74 (sr _)).trans g5'
  have nr11 : ¬ (Value.ref r) = .ref 11 := fun h => by injection h; contradiction
  have nrn : ¬ (Value.ref r) = .null := fun h => by cases h
  clear hBI hBR hBc hBt hBl g2 g3 g4 g5 hC1 e134 n11 n74 sr gk g4' g5' e4 a1 a2
  simp (disch := (first | exact c74 _ | exact cr _ | exact c12 _ | exact v_ir | exact nr11 | exact nrn | exact ha | (simp only [a12, a120, a12', a120', c74, cr, c12, c13, v_ir] <;> decide) | decide | omega | fail)) only [↓if_pos, ↓if_neg, ↓b92_7, ↓b92_15, ↓b92_22, ↓b92_24, ↓b92_52_2, ↓b92_62, ↓b92_63_2, ↓b92_73, ↓b92_74_2, ↓b92_84, ↓b92_85, ↓b18_0, ↓b18_6, ↓b44_0, ↓b44_6, ↓b44_14, ↓b47_0, ↓b47_6, ↓b47_12, ↓b60_0, ↓b60_6, ↓b60_12, ↓b19_0, ↓b19_6_2, ↓b19_12, ↓b38_0, ↓b38_6, ↓b38_12, ↓b48_0, ↓b48_6, ↓b48_14, ↓b59_0, ↓b59_6, ↓b59_12, ↓b59_18, j_ks, j_ke, hk1, hk63, a12, a120, a12', a120', v_pa, gI1, gI2, List.nil_append, List.cons_append]
  all_goals rfl
set_option maxHeartbeats 200000 in
theorem k191_0_1 {b : Nat} {H C : j_H} {g act x : Int32} {Q : Option Value → j_H → Prop} (hC : j_co H = C) (hW : j_Wd C) (hn : 0 ≤ (j_I C 81 0).toInt) (hn2 : (j_I C 81 0).toInt ≤ 7) (hg : 0 ≤ g.toInt ∧ g.toInt < j_n C) (ha : act.toInt = 1) (hk : j_kd C g.toInt = 0) : j_wp (b + 20) 191 0 [.ref 81, .int g, .int act, .int x] [] H Q = Q (some (.int (j_acv 0 1 x g (j_I C 83 g.toInt.toNat)))) (j_bo 110 81 52 0 (j_acb 0 1) (j_sI H 81 52 (Int32.ofInt 0))) := by
  have h2 : 0 ≤ g.toInt ∧ g.toInt < (j_I C 81 0).toInt := hg
  have hk' : (j_I C 82 g.toInt.toNat).toInt = 0 := hk
  have hC1 : j_co (j_sI H 81 52 (Int32.ofInt 0)) = j_sI C 81 52 (Int32.ofInt 0) := by rw [c_sI' rfl, hC]
  have e810 : j_I (j_sI C 81 52 (Int32.ofInt 0)) 81 0 = j_I C 81 0 := by rw [h_II, if_neg (by decide)]
  have hk1 := fun (b' : Nat) (Q : Option Value → j_H → Prop) => k124 (b := b') (x := g) (Q := Q) hC1 (show j_Wd (j_sI C 81 52 (Int32.ofInt 0)) from hW) (by rw [e810]; exact hn) (by rw [e810]; exact hn2)
  simp only [e810, t_bzT h2] at hk1
  have hk121 : ∀ (b' : Nat) (v : Value) (H : j_H) (Q : Option Value → j_H → Prop), j_wp b' 121 0 [v, .int act, .int (Int32.ofInt 0), .int (Int32.ofInt 2)] [] H Q = Q (some (.int (Int32.ofInt 1))) H := fun b' v H Q => by
    rw [k121, t_bzT (by rw [ha]; decide)]
  obtain ⟨B, hB⟩ : ∃ B, B = j_aM H := ⟨_, rfl⟩
  have etm : j_sI H 81 52 (Int32.ofInt 0) = B [] := by rw [hB]; rfl
  have hBI : ∀ bs a k, ¬ a = 110 → ¬ (a = 81 ∧ k = 52) → j_scr a k = false → j_I (B bs) a k = j_I C a k := fun bs a k h1 h3 h4 => by rw [hB, tm_I h1 h3, rd_I hC h4]
  have hBR : ∀ bs a k, j_scr a k = false → j_R (B bs) a k = j_R C a k := fun bs a k h2 => by rw [hB, tm_R, rd_R hC h2]
  have hBc : ∀ bs a, j_cls (B bs) a = j_cls C a := fun bs a => by rw [hB, tm_cls, rd_cls hC]
  have hBt : ∀ bs a, j_tp (B bs) a = j_tp C a := fun bs a => by rw [hB, tm_tp, rd_tp hC]
  have hBl : ∀ bs a, j_ln (B bs) a = j_ln C a := fun bs a => by rw [hB, tm_ln, rd_ln hC]
  have hk63 : ∀ (b' : Nat) (bs : List Int) (y : Int) (Q : Option Value → j_H → Prop), bs.length < 20 → j_wp b' 183 0 [.ref 81, .int (Int32.ofInt y)] [] (B bs) Q = Q none (B (bs ++ [y])) := fun b' bs y Q hl => by rw [hB]; exact k183 hC hW hl
  rw [etm] at hk1
  have hfin : Q (some (.int (j_acv 0 1 x g (j_I C 83 g.toInt.toNat)))) (j_bo 110 81 52 0 (j_acb 0 1) (j_sI H 81 52 (Int32.ofInt 0))) = Q (some (.int (j_acv 0 1 x g (j_I C 83 g.toInt.toNat)))) (B (j_acb 0 1)) := by rw [hB]; rfl
  rw [hfin]
  have p1 : ∀ bs, j_vc (B bs) (.ref 81) = 12 := fun bs => by rw [v_vc, hBc]; exact w_c81 hW
  have f4 : ∀ bs, va_rf (j_R (B bs) (j_pa (.ref 81)) 4) = .ref 82 := fun bs => by rw [v_pa, hBR _ _ _ rfl, w_r81_4 hW]; rfl
  have f5 : ∀ bs, va_rf (j_R (B bs) (j_pa (.ref 81)) 5) = .ref 83 := fun bs => by rw [v_pa, hBR _ _ _ rfl, w_r81_5 hW]; rfl
  have p2 : ∀ bs, j_vt (B bs) (va_rf (j_R (B bs) (j_pa (.ref 81)) 4)) = 0 := fun bs => by rw [f4, v_vt, hBt]; exact w_t82 hW
  have p2' : ∀ bs, j_vt (B bs) (va_rf (j_R (B bs) (j_pa (.ref 81)) 5)) = 0 := fun bs => by rw [f5, v_vt, hBt]; exact w_t83 hW
  have p3 : 0 ≤ g.toInt := hg.1
  have p4 : ∀ bs, g.toInt < ((j_vl (B bs) (va_rf (j_R (B bs) (j_pa (.ref 81)) 4)) : Nat) : Int) := fun bs => by rw [f4, v_vl, hBl, w_n82 hW]; have := h2.2; omega
  have p4' : ∀ bs, g.toInt < ((j_vl (B bs) (va_rf (j_R (B bs) (j_pa (.ref 81)) 5)) : Nat) : Int) := fun bs => by rw [f5, v_vl, hBl, w_n83 hW]; have := h2.2; omega
  have kd : ∀ bs, (j_I (B bs) (j_pa (va_rf (j_R (B bs) (j_pa (.ref 81)) 4))) (j_ix g)).toInt = 0 := fun bs => by rw [f4, v_pa, hBI _ _ _ (by decide) (by omega) rfl]; exact hk'
  have vv : ∀ bs, j_I (B bs) (j_pa (va_rf (j_R (B bs) (j_pa (.ref 81)) 5))) (j_ix g) = j_I C 83 g.toInt.toNat := fun bs => by rw [f5, v_pa, hBI _ _ _ (by decide) (by omega) rfl]; rfl
  rw [b191_0 (by rw [v_vc, rd_cls hC]; exact w_c81 hW), v_pa, etm]
  clear hfin hB hk hn hn2 hg hC1 e810 hBI hBR hBc hBt hBl f4 f5 etm
  simp (disch := (first | exact p1 _ | exact p2 _ | exact p2' _ | exact p3 | exact p4 _ | exact p4' _ | (simp only [kd] <;> omega) | decide | omega | fail)) only [↓if_pos, ↓if_neg, ↓b191_5, ↓b191_10, ↓b191_13, ↓b191_20, ↓b191_23, ↓b191_25, ↓b191_29, ↓b191_35, ↓b191_38, ↓b191_43, ↓b191_49, ↓b191_52, ↓b191_58, ↓b184_0, ↓b184_6, ↓b185_0, ↓b185_40, ↓b185_46, ↓b185_54, ↓b185_55, ↓b185_61, ↓b185_67, ↓b185_69, ↓b185_75, ↓b185_81, ↓b185_89, ↓b185_95, ↓b186_0, ↓b186_6, ↓b186_12, ↓b187_0, ↓b187_6, ↓b187_12, ↓b188_0, ↓b188_40, ↓b188_46, ↓b188_47, ↓b188_53, ↓b188_61, ↓b188_62, ↓b188_68, ↓b188_74, ↓b188_82, ↓b188_84, ↓b188_90, j_ks, j_ke, hk1, hk121, hk63, vv, List.nil_append, List.cons_append]
  all_goals rfl
set_option maxHeartbeats 200000 in
theorem k92_1_1 {b : Nat} {H C : j_H} {g act x : Int32} {Q : Option Value → j_H → Prop} (hC : j_co H = C) (hI : j_In C) (hg : 0 ≤ g.toInt ∧ g.toInt < j_n C) (ha : act.toInt = 1) (hk : j_kd C g.toInt = 1) : j_wp (b + 20) 92 0 [.ref 12, .int g, .int act, .int x, j_u] [] H Q = Q (some (.int (j_acv 1 1 x g (j_I C 83 g.toInt.toNat)))) (j_bo 75 74 1 0 (j_acb 1 1) (j_sI H 74 1 (Int32.ofInt 0))) := by
  have hW := hI.1
  have hN := i_G hI
  obtain ⟨e4, -⟩ := i_n hI
  obtain ⟨a1, a2, -⟩ := i_r hI
  have h2 : 0 ≤ g.toInt ∧ g.toInt < (j_I C 81 0).toInt := hg
  obtain ⟨r, hr, hG⟩ := i_gs hI hg.1 hg.2
  obtain ⟨g1, g2, g3, g4, g5, -⟩ := id hG
  rw [hk] at g2
  have gk : j_cls C r = 4 := g2
  have sr := j_scr_r g1
  have g4' : j_I C r 1 = g := t_ext g4
  have g5' : j_I C r 2 = j_I C 83 g.toInt.toNat := t_ext g5
  have hC1 : j_co (j_sI H 74 1 (Int32.ofInt 0)) = j_sI C 74 1 (Int32.ofInt 0) := by rw [c_sI' rfl, hC]
  have e134 : j_I (j_sI C 74 1 (Int32.ofInt 0)) 13 4 = j_I C 81 0 := by rw [h_II, if_neg (by decide)]; exact e4
  have hk1 := fun (b' : Nat) (Q : Option Value → j_H → Prop) => k1 (b := b') (x := g) (Q := Q) hC1 (show j_Wd (j_sI C 74 1 (Int32.ofInt 0)) from hW) (by rw [e134]; exact a2) hN
  simp only [e134] at hk1
  have hr' : va_rf (j_R (j_sI C 74 1 (Int32.ofInt 0)) 14 (j_ix g)) = .ref r := by show va_rf (j_R C 14 g.toInt.toNat) = _; rw [hr]; rfl
  simp only [if_pos h2, hr'] at hk1
  have n11 : ¬ r = 11 := by omega
  have n74 : ¬ (r = 74 ∨ r = 75) := by omega
  obtain ⟨B, hB⟩ : ∃ B, B = j_aB H := ⟨_, rfl⟩
  have etb : j_sI H 74 1 (Int32.ofInt 0) = B [] := by rw [hB]; rfl
  have hBI : ∀ bs a k, ¬ (a = 74 ∨ a = 75) → j_scr a k = false → j_I (B bs) a k = j_I C a k := fun bs a k h1 h2 => by rw [hB, tb_I h1, rd_I hC h2]
  have hBR : ∀ bs a k, j_scr a k = false → j_R (B bs) a k = j_R C a k := fun bs a k h2 => by rw [hB, tb_R, rd_R hC h2]
  have hBc : ∀ bs a, j_cls (B bs) a = j_cls C a := fun bs a => by rw [hB, tb_cls, rd_cls hC]
  have hBt : ∀ bs a, j_tp (B bs) a = j_tp C a := fun bs a => by rw [hB, tb_tp, rd_tp hC]
  have hBl : ∀ bs a, j_ln (B bs) a = j_ln C a := fun bs a => by rw [hB, tb_ln, rd_ln hC]
  have hk63 : ∀ (b' : Nat) (bs : List Int) (y : Int) (Q : Option Value → j_H → Prop), bs.length < 20 → j_wp b' 63 0 [.ref 74, .int (Int32.ofInt y)] [] (B bs) Q = Q none (B (bs ++ [y])) := fun b' bs y Q hl => by rw [hB]; exact k63 hC hW hl
  rw [etb] at hk1
  have hfin : Q (some (.int (j_acv 1 1 x g (j_I C 83 g.toInt.toNat)))) (j_bo 75 74 1 0 (j_acb 1 1) (j_sI H 74 1 (Int32.ofInt 0))) = Q (some (.int (j_acv 1 1 x g (j_I C 83 g.toInt.toNat)))) (B (j_acb 1 1)) := by rw [hB]; rfl
  rw [hfin]
  clear hfin hB hk hG hI hN hg h2 hr hr'
  simp (disch := (first | assumption | exact n_N11 | exact n_R11 (by decide) | exact n_bz | (simp (disch := (first | assumption | omega | decide)) only [v_rs, v_rn, v_pa, v_vc, v_vt, v_vl, v_ir, v_in, v_po, v_pn, v_re, v_rN, v_Nr, v_fe, v_fN, v_c1i, v_c1r, v_c1n, v_c1u, v_c1f, v_if, h_II, h_LL, h_RR, h_IL, h_IR, h_LI, h_LR, h_RI, h_RL, h_Ic, h_Lc, h_Rc, h_Id, h_Ld, h_Rd, h_cls_sI, h_cls_sL, h_cls_sR, h_cls_cI, h_cls_cL, h_tp_sI, h_tp_sL, h_tp_sR, h_tp_cI, h_tp_cL, h_ln_sI, h_ln_sL, h_ln_sR, h_ln_cI, h_ln_cL, v_if, j_scr, w_c12 hW, w_r12_0 hW, w_r12_1 hW, w_r12_3 hW, w_r12_5 hW, w_r12_7 hW, w_r12_8 hW, w_r12_9 hW, w_r12_10 hW, w_r12_11 hW, w_r12_12 hW, w_r12_13 hW, w_c74 hW, w_r74_0 hW, j_Wd_I, j_Wd_L, t_addo, t_subo, t_mulo, t_of, t_divc, t_remc, t_em, Int.toNat_zero, j_ix, Int.toNat_natCast, t_addc, t_subc, t_mulc, t_bz0, t_bz1, Classical.not_not, not_false_eq_true, if_true, if_false, and_true, true_and, and_false, false_and, and_self, or_true, true_or, or_false, false_or, not_true_eq_false, reduceIte, ite_self, implies_true, p_I, p_L, p_R, q_I, q_L, q_R, p_cls, p_tp, p_ln, p_cop, p_cov, rd_I hC, rd_L hC, rd_R hC, rd_cls hC, rd_tp hC, rd_ln hC, hC, hW] <;> first | omega | rfl | decide) | omega | decide | fail)) only [↓if_pos, ↓if_neg, ↓b92_0, ↓b92_62, ↓b92_73, ↓b92_84, ↓b92_85, ↓b62_0, ↓b62_5, v_rs, v_rn, v_pa, v_vc, v_vt, v_vl, v_ir, v_in, v_po, v_pn, v_re, v_rN, v_Nr, v_fe, v_fN, v_c1i, v_c1r, v_c1n, v_c1u, v_c1f, v_if, h_II, h_LL, h_RR, h_IL, h_IR, h_LI, h_LR, h_RI, h_RL, h_Ic, h_Lc, h_Rc, h_Id, h_Ld, h_Rd, h_cls_sI, h_cls_sL, h_cls_sR, h_cls_cI, h_cls_cL, h_tp_sI, h_tp_sL, h_tp_sR, h_tp_cI, h_tp_cL, h_ln_sI, h_ln_sL, h_ln_sR, h_ln_cI, h_ln_cL, v_if, w_c12 hW, w_r12_0 hW, w_r12_1 hW, w_r12_3 hW, w_r12_5 hW, w_r12_7 hW, w_r12_8 hW, w_r12_9 hW, w_r12_10 hW, w_r12_11 hW, w_r12_12 hW, w_r12_13 hW, w_c74 hW, w_r74_0 hW, j_ks, j_ke, t_addo, t_subo, t_mulo, t_of, t_divc, t_remc, t_em, Int.toNat_zero, j_ix, Int.toNat_natCast, t_addc, t_subc, t_mulc, t_bz0, t_bz1, Classical.not_not, not_false_eq_true, if_true, if_false, and_true, true_and, and_false, false_and, and_self, or_true, true_or, or_false, false_or, not_true_eq_false, reduceIte, ite_self, implies_true, p_I, p_L, p_R, q_I, q_L, q_R, p_cls, p_tp, p_ln, p_cop, p_cov, rd_I hC, rd_L hC, rd_R hC, rd_cls hC, rd_tp hC, rd_ln hC, hC, hW]
  rw [etb]
  have c74 : ∀ bs, j_vc (B bs) (.ref 74) = 10 := fun bs => by rw [v_vc, hBc]; exact w_c74 hW
  have c12 : ∀ bs, j_vc (B bs) (.ref 12) = 11 := fun bs => by rw [v_vc, hBc]; exact w_c12 hW
  have cr : ∀ bs, j_vc (B bs) (.ref r) = 4 := fun bs => by rw [v_vc, hBc]; exact gk
  have a12 : ∀ bs, va_rf (j_R (B bs) (j_pa (.ref 12)) 8) = .ref 74 := fun bs => by rw [v_pa, hBR _ _ _ rfl, w_r12_8 hW]; rfl
  have a120 : ∀ bs, va_rf (j_R (B bs) (j_pa (.ref 12)) 0) = .ref 13 := fun bs => by rw [v_pa, hBR _ _ _ rfl, w_r12_0 hW]; rfl
  have a12' : ∀ bs, va_rf (j_R (B bs) 12 8) = .ref 74 := a12
  have a120' : ∀ bs, va_rf (j_R (B bs) 12 0) = .ref 13 := a120
  have c13 : ∀ bs, j_vc (B bs) (.ref 13) = 0 := fun bs => by rw [v_vc, hBc]; exact w_c13 hW
  have gI1 : ∀ bs, j_I (B bs) r 1 = g := fun bs => (hBI _ _ _ n74 (sr _)).trans g4'
  have gI2 : ∀ bs, j_I (B bs) r 2 = j_I C 83 g.toInt.toNat := fun bs => (hBI _ _ _ n74 (sr _)).trans g5'
  have nr11 : ¬ (Value.ref r) = .ref 11 := fun h => by injection h; contradiction
  have nrn : ¬ (Value.ref r) = .null := fun h => by cases h
  clear hBI hBR hBc hBt hBl g2 g3 g4 g5 hC1 e134 n11 n74 sr gk g4' g5' e4 a1 a2
  simp (disch := (first | exact c74 _ | exact cr _ | exact c12 _ | exact v_ir | exact nr11 | exact nrn | exact ha | (simp only [a12, a120, a12', a120', c74, cr, c12, c13, v_ir] <;> decide) | decide | omega | fail)) only [↓if_pos, ↓if_neg, ↓b92_7, ↓b92_15, ↓b92_22, ↓b92_24, ↓b92_52_4, ↓b92_62, ↓b92_63_4, ↓b92_73, ↓b92_74_4, ↓b92_84, ↓b92_85, ↓b18_0, ↓b18_6, ↓b44_0, ↓b44_6, ↓b44_14, ↓b47_0, ↓b47_6, ↓b47_12, ↓b60_0, ↓b60_6, ↓b60_12, ↓b19_0, ↓b19_6_4, ↓b19_12, ↓b38_0, ↓b38_6, ↓b38_12, ↓b48_0, ↓b48_6, ↓b48_14, ↓b59_0, ↓b59_6, ↓b59_12, ↓b59_18, j_ks, j_ke, hk1, hk63, a12, a120, a12', a120', v_pa, gI1, gI2, List.nil_append, List.cons_append]
  all_goals rfl
set_option maxHeartbeats 200000 in
theorem k191_1_1 {b : Nat} {H C : j_H} {g act x : Int32} {Q : Option Value → j_H → Prop} (hC : j_co H = C) (hW : j_Wd C) (hn : 0 ≤ (j_I C 81 0).toInt) (hn2 : (j_I C 81 0).toInt ≤ 7) (hg : 0 ≤ g.toInt ∧ g.toInt < j_n C) (ha : act.toInt = 1) (hk : j_kd C g.toInt = 1) : j_wp (b + 20) 191 0 [.ref 81, .int g, .int act, .int x] [] H Q = Q (some (.int (j_acv 1 1 x g (j_I C 83 g.toInt.toNat)))) (j_bo 110 81 52 0 (j_acb 1 1) (j_sI H 81 52 (Int32.ofInt 0))) := by
  have h2 : 0 ≤ g.toInt ∧ g.toInt < (j_I C 81 0).toInt := hg
  have hk' : (j_I C 82 g.toInt.toNat).toInt = 1 := hk
  have hC1 : j_co (j_sI H 81 52 (Int32.ofInt 0)) = j_sI C 81 52 (Int32.ofInt 0) := by rw [c_sI' rfl, hC]
  have e810 : j_I (j_sI C 81 52 (Int32.ofInt 0)) 81 0 = j_I C 81 0 := by rw [h_II, if_neg (by decide)]
  have hk1 := fun (b' : Nat) (Q : Option Value → j_H → Prop) => k124 (b := b') (x := g) (Q := Q) hC1 (show j_Wd (j_sI C 81 52 (Int32.ofInt 0)) from hW) (by rw [e810]; exact hn) (by rw [e810]; exact hn2)
  simp only [e810, t_bzT h2] at hk1
  have hk121 : ∀ (b' : Nat) (v : Value) (H : j_H) (Q : Option Value → j_H → Prop), j_wp b' 121 0 [v, .int act, .int (Int32.ofInt 0), .int (Int32.ofInt 2)] [] H Q = Q (some (.int (Int32.ofInt 1))) H := fun b' v H Q => by
    rw [k121, t_bzT (by rw [ha]; decide)]
  obtain ⟨B, hB⟩ : ∃ B, B = j_aM H := ⟨_, rfl⟩
  have etm : j_sI H 81 52 (Int32.ofInt 0) = B [] := by rw [hB]; rfl
  have hBI : ∀ bs a k, ¬ a = 110 → ¬ (a = 81 ∧ k = 52) → j_scr a k = false → j_I (B bs) a k = j_I C a k := fun bs a k h1 h3 h4 => by rw [hB, tm_I h1 h3, rd_I hC h4]
  have hBR : ∀ bs a k, j_scr a k = false → j_R (B bs) a k = j_R C a k := fun bs a k h2 => by rw [hB, tm_R, rd_R hC h2]
  have hBc : ∀ bs a, j_cls (B bs) a = j_cls C a := fun bs a => by rw [hB, tm_cls, rd_cls hC]
  have hBt : ∀ bs a, j_tp (B bs) a = j_tp C a := fun bs a => by rw [hB, tm_tp, rd_tp hC]
  have hBl : ∀ bs a, j_ln (B bs) a = j_ln C a := fun bs a => by rw [hB, tm_ln, rd_ln hC]
  have hk63 : ∀ (b' : Nat) (bs : List Int) (y : Int) (Q : Option Value → j_H → Prop), bs.length < 20 → j_wp b' 183 0 [.ref 81, .int (Int32.ofInt y)] [] (B bs) Q = Q none (B (bs ++ [y])) := fun b' bs y Q hl => by rw [hB]; exact k183 hC hW hl
  rw [etm] at hk1
  have hfin : Q (some (.int (j_acv 1 1 x g (j_I C 83 g.toInt.toNat)))) (j_bo 110 81 52 0 (j_acb 1 1) (j_sI H 81 52 (Int32.ofInt 0))) = Q (some (.int (j_acv 1 1 x g (j_I C 83 g.toInt.toNat)))) (B (j_acb 1 1)) := by rw [hB]; rfl
  rw [hfin]
  have p1 : ∀ bs, j_vc (B bs) (.ref 81) = 12 := fun bs => by rw [v_vc, hBc]; exact w_c81 hW
  have f4 : ∀ bs, va_rf (j_R (B bs) (j_pa (.ref 81)) 4) = .ref 82 := fun bs => by rw [v_pa, hBR _ _ _ rfl, w_r81_4 hW]; rfl
  have f5 : ∀ bs, va_rf (j_R (B bs) (j_pa (.ref 81)) 5) = .ref 83 := fun bs => by rw [v_pa, hBR _ _ _ rfl, w_r81_5 hW]; rfl
  have p2 : ∀ bs, j_vt (B bs) (va_rf (j_R (B bs) (j_pa (.ref 81)) 4)) = 0 := fun bs => by rw [f4, v_vt, hBt]; exact w_t82 hW
  have p2' : ∀ bs, j_vt (B bs) (va_rf (j_R (B bs) (j_pa (.ref 81)) 5)) = 0 := fun bs => by rw [f5, v_vt, hBt]; exact w_t83 hW
  have p3 : 0 ≤ g.toInt := hg.1
  have p4 : ∀ bs, g.toInt < ((j_vl (B bs) (va_rf (j_R (B bs) (j_pa (.ref 81)) 4)) : Nat) : Int) := fun bs => by rw [f4, v_vl, hBl, w_n82 hW]; have := h2.2; omega
  have p4' : ∀ bs, g.toInt < ((j_vl (B bs) (va_rf (j_R (B bs) (j_pa (.ref 81)) 5)) : Nat) : Int) := fun bs => by rw [f5, v_vl, hBl, w_n83 hW]; have := h2.2; omega
  have kd : ∀ bs, (j_I (B bs) (j_pa (va_rf (j_R (B bs) (j_pa (.ref 81)) 4))) (j_ix g)).toInt = 1 := fun bs => by rw [f4, v_pa, hBI _ _ _ (by decide) (by omega) rfl]; exact hk'
  have vv : ∀ bs, j_I (B bs) (j_pa (va_rf (j_R (B bs) (j_pa (.ref 81)) 5))) (j_ix g) = j_I C 83 g.toInt.toNat := fun bs => by rw [f5, v_pa, hBI _ _ _ (by decide) (by omega) rfl]; rfl
  rw [b191_0 (by rw [v_vc, rd_cls hC]; exact w_c81 hW), v_pa, etm]
  clear hfin hB hk hn hn2 hg hC1 e810 hBI hBR hBc hBt hBl f4 f5 etm
  simp (disch := (first | exact p1 _ | exact p2 _ | exact p2' _ | exact p3 | exact p4 _ | exact p4' _ | (simp only [kd] <;> omega) | decide | omega | fail)) only [↓if_pos, ↓if_neg, ↓b191_5, ↓b191_10, ↓b191_13, ↓b191_20, ↓b191_23, ↓b191_25, ↓b191_29, ↓b191_35, ↓b191_38, ↓b191_43, ↓b191_49, ↓b191_52, ↓b191_58, ↓b184_0, ↓b184_6, ↓b185_0, ↓b185_40, ↓b185_46, ↓b185_54, ↓b185_55, ↓b185_61, ↓b185_67, ↓b185_69, ↓b185_75, ↓b185_81, ↓b185_89, ↓b185_95, ↓b186_0, ↓b186_6, ↓b186_12, ↓b187_0, ↓b187_6, ↓b187_12, ↓b188_0, ↓b188_40, ↓b188_46, ↓b188_47, ↓b188_53, ↓b188_61, ↓b188_62, ↓b188_68, ↓b188_74, ↓b188_82, ↓b188_84, ↓b188_90, j_ks, j_ke, hk1, hk121, hk63, vv, List.nil_append, List.cons_append]
  all_goals rfl
set_option maxHeartbeats 200000 in
theorem k92_2_1 {b : Nat} {H C : j_H} {g act x : Int32} {Q : Option Value → j_H → Prop} (hC : j_co H = C) (hI : j_In C) (hg : 0 ≤ g.toInt ∧ g.toInt < j_n C) (ha : act.toInt = 1) (hk : j_kd C g.toInt = 2) : j_wp (b + 20) 92 0 [.ref 12, .int g, .int act, .int x, j_u] [] H Q = Q (some (.int (j_acv 2 1 x g (j_I C 83 g.toInt.toNat)))) (j_bo 75 74 1 0 (j_acb 2 1) (j_sI H 74 1 (Int32.ofInt 0))) := by
  have hW := hI.1
  have hN := i_G hI
  obtain ⟨e4, -⟩ := i_n hI
  obtain ⟨a1, a2, -⟩ := i_r hI
  have h2 : 0 ≤ g.toInt ∧ g.toInt < (j_I C 81 0).toInt := hg
  obtain ⟨r, hr, hG⟩ := i_gs hI hg.1 hg.2
  obtain ⟨g1, g2, g3, g4, g5, -⟩ := id hG
  rw [hk] at g2
  have gk : j_cls C r = 6 := g2
  have sr := j_scr_r g1
  have g4' : j_I C r 1 = g := t_ext g4
  have g5' : j_I C r 2 = j_I C 83 g.toInt.toNat := t_ext g5
  have hC1 : j_co (j_sI H 74 1 (Int32.ofInt 0)) = j_sI C 74 1 (Int32.ofInt 0) := by rw [c_sI' rfl, hC]
  have e134 : j_I (j_sI C 74 1 (Int32.ofInt 0)) 13 4 = j_I C 81 0 := by rw [h_II, if_neg (by decide)]; exact e4
  have hk1 := fun (b' : Nat) (Q : Option Value → j_H → Prop) => k1 (b := b') (x := g) (Q := Q) hC1 (show j_Wd (j_sI C 74 1 (Int32.ofInt 0)) from hW) (by rw [e134]; exact a2) hN
  simp only [e134] at hk1
  have hr' : va_rf (j_R (j_sI C 74 1 (Int32.ofInt 0)) 14 (j_ix g)) = .ref r := by show va_rf (j_R C 14 g.toInt.toNat) = _; rw [hr]; rfl
  simp only [if_pos h2, hr'] at hk1
  have n11 : ¬ r = 11 := by omega
  have n74 : ¬ (r = 74 ∨ r = 75) := by omega
  obtain ⟨B, hB⟩ : ∃ B, B = j_aB H := ⟨_, rfl⟩
  have etb : j_sI H 74 1 (Int32.ofInt 0) = B [] := by rw [hB]; rfl
  have hBI : ∀ bs a k, ¬ (a = 74 ∨ a = 75) → j_scr a k = false → j_I (B bs) a k = j_I C a k := fun bs a k h1 h2 => by rw [hB, tb_I h1, rd_I hC h2]
  have hBR : ∀ bs a k, j_scr a k = false → j_R (B bs) a k = j_R C a k := fun bs a k h2 => by rw [hB, tb_R, rd_R hC h2]
  have hBc : ∀ bs a, j_cls (B bs) a = j_cls C a := fun bs a => by rw [hB, tb_cls, rd_cls hC]
  have hBt : ∀ bs a, j_tp (B bs) a = j_tp C a := fun bs a => by rw [hB, tb_tp, rd_tp hC]
  have hBl : ∀ bs a, j_ln (B bs) a = j_ln C a := fun bs a => by rw [hB, tb_ln, rd_ln hC]
  have hk63 : ∀ (b' : Nat) (bs : List Int) (y : Int) (Q : Option Value → j_H → Prop), bs.length < 20 → j_wp b' 63 0 [.ref 74, .int (Int32.ofInt y)] [] (B bs) Q = Q none (B (bs ++ [y])) := fun b' bs y Q hl => by rw [hB]; exact k63 hC hW hl
  rw [etb] at hk1
  have hfin : Q (some (.int (j_acv 2 1 x g (j_I C 83 g.toInt.toNat)))) (j_bo 75 74 1 0 (j_acb 2 1) (j_sI H 74 1 (Int32.ofInt 0))) = Q (some (.int (j_acv 2 1 x g (j_I C 83 g.toInt.toNat)))) (B (j_acb 2 1)) := by rw [hB]; rfl
  rw [hfin]
  clear hfin hB hk hG hI hN hg h2 hr hr'
  simp (disch := (first | assumption | exact n_N11 | exact n_R11 (by decide) | exact n_bz | (simp (disch := (first | assumption | omega | decide)) only [v_rs, v_rn, v_pa, v_vc, v_vt, v_vl, v_ir, v_in, v_po, v_pn, v_re, v_rN, v_Nr, v_fe, v_fN, v_c1i, v_c1r, v_c1n, v_c1u, v_c1f, v_if, h_II, h_LL, h_RR, h_IL, h_IR, h_LI, h_LR, h_RI, h_RL, h_Ic, h_Lc, h_Rc, h_Id, h_Ld, h_Rd, h_cls_sI, h_cls_sL, h_cls_sR, h_cls_cI, h_cls_cL, h_tp_sI, h_tp_sL, h_tp_sR, h_tp_cI, h_tp_cL, h_ln_sI, h_ln_sL, h_ln_sR, h_ln_cI, h_ln_cL, v_if, j_scr, w_c12 hW, w_r12_0 hW, w_r12_1 hW, w_r12_3 hW, w_r12_5 hW, w_r12_7 hW, w_r12_8 hW, w_r12_9 hW, w_r12_10 hW, w_r12_11 hW, w_r12_12 hW, w_r12_13 hW, w_c74 hW, w_r74_0 hW, j_Wd_I, j_Wd_L, t_addo, t_subo, t_mulo, t_of, t_divc, t_remc, t_em, Int.toNat_zero, j_ix, Int.toNat_natCast, t_addc, t_subc, t_mulc, t_bz0, t_bz1, Classical.not_not, not_false_eq_true, if_true, if_false, and_true, true_and, and_false, false_and, and_self, or_true, true_or, or_false, false_or, not_true_eq_false, reduceIte, ite_self, implies_true, p_I, p_L, p_R, q_I, q_L, q_R, p_cls, p_tp, p_ln, p_cop, p_cov, rd_I hC, rd_L hC, rd_R hC, rd_cls hC, rd_tp hC, rd_ln hC, hC, hW] <;> first | omega | rfl | decide) | omega | decide | fail)) only [↓if_pos, ↓if_neg, ↓b92_0, ↓b92_62, ↓b92_73, ↓b92_84, ↓b92_85, ↓b62_0, ↓b62_5, v_rs, v_rn, v_pa, v_vc, v_vt, v_vl, v_ir, v_in, v_po, v_pn, v_re, v_rN, v_Nr, v_fe, v_fN, v_c1i, v_c1r, v_c1n, v_c1u, v_c1f, v_if, h_II, h_LL, h_RR, h_IL, h_IR, h_LI, h_LR, h_RI, h_RL, h_Ic, h_Lc, h_Rc, h_Id, h_Ld, h_Rd, h_cls_sI, h_cls_sL, h_cls_sR, h_cls_cI, h_cls_cL, h_tp_sI, h_tp_sL, h_tp_sR, h_tp_cI, h_tp_cL, h_ln_sI, h_ln_sL, h_ln_sR, h_ln_cI, h_ln_cL, v_if, w_c12 hW, w_r12_0 hW, w_r12_1 hW, w_r12_3 hW, w_r12_5 hW, w_r12_7 hW, w_r12_8 hW, w_r12_9 hW, w_r12_10 hW, w_r12_11 hW, w_r12_12 hW, w_r12_13 hW, w_c74 hW, w_r74_0 hW, j_ks, j_ke, t_addo, t_subo, t_mulo, t_of, t_divc, t_remc, t_em, Int.toNat_zero, j_ix, Int.toNat_natCast, t_addc, t_subc, t_mulc, t_bz0, t_bz1, Classical.not_not, not_false_eq_true, if_true, if_false, and_true, true_and, and_false, false_and, and_self, or_true, true_or, or_false, false_or, not_true_eq_false, reduceIte, ite_self, implies_true, p_I, p_L, p_R, q_I, q_L, q_R, p_cls, p_tp, p_ln, p_cop, p_cov, rd_I hC, rd_L hC, rd_R hC, rd_cls hC, rd_tp hC, rd_ln hC, hC, hW]
  rw [etb]
  have c74 : ∀ bs, j_vc (B bs) (.ref 74) = 10 := fun bs => by rw [v_vc, hBc]; exact w_c74 hW
  have c12 : ∀ bs, j_vc (B bs) (.ref 12) = 11 := fun bs => by rw [v_vc, hBc]; exact w_c12 hW
  have cr : ∀ bs, j_vc (B bs) (.ref r) = 6 := fun bs => by rw [v_vc, hBc]; exact gk
  have a12 : ∀ bs, va_rf (j_R (B bs) (j_pa (.ref 12)) 8) = .ref 74 := fun bs => by rw [v_pa, hBR _ _ _ rfl, w_r12_8 hW]; rfl
  have a120 : ∀ bs, va_rf (j_R (B bs) (j_pa (.ref 12)) 0) = .ref 13 := fun bs => by rw [v_pa, hBR _ _ _ rfl, w_r12_0 hW]; rfl
  have a12' : ∀ bs, va_rf (j_R (B bs) 12 8) = .ref 74 := a12
  have a120' : ∀ bs, va_rf (j_R (B bs) 12 0) = .ref 13 := a120
  have c13 : ∀ bs, j_vc (B bs) (.ref 13) = 0 := fun bs => by rw [v_vc, hBc]; exact w_c13 hW
  have gI1 : ∀ bs, j_I (B bs) r 1 = g := fun bs => (hBI _ _ _ n74 (sr _)).trans g4'
  have gI2 : ∀ bs, j_I (B bs) r 2 = j_I C 83 g.toInt.toNat := fun bs => (hBI _ _ _ n74 (sr _)).trans g5'
  have nr11 : ¬ (Value.ref r) = .ref 11 := fun h => by injection h; contradiction
  have nrn : ¬ (Value.ref r) = .null := fun h => by cases h
  clear hBI hBR hBc hBt hBl g2 g3 g4 g5 hC1 e134 n11 n74 sr gk g4' g5' e4 a1 a2
  simp (disch := (first | exact c74 _ | exact cr _ | exact c12 _ | exact v_ir | exact nr11 | exact nrn | exact ha | (simp only [a12, a120, a12', a120', c74, cr, c12, c13, v_ir] <;> decide) | decide | omega | fail)) only [↓if_pos, ↓if_neg, ↓b92_7, ↓b92_15, ↓b92_22, ↓b92_24, ↓b92_52_6, ↓b92_62, ↓b92_63_6, ↓b92_73, ↓b92_74_6, ↓b92_84, ↓b92_85, ↓b18_0, ↓b18_6, ↓b44_0, ↓b44_6, ↓b44_14, ↓b47_0, ↓b47_6, ↓b47_12, ↓b60_0, ↓b60_6, ↓b60_12, ↓b19_0, ↓b19_6_6, ↓b19_12, ↓b38_0, ↓b38_6, ↓b38_12, ↓b48_0, ↓b48_6, ↓b48_14, ↓b59_0, ↓b59_6, ↓b59_12, ↓b59_18, j_ks, j_ke, hk1, hk63, a12, a120, a12', a120', v_pa, gI1, gI2, List.nil_append, List.cons_append]
  all_goals rfl
set_option maxHeartbeats 200000 in
theorem k191_2_1 {b : Nat} {H C : j_H} {g act x : Int32} {Q : Option Value → j_H → Prop} (hC : j_co H = C) (hW : j_Wd C) (hn : 0 ≤ (j_I C 81 0).toInt) (hn2 : (j_I C 81 0).toInt ≤ 7) (hg : 0 ≤ g.toInt ∧ g.toInt < j_n C) (ha : act.toInt = 1) (hk : j_kd C g.toInt = 2) : j_wp (b + 20) 191 0 [.ref 81, .int g, .int act, .int x] [] H Q = Q (some (.int (j_acv 2 1 x g (j_I C 83 g.toInt.toNat)))) (j_bo 110 81 52 0 (j_acb 2 1) (j_sI H 81 52 (Int32.ofInt 0))) := by
  have h2 : 0 ≤ g.toInt ∧ g.toInt < (j_I C 81 0).toInt := hg
  have hk' : (j_I C 82 g.toInt.toNat).toInt = 2 := hk
  have hC1 : j_co (j_sI H 81 52 (Int32.ofInt 0)) = j_sI C 81 52 (Int32.ofInt 0) := by rw [c_sI' rfl, hC]
  have e810 : j_I (j_sI C 81 52 (Int32.ofInt 0)) 81 0 = j_I C 81 0 := by rw [h_II, if_neg (by decide)]
  have hk1 := fun (b' : Nat) (Q : Option Value → j_H → Prop) => k124 (b := b') (x := g) (Q := Q) hC1 (show j_Wd (j_sI C 81 52 (Int32.ofInt 0)) from hW) (by rw [e810]; exact hn) (by rw [e810]; exact hn2)
  simp only [e810, t_bzT h2] at hk1
  have hk121 : ∀ (b' : Nat) (v : Value) (H : j_H) (Q : Option Value → j_H → Prop), j_wp b' 121 0 [v, .int act, .int (Int32.ofInt 0), .int (Int32.ofInt 2)] [] H Q = Q (some (.int (Int32.ofInt 1))) H := fun b' v H Q => by
    rw [k121, t_bzT (by rw [ha]; decide)]
  obtain ⟨B, hB⟩ : ∃ B, B = j_aM H := ⟨_, rfl⟩
  have etm : j_sI H 81 52 (Int32.ofInt 0) = B [] := by rw [hB]; rfl
  have hBI : ∀ bs a k, ¬ a = 110 → ¬ (a = 81 ∧ k = 52) → j_scr a k = false → j_I (B bs) a k = j_I C a k := fun bs a k h1 h3 h4 => by rw [hB, tm_I h1 h3, rd_I hC h4]
  have hBR : ∀ bs a k, j_scr a k = false → j_R (B bs) a k = j_R C a k := fun bs a k h2 => by rw [hB, tm_R, rd_R hC h2]
  have hBc : ∀ bs a, j_cls (B bs) a = j_cls C a := fun bs a => by rw [hB, tm_cls, rd_cls hC]
  have hBt : ∀ bs a, j_tp (B bs) a = j_tp C a := fun bs a => by rw [hB, tm_tp, rd_tp hC]
  have hBl : ∀ bs a, j_ln (B bs) a = j_ln C a := fun bs a => by rw [hB, tm_ln, rd_ln hC]
  have hk63 : ∀ (b' : Nat) (bs : List Int) (y : Int) (Q : Option Value → j_H → Prop), bs.length < 20 → j_wp b' 183 0 [.ref 81, .int (Int32.ofInt y)] [] (B bs) Q = Q none (B (bs ++ [y])) := fun b' bs y Q hl => by rw [hB]; exact k183 hC hW hl
  rw [etm] at hk1
  have hfin : Q (some (.int (j_acv 2 1 x g (j_I C 83 g.toInt.toNat)))) (j_bo 110 81 52 0 (j_acb 2 1) (j_sI H 81 52 (Int32.ofInt 0))) = Q (some (.int (j_acv 2 1 x g (j_I C 83 g.toInt.toNat)))) (B (j_acb 2 1)) := by rw [hB]; rfl
  rw [hfin]
  have p1 : ∀ bs, j_vc (B bs) (.ref 81) = 12 := fun bs => by rw [v_vc, hBc]; exact w_c81 hW
  have f4 : ∀ bs, va_rf (j_R (B bs) (j_pa (.ref 81)) 4) = .ref 82 := fun bs => by rw [v_pa, hBR _ _ _ rfl, w_r81_4 hW]; rfl
  have f5 : ∀ bs, va_rf (j_R (B bs) (j_pa (.ref 81)) 5) = .ref 83 := fun bs => by rw [v_pa, hBR _ _ _ rfl, w_r81_5 hW]; rfl
  have p2 : ∀ bs, j_vt (B bs) (va_rf (j_R (B bs) (j_pa (.ref 81)) 4)) = 0 := fun bs => by rw [f4, v_vt, hBt]; exact w_t82 hW
  have p2' : ∀ bs, j_vt (B bs) (va_rf (j_R (B bs) (j_pa (.ref 81)) 5)) = 0 := fun bs => by rw [f5, v_vt, hBt]; exact w_t83 hW
  have p3 : 0 ≤ g.toInt := hg.1
  have p4 : ∀ bs, g.toInt < ((j_vl (B bs) (va_rf (j_R (B bs) (j_pa (.ref 81)) 4)) : Nat) : Int) := fun bs => by rw [f4, v_vl, hBl, w_n82 hW]; have := h2.2; omega
  have p4' : ∀ bs, g.toInt < ((j_vl (B bs) (va_rf (j_R (B bs) (j_pa (.ref 81)) 5)) : Nat) : Int) := fun bs => by rw [f5, v_vl, hBl, w_n83 hW]; have := h2.2; omega
  have kd : ∀ bs, (j_I (B bs) (j_pa (va_rf (j_R (B bs) (j_pa (.ref 81)) 4))) (j_ix g)).toInt = 2 := fun bs => by rw [f4, v_pa, hBI _ _ _ (by decide) (by omega) rfl]; exact hk'
  have vv : ∀ bs, j_I (B bs) (j_pa (va_rf (j_R (B bs) (j_pa (.ref 81)) 5))) (j_ix g) = j_I C 83 g.toInt.toNat := fun bs => by rw [f5, v_pa, hBI _ _ _ (by decide) (by omega) rfl]; rfl
  rw [b191_0 (by rw [v_vc, rd_cls hC]; exact w_c81 hW), v_pa, etm]
  clear hfin hB hk hn hn2 hg hC1 e810 hBI hBR hBc hBt hBl f4 f5 etm
  simp (disch := (first | exact p1 _ | exact p2 _ | exact p2' _ | exact p3 | exact p4 _ | exact p4' _ | (simp only [kd] <;> omega) | decide | omega | fail)) only [↓if_pos, ↓if_neg, ↓b191_5, ↓b191_10, ↓b191_13, ↓b191_20, ↓b191_23, ↓b191_25, ↓b191_29, ↓b191_35, ↓b191_38, ↓b191_43, ↓b191_49, ↓b191_52, ↓b191_58, ↓b184_0, ↓b184_6, ↓b185_0, ↓b185_40, ↓b185_46, ↓b185_54, ↓b185_55, ↓b185_61, ↓b185_67, ↓b185_69, ↓b185_75, ↓b185_81, ↓b185_89, ↓b185_95, ↓b186_0, ↓b186_6, ↓b186_12, ↓b187_0, ↓b187_6, ↓b187_12, ↓b188_0, ↓b188_40, ↓b188_46, ↓b188_47, ↓b188_53, ↓b188_61, ↓b188_62, ↓b188_68, ↓b188_74, ↓b188_82, ↓b188_84, ↓b188_90, j_ks, j_ke, hk1, hk121, hk63, vv, List.nil_append, List.cons_append]
  all_goals rfl
set_option maxHeartbeats 200000 in
theorem k92_3_1 {b : Nat} {H C : j_H} {g act x : Int32} {Q : Option Value → j_H → Prop} (hC : j_co H = C) (hI : j_In C) (hg : 0 ≤ g.toInt ∧ g.toInt < j_n C) (ha : act.toInt = 1) (hk : j_kd C g.toInt = 3) : j_wp (b + 20) 92 0 [.ref 12, .int g, .int act, .int x, j_u] [] H Q = Q (some (.int (j_acv 3 1 x g (j_I C 83 g.toInt.toNat)))) (j_bo 75 74 1 0 (j_acb 3 1) (j_sI H 74 1 (Int32.ofInt 0))) := by
  have hW := hI.1
  have hN := i_G hI
  obtain ⟨e4, -⟩ := i_n hI
  obtain ⟨a1, a2, -⟩ := i_r hI
  have h2 : 0 ≤ g.toInt ∧ g.toInt < (j_I C 81 0).toInt := hg
  obtain ⟨r, hr, hG⟩ := i_gs hI hg.1 hg.2
  obtain ⟨g1, g2, g3, g4, g5, -⟩ := id hG
  rw [hk] at g2
  have gk : j_cls C r = 5 := g2
  have sr := j_scr_r g1
  have g4' : j_I C r 1 = g := t_ext g4
  have g5' : j_I C r 2 = j_I C 83 g.toInt.toNat := t_ext g5
  have hC1 : j_co (j_sI H 74 1 (Int32.ofInt 0)) = j_sI C 74 1 (Int32.ofInt 0) := by rw [c_sI' rfl, hC]
  have e134 : j_I (j_sI C 74 1 (Int32.ofInt 0)) 13 4 = j_I C 81 0 := by rw [h_II, if_neg (by decide)]; exact e4
  have hk1 := fun (b' : Nat) (Q : Option Value → j_H → Prop) => k1 (b := b') (x := g) (Q := Q) hC1 (show j_Wd (j_sI C 74 1 (Int32.ofInt 0)) from hW) (by rw [e134]; exact a2) hN
  simp only [e134] at hk1
  have hr' : va_rf (j_R (j_sI C 74 1 (Int32.ofInt 0)) 14 (j_ix g)) = .ref r := by show va_rf (j_R C 14 g.toInt.toNat) = _; rw [hr]; rfl
  simp only [if_pos h2, hr'] at hk1
  have n11 : ¬ r = 11 := by omega
  have n74 : ¬ (r = 74 ∨ r = 75) := by omega
  obtain ⟨B, hB⟩ : ∃ B, B = j_aB H := ⟨_, rfl⟩
  have etb : j_sI H 74 1 (Int32.ofInt 0) = B [] := by rw [hB]; rfl
  have hBI : ∀ bs a k, ¬ (a = 74 ∨ a = 75) → j_scr a k = false → j_I (B bs) a k = j_I C a k := fun bs a k h1 h2 => by rw [hB, tb_I h1, rd_I hC h2]
  have hBR : ∀ bs a k, j_scr a k = false → j_R (B bs) a k = j_R C a k := fun bs a k h2 => by rw [hB, tb_R, rd_R hC h2]
  have hBc : ∀ bs a, j_cls (B bs) a = j_cls C a := fun bs a => by rw [hB, tb_cls, rd_cls hC]
  have hBt : ∀ bs a, j_tp (B bs) a = j_tp C a := fun bs a => by rw [hB, tb_tp, rd_tp hC]
  have hBl : ∀ bs a, j_ln (B bs) a = j_ln C a := fun bs a => by rw [hB, tb_ln, rd_ln hC]
  have hk63 : ∀ (b' : Nat) (bs : List Int) (y : Int) (Q : Option Value → j_H → Prop), bs.length < 20 → j_wp b' 63 0 [.ref 74, .int (Int32.ofInt y)] [] (B bs) Q = Q none (B (bs ++ [y])) := fun b' bs y Q hl => by rw [hB]; exact k63 hC hW hl
  rw [etb] at hk1
  have hfin : Q (some (.int (j_acv 3 1 x g (j_I C 83 g.toInt.toNat)))) (j_bo 75 74 1 0 (j_acb 3 1) (j_sI H 74 1 (Int32.ofInt 0))) = Q (some (.int (j_acv 3 1 x g (j_I C 83 g.toInt.toNat)))) (B (j_acb 3 1)) := by rw [hB]; rfl
  rw [hfin]
  clear hfin hB hk hG hI hN hg h2 hr hr'
  simp (disch := (first | assumption | exact n_N11 | exact n_R11 (by decide) | exact n_bz | (simp (disch := (first | assumption | omega | decide)) only [v_rs, v_rn, v_pa, v_vc, v_vt, v_vl, v_ir, v_in, v_po, v_pn, v_re, v_rN, v_Nr, v_fe, v_fN, v_c1i, v_c1r, v_c1n, v_c1u, v_c1f, v_if, h_II, h_LL, h_RR, h_IL, h_IR, h_LI, h_LR, h_RI, h_RL, h_Ic, h_Lc, h_Rc, h_Id, h_Ld, h_Rd, h_cls_sI, h_cls_sL, h_cls_sR, h_cls_cI, h_cls_cL, h_tp_sI, h_tp_sL, h_tp_sR, h_tp_cI, h_tp_cL, h_ln_sI, h_ln_sL, h_ln_sR, h_ln_cI, h_ln_cL, v_if, j_scr, w_c12 hW, w_r12_0 hW, w_r12_1 hW, w_r12_3 hW, w_r12_5 hW, w_r12_7 hW, w_r12_8 hW, w_r12_9 hW, w_r12_10 hW, w_r12_11 hW, w_r12_12 hW, w_r12_13 hW, w_c74 hW, w_r74_0 hW, j_Wd_I, j_Wd_L, t_addo, t_subo, t_mulo, t_of, t_divc, t_remc, t_em, Int.toNat_zero, j_ix, Int.toNat_natCast, t_addc, t_subc, t_mulc, t_bz0, t_bz1, Classical.not_not, not_false_eq_true, if_true, if_false, and_true, true_and, and_false, false_and, and_self, or_true, true_or, or_false, false_or, not_true_eq_false, reduceIte, ite_self, implies_true, p_I, p_L, p_R, q_I, q_L, q_R, p_cls, p_tp, p_ln, p_cop, p_cov, rd_I hC, rd_L hC, rd_R hC, rd_cls hC, rd_tp hC, rd_ln hC, hC, hW] <;> first | omega | rfl | decide) | omega | decide | fail)) only [↓if_pos, ↓if_neg, ↓b92_0, ↓b92_62, ↓b92_73, ↓b92_84, ↓b92_85, ↓b62_0, ↓b62_5, v_rs, v_rn, v_pa, v_vc, v_vt, v_vl, v_ir, v_in, v_po, v_pn, v_re, v_rN, v_Nr, v_fe, v_fN, v_c1i, v_c1r, v_c1n, v_c1u, v_c1f, v_if, h_II, h_LL, h_RR, h_IL, h_IR, h_LI, h_LR, h_RI, h_RL, h_Ic, h_Lc, h_Rc, h_Id, h_Ld, h_Rd, h_cls_sI, h_cls_sL, h_cls_sR, h_cls_cI, h_cls_cL, h_tp_sI, h_tp_sL, h_tp_sR, h_tp_cI, h_tp_cL, h_ln_sI, h_ln_sL, h_ln_sR, h_ln_cI, h_ln_cL, v_if, w_c12 hW, w_r12_0 hW, w_r12_1 hW, w_r12_3 hW, w_r12_5 hW, w_r12_7 hW, w_r12_8 hW, w_r12_9 hW, w_r12_10 hW, w_r12_11 hW, w_r12_12 hW, w_r12_13 hW, w_c74 hW, w_r74_0 hW, j_ks, j_ke, t_addo, t_subo, t_mulo, t_of, t_divc, t_remc, t_em, Int.toNat_zero, j_ix, Int.toNat_natCast, t_addc, t_subc, t_mulc, t_bz0, t_bz1, Classical.not_not, not_false_eq_true, if_true, if_false, and_true, true_and, and_false, false_and, and_self, or_true, true_or, or_false, false_or, not_true_eq_false, reduceIte, ite_self, implies_true, p_I, p_L, p_R, q_I, q_L, q_R, p_cls, p_tp, p_ln, p_cop, p_cov, rd_I hC, rd_L hC, rd_R hC, rd_cls hC, rd_tp hC, rd_ln hC, hC, hW]
  rw [etb]
  have c74 : ∀ bs, j_vc (B bs) (.ref 74) = 10 := fun bs => by rw [v_vc, hBc]; exact w_c74 hW
  have c12 : ∀ bs, j_vc (B bs) (.ref 12) = 11 := fun bs => by rw [v_vc, hBc]; exact w_c12 hW
  have cr : ∀ bs, j_vc (B bs) (.ref r) = 5 := fun bs => by rw [v_vc, hBc]; exact gk
  have a12 : ∀ bs, va_rf (j_R (B bs) (j_pa (.ref 12)) 8) = .ref 74 := fun bs => by rw [v_pa, hBR _ _ _ rfl, w_r12_8 hW]; rfl
  have a120 : ∀ bs, va_rf (j_R (B bs) (j_pa (.ref 12)) 0) = .ref 13 := fun bs => by rw [v_pa, hBR _ _ _ rfl, w_r12_0 hW]; rfl
  have a12' : ∀ bs, va_rf (j_R (B bs) 12 8) = .ref 74 := a12
  have a120' : ∀ bs, va_rf (j_R (B bs) 12 0) = .ref 13 := a120
  have c13 : ∀ bs, j_vc (B bs) (.ref 13) = 0 := fun bs => by rw [v_vc, hBc]; exact w_c13 hW
  have gI1 : ∀ bs, j_I (B bs) r 1 = g := fun bs => (hBI _ _ _ n74 (sr _)).trans g4'
  have gI2 : ∀ bs, j_I (B bs) r 2 = j_I C 83 g.toInt.toNat := fun bs => (hBI _ _ _ n74 (sr _)).trans g5'
  have nr11 : ¬ (Value.ref r) = .ref 11 := fun h => by injection h; contradiction
  have nrn : ¬ (Value.ref r) = .null := fun h => by cases h
  clear hBI hBR hBc hBt hBl g2 g3 g4 g5 hC1 e134 n11 n74 sr gk g4' g5' e4 a1 a2
  simp (disch := (first | exact c74 _ | exact cr _ | exact c12 _ | exact v_ir | exact nr11 | exact nrn | exact ha | (simp only [a12, a120, a12', a120', c74, cr, c12, c13, v_ir] <;> decide) | decide | omega | fail)) only [↓if_pos, ↓if_neg, ↓b92_7, ↓b92_15, ↓b92_22, ↓b92_24, ↓b92_52_5, ↓b92_62, ↓b92_63_5, ↓b92_73, ↓b92_74_5, ↓b92_84, ↓b92_85, ↓b18_0, ↓b18_6, ↓b44_0, ↓b44_6, ↓b44_14, ↓b47_0, ↓b47_6, ↓b47_12, ↓b60_0, ↓b60_6, ↓b60_12, ↓b19_0, ↓b19_6_5, ↓b19_12, ↓b38_0, ↓b38_6, ↓b38_12, ↓b48_0, ↓b48_6, ↓b48_14, ↓b59_0, ↓b59_6, ↓b59_12, ↓b59_18, j_ks, j_ke, hk1, hk63, a12, a120, a12', a120', v_pa, gI1, gI2, List.nil_append, List.cons_append]
  all_goals rfl
set_option maxHeartbeats 200000 in
theorem k191_3_1 {b : Nat} {H C : j_H} {g act x : Int32} {Q : Option Value → j_H → Prop} (hC : j_co H = C) (hW : j_Wd C) (hn : 0 ≤ (j_I C 81 0).toInt) (hn2 : (j_I C 81 0).toInt ≤ 7) (hg : 0 ≤ g.toInt ∧ g.toInt < j_n C) (ha : act.toInt = 1) (hk : j_kd C g.toInt = 3) : j_wp (b + 20) 191 0 [.ref 81, .int g, .int act, .int x] [] H Q = Q (some (.int (j_acv 3 1 x g (j_I C 83 g.toInt.toNat)))) (j_bo 110 81 52 0 (j_acb 3 1) (j_sI H 81 52 (Int32.ofInt 0))) := by
  have h2 : 0 ≤ g.toInt ∧ g.toInt < (j_I C 81 0).toInt := hg
  have hk' : (j_I C 82 g.toInt.toNat).toInt = 3 := hk
  have hC1 : j_co (j_sI H 81 52 (Int32.ofInt 0)) = j_sI C 81 52 (Int32.ofInt 0) := by rw [c_sI' rfl, hC]
  have e810 : j_I (j_sI C 81 52 (Int32.ofInt 0)) 81 0 = j_I C 81 0 := by rw [h_II, if_neg (by decide)]
  have hk1 := fun (b' : Nat) (Q : Option Value → j_H → Prop) => k124 (b := b') (x := g) (Q := Q) hC1 (show j_Wd (j_sI C 81 52 (Int32.ofInt 0)) from hW) (by rw [e810]; exact hn) (by rw [e810]; exact hn2)
  simp only [e810, t_bzT h2] at hk1
  have hk121 : ∀ (b' : Nat) (v : Value) (H : j_H) (Q : Option Value → j_H → Prop), j_wp b' 121 0 [v, .int act, .int (Int32.ofInt 0), .int (Int32.ofInt 2)] [] H Q = Q (some (.int (Int32.ofInt 1))) H := fun b' v H Q => by
    rw [k121, t_bzT (by rw [ha]; decide)]
  obtain ⟨B, hB⟩ : ∃ B, B = j_aM H := ⟨_, rfl⟩
  have etm : j_sI H 81 52 (Int32.ofInt 0) = B [] := by rw [hB]; rfl
  have hBI : ∀ bs a k, ¬ a = 110 → ¬ (a = 81 ∧ k = 52) → j_scr a k = false → j_I (B bs) a k = j_I C a k := fun bs a k h1 h3 h4 => by rw [hB, tm_I h1 h3, rd_I hC h4]
  have hBR : ∀ bs a k, j_scr a k = false → j_R (B bs) a k = j_R C a k := fun bs a k h2 => by rw [hB, tm_R, rd_R hC h2]
  have hBc : ∀ bs a, j_cls (B bs) a = j_cls C a := fun bs a => by rw [hB, tm_cls, rd_cls hC]
  have hBt : ∀ bs a, j_tp (B bs) a = j_tp C a := fun bs a => by rw [hB, tm_tp, rd_tp hC]
  have hBl : ∀ bs a, j_ln (B bs) a = j_ln C a := fun bs a => by rw [hB, tm_ln, rd_ln hC]
  have hk63 : ∀ (b' : Nat) (bs : List Int) (y : Int) (Q : Option Value → j_H → Prop), bs.length < 20 → j_wp b' 183 0 [.ref 81, .int (Int32.ofInt y)] [] (B bs) Q = Q none (B (bs ++ [y])) := fun b' bs y Q hl => by rw [hB]; exact k183 hC hW hl
  rw [etm] at hk1
  have hfin : Q (some (.int (j_acv 3 1 x g (j_I C 83 g.toInt.toNat)))) (j_bo 110 81 52 0 (j_acb 3 1) (j_sI H 81 52 (Int32.ofInt 0))) = Q (some (.int (j_acv 3 1 x g (j_I C 83 g.toInt.toNat)))) (B (j_acb 3 1)) := by rw [hB]; rfl
  rw [hfin]
  have p1 : ∀ bs, j_vc (B bs) (.ref 81) = 12 := fun bs => by rw [v_vc, hBc]; exact w_c81 hW
  have f4 : ∀ bs, va_rf (j_R (B bs) (j_pa (.ref 81)) 4) = .ref 82 := fun bs => by rw [v_pa, hBR _ _ _ rfl, w_r81_4 hW]; rfl
  have f5 : ∀ bs, va_rf (j_R (B bs) (j_pa (.ref 81)) 5) = .ref 83 := fun bs => by rw [v_pa, hBR _ _ _ rfl, w_r81_5 hW]; rfl
  have p2 : ∀ bs, j_vt (B bs) (va_rf (j_R (B bs) (j_pa (.ref 81)) 4)) = 0 := fun bs => by rw [f4, v_vt, hBt]; exact w_t82 hW
  have p2' : ∀ bs, j_vt (B bs) (va_rf (j_R (B bs) (j_pa (.ref 81)) 5)) = 0 := fun bs => by rw [f5, v_vt, hBt]; exact w_t83 hW
  have p3 : 0 ≤ g.toInt := hg.1
  have p4 : ∀ bs, g.toInt < ((j_vl (B bs) (va_rf (j_R (B bs) (j_pa (.ref 81)) 4)) : Nat) : Int) := fun bs => by rw [f4, v_vl, hBl, w_n82 hW]; have := h2.2; omega
  have p4' : ∀ bs, g.toInt < ((j_vl (B bs) (va_rf (j_R (B bs) (j_pa (.ref 81)) 5)) : Nat) : Int) := fun bs => by rw [f5, v_vl, hBl, w_n83 hW]; have := h2.2; omega
  have kd : ∀ bs, (j_I (B bs) (j_pa (va_rf (j_R (B bs) (j_pa (.ref 81)) 4))) (j_ix g)).toInt = 3 := fun bs => by rw [f4, v_pa, hBI _ _ _ (by decide) (by omega) rfl]; exact hk'
  have vv : ∀ bs, j_I (B bs) (j_pa (va_rf (j_R (B bs) (j_pa (.ref 81)) 5))) (j_ix g) = j_I C 83 g.toInt.toNat := fun bs => by rw [f5, v_pa, hBI _ _ _ (by decide) (by omega) rfl]; rfl
  rw [b191_0 (by rw [v_vc, rd_cls hC]; exact w_c81 hW), v_pa, etm]
  clear hfin hB hk hn hn2 hg hC1 e810 hBI hBR hBc hBt hBl f4 f5 etm
  simp (disch := (first | exact p1 _ | exact p2 _ | exact p2' _ | exact p3 | exact p4 _ | exact p4' _ | (simp only [kd] <;> omega) | decide | omega | fail)) only [↓if_pos, ↓if_neg, ↓b191_5, ↓b191_10, ↓b191_13, ↓b191_20, ↓b191_23, ↓b191_25, ↓b191_29, ↓b191_35, ↓b191_38, ↓b191_43, ↓b191_49, ↓b191_52, ↓b191_58, ↓b184_0, ↓b184_6, ↓b185_0, ↓b185_40, ↓b185_46, ↓b185_54, ↓b185_55, ↓b185_61, ↓b185_67, ↓b185_69, ↓b185_75, ↓b185_81, ↓b185_89, ↓b185_95, ↓b186_0, ↓b186_6, ↓b186_12, ↓b187_0, ↓b187_6, ↓b187_12, ↓b188_0, ↓b188_40, ↓b188_46, ↓b188_47, ↓b188_53, ↓b188_61, ↓b188_62, ↓b188_68, ↓b188_74, ↓b188_82, ↓b188_84, ↓b188_90, j_ks, j_ke, hk1, hk121, hk63, vv, List.nil_append, List.cons_append]
  all_goals rfl
set_option maxHeartbeats 200000 in
theorem k92_4_1 {b : Nat} {H C : j_H} {g act x : Int32} {Q : Option Value → j_H → Prop} (hC : j_co H = C) (hI : j_In C) (hg : 0 ≤ g.toInt ∧ g.toInt < j_n C) (ha : act.toInt = 1) (hk : j_kd C g.toInt = 4) : j_wp (b + 20) 92 0 [.ref 12, .int g, .int act, .int x, j_u] [] H Q = Q (some (.int (j_acv 4 1 x g (j_I C 83 g.toInt.toNat)))) (j_bo 75 74 1 0 (j_acb 4 1) (j_sI H 74 1 (Int32.ofInt 0))) := by
  have hW := hI.1
  have hN := i_G hI
  obtain ⟨e4, -⟩ := i_n hI
  obtain ⟨a1, a2, -⟩ := i_r hI
  have h2 : 0 ≤ g.toInt ∧ g.toInt < (j_I C 81 0).toInt := hg
  obtain ⟨r, hr, hG⟩ := i_gs hI hg.1 hg.2
  obtain ⟨g1, g2, g3, g4, g5, -⟩ := id hG
  rw [hk] at g2
  have gk : j_cls C r = 7 := g2
  have sr := j_scr_r g1
  have g4' : j_I C r 1 = g := t_ext g4
  have g5' : j_I C r 2 = j_I C 83 g.toInt.toNat := t_ext g5
  have hC1 : j_co (j_sI H 74 1 (Int32.ofInt 0)) = j_sI C 74 1 (Int32.ofInt 0) := by rw [c_sI' rfl, hC]
  have e134 : j_I (j_sI C 74 1 (Int32.ofInt 0)) 13 4 = j_I C 81 0 := by rw [h_II, if_neg (by decide)]; exact e4
  have hk1 := fun (b' : Nat) (Q : Option Value → j_H → Prop) => k1 (b := b') (x := g) (Q := Q) hC1 (show j_Wd (j_sI C 74 1 (Int32.ofInt 0)) from hW) (by rw [e134]; exact a2) hN
  simp only [e134] at hk1
  have hr' : va_rf (j_R (j_sI C 74 1 (Int32.ofInt 0)) 14 (j_ix g)) = .ref r := by show va_rf (j_R C 14 g.toInt.toNat) = _; rw [hr]; rfl
  simp only [if_pos h2, hr'] at hk1
  have n11 : ¬ r = 11 := by omega
  have n74 : ¬ (r = 74 ∨ r = 75) := by omega
  obtain ⟨B, hB⟩ : ∃ B, B = j_aB H := ⟨_, rfl⟩
  have etb : j_sI H 74 1 (Int32.ofInt 0) = B [] := by rw [hB]; rfl
  have hBI : ∀ bs a k, ¬ (a = 74 ∨ a = 75) → j_scr a k = false → j_I (B bs) a k = j_I C a k := fun bs a k h1 h2 => by rw [hB, tb_I h1, rd_I hC h2]
  have hBR : ∀ bs a k, j_scr a k = false → j_R (B bs) a k = j_R C a k := fun bs a k h2 => by rw [hB, tb_R, rd_R hC h2]
  have hBc : ∀ bs a, j_cls (B bs) a = j_cls C a := fun bs a => by rw [hB, tb_cls, rd_cls hC]
  have hBt : ∀ bs a, j_tp (B bs) a = j_tp C a := fun bs a => by rw [hB, tb_tp, rd_tp hC]
  have hBl : ∀ bs a, j_ln (B bs) a = j_ln C a := fun bs a => by rw [hB, tb_ln, rd_ln hC]
  have hk63 : ∀ (b' : Nat) (bs : List Int) (y : Int) (Q : Option Value → j_H → Prop), bs.length < 20 → j_wp b' 63 0 [.ref 74, .int (Int32.ofInt y)] [] (B bs) Q = Q none (B (bs ++ [y])) := fun b' bs y Q hl => by rw [hB]; exact k63 hC hW hl
  rw [etb] at hk1
  have hfin : Q (some (.int (j_acv 4 1 x g (j_I C 83 g.toInt.toNat)))) (j_bo 75 74 1 0 (j_acb 4 1) (j_sI H 74 1 (Int32.ofInt 0))) = Q (some (.int (j_acv 4 1 x g (j_I C 83 g.toInt.toNat)))) (B (j_acb 4 1)) := by rw [hB]; rfl
  rw [hfin]
  clear hfin hB hk hG hI hN hg h2 hr hr'
  simp (disch := (first | assumption | exact n_N11 | exact n_R11 (by decide) | exact n_bz | (simp (disch := (first | assumption | omega | decide)) only [v_rs, v_rn, v_pa, v_vc, v_vt, v_vl, v_ir, v_in, v_po, v_pn, v_re, v_rN, v_Nr, v_fe, v_fN, v_c1i, v_c1r, v_c1n, v_c1u, v_c1f, v_if, h_II, h_LL, h_RR, h_IL, h_IR, h_LI, h_LR, h_RI, h_RL, h_Ic, h_Lc, h_Rc, h_Id, h_Ld, h_Rd, h_cls_sI, h_cls_sL, h_cls_sR, h_cls_cI, h_cls_cL, h_tp_sI, h_tp_sL, h_tp_sR, h_tp_cI, h_tp_cL, h_ln_sI, h_ln_sL, h_ln_sR, h_ln_cI, h_ln_cL, v_if, j_scr, w_c12 hW, w_r12_0 hW, w_r12_1 hW, w_r12_3 hW, w_r12_5 hW, w_r12_7 hW, w_r12_8 hW, w_r12_9 hW, w_r12_10 hW, w_r12_11 hW, w_r12_12 hW, w_r12_13 hW, w_c74 hW, w_r74_0 hW, j_Wd_I, j_Wd_L, t_addo, t_subo, t_mulo, t_of, t_divc, t_remc, t_em, Int.toNat_zero, j_ix, Int.toNat_natCast, t_addc, t_subc, t_mulc, t_bz0, t_bz1, Classical.not_not, not_false_eq_true, if_true, if_false, and_true, true_and, and_false, false_and, and_self, or_true, true_or, or_false, false_or, not_true_eq_false, reduceIte, ite_self, implies_true, p_I, p_L, p_R, q_I, q_L, q_R, p_cls, p_tp, p_ln, p_cop, p_cov, rd_I hC, rd_L hC, rd_R hC, rd_cls hC, rd_tp hC, rd_ln hC, hC, hW] <;> first | omega | rfl | decide) | omega | decide | fail)) only [↓if_pos, ↓if_neg, ↓b92_0, ↓b92_62, ↓b92_73, ↓b92_84, ↓b92_85, ↓b62_0, ↓b62_5, v_rs, v_rn, v_pa, v_vc, v_vt, v_vl, v_ir, v_in, v_po, v_pn, v_re, v_rN, v_Nr, v_fe, v_fN, v_c1i, v_c1r, v_c1n, v_c1u, v_c1f, v_if, h_II, h_LL, h_RR, h_IL, h_IR, h_LI, h_LR, h_RI, h_RL, h_Ic, h_Lc, h_Rc, h_Id, h_Ld, h_Rd, h_cls_sI, h_cls_sL, h_cls_sR, h_cls_cI, h_cls_cL, h_tp_sI, h_tp_sL, h_tp_sR, h_tp_cI, h_tp_cL, h_ln_sI, h_ln_sL, h_ln_sR, h_ln_cI, h_ln_cL, v_if, w_c12 hW, w_r12_0 hW, w_r12_1 hW, w_r12_3 hW, w_r12_5 hW, w_r12_7 hW, w_r12_8 hW, w_r12_9 hW, w_r12_10 hW, w_r12_11 hW, w_r12_12 hW, w_r12_13 hW, w_c74 hW, w_r74_0 hW, j_ks, j_ke, t_addo, t_subo, t_mulo, t_of, t_divc, t_remc, t_em, Int.toNat_zero, j_ix, Int.toNat_natCast, t_addc, t_subc, t_mulc, t_bz0, t_bz1, Classical.not_not, not_false_eq_true, if_true, if_false, and_true, true_and, and_false, false_and, and_self, or_true, true_or, or_false, false_or, not_true_eq_false, reduceIte, ite_self, implies_true, p_I, p_L, p_R, q_I, q_L, q_R, p_cls, p_tp, p_ln, p_cop, p_cov, rd_I hC, rd_L hC, rd_R hC, rd_cls hC, rd_tp hC, rd_ln hC, hC, hW]
  rw [etb]
  have c74 : ∀ bs, j_vc (B bs) (.ref 74) = 10 := fun bs => by rw [v_vc, hBc]; exact w_c74 hW
  have c12 : ∀ bs, j_vc (B bs) (.ref 12) = 11 := fun bs => by rw [v_vc, hBc]; exact w_c12 hW
  have cr : ∀ bs, j_vc (B bs) (.ref r) = 7 := fun bs => by rw [v_vc, hBc]; exact gk
  have a12 : ∀ bs, va_rf (j_R (B bs) (j_pa (.ref 12)) 8) = .ref 74 := fun bs => by rw [v_pa, hBR _ _ _ rfl, w_r12_8 hW]; rfl
  have a120 : ∀ bs, va_rf (j_R (B bs) (j_pa (.ref 12)) 0) = .ref 13 := fun bs => by rw [v_pa, hBR _ _ _ rfl, w_r12_0 hW]; rfl
  have a12' : ∀ bs, va_rf (j_R (B bs) 12 8) = .ref 74 := a12
  have a120' : ∀ bs, va_rf (j_R (B bs) 12 0) = .ref 13 := a120
  have c13 : ∀ bs, j_vc (B bs) (.ref 13) = 0 := fun bs => by rw [v_vc, hBc]; exact w_c13 hW
  have gI1 : ∀ bs, j_I (B bs) r 1 = g := fun bs => (hBI _ _ _ n74 (sr _)).trans g4'
  have gI2 : ∀ bs, j_I (B bs) r 2 = j_I C 83 g.toInt.toNat := fun bs => (hBI _ _ _ n74 (sr _)).trans g5'
  have nr11 : ¬ (Value.ref r) = .ref 11 := fun h => by injection h; contradiction
  have nrn : ¬ (Value.ref r) = .null := fun h => by cases h
  clear hBI hBR hBc hBt hBl g2 g3 g4 g5 hC1 e134 n11 n74 sr gk g4' g5' e4 a1 a2
  simp (disch := (first | exact c74 _ | exact cr _ | exact c12 _ | exact v_ir | exact nr11 | exact nrn | exact ha | (simp only [a12, a120, a12', a120', c74, cr, c12, c13, v_ir] <;> decide) | decide | omega | fail)) only [↓if_pos, ↓if_neg, ↓b92_7, ↓b92_15, ↓b92_22, ↓b92_24, ↓b92_52_7, ↓b92_62, ↓b92_63_7, ↓b92_73, ↓b92_74_7, ↓b92_84, ↓b92_85, ↓b18_0, ↓b18_6, ↓b44_0, ↓b44_6, ↓b44_14, ↓b47_0, ↓b47_6, ↓b47_12, ↓b60_0, ↓b60_6, ↓b60_12, ↓b19_0, ↓b19_6_7, ↓b19_12, ↓b38_0, ↓b38_6, ↓b38_12, ↓b48_0, ↓b48_6, ↓b48_14, ↓b59_0, ↓b59_6, ↓b59_12, ↓b59_18, j_ks, j_ke, hk1, hk63, a12, a120, a12', a120', v_pa, gI1, gI2, List.nil_append, List.cons_append]
  all_goals rfl
set_option maxHeartbeats 200000 in
theorem k191_4_1 {b : Nat} {H C : j_H} {g act x : Int32} {Q : Option Value → j_H → Prop} (hC : j_co H = C) (hW : j_Wd C) (hn : 0 ≤ (j_I C 81 0).toInt) (hn2 : (j_I C 81 0).toInt ≤ 7) (hg : 0 ≤ g.toInt ∧ g.toInt < j_n C) (ha : act.toInt = 1) (hk : j_kd C g.toInt = 4) : j_wp (b + 20) 191 0 [.ref 81, .int g, .int act, .int x] [] H Q = Q (some (.int (j_acv 4 1 x g (j_I C 83 g.toInt.toNat)))) (j_bo 110 81 52 0 (j_acb 4 1) (j_sI H 81 52 (Int32.ofInt 0))) := by
  have h2 : 0 ≤ g.toInt ∧ g.toInt < (j_I C 81 0).toInt := hg
  have hk' : (j_I C 82 g.toInt.toNat).toInt = 4 := hk
  have hC1 : j_co (j_sI H 81 52 (Int32.ofInt 0)) = j_sI C 81 52 (Int32.ofInt 0) := by rw [c_sI' rfl, hC]
  have e810 : j_I (j_sI C 81 52 (Int32.ofInt 0)) 81 0 = j_I C 81 0 := by rw [h_II, if_neg (by decide)]
  have hk1 := fun (b' : Nat) (Q : Option Value → j_H → Prop) => k124 (b := b') (x := g) (Q := Q) hC1 (show j_Wd (j_sI C 81 52 (Int32.ofInt 0)) from hW) (by rw [e810]; exact hn) (by rw [e810]; exact hn2)
  simp only [e810, t_bzT h2] at hk1
  have hk121 : ∀ (b' : Nat) (v : Value) (H : j_H) (Q : Option Value → j_H → Prop), j_wp b' 121 0 [v, .int act, .int (Int32.ofInt 0), .int (Int32.ofInt 2)] [] H Q = Q (some (.int (Int32.ofInt 1))) H := fun b' v H Q => by
    rw [k121, t_bzT (by rw [ha]; decide)]
  obtain ⟨B, hB⟩ : ∃ B, B = j_aM H := ⟨_, rfl⟩
  have etm : j_sI H 81 52 (Int32.ofInt 0) = B [] := by rw [hB]; rfl
  have hBI : ∀ bs a k, ¬ a = 110 → ¬ (a = 81 ∧ k = 52) → j_scr a k = false → j_I (B bs) a k = j_I C a k := fun bs a k h1 h3 h4 => by rw [hB, tm_I h1 h3, rd_I hC h4]
  have hBR : ∀ bs a k, j_scr a k = false → j_R (B bs) a k = j_R C a k := fun bs a k h2 => by rw [hB, tm_R, rd_R hC h2]
  have hBc : ∀ bs a, j_cls (B bs) a = j_cls C a := fun bs a => by rw [hB, tm_cls, rd_cls hC]
  have hBt : ∀ bs a, j_tp (B bs) a = j_tp C a := fun bs a => by rw [hB, tm_tp, rd_tp hC]
  have hBl : ∀ bs a, j_ln (B bs) a = j_ln C a := fun bs a => by rw [hB, tm_ln, rd_ln hC]
  have hk63 : ∀ (b' : Nat) (bs : List Int) (y : Int) (Q : Option Value → j_H → Prop), bs.length < 20 → j_wp b' 183 0 [.ref 81, .int (Int32.ofInt y)] [] (B bs) Q = Q none (B (bs ++ [y])) := fun b' bs y Q hl => by rw [hB]; exact k183 hC hW hl
  rw [etm] at hk1
  have hfin : Q (some (.int (j_acv 4 1 x g (j_I C 83 g.toInt.toNat)))) (j_bo 110 81 52 0 (j_acb 4 1) (j_sI H 81 52 (Int32.ofInt 0))) = Q (some (.int (j_acv 4 1 x g (j_I C 83 g.toInt.toNat)))) (B (j_acb 4 1)) := by rw [hB]; rfl
  rw [hfin]
  have p1 : ∀ bs, j_vc (B bs) (.ref 81) = 12 := fun bs => by rw [v_vc, hBc]; exact w_c81 hW
  have f4 : ∀ bs, va_rf (j_R (B bs) (j_pa (.ref 81)) 4) = .ref 82 := fun bs => by rw [v_pa, hBR _ _ _ rfl, w_r81_4 hW]; rfl
  have f5 : ∀ bs, va_rf (j_R (B bs) (j_pa (.ref 81)) 5) = .ref 83 := fun bs => by rw [v_pa, hBR _ _ _ rfl, w_r81_5 hW]; rfl
  have p2 : ∀ bs, j_vt (B bs) (va_rf (j_R (B bs) (j_pa (.ref 81)) 4)) = 0 := fun bs => by rw [f4, v_vt, hBt]; exact w_t82 hW
  have p2' : ∀ bs, j_vt (B bs) (va_rf (j_R (B bs) (j_pa (.ref 81)) 5)) = 0 := fun bs => by rw [f5, v_vt, hBt]; exact w_t83 hW
  have p3 : 0 ≤ g.toInt := hg.1
  have p4 : ∀ bs, g.toInt < ((j_vl (B bs) (va_rf (j_R (B bs) (j_pa (.ref 81)) 4)) : Nat) : Int) := fun bs => by rw [f4, v_vl, hBl, w_n82 hW]; have := h2.2; omega
  have p4' : ∀ bs, g.toInt < ((j_vl (B bs) (va_rf (j_R (B bs) (j_pa (.ref 81)) 5)) : Nat) : Int) := fun bs => by rw [f5, v_vl, hBl, w_n83 hW]; have := h2.2; omega
  have kd : ∀ bs, (j_I (B bs) (j_pa (va_rf (j_R (B bs) (j_pa (.ref 81)) 4))) (j_ix g)).toInt = 4 := fun bs => by rw [f4, v_pa, hBI _ _ _ (by decide) (by omega) rfl]; exact hk'
  have vv : ∀ bs, j_I (B bs) (j_pa (va_rf (j_R (B bs) (j_pa (.ref 81)) 5))) (j_ix g) = j_I C 83 g.toInt.toNat := fun bs => by rw [f5, v_pa, hBI _ _ _ (by decide) (by omega) rfl]; rfl
  rw [b191_0 (by rw [v_vc, rd_cls hC]; exact w_c81 hW), v_pa, etm]
  clear hfin hB hk hn hn2 hg hC1 e810 hBI hBR hBc hBt hBl f4 f5 etm
  simp (disch := (first | exact p1 _ | exact p2 _ | exact p2' _ | exact p3 | exact p4 _ | exact p4' _ | (simp only [kd] <;> omega) | decide | omega | fail)) only [↓if_pos, ↓if_neg, ↓b191_5, ↓b191_10, ↓b191_13, ↓b191_20, ↓b191_23, ↓b191_25, ↓b191_29, ↓b191_35, ↓b191_38, ↓b191_43, ↓b191_49, ↓b191_52, ↓b191_58, ↓b184_0, ↓b184_6, ↓b185_0, ↓b185_40, ↓b185_46, ↓b185_54, ↓b185_55, ↓b185_61, ↓b185_67, ↓b185_69, ↓b185_75, ↓b185_81, ↓b185_89, ↓b185_95, ↓b186_0, ↓b186_6, ↓b186_12, ↓b187_0, ↓b187_6, ↓b187_12, ↓b188_0, ↓b188_40, ↓b188_46, ↓b188_47, ↓b188_53, ↓b188_61, ↓b188_62, ↓b188_68, ↓b188_74, ↓b188_82, ↓b188_84, ↓b188_90, j_ks, j_ke, hk1, hk121, hk63, vv, List.nil_append, List.cons_append]
  all_goals rfl
set_option maxHeartbeats 200000 in
theorem k92_5_1 {b : Nat} {H C : j_H} {g act x : Int32} {Q : Option Value → j_H → Prop} (hC : j_co H = C) (hI : j_In C) (hg : 0 ≤ g.toInt ∧ g.toInt < j_n C) (ha : act.toInt = 1) (hk : j_kd C g.toInt = 5) : j_wp (b + 20) 92 0 [.ref 12, .int g, .int act, .int x, j_u] [] H Q = Q (some (.int (j_acv 5 1 x g (j_I C 83 g.toInt.toNat)))) (j_bo 75 74 1 0 (j_acb 5 1) (j_sI H 74 1 (Int32.ofInt 0))) := by
  have hW := hI.1
  have hN := i_G hI
  obtain ⟨e4, -⟩ := i_n hI
  obtain ⟨a1, a2, -⟩ := i_r hI
  have h2 : 0 ≤ g.toInt ∧ g.toInt < (j_I C 81 0).toInt := hg
  obtain ⟨r, hr, hG⟩ := i_gs hI hg.1 hg.2
  obtain ⟨g1, g2, g3, g4, g5, -⟩ := id hG
  rw [hk] at g2
  have gk : j_cls C r = 1 := g2
  have sr := j_scr_r g1
  have g4' : j_I C r 1 = g := t_ext g4
  have g5' : j_I C r 2 = j_I C 83 g.toInt.toNat := t_ext g5
  have hC1 : j_co (j_sI H 74 1 (Int32.ofInt 0)) = j_sI C 74 1 (Int32.ofInt 0) := by rw [c_sI' rfl, hC]
  have e134 : j_I (j_sI C 74 1 (Int32.ofInt 0)) 13 4 = j_I C 81 0 := by rw [h_II, if_neg (by decide)]; exact e4
  have hk1 := fun (b' : Nat) (Q : Option Value → j_H → Prop) => k1 (b := b') (x := g) (Q := Q) hC1 (show j_Wd (j_sI C 74 1 (Int32.ofInt 0)) from hW) (by rw [e134]; exact a2) hN
  simp only [e134] at hk1
  have hr' : va_rf (j_R (j_sI C 74 1 (Int32.ofInt 0)) 14 (j_ix g)) = .ref r := by show va_rf (j_R C 14 g.toInt.toNat) = _; rw [hr]; rfl
  simp only [if_pos h2, hr'] at hk1
  have n11 : ¬ r = 11 := by omega
  have n74 : ¬ (r = 74 ∨ r = 75) := by omega
  obtain ⟨B, hB⟩ : ∃ B, B = j_aB H := ⟨_, rfl⟩
  have etb : j_sI H 74 1 (Int32.ofInt 0) = B [] := by rw [hB]; rfl
  have hBI : ∀ bs a k, ¬ (a = 74 ∨ a = 75) → j_scr a k = false → j_I (B bs) a k = j_I C a k := fun bs a k h1 h2 => by rw [hB, tb_I h1, rd_I hC h2]
  have hBR : ∀ bs a k, j_scr a k = false → j_R (B bs) a k = j_R C a k := fun bs a k h2 => by rw [hB, tb_R, rd_R hC h2]
  have hBc : ∀ bs a, j_cls (B bs) a = j_cls C a := fun bs a => by rw [hB, tb_cls, rd_cls hC]
  have hBt : ∀ bs a, j_tp (B bs) a = j_tp C a := fun bs a => by rw [hB, tb_tp, rd_tp hC]
  have hBl : ∀ bs a, j_ln (B bs) a = j_ln C a := fun bs a => by rw [hB, tb_ln, rd_ln hC]
  have hk63 : ∀ (b' : Nat) (bs : List Int) (y : Int) (Q : Option Value → j_H → Prop), bs.length < 20 → j_wp b' 63 0 [.ref 74, .int (Int32.ofInt y)] [] (B bs) Q = Q none (B (bs ++ [y])) := fun b' bs y Q hl => by rw [hB]; exact k63 hC hW hl
  rw [etb] at hk1
  have hfin : Q (some (.int (j_acv 5 1 x g (j_I C 83 g.toInt.toNat)))) (j_bo 75 74 1 0 (j_acb 5 1) (j_sI H 74 1 (Int32.ofInt 0))) = Q (some (.int (j_acv 5 1 x g (j_I C 83 g.toInt.toNat)))) (B (j_acb 5 1)) := by rw [hB]; rfl
  rw [hfin]
  clear hfin hB hk hG hI hN hg h2 hr hr'
  simp (disch := (first | assumption | exact n_N11 | exact n_R11 (by decide) | exact n_bz | (simp (disch := (first | assumption | omega | decide)) only [v_rs, v_rn, v_pa, v_vc, v_vt, v_vl, v_ir, v_in, v_po, v_pn, v_re, v_rN, v_Nr, v_fe, v_fN, v_c1i, v_c1r, v_c1n, v_c1u, v_c1f, v_if, h_II, h_LL, h_RR, h_IL, h_IR, h_LI, h_LR, h_RI, h_RL, h_Ic, h_Lc, h_Rc, h_Id, h_Ld, h_Rd, h_cls_sI, h_cls_sL, h_cls_sR, h_cls_cI, h_cls_cL, h_tp_sI, h_tp_sL, h_tp_sR, h_tp_cI, h_tp_cL, h_ln_sI, h_ln_sL, h_ln_sR, h_ln_cI, h_ln_cL, v_if, j_scr, w_c12 hW, w_r12_0 hW, w_r12_1 hW, w_r12_3 hW, w_r12_5 hW, w_r12_7 hW, w_r12_8 hW, w_r12_9 hW, w_r12_10 hW, w_r12_11 hW, w_r12_12 hW, w_r12_13 hW, w_c74 hW, w_r74_0 hW, j_Wd_I, j_Wd_L, t_addo, t_subo, t_mulo, t_of, t_divc, t_remc, t_em, Int.toNat_zero, j_ix, Int.toNat_natCast, t_addc, t_subc, t_mulc, t_bz0, t_bz1, Classical.not_not, not_false_eq_true, if_true, if_false, and_true, true_and, and_false, false_and, and_self, or_true, true_or, or_false, false_or, not_true_eq_false, reduceIte, ite_self, implies_true, p_I, p_L, p_R, q_I, q_L, q_R, p_cls, p_tp, p_ln, p_cop, p_cov, rd_I hC, rd_L hC, rd_R hC, rd_cls hC, rd_tp hC, rd_ln hC, hC, hW] <;> first | omega | rfl | decide) | omega | decide | fail)) only [↓if_pos, ↓if_neg, ↓b92_0, ↓b92_62, ↓b92_73, ↓b92_84, ↓b92_85, ↓b62_0, ↓b62_5, v_rs, v_rn, v_pa, v_vc, v_vt, v_vl, v_ir, v_in, v_po, v_pn, v_re, v_rN, v_Nr, v_fe, v_fN, v_c1i, v_c1r, v_c1n, v_c1u, v_c1f, v_if, h_II, h_LL, h_RR, h_IL, h_IR, h_LI, h_LR, h_RI, h_RL, h_Ic, h_Lc, h_Rc, h_Id, h_Ld, h_Rd, h_cls_sI, h_cls_sL, h_cls_sR, h_cls_cI, h_cls_cL, h_tp_sI, h_tp_sL, h_tp_sR, h_tp_cI, h_tp_cL, h_ln_sI, h_ln_sL, h_ln_sR, h_ln_cI, h_ln_cL, v_if, w_c12 hW, w_r12_0 hW, w_r12_1 hW, w_r12_3 hW, w_r12_5 hW, w_r12_7 hW, w_r12_8 hW, w_r12_9 hW, w_r12_10 hW, w_r12_11 hW, w_r12_12 hW, w_r12_13 hW, w_c74 hW, w_r74_0 hW, j_ks, j_ke, t_addo, t_subo, t_mulo, t_of, t_divc, t_remc, t_em, Int.toNat_zero, j_ix, Int.toNat_natCast, t_addc, t_subc, t_mulc, t_bz0, t_bz1, Classical.not_not, not_false_eq_true, if_true, if_false, and_true, true_and, and_false, false_and, and_self, or_true, true_or, or_false, false_or, not_true_eq_false, reduceIte, ite_self, implies_true, p_I, p_L, p_R, q_I, q_L, q_R, p_cls, p_tp, p_ln, p_cop, p_cov, rd_I hC, rd_L hC, rd_R hC, rd_cls hC, rd_tp hC, rd_ln hC, hC, hW]
  rw [etb]
  have c74 : ∀ bs, j_vc (B bs) (.ref 74) = 10 := fun bs => by rw [v_vc, hBc]; exact w_c74 hW
  have c12 : ∀ bs, j_vc (B bs) (.ref 12) = 11 := fun bs => by rw [v_vc, hBc]; exact w_c12 hW
  have cr : ∀ bs, j_vc (B bs) (.ref r) = 1 := fun bs => by rw [v_vc, hBc]; exact gk
  have a12 : ∀ bs, va_rf (j_R (B bs) (j_pa (.ref 12)) 8) = .ref 74 := fun bs => by rw [v_pa, hBR _ _ _ rfl, w_r12_8 hW]; rfl
  have a120 : ∀ bs, va_rf (j_R (B bs) (j_pa (.ref 12)) 0) = .ref 13 := fun bs => by rw [v_pa, hBR _ _ _ rfl, w_r12_0 hW]; rfl
  have a12' : ∀ bs, va_rf (j_R (B bs) 12 8) = .ref 74 := a12
  have a120' : ∀ bs, va_rf (j_R (B bs) 12 0) = .ref 13 := a120
  have c13 : ∀ bs, j_vc (B bs) (.ref 13) = 0 := fun bs => by rw [v_vc, hBc]; exact w_c13 hW
  have gI1 : ∀ bs, j_I (B bs) r 1 = g := fun bs => (hBI _ _ _ n74 (sr _)).trans g4'
  have gI2 : ∀ bs, j_I (B bs) r 2 = j_I C 83 g.toInt.toNat := fun bs => (hBI _ _ _ n74 (sr _)).trans g5'
  have nr11 : ¬ (Value.ref r) = .ref 11 := fun h => by injection h; contradiction
  have nrn : ¬ (Value.ref r) = .null := fun h => by cases h
  clear hBI hBR hBc hBt hBl g2 g3 g4 g5 hC1 e134 n11 n74 sr gk g4' g5' e4 a1 a2
  simp (disch := (first | exact c74 _ | exact cr _ | exact c12 _ | exact v_ir | exact nr11 | exact nrn | exact ha | (simp only [a12, a120, a12', a120', c74, cr, c12, c13, v_ir] <;> decide) | decide | omega | fail)) only [↓if_pos, ↓if_neg, ↓b92_7, ↓b92_15, ↓b92_22, ↓b92_24, ↓b92_52_1, ↓b92_62, ↓b92_63_1, ↓b92_73, ↓b92_74_1, ↓b92_84, ↓b92_85, ↓b18_0, ↓b18_6, ↓b44_0, ↓b44_6, ↓b44_14, ↓b47_0, ↓b47_6, ↓b47_12, ↓b60_0, ↓b60_6, ↓b60_12, ↓b19_0, ↓b19_6_1, ↓b19_12, ↓b38_0, ↓b38_6, ↓b38_12, ↓b48_0, ↓b48_6, ↓b48_14, ↓b59_0, ↓b59_6, ↓b59_12, ↓b59_18, j_ks, j_ke, hk1, hk63, a12, a120, a12', a120', v_pa, gI1, gI2, List.nil_append, List.cons_append]
  all_goals rfl
set_option maxHeartbeats 200000 in
theorem k191_5_1 {b : Nat} {H C : j_H} {g act x : Int32} {Q : Option Value → j_H → Prop} (hC : j_co H = C) (hW : j_Wd C) (hn : 0 ≤ (j_I C 81 0).toInt) (hn2 : (j_I C 81 0).toInt ≤ 7) (hg : 0 ≤ g.toInt ∧ g.toInt < j_n C) (ha : act.toInt = 1) (hk : j_kd C g.toInt = 5) : j_wp (b + 20) 191 0 [.ref 81, .int g, .int act, .int x] [] H Q = Q (some (.int (j_acv 5 1 x g (j_I C 83 g.toInt.toNat)))) (j_bo 110 81 52 0 (j_acb 5 1) (j_sI H 81 52 (Int32.ofInt 0))) := by
  have h2 : 0 ≤ g.toInt ∧ g.toInt < (j_I C 81 0).toInt := hg
  have hk' : (j_I C 82 g.toInt.toNat).toInt = 5 := hk
  have hC1 : j_co (j_sI H 81 52 (Int32.ofInt 0)) = j_sI C 81 52 (Int32.ofInt 0) := by rw [c_sI' rfl, hC]
  have e810 : j_I (j_sI C 81 52 (Int32.ofInt 0)) 81 0 = j_I C 81 0 := by rw [h_II, if_neg (by decide)]
  have hk1 := fun (b' : Nat) (Q : Option Value → j_H → Prop) => k124 (b := b') (x := g) (Q := Q) hC1 (show j_Wd (j_sI C 81 52 (Int32.ofInt 0)) from hW) (by rw [e810]; exact hn) (by rw [e810]; exact hn2)
  simp only [e810, t_bzT h2] at hk1
  have hk121 : ∀ (b' : Nat) (v : Value) (H : j_H) (Q : Option Value → j_H → Prop), j_wp b' 121 0 [v, .int act, .int (Int32.ofInt 0), .int (Int32.ofInt 2)] [] H Q = Q (some (.int (Int32.ofInt 1))) H := fun b' v H Q => by
    rw [k121, t_bzT (by rw [ha]; decide)]
  obtain ⟨B, hB⟩ : ∃ B, B = j_aM H := ⟨_, rfl⟩
  have etm : j_sI H 81 52 (Int32.ofInt 0) = B [] := by rw [hB]; rfl
  have hBI : ∀ bs a k, ¬ a = 110 → ¬ (a = 81 ∧ k = 52) → j_scr a k = false → j_I (B bs) a k = j_I C a k := fun bs a k h1 h3 h4 => by rw [hB, tm_I h1 h3, rd_I hC h4]
  have hBR : ∀ bs a k, j_scr a k = false → j_R (B bs) a k = j_R C a k := fun bs a k h2 => by rw [hB, tm_R, rd_R hC h2]
  have hBc : ∀ bs a, j_cls (B bs) a = j_cls C a := fun bs a => by rw [hB, tm_cls, rd_cls hC]
  have hBt : ∀ bs a, j_tp (B bs) a = j_tp C a := fun bs a => by rw [hB, tm_tp, rd_tp hC]
  have hBl : ∀ bs a, j_ln (B bs) a = j_ln C a := fun bs a => by rw [hB, tm_ln, rd_ln hC]
  have hk63 : ∀ (b' : Nat) (bs : List Int) (y : Int) (Q : Option Value → j_H → Prop), bs.length < 20 → j_wp b' 183 0 [.ref 81, .int (Int32.ofInt y)] [] (B bs) Q = Q none (B (bs ++ [y])) := fun b' bs y Q hl => by rw [hB]; exact k183 hC hW hl
  rw [etm] at hk1
  have hfin : Q (some (.int (j_acv 5 1 x g (j_I C 83 g.toInt.toNat)))) (j_bo 110 81 52 0 (j_acb 5 1) (j_sI H 81 52 (Int32.ofInt 0))) = Q (some (.int (j_acv 5 1 x g (j_I C 83 g.toInt.toNat)))) (B (j_acb 5 1)) := by rw [hB]; rfl
  rw [hfin]
  have p1 : ∀ bs, j_vc (B bs) (.ref 81) = 12 := fun bs => by rw [v_vc, hBc]; exact w_c81 hW
  have f4 : ∀ bs, va_rf (j_R (B bs) (j_pa (.ref 81)) 4) = .ref 82 := fun bs => by rw [v_pa, hBR _ _ _ rfl, w_r81_4 hW]; rfl
  have f5 : ∀ bs, va_rf (j_R (B bs) (j_pa (.ref 81)) 5) = .ref 83 := fun bs => by rw [v_pa, hBR _ _ _ rfl, w_r81_5 hW]; rfl
  have p2 : ∀ bs, j_vt (B bs) (va_rf (j_R (B bs) (j_pa (.ref 81)) 4)) = 0 := fun bs => by rw [f4, v_vt, hBt]; exact w_t82 hW
  have p2' : ∀ bs, j_vt (B bs) (va_rf (j_R (B bs) (j_pa (.ref 81)) 5)) = 0 := fun bs => by rw [f5, v_vt, hBt]; exact w_t83 hW
  have p3 : 0 ≤ g.toInt := hg.1
  have p4 : ∀ bs, g.toInt < ((j_vl (B bs) (va_rf (j_R (B bs) (j_pa (.ref 81)) 4)) : Nat) : Int) := fun bs => by rw [f4, v_vl, hBl, w_n82 hW]; have := h2.2; omega
  have p4' : ∀ bs, g.toInt < ((j_vl (B bs) (va_rf (j_R (B bs) (j_pa (.ref 81)) 5)) : Nat) : Int) := fun bs => by rw [f5, v_vl, hBl, w_n83 hW]; have := h2.2; omega
  have kd : ∀ bs, (j_I (B bs) (j_pa (va_rf (j_R (B bs) (j_pa (.ref 81)) 4))) (j_ix g)).toInt = 5 := fun bs => by rw [f4, v_pa, hBI _ _ _ (by decide) (by omega) rfl]; exact hk'
  have vv : ∀ bs, j_I (B bs) (j_pa (va_rf (j_R (B bs) (j_pa (.ref 81)) 5))) (j_ix g) = j_I C 83 g.toInt.toNat := fun bs => by rw [f5, v_pa, hBI _ _ _ (by decide) (by omega) rfl]; rfl
  rw [b191_0 (by rw [v_vc, rd_cls hC]; exact w_c81 hW), v_pa, etm]
  clear hfin hB hk hn hn2 hg hC1 e810 hBI hBR hBc hBt hBl f4 f5 etm
  simp (disch := (first | exact p1 _ | exact p2 _ | exact p2' _ | exact p3 | exact p4 _ | exact p4' _ | (simp only [kd] <;> omega) | decide | omega | fail)) only [↓if_pos, ↓if_neg, ↓b191_5, ↓b191_10, ↓b191_13, ↓b191_20, ↓b191_23, ↓b191_25, ↓b191_29, ↓b191_35, ↓b191_38, ↓b191_43, ↓b191_49, ↓b191_52, ↓b191_58, ↓b184_0, ↓b184_6, ↓b185_0, ↓b185_40, ↓b185_46, ↓b185_54, ↓b185_55, ↓b185_61, ↓b185_67, ↓b185_69, ↓b185_75, ↓b185_81, ↓b185_89, ↓b185_95, ↓b186_0, ↓b186_6, ↓b186_12, ↓b187_0, ↓b187_6, ↓b187_12, ↓b188_0, ↓b188_40, ↓b188_46, ↓b188_47, ↓b188_53, ↓b188_61, ↓b188_62, ↓b188_68, ↓b188_74, ↓b188_82, ↓b188_84, ↓b188_90, j_ks, j_ke, hk1, hk121, hk63, vv, List.nil_append, List.cons_append]
  all_goals rfl
set_option maxHeartbeats 200000 in
theorem k92_6_1 {b : Nat} {H C : j_H} {g act x : Int32} {Q : Option Value → j_H → Prop} (hC : j_co H = C) (hI : j_In C) (hg : 0 ≤ g.toInt ∧ g.toInt < j_n C) (ha : act.toInt = 1) (hk : j_kd C g.toInt = 6) : j_wp (b + 20) 92 0 [.ref 12, .int g, .int act, .int x, j_u] [] H Q = Q (some (.int (j_acv 6 1 x g (j_I C 83 g.toInt.toNat)))) (j_bo 75 74 1 0 (j_acb 6 1) (j_sI H 74 1 (Int32.ofInt 0))) := by
  have hW := hI.1
  have hN := i_G hI
  obtain ⟨e4, -⟩ := i_n hI
  obtain ⟨a1, a2, -⟩ := i_r hI
  have h2 : 0 ≤ g.toInt ∧ g.toInt < (j_I C 81 0).toInt := hg
  obtain ⟨r, hr, hG⟩ := i_gs hI hg.1 hg.2
  obtain ⟨g1, g2, g3, g4, g5, -⟩ := id hG
  rw [hk] at g2
  have gk : j_cls C r = 9 := g2
  have sr := j_scr_r g1
  have g4' : j_I C r 1 = g := t_ext g4
  have g5' : j_I C r 2 = j_I C 83 g.toInt.toNat := t_ext g5
  have hC1 : j_co (j_sI H 74 1 (Int32.ofInt 0)) = j_sI C 74 1 (Int32.ofInt 0) := by rw [c_sI' rfl, hC]
  have e134 : j_I (j_sI C 74 1 (Int32.ofInt 0)) 13 4 = j_I C 81 0 := by rw [h_II, if_neg (by decide)]; exact e4
  have hk1 := fun (b' : Nat) (Q : Option Value → j_H → Prop) => k1 (b := b') (x := g) (Q := Q) hC1 (show j_Wd (j_sI C 74 1 (Int32.ofInt 0)) from hW) (by rw [e134]; exact a2) hN
  simp only [e134] at hk1
  have hr' : va_rf (j_R (j_sI C 74 1 (Int32.ofInt 0)) 14 (j_ix g)) = .ref r := by show va_rf (j_R C 14 g.toInt.toNat) = _; rw [hr]; rfl
  simp only [if_pos h2, hr'] at hk1
  have n11 : ¬ r = 11 := by omega
  have n74 : ¬ (r = 74 ∨ r = 75) := by omega
  obtain ⟨B, hB⟩ : ∃ B, B = j_aB H := ⟨_, rfl⟩
  have etb : j_sI H 74 1 (Int32.ofInt 0) = B [] := by rw [hB]; rfl
  have hBI : ∀ bs a k, ¬ (a = 74 ∨ a = 75) → j_scr a k = false → j_I (B bs) a k = j_I C a k := fun bs a k h1 h2 => by rw [hB, tb_I h1, rd_I hC h2]
  have hBR : ∀ bs a k, j_scr a k = false → j_R (B bs) a k = j_R C a k := fun bs a k h2 => by rw [hB, tb_R, rd_R hC h2]
  have hBc : ∀ bs a, j_cls (B bs) a = j_cls C a := fun bs a => by rw [hB, tb_cls, rd_cls hC]
  have hBt : ∀ bs a, j_tp (B bs) a = j_tp C a := fun bs a => by rw [hB, tb_tp, rd_tp hC]
  have hBl : ∀ bs a, j_ln (B bs) a = j_ln C a := fun bs a => by rw [hB, tb_ln, rd_ln hC]
  have hk63 : ∀ (b' : Nat) (bs : List Int) (y : Int) (Q : Option Value → j_H → Prop), bs.length < 20 → j_wp b' 63 0 [.ref 74, .int (Int32.ofInt y)] [] (B bs) Q = Q none (B (bs ++ [y])) := fun b' bs y Q hl => by rw [hB]; exact k63 hC hW hl
  rw [etb] at hk1
  have hfin : Q (some (.int (j_acv 6 1 x g (j_I C 83 g.toInt.toNat)))) (j_bo 75 74 1 0 (j_acb 6 1) (j_sI H 74 1 (Int32.ofInt 0))) = Q (some (.int (j_acv 6 1 x g (j_I C 83 g.toInt.toNat)))) (B (j_acb 6 1)) := by rw [hB]; rfl
  rw [hfin]
  clear hfin hB hk hG hI hN hg h2 hr hr'
  simp (disch := (first | assumption | exact n_N11 | exact n_R11 (by decide) | exact n_bz | (simp (disch := (first | assumption | omega | decide)) only [v_rs, v_rn, v_pa, v_vc, v_vt, v_vl, v_ir, v_in, v_po, v_pn, v_re, v_rN, v_Nr, v_fe, v_fN, v_c1i, v_c1r, v_c1n, v_c1u, v_c1f, v_if, h_II, h_LL, h_RR, h_IL, h_IR, h_LI, h_LR, h_RI, h_RL, h_Ic, h_Lc, h_Rc, h_Id, h_Ld, h_Rd, h_cls_sI, h_cls_sL, h_cls_sR, h_cls_cI, h_cls_cL, h_tp_sI, h_tp_sL, h_tp_sR, h_tp_cI, h_tp_cL, h_ln_sI, h_ln_sL, h_ln_sR, h_ln_cI, h_ln_cL, v_if, j_scr, w_c12 hW, w_r12_0 hW, w_r12_1 hW, w_r12_3 hW, w_r12_5 hW, w_r12_7 hW, w_r12_8 hW, w_r12_9 hW, w_r12_10 hW, w_r12_11 hW, w_r12_12 hW, w_r12_13 hW, w_c74 hW, w_r74_0 hW, j_Wd_I, j_Wd_L, t_addo, t_subo, t_mulo, t_of, t_divc, t_remc, t_em, Int.toNat_zero, j_ix, Int.toNat_natCast, t_addc, t_subc, t_mulc, t_bz0, t_bz1, Classical.not_not, not_false_eq_true, if_true, if_false, and_true, true_and, and_false, false_and, and_self, or_true, true_or, or_false, false_or, not_true_eq_false, reduceIte, ite_self, implies_true, p_I, p_L, p_R, q_I, q_L, q_R, p_cls, p_tp, p_ln, p_cop, p_cov, rd_I hC, rd_L hC, rd_R hC, rd_cls hC, rd_tp hC, rd_ln hC, hC, hW] <;> first | omega | rfl | decide) | omega | decide | fail)) only [↓if_pos, ↓if_neg, ↓b92_0, ↓b92_62, ↓b92_73, ↓b92_84, ↓b92_85, ↓b62_0, ↓b62_5, v_rs, v_rn, v_pa, v_vc, v_vt, v_vl, v_ir, v_in, v_po, v_pn, v_re, v_rN, v_Nr, v_fe, v_fN, v_c1i, v_c1r, v_c1n, v_c1u, v_c1f, v_if, h_II, h_LL, h_RR, h_IL, h_IR, h_LI, h_LR, h_RI, h_RL, h_Ic, h_Lc, h_Rc, h_Id, h_Ld, h_Rd, h_cls_sI, h_cls_sL, h_cls_sR, h_cls_cI, h_cls_cL, h_tp_sI, h_tp_sL, h_tp_sR, h_tp_cI, h_tp_cL, h_ln_sI, h_ln_sL, h_ln_sR, h_ln_cI, h_ln_cL, v_if, w_c12 hW, w_r12_0 hW, w_r12_1 hW, w_r12_3 hW, w_r12_5 hW, w_r12_7 hW, w_r12_8 hW, w_r12_9 hW, w_r12_10 hW, w_r12_11 hW, w_r12_12 hW, w_r12_13 hW, w_c74 hW, w_r74_0 hW, j_ks, j_ke, t_addo, t_subo, t_mulo, t_of, t_divc, t_remc, t_em, Int.toNat_zero, j_ix, Int.toNat_natCast, t_addc, t_subc, t_mulc, t_bz0, t_bz1, Classical.not_not, not_false_eq_true, if_true, if_false, and_true, true_and, and_false, false_and, and_self, or_true, true_or, or_false, false_or, not_true_eq_false, reduceIte, ite_self, implies_true, p_I, p_L, p_R, q_I, q_L, q_R, p_cls, p_tp, p_ln, p_cop, p_cov, rd_I hC, rd_L hC, rd_R hC, rd_cls hC, rd_tp hC, rd_ln hC, hC, hW]
  rw [etb]
  have c74 : ∀ bs, j_vc (B bs) (.ref 74) = 10 := fun bs => by rw [v_vc, hBc]; exact w_c74 hW
  have c12 : ∀ bs, j_vc (B bs) (.ref 12) = 11 := fun bs => by rw [v_vc, hBc]; exact w_c12 hW
  have cr : ∀ bs, j_vc (B bs) (.ref r) = 9 := fun bs => by rw [v_vc, hBc]; exact gk
  have a12 : ∀ bs, va_rf (j_R (B bs) (j_pa (.ref 12)) 8) = .ref 74 := fun bs => by rw [v_pa, hBR _ _ _ rfl, w_r12_8 hW]; rfl
  have a120 : ∀ bs, va_rf (j_R (B bs) (j_pa (.ref 12)) 0) = .ref 13 := fun bs => by rw [v_pa, hBR _ _ _ rfl, w_r12_0 hW]; rfl
  have a12' : ∀ bs, va_rf (j_R (B bs) 12 8) = .ref 74 := a12
  have a120' : ∀ bs, va_rf (j_R (B bs) 12 0) = .ref 13 := a120
  have c13 : ∀ bs, j_vc (B bs) (.ref 13) = 0 := fun bs => by rw [v_vc, hBc]; exact w_c13 hW
  have gI1 : ∀ bs, j_I (B bs) r 1 = g := fun bs => (hBI _ _ _ n74 (sr _)).trans g4'
  have gI2 : ∀ bs, j_I (B bs) r 2 = j_I C 83 g.toInt.toNat := fun bs => (hBI _ _ _ n74 (sr _)).trans g5'
  have nr11 : ¬ (Value.ref r) = .ref 11 := fun h => by injection h; contradiction
  have nrn : ¬ (Value.ref r) = .null := fun h => by cases h
  clear hBI hBR hBc hBt hBl g2 g3 g4 g5 hC1 e134 n11 n74 sr gk g4' g5' e4 a1 a2
  simp (disch := (first | exact c74 _ | exact cr _ | exact c12 _ | exact v_ir | exact nr11 | exact nrn | exact ha | (simp only [a12, a120, a12', a120', c74, cr, c12, c13, v_ir] <;> decide) | decide | omega | fail)) only [↓if_pos, ↓if_neg, ↓b92_7, ↓b92_15, ↓b92_22, ↓b92_24, ↓b92_52_9, ↓b92_62, ↓b92_63_9, ↓b92_73, ↓b92_74_9, ↓b92_84, ↓b92_85, ↓b18_0, ↓b18_6, ↓b44_0, ↓b44_6, ↓b44_14, ↓b47_0, ↓b47_6, ↓b47_12, ↓b60_0, ↓b60_6, ↓b60_12, ↓b19_0, ↓b19_6_9, ↓b19_12, ↓b38_0, ↓b38_6, ↓b38_12, ↓b48_0, ↓b48_6, ↓b48_14, ↓b59_0, ↓b59_6, ↓b59_12, ↓b59_18, j_ks, j_ke, hk1, hk63, a12, a120, a12', a120', v_pa, gI1, gI2, List.nil_append, List.cons_append]
  all_goals rfl
set_option maxHeartbeats 200000 in
theorem k191_6_1 {b : Nat} {H C : j_H} {g act x : Int32} {Q : Option Value → j_H → Prop} (hC : j_co H = C) (hW : j_Wd C) (hn : 0 ≤ (j_I C 81 0).toInt) (hn2 : (j_I C 81 0).toInt ≤ 7) (hg : 0 ≤ g.toInt ∧ g.toInt < j_n C) (ha : act.toInt = 1) (hk : j_kd C g.toInt = 6) : j_wp (b + 20) 191 0 [.ref 81, .int g, .int act, .int x] [] H Q = Q (some (.int (j_acv 6 1 x g (j_I C 83 g.toInt.toNat)))) (j_bo 110 81 52 0 (j_acb 6 1) (j_sI H 81 52 (Int32.ofInt 0))) := by
  have h2 : 0 ≤ g.toInt ∧ g.toInt < (j_I C 81 0).toInt := hg
  have hk' : (j_I C 82 g.toInt.toNat).toInt = 6 := hk
  have hC1 : j_co (j_sI H 81 52 (Int32.ofInt 0)) = j_sI C 81 52 (Int32.ofInt 0) := by rw [c_sI' rfl, hC]
  have e810 : j_I (j_sI C 81 52 (Int32.ofInt 0)) 81 0 = j_I C 81 0 := by rw [h_II, if_neg (by decide)]
  have hk1 := fun (b' : Nat) (Q : Option Value → j_H → Prop) => k124 (b := b') (x := g) (Q := Q) hC1 (show j_Wd (j_sI C 81 52 (Int32.ofInt 0)) from hW) (by rw [e810]; exact hn) (by rw [e810]; exact hn2)
  simp only [e810, t_bzT h2] at hk1
  have hk121 : ∀ (b' : Nat) (v : Value) (H : j_H) (Q : Option Value → j_H → Prop), j_wp b' 121 0 [v, .int act, .int (Int32.ofInt 0), .int (Int32.ofInt 2)] [] H Q = Q (some (.int (Int32.ofInt 1))) H := fun b' v H Q => by
    rw [k121, t_bzT (by rw [ha]; decide)]
  obtain ⟨B, hB⟩ : ∃ B, B = j_aM H := ⟨_, rfl⟩
  have etm : j_sI H 81 52 (Int32.ofInt 0) = B [] := by rw [hB]; rfl
  have hBI : ∀ bs a k, ¬ a = 110 → ¬ (a = 81 ∧ k = 52) → j_scr a k = false → j_I (B bs) a k = j_I C a k := fun bs a k h1 h3 h4 => by rw [hB, tm_I h1 h3, rd_I hC h4]
  have hBR : ∀ bs a k, j_scr a k = false → j_R (B bs) a k = j_R C a k := fun bs a k h2 => by rw [hB, tm_R, rd_R hC h2]
  have hBc : ∀ bs a, j_cls (B bs) a = j_cls C a := fun bs a => by rw [hB, tm_cls, rd_cls hC]
  have hBt : ∀ bs a, j_tp (B bs) a = j_tp C a := fun bs a => by rw [hB, tm_tp, rd_tp hC]
  have hBl : ∀ bs a, j_ln (B bs) a = j_ln C a := fun bs a => by rw [hB, tm_ln, rd_ln hC]
  have hk63 : ∀ (b' : Nat) (bs : List Int) (y : Int) (Q : Option Value → j_H → Prop), bs.length < 20 → j_wp b' 183 0 [.ref 81, .int (Int32.ofInt y)] [] (B bs) Q = Q none (B (bs ++ [y])) := fun b' bs y Q hl => by rw [hB]; exact k183 hC hW hl
  rw [etm] at hk1
  have hfin : Q (some (.int (j_acv 6 1 x g (j_I C 83 g.toInt.toNat)))) (j_bo 110 81 52 0 (j_acb 6 1) (j_sI H 81 52 (Int32.ofInt 0))) = Q (some (.int (j_acv 6 1 x g (j_I C 83 g.toInt.toNat)))) (B (j_acb 6 1)) := by rw [hB]; rfl
  rw [hfin]
  have p1 : ∀ bs, j_vc (B bs) (.ref 81) = 12 := fun bs => by rw [v_vc, hBc]; exact w_c81 hW
  have f4 : ∀ bs, va_rf (j_R (B bs) (j_pa (.ref 81)) 4) = .ref 82 := fun bs => by rw [v_pa, hBR _ _ _ rfl, w_r81_4 hW]; rfl
  have f5 : ∀ bs, va_rf (j_R (B bs) (j_pa (.ref 81)) 5) = .ref 83 := fun bs => by rw [v_pa, hBR _ _ _ rfl, w_r81_5 hW]; rfl
  have p2 : ∀ bs, j_vt (B bs) (va_rf (j_R (B bs) (j_pa (.ref 81)) 4)) = 0 := fun bs => by rw [f4, v_vt, hBt]; exact w_t82 hW
  have p2' : ∀ bs, j_vt (B bs) (va_rf (j_R (B bs) (j_pa (.ref 81)) 5)) = 0 := fun bs => by rw [f5, v_vt, hBt]; exact w_t83 hW
  have p3 : 0 ≤ g.toInt := hg.1
  have p4 : ∀ bs, g.toInt < ((j_vl (B bs) (va_rf (j_R (B bs) (j_pa (.ref 81)) 4)) : Nat) : Int) := fun bs => by rw [f4, v_vl, hBl, w_n82 hW]; have := h2.2; omega
  have p4' : ∀ bs, g.toInt < ((j_vl (B bs) (va_rf (j_R (B bs) (j_pa (.ref 81)) 5)) : Nat) : Int) := fun bs => by rw [f5, v_vl, hBl, w_n83 hW]; have := h2.2; omega
  have kd : ∀ bs, (j_I (B bs) (j_pa (va_rf (j_R (B bs) (j_pa (.ref 81)) 4))) (j_ix g)).toInt = 6 := fun bs => by rw [f4, v_pa, hBI _ _ _ (by decide) (by omega) rfl]; exact hk'
  have vv : ∀ bs, j_I (B bs) (j_pa (va_rf (j_R (B bs) (j_pa (.ref 81)) 5))) (j_ix g) = j_I C 83 g.toInt.toNat := fun bs => by rw [f5, v_pa, hBI _ _ _ (by decide) (by omega) rfl]; rfl
  rw [b191_0 (by rw [v_vc, rd_cls hC]; exact w_c81 hW), v_pa, etm]
  clear hfin hB hk hn hn2 hg hC1 e810 hBI hBR hBc hBt hBl f4 f5 etm
  simp (disch := (first | exact p1 _ | exact p2 _ | exact p2' _ | exact p3 | exact p4 _ | exact p4' _ | (simp only [kd] <;> omega) | decide | omega | fail)) only [↓if_pos, ↓if_neg, ↓b191_5, ↓b191_10, ↓b191_13, ↓b191_20, ↓b191_23, ↓b191_25, ↓b191_29, ↓b191_35, ↓b191_38, ↓b191_43, ↓b191_49, ↓b191_52, ↓b191_58, ↓b184_0, ↓b184_6, ↓b185_0, ↓b185_40, ↓b185_46, ↓b185_54, ↓b185_55, ↓b185_61, ↓b185_67, ↓b185_69, ↓b185_75, ↓b185_81, ↓b185_89, ↓b185_95, ↓b186_0, ↓b186_6, ↓b186_12, ↓b187_0, ↓b187_6, ↓b187_12, ↓b188_0, ↓b188_40, ↓b188_46, ↓b188_47, ↓b188_53, ↓b188_61, ↓b188_62, ↓b188_68, ↓b188_74, ↓b188_82, ↓b188_84, ↓b188_90, j_ks, j_ke, hk1, hk121, hk63, vv, List.nil_append, List.cons_append]
  all_goals rfl
set_option maxHeartbeats 200000 in
theorem k92_0_2 {b : Nat} {H C : j_H} {g act x : Int32} {Q : Option Value → j_H → Prop} (hC : j_co H = C) (hI : j_In C) (hg : 0 ≤ g.toInt ∧ g.toInt < j_n C) (ha : act.toInt = 2) (hk : j_kd C g.toInt = 0) : j_wp (b + 20) 92 0 [.ref 12, .int g, .int act, .int x, j_u] [] H Q = Q (some (.int (j_acv 0 2 x g (j_I C 83 g.toInt.toNat)))) (j_bo 75 74 1 0 (j_acb 0 2) (j_sI H 74 1 (Int32.ofInt 0))) := by
  have hW := hI.1
  have hN := i_G hI
  obtain ⟨e4, -⟩ := i_n hI
  obtain ⟨a1, a2, -⟩ := i_r hI
  have h2 : 0 ≤ g.toInt ∧ g.toInt < (j_I C 81 0).toInt := hg
  obtain ⟨r, hr, hG⟩ := i_gs hI hg.1 hg.2
  obtain ⟨g1, g2, g3, g4, g5, -⟩ := id hG
  rw [hk] at g2
  have gk : j_cls C r = 2 := g2
  have sr := j_scr_r g1
  have g4' : j_I C r 1 = g := t_ext g4
  have g5' : j_I C r 2 = j_I C 83 g.toInt.toNat := t_ext g5
  have hC1 : j_co (j_sI H 74 1 (Int32.ofInt 0)) = j_sI C 74 1 (Int32.ofInt 0) := by rw [c_sI' rfl, hC]
  have e134 : j_I (j_sI C 74 1 (Int32.ofInt 0)) 13 4 = j_I C 81 0 := by rw [h_II, if_neg (by decide)]; exact e4
  have hk1 := fun (b' : Nat) (Q : Option Value → j_H → Prop) => k1 (b := b') (x := g) (Q := Q) hC1 (show j_Wd (j_sI C 74 1 (Int32.ofInt 0)) from hW) (by rw [e134]; exact a2) hN
  simp only [e134] at hk1
  have hr' : va_rf (j_R (j_sI C 74 1 (Int32.ofInt 0)) 14 (j_ix g)) = .ref r := by show va_rf (j_R C 14 g.toInt.toNat) = _; rw [hr]; rfl
  simp only [if_pos h2, hr'] at hk1
  have n11 : ¬ r = 11 := by omega
  have n74 : ¬ (r = 74 ∨ r = 75) := by omega
  obtain ⟨B, hB⟩ : ∃ B, B = j_aB H := ⟨_, rfl⟩
  have etb : j_sI H 74 1 (Int32.ofInt 0) = B [] := by rw [hB]; rfl
  have hBI : ∀ bs a k, ¬ (a = 74 ∨ a = 75) → j_scr a k = false → j_I (B bs) a k = j_I C a k := fun bs a k h1 h2 => by rw [hB, tb_I h1, rd_I hC h2]
  have hBR : ∀ bs a k, j_scr a k = false → j_R (B bs) a k = j_R C a k := fun bs a k h2 => by rw [hB, tb_R, rd_R hC h2]
  have hBc : ∀ bs a, j_cls (B bs) a = j_cls C a := fun bs a => by rw [hB, tb_cls, rd_cls hC]
  have hBt : ∀ bs a, j_tp (B bs) a = j_tp C a := fun bs a => by rw [hB, tb_tp, rd_tp hC]
  have hBl : ∀ bs a, j_ln (B bs) a = j_ln C a := fun bs a => by rw [hB, tb_ln, rd_ln hC]
  have hk63 : ∀ (b' : Nat) (bs : List Int) (y : Int) (Q : Option Value → j_H → Prop), bs.length < 20 → j_wp b' 63 0 [.ref 74, .int (Int32.ofInt y)] [] (B bs) Q = Q none (B (bs ++ [y])) := fun b' bs y Q hl => by rw [hB]; exact k63 hC hW hl
  rw [etb] at hk1
  have hfin : Q (some (.int (j_acv 0 2 x g (j_I C 83 g.toInt.toNat)))) (j_bo 75 74 1 0 (j_acb 0 2) (j_sI H 74 1 (Int32.ofInt 0))) = Q (some (.int (j_acv 0 2 x g (j_I C 83 g.toInt.toNat)))) (B (j_acb 0 2)) := by rw [hB]; rfl
  rw [hfin]
  clear hfin hB hk hG hI hN hg h2 hr hr'
  simp (disch := (first | assumption | exact n_N11 | exact n_R11 (by decide) | exact n_bz | (simp (disch := (first | assumption | omega | decide)) only [v_rs, v_rn, v_pa, v_vc, v_vt, v_vl, v_ir, v_in, v_po, v_pn, v_re, v_rN, v_Nr, v_fe, v_fN, v_c1i, v_c1r, v_c1n, v_c1u, v_c1f, v_if, h_II, h_LL, h_RR, h_IL, h_IR, h_LI, h_LR, h_RI, h_RL, h_Ic, h_Lc, h_Rc, h_Id, h_Ld, h_Rd, h_cls_sI, h_cls_sL, h_cls_sR, h_cls_cI, h_cls_cL, h_tp_sI, h_tp_sL, h_tp_sR, h_tp_cI, h_tp_cL, h_ln_sI, h_ln_sL, h_ln_sR, h_ln_cI, h_ln_cL, v_if, j_scr, w_c12 hW, w_r12_0 hW, w_r12_1 hW, w_r12_3 hW, w_r12_5 hW, w_r12_7 hW, w_r12_8 hW, w_r12_9 hW, w_r12_10 hW, w_r12_11 hW, w_r12_12 hW, w_r12_13 hW, w_c74 hW, w_r74_0 hW, j_Wd_I, j_Wd_L, t_addo, t_subo, t_mulo, t_of, t_divc, t_remc, t_em, Int.toNat_zero, j_ix, Int.toNat_natCast, t_addc, t_subc, t_mulc, t_bz0, t_bz1, Classical.not_not, not_false_eq_true, if_true, if_false, and_true, true_and, and_false, false_and, and_self, or_true, true_or, or_false, false_or, not_true_eq_false, reduceIte, ite_self, implies_true, p_I, p_L, p_R, q_I, q_L, q_R, p_cls, p_tp, p_ln, p_cop, p_cov, rd_I hC, rd_L hC, rd_R hC, rd_cls hC, rd_tp hC, rd_ln hC, hC, hW] <;> first | omega | rfl | decide) | omega | decide | fail)) only [↓if_pos, ↓if_neg, ↓b92_0, ↓b92_62, ↓b92_73, ↓b92_84, ↓b92_85, ↓b62_0, ↓b62_5, v_rs, v_rn, v_pa, v_vc, v_vt, v_vl, v_ir, v_in, v_po, v_pn, v_re, v_rN, v_Nr, v_fe, v_fN, v_c1i, v_c1r, v_c1n, v_c1u, v_c1f, v_if, h_II, h_LL, h_RR, h_IL, h_IR, h_LI, h_LR, h_RI, h_RL, h_Ic, h_Lc, h_Rc, h_Id, h_Ld, h_Rd, h_cls_sI, h_cls_sL, h_cls_sR, h_cls_cI, h_cls_cL, h_tp_sI, h_tp_sL, h_tp_sR, h_tp_cI, h_tp_cL, h_ln_sI, h_ln_sL, h_ln_sR, h_ln_cI, h_ln_cL, v_if, w_c12 hW, w_r12_0 hW, w_r12_1 hW, w_r12_3 hW, w_r12_5 hW, w_r12_7 hW, w_r12_8 hW, w_r12_9 hW, w_r12_10 hW, w_r12_11 hW, w_r12_12 hW, w_r12_13 hW, w_c74 hW, w_r74_0 hW, j_ks, j_ke, t_addo, t_subo, t_mulo, t_of, t_divc, t_remc, t_em, Int.toNat_zero, j_ix, Int.toNat_natCast, t_addc, t_subc, t_mulc, t_bz0, t_bz1, Classical.not_not, not_false_eq_true, if_true, if_false, and_true, true_and, and_false, false_and, and_self, or_true, true_or, or_false, false_or, not_true_eq_false, reduceIte, ite_self, implies_true, p_I, p_L, p_R, q_I, q_L, q_R, p_cls, p_tp, p_ln, p_cop, p_cov, rd_I hC, rd_L hC, rd_R hC, rd_cls hC, rd_tp hC, rd_ln hC, hC, hW]
  rw [etb]
  have c74 : ∀ bs, j_vc (B bs) (.ref 74) = 10 := fun bs => by rw [v_vc, hBc]; exact w_c74 hW
  have c12 : ∀ bs, j_vc (B bs) (.ref 12) = 11 := fun bs => by rw [v_vc, hBc]; exact w_c12 hW
  have cr : ∀ bs, j_vc (B bs) (.ref r) = 2 := fun bs => by rw [v_vc, hBc]; exact gk
  have a12 : ∀ bs, va_rf (j_R (B bs) (j_pa (.ref 12)) 8) = .ref 74 := fun bs => by rw [v_pa, hBR _ _ _ rfl, w_r12_8 hW]; rfl
  have a120 : ∀ bs, va_rf (j_R (B bs) (j_pa (.ref 12)) 0) = .ref 13 := fun bs => by rw [v_pa, hBR _ _ _ rfl, w_r12_0 hW]; rfl
  have a12' : ∀ bs, va_rf (j_R (B bs) 12 8) = .ref 74 := a12
  have a120' : ∀ bs, va_rf (j_R (B bs) 12 0) = .ref 13 := a120
  have c13 : ∀ bs, j_vc (B bs) (.ref 13) = 0 := fun bs => by rw [v_vc, hBc]; exact w_c13 hW
  have gI1 : ∀ bs, j_I (B bs) r 1 = g := fun bs => (hBI _ _ _ n74 (sr _)).trans g4'
  have gI2 : ∀ bs, j_I (B bs) r 2 = j_I C 83 g.toInt.toNat := fun bs => (hBI _ _ _ n74 (sr _)).trans g5'
  have nr11 : ¬ (Value.ref r) = .ref 11 := fun h => by injection h; contradiction
  have nrn : ¬ (Value.ref r) = .null := fun h => by cases h
  clear hBI hBR hBc hBt hBl g2 g3 g4 g5 hC1 e134 n11 n74 sr gk g4' g5' e4 a1 a2
  simp (disch := (first | exact c74 _ | exact cr _ | exact c12 _ | exact v_ir | exact nr11 | exact nrn | exact ha | (simp only [a12, a120, a12', a120', c74, cr, c12, c13, v_ir] <;> decide) | decide | omega | fail)) only [↓if_pos, ↓if_neg, ↓b92_7, ↓b92_15, ↓b92_22, ↓b92_24, ↓b92_52_2, ↓b92_62, ↓b92_63_2, ↓b92_73, ↓b92_74_2, ↓b92_84, ↓b92_85, ↓b18_0, ↓b18_6, ↓b44_0, ↓b44_6, ↓b44_14, ↓b47_0, ↓b47_6, ↓b47_12, ↓b60_0, ↓b60_6, ↓b60_12, ↓b19_0, ↓b19_6_2, ↓b19_12, ↓b38_0, ↓b38_6, ↓b38_12, ↓b48_0, ↓b48_6, ↓b48_14, ↓b59_0, ↓b59_6, ↓b59_12, ↓b59_18, ↓b20_0, ↓b20_6_2, ↓b20_12, ↓b15_0, ↓b15_6, ↓b15_17, ↓b41_0, ↓b41_6, ↓b41_18, j_ks, j_ke, hk1, hk63, a12, a120, a12', a120', v_pa, gI1, gI2, List.nil_append, List.cons_append]
  all_goals rfl
set_option maxHeartbeats 200000 in
theorem k191_0_2 {b : Nat} {H C : j_H} {g act x : Int32} {Q : Option Value → j_H → Prop} (hC : j_co H = C) (hW : j_Wd C) (hn : 0 ≤ (j_I C 81 0).toInt) (hn2 : (j_I C 81 0).toInt ≤ 7) (hg : 0 ≤ g.toInt ∧ g.toInt < j_n C) (ha : act.toInt = 2) (hk : j_kd C g.toInt = 0) : j_wp (b + 20) 191 0 [.ref 81, .int g, .int act, .int x] [] H Q = Q (some (.int (j_acv 0 2 x g (j_I C 83 g.toInt.toNat)))) (j_bo 110 81 52 0 (j_acb 0 2) (j_sI H 81 52 (Int32.ofInt 0))) := by
  have h2 : 0 ≤ g.toInt ∧ g.toInt < (j_I C 81 0).toInt := hg
  have hk' : (j_I C 82 g.toInt.toNat).toInt = 0 := hk
  have hC1 : j_co (j_sI H 81 52 (Int32.ofInt 0)) = j_sI C 81 52 (Int32.ofInt 0) := by rw [c_sI' rfl, hC]
  have e810 : j_I (j_sI C 81 52 (Int32.ofInt 0)) 81 0 = j_I C 81 0 := by rw [h_II, if_neg (by decide)]
  have hk1 := fun (b' : Nat) (Q : Option Value → j_H → Prop) => k124 (b := b') (x := g) (Q := Q) hC1 (show j_Wd (j_sI C 81 52 (Int32.ofInt 0)) from hW) (by rw [e810]; exact hn) (by rw [e810]; exact hn2)
  simp only [e810, t_bzT h2] at hk1
  have hk121 : ∀ (b' : Nat) (v : Value) (H : j_H) (Q : Option Value → j_H → Prop), j_wp b' 121 0 [v, .int act, .int (Int32.ofInt 0), .int (Int32.ofInt 2)] [] H Q = Q (some (.int (Int32.ofInt 1))) H := fun b' v H Q => by
    rw [k121, t_bzT (by rw [ha]; decide)]
  obtain ⟨B, hB⟩ : ∃ B, B = j_aM H := ⟨_, rfl⟩
  have etm : j_sI H 81 52 (Int32.ofInt 0) = B [] := by rw [hB]; rfl
  have hBI : ∀ bs a k, ¬ a = 110 → ¬ (a = 81 ∧ k = 52) → j_scr a k = false → j_I (B bs) a k = j_I C a k := fun bs a k h1 h3 h4 => by rw [hB, tm_I h1 h3, rd_I hC h4]
  have hBR : ∀ bs a k, j_scr a k = false → j_R (B bs) a k = j_R C a k := fun bs a k h2 => by rw [hB, tm_R, rd_R hC h2]
  have hBc : ∀ bs a, j_cls (B bs) a = j_cls C a := fun bs a => by rw [hB, tm_cls, rd_cls hC]
  have hBt : ∀ bs a, j_tp (B bs) a = j_tp C a := fun bs a => by rw [hB, tm_tp, rd_tp hC]
  have hBl : ∀ bs a, j_ln (B bs) a = j_ln C a := fun bs a => by rw [hB, tm_ln, rd_ln hC]
  have hk63 : ∀ (b' : Nat) (bs : List Int) (y : Int) (Q : Option Value → j_H → Prop), bs.length < 20 → j_wp b' 183 0 [.ref 81, .int (Int32.ofInt y)] [] (B bs) Q = Q none (B (bs ++ [y])) := fun b' bs y Q hl => by rw [hB]; exact k183 hC hW hl
  rw [etm] at hk1
  have hfin : Q (some (.int (j_acv 0 2 x g (j_I C 83 g.toInt.toNat)))) (j_bo 110 81 52 0 (j_acb 0 2) (j_sI H 81 52 (Int32.ofInt 0))) = Q (some (.int (j_acv 0 2 x g (j_I C 83 g.toInt.toNat)))) (B (j_acb 0 2)) := by rw [hB]; rfl
  rw [hfin]
  have p1 : ∀ bs, j_vc (B bs) (.ref 81) = 12 := fun bs => by rw [v_vc, hBc]; exact w_c81 hW
  have f4 : ∀ bs, va_rf (j_R (B bs) (j_pa (.ref 81)) 4) = .ref 82 := fun bs => by rw [v_pa, hBR _ _ _ rfl, w_r81_4 hW]; rfl
  have f5 : ∀ bs, va_rf (j_R (B bs) (j_pa (.ref 81)) 5) = .ref 83 := fun bs => by rw [v_pa, hBR _ _ _ rfl, w_r81_5 hW]; rfl
  have p2 : ∀ bs, j_vt (B bs) (va_rf (j_R (B bs) (j_pa (.ref 81)) 4)) = 0 := fun bs => by rw [f4, v_vt, hBt]; exact w_t82 hW
  have p2' : ∀ bs, j_vt (B bs) (va_rf (j_R (B bs) (j_pa (.ref 81)) 5)) = 0 := fun bs => by rw [f5, v_vt, hBt]; exact w_t83 hW
  have p3 : 0 ≤ g.toInt := hg.1
  have p4 : ∀ bs, g.toInt < ((j_vl (B bs) (va_rf (j_R (B bs) (j_pa (.ref 81)) 4)) : Nat) : Int) := fun bs => by rw [f4, v_vl, hBl, w_n82 hW]; have := h2.2; omega
  have p4' : ∀ bs, g.toInt < ((j_vl (B bs) (va_rf (j_R (B bs) (j_pa (.ref 81)) 5)) : Nat) : Int) := fun bs => by rw [f5, v_vl, hBl, w_n83 hW]; have := h2.2; omega
  have kd : ∀ bs, (j_I (B bs) (j_pa (va_rf (j_R (B bs) (j_pa (.ref 81)) 4))) (j_ix g)).toInt = 0 := fun bs => by rw [f4, v_pa, hBI _ _ _ (by decide) (by omega) rfl]; exact hk'
  have vv : ∀ bs, j_I (B bs) (j_pa (va_rf (j_R (B bs) (j_pa (.ref 81)) 5))) (j_ix g) = j_I C 83 g.toInt.toNat := fun bs => by rw [f5, v_pa, hBI _ _ _ (by decide) (by omega) rfl]; rfl
  rw [b191_0 (by rw [v_vc, rd_cls hC]; exact w_c81 hW), v_pa, etm]
  clear hfin hB hk hn hn2 hg hC1 e810 hBI hBR hBc hBt hBl f4 f5 etm
  simp (disch := (first | exact p1 _ | exact p2 _ | exact p2' _ | exact p3 | exact p4 _ | exact p4' _ | (simp only [kd] <;> omega) | decide | omega | fail)) only [↓if_pos, ↓if_neg, ↓b191_5, ↓b191_10, ↓b191_13, ↓b191_20, ↓b191_23, ↓b191_25, ↓b191_29, ↓b191_35, ↓b191_38, ↓b191_43, ↓b191_49, ↓b191_52, ↓b191_58, ↓b184_0, ↓b184_6, ↓b185_0, ↓b185_40, ↓b185_46, ↓b185_54, ↓b185_55, ↓b185_61, ↓b185_67, ↓b185_69, ↓b185_75, ↓b185_81, ↓b185_89, ↓b185_95, ↓b186_0, ↓b186_6, ↓b186_12, ↓b187_0, ↓b187_6, ↓b187_12, ↓b188_0, ↓b188_40, ↓b188_46, ↓b188_47, ↓b188_53, ↓b188_61, ↓b188_62, ↓b188_68, ↓b188_74, ↓b188_82, ↓b188_84, ↓b188_90, ↓b189_0, ↓b189_6, ↓b189_12, ↓b190_0, ↓b190_36, ↓b190_42, ↓b190_48, ↓b190_56, ↓b190_58, ↓b190_64, ↓b190_72, ↓b190_73, ↓b190_79, j_ks, j_ke, hk1, hk121, hk63, vv, List.nil_append, List.cons_append]
  all_goals rfl
set_option maxHeartbeats 200000 in
theorem k92_1_2 {b : Nat} {H C : j_H} {g act x : Int32} {Q : Option Value → j_H → Prop} (hC : j_co H = C) (hI : j_In C) (hg : 0 ≤ g.toInt ∧ g.toInt < j_n C) (ha : act.toInt = 2) (hk : j_kd C g.toInt = 1) : j_wp (b + 20) 92 0 [.ref 12, .int g, .int act, .int x, j_u] [] H Q = Q (some (.int (j_acv 1 2 x g (j_I C 83 g.toInt.toNat)))) (j_bo 75 74 1 0 (j_acb 1 2) (j_sI H 74 1 (Int32.ofInt 0))) := by
  have hW := hI.1
  have hN := i_G hI
  obtain ⟨e4, -⟩ := i_n hI
  obtain ⟨a1, a2, -⟩ := i_r hI
  have h2 : 0 ≤ g.toInt ∧ g.toInt < (j_I C 81 0).toInt := hg
  obtain ⟨r, hr, hG⟩ := i_gs hI hg.1 hg.2
  obtain ⟨g1, g2, g3, g4, g5, -⟩ := id hG
  rw [hk] at g2
  have gk : j_cls C r = 4 := g2
  have sr := j_scr_r g1
  have g4' : j_I C r 1 = g := t_ext g4
  have g5' : j_I C r 2 = j_I C 83 g.toInt.toNat := t_ext g5
  have hC1 : j_co (j_sI H 74 1 (Int32.ofInt 0)) = j_sI C 74 1 (Int32.ofInt 0) := by rw [c_sI' rfl, hC]
  have e134 : j_I (j_sI C 74 1 (Int32.ofInt 0)) 13 4 = j_I C 81 0 := by rw [h_II, if_neg (by decide)]; exact e4
  have hk1 := fun (b' : Nat) (Q : Option Value → j_H → Prop) => k1 (b := b') (x := g) (Q := Q) hC1 (show j_Wd (j_sI C 74 1 (Int32.ofInt 0)) from hW) (by rw [e134]; exact a2) hN
  simp only [e134] at hk1
  have hr' : va_rf (j_R (j_sI C 74 1 (Int32.ofInt 0)) 14 (j_ix g)) = .ref r := by show va_rf (j_R C 14 g.toInt.toNat) = _; rw [hr]; rfl
  simp only [if_pos h2, hr'] at hk1
  have n11 : ¬ r = 11 := by omega
  have n74 : ¬ (r = 74 ∨ r = 75) := by omega
  obtain ⟨B, hB⟩ : ∃ B, B = j_aB H := ⟨_, rfl⟩
  have etb : j_sI H 74 1 (Int32.ofInt 0) = B [] := by rw [hB]; rfl
  have hBI : ∀ bs a k, ¬ (a = 74 ∨ a = 75) → j_scr a k = false → j_I (B bs) a k = j_I C a k := fun bs a k h1 h2 => by rw [hB, tb_I h1, rd_I hC h2]
  have hBR : ∀ bs a k, j_scr a k = false → j_R (B bs) a k = j_R C a k := fun bs a k h2 => by rw [hB, tb_R, rd_R hC h2]
  have hBc : ∀ bs a, j_cls (B bs) a = j_cls C a := fun bs a => by rw [hB, tb_cls, rd_cls hC]
  have hBt : ∀ bs a, j_tp (B bs) a = j_tp C a := fun bs a => by rw [hB, tb_tp, rd_tp hC]
  have hBl : ∀ bs a, j_ln (B bs) a = j_ln C a := fun bs a => by rw [hB, tb_ln, rd_ln hC]
  have hk63 : ∀ (b' : Nat) (bs : List Int) (y : Int) (Q : Option Value → j_H → Prop), bs.length < 20 → j_wp b' 63 0 [.ref 74, .int (Int32.ofInt y)] [] (B bs) Q = Q none (B (bs ++ [y])) := fun b' bs y Q hl => by rw [hB]; exact k63 hC hW hl
  rw [etb] at hk1
  have hfin : Q (some (.int (j_acv 1 2 x g (j_I C 83 g.toInt.toNat)))) (j_bo 75 74 1 0 (j_acb 1 2) (j_sI H 74 1 (Int32.ofInt 0))) = Q (some (.int (j_acv 1 2 x g (j_I C 83 g.toInt.toNat)))) (B (j_acb 1 2)) := by rw [hB]; rfl
  rw [hfin]
  clear hfin hB hk hG hI hN hg h2 hr hr'
  simp (disch := (first | assumption | exact n_N11 | exact n_R11 (by decide) | exact n_bz | (simp (disch := (first | assumption | omega | decide)) only [v_rs, v_rn, v_pa, v_vc, v_vt, v_vl, v_ir, v_in, v_po, v_pn, v_re, v_rN, v_Nr, v_fe, v_fN, v_c1i, v_c1r, v_c1n, v_c1u, v_c1f, v_if, h_II, h_LL, h_RR, h_IL, h_IR, h_LI, h_LR, h_RI, h_RL, h_Ic, h_Lc, h_Rc, h_Id, h_Ld, h_Rd, h_cls_sI, h_cls_sL, h_cls_sR, h_cls_cI, h_cls_cL, h_tp_sI, h_tp_sL, h_tp_sR, h_tp_cI, h_tp_cL, h_ln_sI, h_ln_sL, h_ln_sR, h_ln_cI, h_ln_cL, v_if, j_scr, w_c12 hW, w_r12_0 hW, w_r12_1 hW, w_r12_3 hW, w_r12_5 hW, w_r12_7 hW, w_r12_8 hW, w_r12_9 hW, w_r12_10 hW, w_r12_11 hW, w_r12_12 hW, w_r12_13 hW, w_c74 hW, w_r74_0 hW, j_Wd_I, j_Wd_L, t_addo, t_subo, t_mulo, t_of, t_divc, t_remc, t_em, Int.toNat_zero, j_ix, Int.toNat_natCast, t_addc, t_subc, t_mulc, t_bz0, t_bz1, Classical.not_not, not_false_eq_true, if_true, if_false, and_true, true_and, and_false, false_and, and_self, or_true, true_or, or_false, false_or, not_true_eq_false, reduceIte, ite_self, implies_true, p_I, p_L, p_R, q_I, q_L, q_R, p_cls, p_tp, p_ln, p_cop, p_cov, rd_I hC, rd_L hC, rd_R hC, rd_cls hC, rd_tp hC, rd_ln hC, hC, hW] <;> first | omega | rfl | decide) | omega | decide | fail)) only [↓if_pos, ↓if_neg, ↓b92_0, ↓b92_62, ↓b92_73, ↓b92_84, ↓b92_85, ↓b62_0, ↓b62_5, v_rs, v_rn, v_pa, v_vc, v_vt, v_vl, v_ir, v_in, v_po, v_pn, v_re, v_rN, v_Nr, v_fe, v_fN, v_c1i, v_c1r, v_c1n, v_c1u, v_c1f, v_if, h_II, h_LL, h_RR, h_IL, h_IR, h_LI, h_LR, h_RI, h_RL, h_Ic, h_Lc, h_Rc, h_Id, h_Ld, h_Rd, h_cls_sI, h_cls_sL, h_cls_sR, h_cls_cI, h_cls_cL, h_tp_sI, h_tp_sL, h_tp_sR, h_tp_cI, h_tp_cL, h_ln_sI, h_ln_sL, h_ln_sR, h_ln_cI, h_ln_cL, v_if, w_c12 hW, w_r12_0 hW, w_r12_1 hW, w_r12_3 hW, w_r12_5 hW, w_r12_7 hW, w_r12_8 hW, w_r12_9 hW, w_r12_10 hW, w_r12_11 hW, w_r12_12 hW, w_r12_13 hW, w_c74 hW, w_r74_0 hW, j_ks, j_ke, t_addo, t_subo, t_mulo, t_of, t_divc, t_remc, t_em, Int.toNat_zero, j_ix, Int.toNat_natCast, t_addc, t_subc, t_mulc, t_bz0, t_bz1, Classical.not_not, not_false_eq_true, if_true, if_false, and_true, true_and, and_false, false_and, and_self, or_true, true_or, or_false, false_or, not_true_eq_false, reduceIte, ite_self, implies_true, p_I, p_L, p_R, q_I, q_L, q_R, p_cls, p_tp, p_ln, p_cop, p_cov, rd_I hC, rd_L hC, rd_R hC, rd_cls hC, rd_tp hC, rd_ln hC, hC, hW]
  rw [etb]
  have c74 : ∀ bs, j_vc (B bs) (.ref 74) = 10 := fun bs => by rw [v_vc, hBc]; exact w_c74 hW
  have c12 : ∀ bs, j_vc (B bs) (.ref 12) = 11 := fun bs => by rw [v_vc, hBc]; exact w_c12 hW
  have cr : ∀ bs, j_vc (B bs) (.ref r) = 4 := fun bs => by rw [v_vc, hBc]; exact gk
  have a12 : ∀ bs, va_rf (j_R (B bs) (j_pa (.ref 12)) 8) = .ref 74 := fun bs => by rw [v_pa, hBR _ _ _ rfl, w_r12_8 hW]; rfl
  have a120 : ∀ bs, va_rf (j_R (B bs) (j_pa (.ref 12)) 0) = .ref 13 := fun bs => by rw [v_pa, hBR _ _ _ rfl, w_r12_0 hW]; rfl
  have a12' : ∀ bs, va_rf (j_R (B bs) 12 8) = .ref 74 := a12
  have a120' : ∀ bs, va_rf (j_R (B bs) 12 0) = .ref 13 := a120
  have c13 : ∀ bs, j_vc (B bs) (.ref 13) = 0 := fun bs => by rw [v_vc, hBc]; exact w_c13 hW
  have gI1 : ∀ bs, j_I (B bs) r 1 = g := fun bs => (hBI _ _ _ n74 (sr _)).trans g4'
  have gI2 : ∀ bs, j_I (B bs) r 2 = j_I C 83 g.toInt.toNat := fun bs => (hBI _ _ _ n74 (sr _)).trans g5'
  have nr11 : ¬ (Value.ref r) = .ref 11 := fun h => by injection h; contradiction
  have nrn : ¬ (Value.ref r) = .null := fun h => by cases h
  clear hBI hBR hBc hBt hBl g2 g3 g4 g5 hC1 e134 n11 n74 sr gk g4' g5' e4 a1 a2
  simp (disch := (first | exact c74 _ | exact cr _ | exact c12 _ | exact v_ir | exact nr11 | exact nrn | exact ha | (simp only [a12, a120, a12', a120', c74, cr, c12, c13, v_ir] <;> decide) | decide | omega | fail)) only [↓if_pos, ↓if_neg, ↓b92_7, ↓b92_15, ↓b92_22, ↓b92_24, ↓b92_52_4, ↓b92_62, ↓b92_63_4, ↓b92_73, ↓b92_74_4, ↓b92_84, ↓b92_85, ↓b18_0, ↓b18_6, ↓b44_0, ↓b44_6, ↓b44_14, ↓b47_0, ↓b47_6, ↓b47_12, ↓b60_0, ↓b60_6, ↓b60_12, ↓b19_0, ↓b19_6_4, ↓b19_12, ↓b38_0, ↓b38_6, ↓b38_12, ↓b48_0, ↓b48_6, ↓b48_14, ↓b59_0, ↓b59_6, ↓b59_12, ↓b59_18, ↓b20_0, ↓b20_6_4, ↓b20_12, ↓b15_0, ↓b15_6, ↓b15_17, ↓b41_0, ↓b41_6, ↓b41_18, j_ks, j_ke, hk1, hk63, a12, a120, a12', a120', v_pa, gI1, gI2, List.nil_append, List.cons_append]
  all_goals rfl
set_option maxHeartbeats 200000 in
theorem k191_1_2 {b : Nat} {H C : j_H} {g act x : Int32} {Q : Option Value → j_H → Prop} (hC : j_co H = C) (hW : j_Wd C) (hn : 0 ≤ (j_I C 81 0).toInt) (hn2 : (j_I C 81 0).toInt ≤ 7) (hg : 0 ≤ g.toInt ∧ g.toInt < j_n C) (ha : act.toInt = 2) (hk : j_kd C g.toInt = 1) : j_wp (b + 20) 191 0 [.ref 81, .int g, .int act, .int x] [] H Q = Q (some (.int (j_acv 1 2 x g (j_I C 83 g.toInt.toNat)))) (j_bo 110 81 52 0 (j_acb 1 2) (j_sI H 81 52 (Int32.ofInt 0))) := by
  have h2 : 0 ≤ g.toInt ∧ g.toInt < (j_I C 81 0).toInt := hg
  have hk' : (j_I C 82 g.toInt.toNat).toInt = 1 := hk
  have hC1 : j_co (j_sI H 81 52 (Int32.ofInt 0)) = j_sI C 81 52 (Int32.ofInt 0) := by rw [c_sI' rfl, hC]
  have e810 : j_I (j_sI C 81 52 (Int32.ofInt 0)) 81 0 = j_I C 81 0 := by rw [h_II, if_neg (by decide)]
  have hk1 := fun (b' : Nat) (Q : Option Value → j_H → Prop) => k124 (b := b') (x := g) (Q := Q) hC1 (show j_Wd (j_sI C 81 52 (Int32.ofInt 0)) from hW) (by rw [e810]; exact hn) (by rw [e810]; exact hn2)
  simp only [e810, t_bzT h2] at hk1
  have hk121 : ∀ (b' : Nat) (v : Value) (H : j_H) (Q : Option Value → j_H → Prop), j_wp b' 121 0 [v, .int act, .int (Int32.ofInt 0), .int (Int32.ofInt 2)] [] H Q = Q (some (.int (Int32.ofInt 1))) H := fun b' v H Q => by
    rw [k121, t_bzT (by rw [ha]; decide)]
  obtain ⟨B, hB⟩ : ∃ B, B = j_aM H := ⟨_, rfl⟩
  have etm : j_sI H 81 52 (Int32.ofInt 0) = B [] := by rw [hB]; rfl
  have hBI : ∀ bs a k, ¬ a = 110 → ¬ (a = 81 ∧ k = 52) → j_scr a k = false → j_I (B bs) a k = j_I C a k := fun bs a k h1 h3 h4 => by rw [hB, tm_I h1 h3, rd_I hC h4]
  have hBR : ∀ bs a k, j_scr a k = false → j_R (B bs) a k = j_R C a k := fun bs a k h2 => by rw [hB, tm_R, rd_R hC h2]
  have hBc : ∀ bs a, j_cls (B bs) a = j_cls C a := fun bs a => by rw [hB, tm_cls, rd_cls hC]
  have hBt : ∀ bs a, j_tp (B bs) a = j_tp C a := fun bs a => by rw [hB, tm_tp, rd_tp hC]
  have hBl : ∀ bs a, j_ln (B bs) a = j_ln C a := fun bs a => by rw [hB, tm_ln, rd_ln hC]
  have hk63 : ∀ (b' : Nat) (bs : List Int) (y : Int) (Q : Option Value → j_H → Prop), bs.length < 20 → j_wp b' 183 0 [.ref 81, .int (Int32.ofInt y)] [] (B bs) Q = Q none (B (bs ++ [y])) := fun b' bs y Q hl => by rw [hB]; exact k183 hC hW hl
  rw [etm] at hk1
  have hfin : Q (some (.int (j_acv 1 2 x g (j_I C 83 g.toInt.toNat)))) (j_bo 110 81 52 0 (j_acb 1 2) (j_sI H 81 52 (Int32.ofInt 0))) = Q (some (.int (j_acv 1 2 x g (j_I C 83 g.toInt.toNat)))) (B (j_acb 1 2)) := by rw [hB]; rfl
  rw [hfin]
  have p1 : ∀ bs, j_vc (B bs) (.ref 81) = 12 := fun bs => by rw [v_vc, hBc]; exact w_c81 hW
  have f4 : ∀ bs, va_rf (j_R (B bs) (j_pa (.ref 81)) 4) = .ref 82 := fun bs => by rw [v_pa, hBR _ _ _ rfl, w_r81_4 hW]; rfl
  have f5 : ∀ bs, va_rf (j_R (B bs) (j_pa (.ref 81)) 5) = .ref 83 := fun bs => by rw [v_pa, hBR _ _ _ rfl, w_r81_5 hW]; rfl
  have p2 : ∀ bs, j_vt (B bs) (va_rf (j_R (B bs) (j_pa (.ref 81)) 4)) = 0 := fun bs => by rw [f4, v_vt, hBt]; exact w_t82 hW
  have p2' : ∀ bs, j_vt (B bs) (va_rf (j_R (B bs) (j_pa (.ref 81)) 5)) = 0 := fun bs => by rw [f5, v_vt, hBt]; exact w_t83 hW
  have p3 : 0 ≤ g.toInt := hg.1
  have p4 : ∀ bs, g.toInt < ((j_vl (B bs) (va_rf (j_R (B bs) (j_pa (.ref 81)) 4)) : Nat) : Int) := fun bs => by rw [f4, v_vl, hBl, w_n82 hW]; have := h2.2; omega
  have p4' : ∀ bs, g.toInt < ((j_vl (B bs) (va_rf (j_R (B bs) (j_pa (.ref 81)) 5)) : Nat) : Int) := fun bs => by rw [f5, v_vl, hBl, w_n83 hW]; have := h2.2; omega
  have kd : ∀ bs, (j_I (B bs) (j_pa (va_rf (j_R (B bs) (j_pa (.ref 81)) 4))) (j_ix g)).toInt = 1 := fun bs => by rw [f4, v_pa, hBI _ _ _ (by decide) (by omega) rfl]; exact hk'
  have vv : ∀ bs, j_I (B bs) (j_pa (va_rf (j_R (B bs) (j_pa (.ref 81)) 5))) (j_ix g) = j_I C 83 g.toInt.toNat := fun bs => by rw [f5, v_pa, hBI _ _ _ (by decide) (by omega) rfl]; rfl
  rw [b191_0 (by rw [v_vc, rd_cls hC]; exact w_c81 hW), v_pa, etm]
  clear hfin hB hk hn hn2 hg hC1 e810 hBI hBR hBc hBt hBl f4 f5 etm
  simp (disch := (first | exact p1 _ | exact p2 _ | exact p2' _ | exact p3 | exact p4 _ | exact p4' _ | (simp only [kd] <;> omega) | decide | omega | fail)) only [↓if_pos, ↓if_neg, ↓b191_5, ↓b191_10, ↓b191_13, ↓b191_20, ↓b191_23, ↓b191_25, ↓b191_29, ↓b191_35, ↓b191_38, ↓b191_43, ↓b191_49, ↓b191_52, ↓b191_58, ↓b184_0, ↓b184_6, ↓b185_0, ↓b185_40, ↓b185_46, ↓b185_54, ↓b185_55, ↓b185_61, ↓b185_67, ↓b185_69, ↓b185_75, ↓b185_81, ↓b185_89, ↓b185_95, ↓b186_0, ↓b186_6, ↓b186_12, ↓b187_0, ↓b187_6, ↓b187_12, ↓b188_0, ↓b188_40, ↓b188_46, ↓b188_47, ↓b188_53, ↓b188_61, ↓b188_62, ↓b188_68, ↓b188_74, ↓b188_82, ↓b188_84, ↓b188_90, ↓b189_0, ↓b189_6, ↓b189_12, ↓b190_0, ↓b190_36, ↓b190_42, ↓b190_48, ↓b190_56, ↓b190_58, ↓b190_64, ↓b190_72, ↓b190_73, ↓b190_79, j_ks, j_ke, hk1, hk121, hk63, vv, List.nil_append, List.cons_append]
  all_goals rfl
set_option maxHeartbeats 200000 in
theorem k92_2_2 {b : Nat} {H C : j_H} {g act x : Int32} {Q : Option Value → j_H → Prop} (hC : j_co H = C) (hI : j_In C) (hg : 0 ≤ g.toInt ∧ g.toInt < j_n C) (ha : act.toInt = 2) (hk : j_kd C g.toInt = 2) : j_wp (b + 20) 92 0 [.ref 12, .int g, .int act, .int x, j_u] [] H Q = Q (some (.int (j_acv 2 2 x g (j_I C 83 g.toInt.toNat)))) (j_bo 75 74 1 0 (j_acb 2 2) (j_sI H 74 1 (Int32.ofInt 0))) := by
  have hW := hI.1
  have hN := i_G hI
  obtain ⟨e4, -⟩ := i_n hI
  obtain ⟨a1, a2, -⟩ := i_r hI
  have h2 : 0 ≤ g.toInt ∧ g.toInt < (j_I C 81 0).toInt := hg
  obtain ⟨r, hr, hG⟩ := i_gs hI hg.1 hg.2
  obtain ⟨g1, g2, g3, g4, g5, -⟩ := id hG
  rw [hk] at g2
  have gk : j_cls C r = 6 := g2
  have sr := j_scr_r g1
  have g4' : j_I C r 1 = g := t_ext g4
  have g5' : j_I C r 2 = j_I C 83 g.toInt.toNat := t_ext g5
  have hC1 : j_co (j_sI H 74 1 (Int32.ofInt 0)) = j_sI C 74 1 (Int32.ofInt 0) := by rw [c_sI' rfl, hC]
  have e134 : j_I (j_sI C 74 1 (Int32.ofInt 0)) 13 4 = j_I C 81 0 := by rw [h_II, if_neg (by decide)]; exact e4
  have hk1 := fun (b' : Nat) (Q : Option Value → j_H → Prop) => k1 (b := b') (x := g) (Q := Q) hC1 (show j_Wd (j_sI C 74 1 (Int32.ofInt 0)) from hW) (by rw [e134]; exact a2) hN
  simp only [e134] at hk1
  have hr' : va_rf (j_R (j_sI C 74 1 (Int32.ofInt 0)) 14 (j_ix g)) = .ref r := by show va_rf (j_R C 14 g.toInt.toNat) = _; rw [hr]; rfl
  simp only [if_pos h2, hr'] at hk1
  have n11 : ¬ r = 11 := by omega
  have n74 : ¬ (r = 74 ∨ r = 75) := by omega
  obtain ⟨B, hB⟩ : ∃ B, B = j_aB H := ⟨_, rfl⟩
  have etb : j_sI H 74 1 (Int32.ofInt 0) = B [] := by rw [hB]; rfl
  have hBI : ∀ bs a k, ¬ (a = 74 ∨ a = 75) → j_scr a k = false → j_I (B bs) a k = j_I C a k := fun bs a k h1 h2 => by rw [hB, tb_I h1, rd_I hC h2]
  have hBR : ∀ bs a k, j_scr a k = false → j_R (B bs) a k = j_R C a k := fun bs a k h2 => by rw [hB, tb_R, rd_R hC h2]
  have hBc : ∀ bs a, j_cls (B bs) a = j_cls C a := fun bs a => by rw [hB, tb_cls, rd_cls hC]
  have hBt : ∀ bs a, j_tp (B bs) a = j_tp C a := fun bs a => by rw [hB, tb_tp, rd_tp hC]
  have hBl : ∀ bs a, j_ln (B bs) a = j_ln C a := fun bs a => by rw [hB, tb_ln, rd_ln hC]
  have hk63 : ∀ (b' : Nat) (bs : List Int) (y : Int) (Q : Option Value → j_H → Prop), bs.length < 20 → j_wp b' 63 0 [.ref 74, .int (Int32.ofInt y)] [] (B bs) Q = Q none (B (bs ++ [y])) := fun b' bs y Q hl => by rw [hB]; exact k63 hC hW hl
  rw [etb] at hk1
  have hfin : Q (some (.int (j_acv 2 2 x g (j_I C 83 g.toInt.toNat)))) (j_bo 75 74 1 0 (j_acb 2 2) (j_sI H 74 1 (Int32.ofInt 0))) = Q (some (.int (j_acv 2 2 x g (j_I C 83 g.toInt.toNat)))) (B (j_acb 2 2)) := by rw [hB]; rfl
  rw [hfin]
  clear hfin hB hk hG hI hN hg h2 hr hr'
  simp (disch := (first | assumption | exact n_N11 | exact n_R11 (by decide) | exact n_bz | (simp (disch := (first | assumption | omega | decide)) only [v_rs, v_rn, v_pa, v_vc, v_vt, v_vl, v_ir, v_in, v_po, v_pn, v_re, v_rN, v_Nr, v_fe, v_fN, v_c1i, v_c1r, v_c1n, v_c1u, v_c1f, v_if, h_II, h_LL, h_RR, h_IL, h_IR, h_LI, h_LR, h_RI, h_RL, h_Ic, h_Lc, h_Rc, h_Id, h_Ld, h_Rd, h_cls_sI, h_cls_sL, h_cls_sR, h_cls_cI, h_cls_cL, h_tp_sI, h_tp_sL, h_tp_sR, h_tp_cI, h_tp_cL, h_ln_sI, h_ln_sL, h_ln_sR, h_ln_cI, h_ln_cL, v_if, j_scr, w_c12 hW, w_r12_0 hW, w_r12_1 hW, w_r12_3 hW, w_r12_5 hW, w_r12_7 hW, w_r12_8 hW, w_r12_9 hW, w_r12_10 hW, w_r12_11 hW, w_r12_12 hW, w_r12_13 hW, w_c74 hW, w_r74_0 hW, j_Wd_I, j_Wd_L, t_addo, t_subo, t_mulo, t_of, t_divc, t_remc, t_em, Int.toNat_zero, j_ix, Int.toNat_natCast, t_addc, t_subc, t_mulc, t_bz0, t_bz1, Classical.not_not, not_false_eq_true, if_true, if_false, and_true, true_and, and_false, false_and, and_self, or_true, true_or, or_false, false_or, not_true_eq_false, reduceIte, ite_self, implies_true, p_I, p_L, p_R, q_I, q_L, q_R, p_cls, p_tp, p_ln, p_cop, p_cov, rd_I hC, rd_L hC, rd_R hC, rd_cls hC, rd_tp hC, rd_ln hC, hC, hW] <;> first | omega | rfl | decide) | omega | decide | fail)) only [↓if_pos, ↓if_neg, ↓b92_0, ↓b92_62, ↓b92_73, ↓b92_84, ↓b92_85, ↓b62_0, ↓b62_5, v_rs, v_rn, v_pa, v_vc, v_vt, v_vl, v_ir, v_in, v_po, v_pn, v_re, v_rN, v_Nr, v_fe, v_fN, v_c1i, v_c1r, v_c1n, v_c1u, v_c1f, v_if, h_II, h_LL, h_RR, h_IL, h_IR, h_LI, h_LR, h_RI, h_RL, h_Ic, h_Lc, h_Rc, h_Id, h_Ld, h_Rd, h_cls_sI, h_cls_sL, h_cls_sR, h_cls_cI, h_cls_cL, h_tp_sI, h_tp_sL, h_tp_sR, h_tp_cI, h_tp_cL, h_ln_sI, h_ln_sL, h_ln_sR, h_ln_cI, h_ln_cL, v_if, w_c12 hW, w_r12_0 hW, w_r12_1 hW, w_r12_3 hW, w_r12_5 hW, w_r12_7 hW, w_r12_8 hW, w_r12_9 hW, w_r12_10 hW, w_r12_11 hW, w_r12_12 hW, w_r12_13 hW, w_c74 hW, w_r74_0 hW, j_ks, j_ke, t_addo, t_subo, t_mulo, t_of, t_divc, t_remc, t_em, Int.toNat_zero, j_ix, Int.toNat_natCast, t_addc, t_subc, t_mulc, t_bz0, t_bz1, Classical.not_not, not_false_eq_true, if_true, if_false, and_true, true_and, and_false, false_and, and_self, or_true, true_or, or_false, false_or, not_true_eq_false, reduceIte, ite_self, implies_true, p_I, p_L, p_R, q_I, q_L, q_R, p_cls, p_tp, p_ln, p_cop, p_cov, rd_I hC, rd_L hC, rd_R hC, rd_cls hC, rd_tp hC, rd_ln hC, hC, hW]
  rw [etb]
  have c74 : ∀ bs, j_vc (B bs) (.ref 74) = 10 := fun bs => by rw [v_vc, hBc]; exact w_c74 hW
  have c12 : ∀ bs, j_vc (B bs) (.ref 12) = 11 := fun bs => by rw [v_vc, hBc]; exact w_c12 hW
  have cr : ∀ bs, j_vc (B bs) (.ref r) = 6 := fun bs => by rw [v_vc, hBc]; exact gk
  have a12 : ∀ bs, va_rf (j_R (B bs) (j_pa (.ref 12)) 8) = .ref 74 := fun bs => by rw [v_pa, hBR _ _ _ rfl, w_r12_8 hW]; rfl
  have a120 : ∀ bs, va_rf (j_R (B bs) (j_pa (.ref 12)) 0) = .ref 13 := fun bs => by rw [v_pa, hBR _ _ _ rfl, w_r12_0 hW]; rfl
  have a12' : ∀ bs, va_rf (j_R (B bs) 12 8) = .ref 74 := a12
  have a120' : ∀ bs, va_rf (j_R (B bs) 12 0) = .ref 13 := a120
  have c13 : ∀ bs, j_vc (B bs) (.ref 13) = 0 := fun bs => by rw [v_vc, hBc]; exact w_c13 hW
  have gI1 : ∀ bs, j_I (B bs) r 1 = g := fun bs => (hBI _ _ _ n74 (sr _)).trans g4'
  have gI2 : ∀ bs, j_I (B bs) r 2 = j_I C 83 g.toInt.toNat := fun bs => (hBI _ _ _ n74 (sr _)).trans g5'
  have nr11 : ¬ (Value.ref r) = .ref 11 := fun h => by injection h; contradiction
  have nrn : ¬ (Value.ref r) = .null := fun h => by cases h
  clear hBI hBR hBc hBt hBl g2 g3 g4 g5 hC1 e134 n11 n74 sr gk g4' g5' e4 a1 a2
  simp (disch := (first | exact c74 _ | exact cr _ | exact c12 _ | exact v_ir | exact nr11 | exact nrn | exact ha | (simp only [a12, a120, a12', a120', c74, cr, c12, c13, v_ir] <;> decide) | decide | omega | fail)) only [↓if_pos, ↓if_neg, ↓b92_7, ↓b92_15, ↓b92_22, ↓b92_24, ↓b92_52_6, ↓b92_62, ↓b92_63_6, ↓b92_73, ↓b92_74_6, ↓b92_84, ↓b92_85, ↓b18_0, ↓b18_6, ↓b44_0, ↓b44_6, ↓b44_14, ↓b47_0, ↓b47_6, ↓b47_12, ↓b60_0, ↓b60_6, ↓b60_12, ↓b19_0, ↓b19_6_6, ↓b19_12, ↓b38_0, ↓b38_6, ↓b38_12, ↓b48_0, ↓b48_6, ↓b48_14, ↓b59_0, ↓b59_6, ↓b59_12, ↓b59_18, ↓b20_0, ↓b20_6_6, ↓b20_12, ↓b15_0, ↓b15_6, ↓b15_17, ↓b41_0, ↓b41_6, ↓b41_18, j_ks, j_ke, hk1, hk63, a12, a120, a12', a120', v_pa, gI1, gI2, List.nil_append, List.cons_append]
  all_goals rfl
set_option maxHeartbeats 200000 in
theorem k191_2_2 {b : Nat} {H C : j_H} {g act x : Int32} {Q : Option Value → j_H → Prop} (hC : j_co H = C) (hW : j_Wd C) (hn : 0 ≤ (j_I C 81 0).toInt) (hn2 : (j_I C 81 0).toInt ≤ 7) (hg : 0 ≤ g.toInt ∧ g.toInt < j_n C) (ha : act.toInt = 2) (hk : j_kd C g.toInt = 2) : j_wp (b + 20) 191 0 [.ref 81, .int g, .int act, .int x] [] H Q = Q (some (.int (j_acv 2 2 x g (j_I C 83 g.toInt.toNat)))) (j_bo 110 81 52 0 (j_acb 2 2) (j_sI H 81 52 (Int32.ofInt 0))) := by
  have h2 : 0 ≤ g.toInt ∧ g.toInt < (j_I C 81 0).toInt := hg
  have hk' : (j_I C 82 g.toInt.toNat).toInt = 2 := hk
  have hC1 : j_co (j_sI H 81 52 (Int32.ofInt 0)) = j_sI C 81 52 (Int32.ofInt 0) := by rw [c_sI' rfl, hC]
  have e810 : j_I (j_sI C 81 52 (Int32.ofInt 0)) 81 0 = j_I C 81 0 := by rw [h_II, if_neg (by decide)]
  have hk1 := fun (b' : Nat) (Q : Option Value → j_H → Prop) => k124 (b := b') (x := g) (Q := Q) hC1 (show j_Wd (j_sI C 81 52 (Int32.ofInt 0)) from hW) (by rw [e810]; exact hn) (by rw [e810]; exact hn2)
  simp only [e810, t_bzT h2] at hk1
  have hk121 : ∀ (b' : Nat) (v : Value) (H : j_H) (Q : Option Value → j_H → Prop), j_wp b' 121 0 [v, .int act, .int (Int32.ofInt 0), .int (Int32.ofInt 2)] [] H Q = Q (some (.int (Int32.ofInt 1))) H := fun b' v H Q => by
    rw [k121, t_bzT (by rw [ha]; decide)]
  obtain ⟨B, hB⟩ : ∃ B, B = j_aM H := ⟨_, rfl⟩
  have etm : j_sI H 81 52 (Int32.ofInt 0) = B [] := by rw [hB]; rfl
  have hBI : ∀ bs a k, ¬ a = 110 → ¬ (a = 81 ∧ k = 52) → j_scr a k = false → j_I (B bs) a k = j_I C a k := fun bs a k h1 h3 h4 => by rw [hB, tm_I h1 h3, rd_I hC h4]
  have hBR : ∀ bs a k, j_scr a k = false → j_R (B bs) a k = j_R C a k := fun bs a k h2 => by rw [hB, tm_R, rd_R hC h2]
  have hBc : ∀ bs a, j_cls (B bs) a = j_cls C a := fun bs a => by rw [hB, tm_cls, rd_cls hC]
  have hBt : ∀ bs a, j_tp (B bs) a = j_tp C a := fun bs a => by rw [hB, tm_tp, rd_tp hC]
  have hBl : ∀ bs a, j_ln (B bs) a = j_ln C a := fun bs a => by rw [hB, tm_ln, rd_ln hC]
  have hk63 : ∀ (b' : Nat) (bs : List Int) (y : Int) (Q : Option Value → j_H → Prop), bs.length < 20 → j_wp b' 183 0 [.ref 81, .int (Int32.ofInt y)] [] (B bs) Q = Q none (B (bs ++ [y])) := fun b' bs y Q hl => by rw [hB]; exact k183 hC hW hl
  rw [etm] at hk1
  have hfin : Q (some (.int (j_acv 2 2 x g (j_I C 83 g.toInt.toNat)))) (j_bo 110 81 52 0 (j_acb 2 2) (j_sI H 81 52 (Int32.ofInt 0))) = Q (some (.int (j_acv 2 2 x g (j_I C 83 g.toInt.toNat)))) (B (j_acb 2 2)) := by rw [hB]; rfl
  rw [hfin]
  have p1 : ∀ bs, j_vc (B bs) (.ref 81) = 12 := fun bs => by rw [v_vc, hBc]; exact w_c81 hW
  have f4 : ∀ bs, va_rf (j_R (B bs) (j_pa (.ref 81)) 4) = .ref 82 := fun bs => by rw [v_pa, hBR _ _ _ rfl, w_r81_4 hW]; rfl
  have f5 : ∀ bs, va_rf (j_R (B bs) (j_pa (.ref 81)) 5) = .ref 83 := fun bs => by rw [v_pa, hBR _ _ _ rfl, w_r81_5 hW]; rfl
  have p2 : ∀ bs, j_vt (B bs) (va_rf (j_R (B bs) (j_pa (.ref 81)) 4)) = 0 := fun bs => by rw [f4, v_vt, hBt]; exact w_t82 hW
  have p2' : ∀ bs, j_vt (B bs) (va_rf (j_R (B bs) (j_pa (.ref 81)) 5)) = 0 := fun bs => by rw [f5, v_vt, hBt]; exact w_t83 hW
  have p3 : 0 ≤ g.toInt := hg.1
  have p4 : ∀ bs, g.toInt < ((j_vl (B bs) (va_rf (j_R (B bs) (j_pa (.ref 81)) 4)) : Nat) : Int) := fun bs => by rw [f4, v_vl, hBl, w_n82 hW]; have := h2.2; omega
  have p4' : ∀ bs, g.toInt < ((j_vl (B bs) (va_rf (j_R (B bs) (j_pa (.ref 81)) 5)) : Nat) : Int) := fun bs => by rw [f5, v_vl, hBl, w_n83 hW]; have := h2.2; omega
  have kd : ∀ bs, (j_I (B bs) (j_pa (va_rf (j_R (B bs) (j_pa (.ref 81)) 4))) (j_ix g)).toInt = 2 := fun bs => by rw [f4, v_pa, hBI _ _ _ (by decide) (by omega) rfl]; exact hk'
  have vv : ∀ bs, j_I (B bs) (j_pa (va_rf (j_R (B bs) (j_pa (.ref 81)) 5))) (j_ix g) = j_I C 83 g.toInt.toNat := fun bs => by rw [f5, v_pa, hBI _ _ _ (by decide) (by omega) rfl]; rfl
  rw [b191_0 (by rw [v_vc, rd_cls hC]; exact w_c81 hW), v_pa, etm]
  clear hfin hB hk hn hn2 hg hC1 e810 hBI hBR hBc hBt hBl f4 f5 etm
  simp (disch := (first | exact p1 _ | exact p2 _ | exact p2' _ | exact p3 | exact p4 _ | exact p4' _ | (simp only [kd] <;> omega) | decide | omega | fail)) only [↓if_pos, ↓if_neg, ↓b191_5, ↓b191_10, ↓b191_13, ↓b191_20, ↓b191_23, ↓b191_25, ↓b191_29, ↓b191_35, ↓b191_38, ↓b191_43, ↓b191_49, ↓b191_52, ↓b191_58, ↓b184_0, ↓b184_6, ↓b185_0, ↓b185_40, ↓b185_46, ↓b185_54, ↓b185_55, ↓b185_61, ↓b185_67, ↓b185_69, ↓b185_75, ↓b185_81, ↓b185_89, ↓b185_95, ↓b186_0, ↓b186_6, ↓b186_12, ↓b187_0, ↓b187_6, ↓b187_12, ↓b188_0, ↓b188_40, ↓b188_46, ↓b188_47, ↓b188_53, ↓b188_61, ↓b188_62, ↓b188_68, ↓b188_74, ↓b188_82, ↓b188_84, ↓b188_90, ↓b189_0, ↓b189_6, ↓b189_12, ↓b190_0, ↓b190_36, ↓b190_42, ↓b190_48, ↓b190_56, ↓b190_58, ↓b190_64, ↓b190_72, ↓b190_73, ↓b190_79, j_ks, j_ke, hk1, hk121, hk63, vv, List.nil_append, List.cons_append]
  all_goals rfl
set_option maxHeartbeats 200000 in
theorem k92_3_2 {b : Nat} {H C : j_H} {g act x : Int32} {Q : Option Value → j_H → Prop} (hC : j_co H = C) (hI : j_In C) (hg : 0 ≤ g.toInt ∧ g.toInt < j_n C) (ha : act.toInt = 2) (hk : j_kd C g.toInt = 3) : j_wp (b + 20) 92 0 [.ref 12, .int g, .int act, .int x, j_u] [] H Q = Q (some (.int (j_acv 3 2 x g (j_I C 83 g.toInt.toNat)))) (j_bo 75 74 1 0 (j_acb 3 2) (j_sI H 74 1 (Int32.ofInt 0))) := by
  have hW := hI.1
  have hN := i_G hI
  obtain ⟨e4, -⟩ := i_n hI
  obtain ⟨a1, a2, -⟩ := i_r hI
  have h2 : 0 ≤ g.toInt ∧ g.toInt < (j_I C 81 0).toInt := hg
  obtain ⟨r, hr, hG⟩ := i_gs hI hg.1 hg.2
  obtain ⟨g1, g2, g3, g4, g5, -⟩ := id hG
  rw [hk] at g2
  have gk : j_cls C r = 5 := g2
  have sr := j_scr_r g1
  have g4' : j_I C r 1 = g := t_ext g4
  have g5' : j_I C r 2 = j_I C 83 g.toInt.toNat := t_ext g5
  have hC1 : j_co (j_sI H 74 1 (Int32.ofInt 0)) = j_sI C 74 1 (Int32.ofInt 0) := by rw [c_sI' rfl, hC]
  have e134 : j_I (j_sI C 74 1 (Int32.ofInt 0)) 13 4 = j_I C 81 0 := by rw [h_II, if_neg (by decide)]; exact e4
  have hk1 := fun (b' : Nat) (Q : Option Value → j_H → Prop) => k1 (b := b') (x := g) (Q := Q) hC1 (show j_Wd (j_sI C 74 1 (Int32.ofInt 0)) from hW) (by rw [e134]; exact a2) hN
  simp only [e134] at hk1
  have hr' : va_rf (j_R (j_sI C 74 1 (Int32.ofInt 0)) 14 (j_ix g)) = .ref r := by show va_rf (j_R C 14 g.toInt.toNat) = _; rw [hr]; rfl
  simp only [if_pos h2, hr'] at hk1
  have n11 : ¬ r = 11 := by omega
  have n74 : ¬ (r = 74 ∨ r = 75) := by omega
  obtain ⟨B, hB⟩ : ∃ B, B = j_aB H := ⟨_, rfl⟩
  have etb : j_sI H 74 1 (Int32.ofInt 0) = B [] := by rw [hB]; rfl
  have hBI : ∀ bs a k, ¬ (a = 74 ∨ a = 75) → j_scr a k = false → j_I (B bs) a k = j_I C a k := fun bs a k h1 h2 => by rw [hB, tb_I h1, rd_I hC h2]
  have hBR : ∀ bs a k, j_scr a k = false → j_R (B bs) a k = j_R C a k := fun bs a k h2 => by rw [hB, tb_R, rd_R hC h2]
  have hBc : ∀ bs a, j_cls (B bs) a = j_cls C a := fun bs a => by rw [hB, tb_cls, rd_cls hC]
  have hBt : ∀ bs a, j_tp (B bs) a = j_tp C a := fun bs a => by rw [hB, tb_tp, rd_tp hC]
  have hBl : ∀ bs a, j_ln (B bs) a = j_ln C a := fun bs a => by rw [hB, tb_ln, rd_ln hC]
  have hk63 : ∀ (b' : Nat) (bs : List Int) (y : Int) (Q : Option Value → j_H → Prop), bs.length < 20 → j_wp b' 63 0 [.ref 74, .int (Int32.ofInt y)] [] (B bs) Q = Q none (B (bs ++ [y])) := fun b' bs y Q hl => by rw [hB]; exact k63 hC hW hl
  rw [etb] at hk1
  have hfin : Q (some (.int (j_acv 3 2 x g (j_I C 83 g.toInt.toNat)))) (j_bo 75 74 1 0 (j_acb 3 2) (j_sI H 74 1 (Int32.ofInt 0))) = Q (some (.int (j_acv 3 2 x g (j_I C 83 g.toInt.toNat)))) (B (j_acb 3 2)) := by rw [hB]; rfl
  rw [hfin]
  clear hfin hB hk hG hI hN hg h2 hr hr'
  simp (disch := (first | assumption | exact n_N11 | exact n_R11 (by decide) | exact n_bz | (simp (disch := (first | assumption | omega | decide)) only [v_rs, v_rn, v_pa, v_vc, v_vt, v_vl, v_ir, v_in, v_po, v_pn, v_re, v_rN, v_Nr, v_fe, v_fN, v_c1i, v_c1r, v_c1n, v_c1u, v_c1f, v_if, h_II, h_LL, h_RR, h_IL, h_IR, h_LI, h_LR, h_RI, h_RL, h_Ic, h_Lc, h_Rc, h_Id, h_Ld, h_Rd, h_cls_sI, h_cls_sL, h_cls_sR, h_cls_cI, h_cls_cL, h_tp_sI, h_tp_sL, h_tp_sR, h_tp_cI, h_tp_cL, h_ln_sI, h_ln_sL, h_ln_sR, h_ln_cI, h_ln_cL, v_if, j_scr, w_c12 hW, w_r12_0 hW, w_r12_1 hW, w_r12_3 hW, w_r12_5 hW, w_r12_7 hW, w_r12_8 hW, w_r12_9 hW, w_r12_10 hW, w_r12_11 hW, w_r12_12 hW, w_r12_13 hW, w_c74 hW, w_r74_0 hW, j_Wd_I, j_Wd_L, t_addo, t_subo, t_mulo, t_of, t_divc, t_remc, t_em, Int.toNat_zero, j_ix, Int.toNat_natCast, t_addc, t_subc, t_mulc, t_bz0, t_bz1, Classical.not_not, not_false_eq_true, if_true, if_false, and_true, true_and, and_false, false_and, and_self, or_true, true_or, or_false, false_or, not_true_eq_false, reduceIte, ite_self, implies_true, p_I, p_L, p_R, q_I, q_L, q_R, p_cls, p_tp, p_ln, p_cop, p_cov, rd_I hC, rd_L hC, rd_R hC, rd_cls hC, rd_tp hC, rd_ln hC, hC, hW] <;> first | omega | rfl | decide) | omega | decide | fail)) only [↓if_pos, ↓if_neg, ↓b92_0, ↓b92_62, ↓b92_73, ↓b92_84, ↓b92_85, ↓b62_0, ↓b62_5, v_rs, v_rn, v_pa, v_vc, v_vt, v_vl, v_ir, v_in, v_po, v_pn, v_re, v_rN, v_Nr, v_fe, v_fN, v_c1i, v_c1r, v_c1n, v_c1u, v_c1f, v_if, h_II, h_LL, h_RR, h_IL, h_IR, h_LI, h_LR, h_RI, h_RL, h_Ic, h_Lc, h_Rc, h_Id, h_Ld, h_Rd, h_cls_sI, h_cls_sL, h_cls_sR, h_cls_cI, h_cls_cL, h_tp_sI, h_tp_sL, h_tp_sR, h_tp_cI, h_tp_cL, h_ln_sI, h_ln_sL, h_ln_sR, h_ln_cI, h_ln_cL, v_if, w_c12 hW, w_r12_0 hW, w_r12_1 hW, w_r12_3 hW, w_r12_5 hW, w_r12_7 hW, w_r12_8 hW, w_r12_9 hW, w_r12_10 hW, w_r12_11 hW, w_r12_12 hW, w_r12_13 hW, w_c74 hW, w_r74_0 hW, j_ks, j_ke, t_addo, t_subo, t_mulo, t_of, t_divc, t_remc, t_em, Int.toNat_zero, j_ix, Int.toNat_natCast, t_addc, t_subc, t_mulc, t_bz0, t_bz1, Classical.not_not, not_false_eq_true, if_true, if_false, and_true, true_and, and_false, false_and, and_self, or_true, true_or, or_false, false_or, not_true_eq_false, reduceIte, ite_self, implies_true, p_I, p_L, p_R, q_I, q_L, q_R, p_cls, p_tp, p_ln, p_cop, p_cov, rd_I hC, rd_L hC, rd_R hC, rd_cls hC, rd_tp hC, rd_ln hC, hC, hW]
  rw [etb]
  have c74 : ∀ bs, j_vc (B bs) (.ref 74) = 10 := fun bs => by rw [v_vc, hBc]; exact w_c74 hW
  have c12 : ∀ bs, j_vc (B bs) (.ref 12) = 11 := fun bs => by rw [v_vc, hBc]; exact w_c12 hW
  have cr : ∀ bs, j_vc (B bs) (.ref r) = 5 := fun bs => by rw [v_vc, hBc]; exact gk
  have a12 : ∀ bs, va_rf (j_R (B bs) (j_pa (.ref 12)) 8) = .ref 74 := fun bs => by rw [v_pa, hBR _ _ _ rfl, w_r12_8 hW]; rfl
  have a120 : ∀ bs, va_rf (j_R (B bs) (j_pa (.ref 12)) 0) = .ref 13 := fun bs => by rw [v_pa, hBR _ _ _ rfl, w_r12_0 hW]; rfl
  have a12' : ∀ bs, va_rf (j_R (B bs) 12 8) = .ref 74 := a12
  have a120' : ∀ bs, va_rf (j_R (B bs) 12 0) = .ref 13 := a120
  have c13 : ∀ bs, j_vc (B bs) (.ref 13) = 0 := fun bs => by rw [v_vc, hBc]; exact w_c13 hW
  have gI1 : ∀ bs, j_I (B bs) r 1 = g := fun bs => (hBI _ _ _ n74 (sr _)).trans g4'
  have gI2 : ∀ bs, j_I (B bs) r 2 = j_I C 83 g.toInt.toNat := fun bs => (hBI _ _ _ n74 (sr _)).trans g5'
  have nr11 : ¬ (Value.ref r) = .ref 11 := fun h => by injection h; contradiction
  have nrn : ¬ (Value.ref r) = .null := fun h => by cases h
  clear hBI hBR hBc hBt hBl g2 g3 g4 g5 hC1 e134 n11 n74 sr gk g4' g5' e4 a1 a2
  simp (disch := (first | exact c74 _ | exact cr _ | exact c12 _ | exact v_ir | exact nr11 | exact nrn | exact ha | (simp only [a12, a120, a12', a120', c74, cr, c12, c13, v_ir] <;> decide) | decide | omega | fail)) only [↓if_pos, ↓if_neg, ↓b92_7, ↓b92_15, ↓b92_22, ↓b92_24, ↓b92_52_5, ↓b92_62, ↓b92_63_5, ↓b92_73, ↓b92_74_5, ↓b92_84, ↓b92_85, ↓b18_0, ↓b18_6, ↓b44_0, ↓b44_6, ↓b44_14, ↓b47_0, ↓b47_6, ↓b47_12, ↓b60_0, ↓b60_6, ↓b60_12, ↓b19_0, ↓b19_6_5, ↓b19_12, ↓b38_0, ↓b38_6, ↓b38_12, ↓b48_0, ↓b48_6, ↓b48_14, ↓b59_0, ↓b59_6, ↓b59_12, ↓b59_18, ↓b20_0, ↓b20_6_5, ↓b20_12, ↓b15_0, ↓b15_6, ↓b15_17, ↓b41_0, ↓b41_6, ↓b41_12_5, ↓b41_18, j_ks, j_ke, hk1, hk63, a12, a120, a12', a120', v_pa, gI1, gI2, List.nil_append, List.cons_append]
  all_goals rfl
set_option maxHeartbeats 200000 in
theorem k191_3_2 {b : Nat} {H C : j_H} {g act x : Int32} {Q : Option Value → j_H → Prop} (hC : j_co H = C) (hW : j_Wd C) (hn : 0 ≤ (j_I C 81 0).toInt) (hn2 : (j_I C 81 0).toInt ≤ 7) (hg : 0 ≤ g.toInt ∧ g.toInt < j_n C) (ha : act.toInt = 2) (hk : j_kd C g.toInt = 3) : j_wp (b + 20) 191 0 [.ref 81, .int g, .int act, .int x] [] H Q = Q (some (.int (j_acv 3 2 x g (j_I C 83 g.toInt.toNat)))) (j_bo 110 81 52 0 (j_acb 3 2) (j_sI H 81 52 (Int32.ofInt 0))) := by
  have h2 : 0 ≤ g.toInt ∧ g.toInt < (j_I C 81 0).toInt := hg
  have hk' : (j_I C 82 g.toInt.toNat).toInt = 3 := hk
  have hC1 : j_co (j_sI H 81 52 (Int32.ofInt 0)) = j_sI C 81 52 (Int32.ofInt 0) := by rw [c_sI' rfl, hC]
  have e810 : j_I (j_sI C 81 52 (Int32.ofInt 0)) 81 0 = j_I C 81 0 := by rw [h_II, if_neg (by decide)]
  have hk1 := fun (b' : Nat) (Q : Option Value → j_H → Prop) => k124 (b := b') (x := g) (Q := Q) hC1 (show j_Wd (j_sI C 81 52 (Int32.ofInt 0)) from hW) (by rw [e810]; exact hn) (by rw [e810]; exact hn2)
  simp only [e810, t_bzT h2] at hk1
  have hk121 : ∀ (b' : Nat) (v : Value) (H : j_H) (Q : Option Value → j_H → Prop), j_wp b' 121 0 [v, .int act, .int (Int32.ofInt 0), .int (Int32.ofInt 2)] [] H Q = Q (some (.int (Int32.ofInt 1))) H := fun b' v H Q => by
    rw [k121, t_bzT (by rw [ha]; decide)]
  obtain ⟨B, hB⟩ : ∃ B, B = j_aM H := ⟨_, rfl⟩
  have etm : j_sI H 81 52 (Int32.ofInt 0) = B [] := by rw [hB]; rfl
  have hBI : ∀ bs a k, ¬ a = 110 → ¬ (a = 81 ∧ k = 52) → j_scr a k = false → j_I (B bs) a k = j_I C a k := fun bs a k h1 h3 h4 => by rw [hB, tm_I h1 h3, rd_I hC h4]
  have hBR : ∀ bs a k, j_scr a k = false → j_R (B bs) a k = j_R C a k := fun bs a k h2 => by rw [hB, tm_R, rd_R hC h2]
  have hBc : ∀ bs a, j_cls (B bs) a = j_cls C a := fun bs a => by rw [hB, tm_cls, rd_cls hC]
  have hBt : ∀ bs a, j_tp (B bs) a = j_tp C a := fun bs a => by rw [hB, tm_tp, rd_tp hC]
  have hBl : ∀ bs a, j_ln (B bs) a = j_ln C a := fun bs a => by rw [hB, tm_ln, rd_ln hC]
  have hk63 : ∀ (b' : Nat) (bs : List Int) (y : Int) (Q : Option Value → j_H → Prop), bs.length < 20 → j_wp b' 183 0 [.ref 81, .int (Int32.ofInt y)] [] (B bs) Q = Q none (B (bs ++ [y])) := fun b' bs y Q hl => by rw [hB]; exact k183 hC hW hl
  rw [etm] at hk1
  have hfin : Q (some (.int (j_acv 3 2 x g (j_I C 83 g.toInt.toNat)))) (j_bo 110 81 52 0 (j_acb 3 2) (j_sI H 81 52 (Int32.ofInt 0))) = Q (some (.int (j_acv 3 2 x g (j_I C 83 g.toInt.toNat)))) (B (j_acb 3 2)) := by rw [hB]; rfl
  rw [hfin]
  have p1 : ∀ bs, j_vc (B bs) (.ref 81) = 12 := fun bs => by rw [v_vc, hBc]; exact w_c81 hW
  have f4 : ∀ bs, va_rf (j_R (B bs) (j_pa (.ref 81)) 4) = .ref 82 := fun bs => by rw [v_pa, hBR _ _ _ rfl, w_r81_4 hW]; rfl
  have f5 : ∀ bs, va_rf (j_R (B bs) (j_pa (.ref 81)) 5) = .ref 83 := fun bs => by rw [v_pa, hBR _ _ _ rfl, w_r81_5 hW]; rfl
  have p2 : ∀ bs, j_vt (B bs) (va_rf (j_R (B bs) (j_pa (.ref 81)) 4)) = 0 := fun bs => by rw [f4, v_vt, hBt]; exact w_t82 hW
  have p2' : ∀ bs, j_vt (B bs) (va_rf (j_R (B bs) (j_pa (.ref 81)) 5)) = 0 := fun bs => by rw [f5, v_vt, hBt]; exact w_t83 hW
  have p3 : 0 ≤ g.toInt := hg.1
  have p4 : ∀ bs, g.toInt < ((j_vl (B bs) (va_rf (j_R (B bs) (j_pa (.ref 81)) 4)) : Nat) : Int) := fun bs => by rw [f4, v_vl, hBl, w_n82 hW]; have := h2.2; omega
  have p4' : ∀ bs, g.toInt < ((j_vl (B bs) (va_rf (j_R (B bs) (j_pa (.ref 81)) 5)) : Nat) : Int) := fun bs => by rw [f5, v_vl, hBl, w_n83 hW]; have := h2.2; omega
  have kd : ∀ bs, (j_I (B bs) (j_pa (va_rf (j_R (B bs) (j_pa (.ref 81)) 4))) (j_ix g)).toInt = 3 := fun bs => by rw [f4, v_pa, hBI _ _ _ (by decide) (by omega) rfl]; exact hk'
  have vv : ∀ bs, j_I (B bs) (j_pa (va_rf (j_R (B bs) (j_pa (.ref 81)) 5))) (j_ix g) = j_I C 83 g.toInt.toNat := fun bs => by rw [f5, v_pa, hBI _ _ _ (by decide) (by omega) rfl]; rfl
  rw [b191_0 (by rw [v_vc, rd_cls hC]; exact w_c81 hW), v_pa, etm]
  clear hfin hB hk hn hn2 hg hC1 e810 hBI hBR hBc hBt hBl f4 f5 etm
  simp (disch := (first | exact p1 _ | exact p2 _ | exact p2' _ | exact p3 | exact p4 _ | exact p4' _ | (simp only [kd] <;> omega) | decide | omega | fail)) only [↓if_pos, ↓if_neg, ↓b191_5, ↓b191_10, ↓b191_13, ↓b191_20, ↓b191_23, ↓b191_25, ↓b191_29, ↓b191_35, ↓b191_38, ↓b191_43, ↓b191_49, ↓b191_52, ↓b191_58, ↓b184_0, ↓b184_6, ↓b185_0, ↓b185_40, ↓b185_46, ↓b185_54, ↓b185_55, ↓b185_61, ↓b185_67, ↓b185_69, ↓b185_75, ↓b185_81, ↓b185_89, ↓b185_95, ↓b186_0, ↓b186_6, ↓b186_12, ↓b187_0, ↓b187_6, ↓b187_12, ↓b188_0, ↓b188_40, ↓b188_46, ↓b188_47, ↓b188_53, ↓b188_61, ↓b188_62, ↓b188_68, ↓b188_74, ↓b188_82, ↓b188_84, ↓b188_90, ↓b189_0, ↓b189_6, ↓b189_12, ↓b190_0, ↓b190_36, ↓b190_42, ↓b190_48, ↓b190_56, ↓b190_58, ↓b190_64, ↓b190_72, ↓b190_73, ↓b190_79, j_ks, j_ke, hk1, hk121, hk63, vv, List.nil_append, List.cons_append]
  all_goals rfl
set_option maxHeartbeats 200000 in
theorem k92_4_2 {b : Nat} {H C : j_H} {g act x : Int32} {Q : Option Value → j_H → Prop} (hC : j_co H = C) (hI : j_In C) (hg : 0 ≤ g.toInt ∧ g.toInt < j_n C) (ha : act.toInt = 2) (hk : j_kd C g.toInt = 4) : j_wp (b + 20) 92 0 [.ref 12, .int g, .int act, .int x, j_u] [] H Q = Q (some (.int (j_acv 4 2 x g (j_I C 83 g.toInt.toNat)))) (j_bo 75 74 1 0 (j_acb 4 2) (j_sI H 74 1 (Int32.ofInt 0))) := by
  have hW := hI.1
  have hN := i_G hI
  obtain ⟨e4, -⟩ := i_n hI
  obtain ⟨a1, a2, -⟩ := i_r hI
  have h2 : 0 ≤ g.toInt ∧ g.toInt < (j_I C 81 0).toInt := hg
  obtain ⟨r, hr, hG⟩ := i_gs hI hg.1 hg.2
  obtain ⟨g1, g2, g3, g4, g5, -⟩ := id hG
  rw [hk] at g2
  have gk : j_cls C r = 7 := g2
  have sr := j_scr_r g1
  have g4' : j_I C r 1 = g := t_ext g4
  have g5' : j_I C r 2 = j_I C 83 g.toInt.toNat := t_ext g5
  have hC1 : j_co (j_sI H 74 1 (Int32.ofInt 0)) = j_sI C 74 1 (Int32.ofInt 0) := by rw [c_sI' rfl, hC]
  have e134 : j_I (j_sI C 74 1 (Int32.ofInt 0)) 13 4 = j_I C 81 0 := by rw [h_II, if_neg (by decide)]; exact e4
  have hk1 := fun (b' : Nat) (Q : Option Value → j_H → Prop) => k1 (b := b') (x := g) (Q := Q) hC1 (show j_Wd (j_sI C 74 1 (Int32.ofInt 0)) from hW) (by rw [e134]; exact a2) hN
  simp only [e134] at hk1
  have hr' : va_rf (j_R (j_sI C 74 1 (Int32.ofInt 0)) 14 (j_ix g)) = .ref r := by show va_rf (j_R C 14 g.toInt.toNat) = _; rw [hr]; rfl
  simp only [if_pos h2, hr'] at hk1
  have n11 : ¬ r = 11 := by omega
  have n74 : ¬ (r = 74 ∨ r = 75) := by omega
  obtain ⟨B, hB⟩ : ∃ B, B = j_aB H := ⟨_, rfl⟩
  have etb : j_sI H 74 1 (Int32.ofInt 0) = B [] := by rw [hB]; rfl
  have hBI : ∀ bs a k, ¬ (a = 74 ∨ a = 75) → j_scr a k = false → j_I (B bs) a k = j_I C a k := fun bs a k h1 h2 => by rw [hB, tb_I h1, rd_I hC h2]
  have hBR : ∀ bs a k, j_scr a k = false → j_R (B bs) a k = j_R C a k := fun bs a k h2 => by rw [hB, tb_R, rd_R hC h2]
  have hBc : ∀ bs a, j_cls (B bs) a = j_cls C a := fun bs a => by rw [hB, tb_cls, rd_cls hC]
  have hBt : ∀ bs a, j_tp (B bs) a = j_tp C a := fun bs a => by rw [hB, tb_tp, rd_tp hC]
  have hBl : ∀ bs a, j_ln (B bs) a = j_ln C a := fun bs a => by rw [hB, tb_ln, rd_ln hC]
  have hk63 : ∀ (b' : Nat) (bs : List Int) (y : Int) (Q : Option Value → j_H → Prop), bs.length < 20 → j_wp b' 63 0 [.ref 74, .int (Int32.ofInt y)] [] (B bs) Q = Q none (B (bs ++ [y])) := fun b' bs y Q hl => by rw [hB]; exact k63 hC hW hl
  rw [etb] at hk1
  have hfin : Q (some (.int (j_acv 4 2 x g (j_I C 83 g.toInt.toNat)))) (j_bo 75 74 1 0 (j_acb 4 2) (j_sI H 74 1 (Int32.ofInt 0))) = Q (some (.int (j_acv 4 2 x g (j_I C 83 g.toInt.toNat)))) (B (j_acb 4 2)) := by rw [hB]; rfl
  rw [hfin]
  clear hfin hB hk hG hI hN hg h2 hr hr'
  simp (disch := (first | assumption | exact n_N11 | exact n_R11 (by decide) | exact n_bz | (simp (disch := (first | assumption | omega | decide)) only [v_rs, v_rn, v_pa, v_vc, v_vt, v_vl, v_ir, v_in, v_po, v_pn, v_re, v_rN, v_Nr, v_fe, v_fN, v_c1i, v_c1r, v_c1n, v_c1u, v_c1f, v_if, h_II, h_LL, h_RR, h_IL, h_IR, h_LI, h_LR, h_RI, h_RL, h_Ic, h_Lc, h_Rc, h_Id, h_Ld, h_Rd, h_cls_sI, h_cls_sL, h_cls_sR, h_cls_cI, h_cls_cL, h_tp_sI, h_tp_sL, h_tp_sR, h_tp_cI, h_tp_cL, h_ln_sI, h_ln_sL, h_ln_sR, h_ln_cI, h_ln_cL, v_if, j_scr, w_c12 hW, w_r12_0 hW, w_r12_1 hW, w_r12_3 hW, w_r12_5 hW, w_r12_7 hW, w_r12_8 hW, w_r12_9 hW, w_r12_10 hW, w_r12_11 hW, w_r12_12 hW, w_r12_13 hW, w_c74 hW, w_r74_0 hW, j_Wd_I, j_Wd_L, t_addo, t_subo, t_mulo, t_of, t_divc, t_remc, t_em, Int.toNat_zero, j_ix, Int.toNat_natCast, t_addc, t_subc, t_mulc, t_bz0, t_bz1, Classical.not_not, not_false_eq_true, if_true, if_false, and_true, true_and, and_false, false_and, and_self, or_true, true_or, or_false, false_or, not_true_eq_false, reduceIte, ite_self, implies_true, p_I, p_L, p_R, q_I, q_L, q_R, p_cls, p_tp, p_ln, p_cop, p_cov, rd_I hC, rd_L hC, rd_R hC, rd_cls hC, rd_tp hC, rd_ln hC, hC, hW] <;> first | omega | rfl | decide) | omega | decide | fail)) only [↓if_pos, ↓if_neg, ↓b92_0, ↓b92_62, ↓b92_73, ↓b92_84, ↓b92_85, ↓b62_0, ↓b62_5, v_rs, v_rn, v_pa, v_vc, v_vt, v_vl, v_ir, v_in, v_po, v_pn, v_re, v_rN, v_Nr, v_fe, v_fN, v_c1i, v_c1r, v_c1n, v_c1u, v_c1f, v_if, h_II, h_LL, h_RR, h_IL, h_IR, h_LI, h_LR, h_RI, h_RL, h_Ic, h_Lc, h_Rc, h_Id, h_Ld, h_Rd, h_cls_sI, h_cls_sL, h_cls_sR, h_cls_cI, h_cls_cL, h_tp_sI, h_tp_sL, h_tp_sR, h_tp_cI, h_tp_cL, h_ln_sI, h_ln_sL, h_ln_sR, h_ln_cI, h_ln_cL, v_if, w_c12 hW, w_r12_0 hW, w_r12_1 hW, w_r12_3 hW, w_r12_5 hW, w_r12_7 hW, w_r12_8 hW, w_r12_9 hW, w_r12_10 hW, w_r12_11 hW, w_r12_12 hW, w_r12_13 hW, w_c74 hW, w_r74_0 hW, j_ks, j_ke, t_addo, t_subo, t_mulo, t_of, t_divc, t_remc, t_em, Int.toNat_zero, j_ix, Int.toNat_natCast, t_addc, t_subc, t_mulc, t_bz0, t_bz1, Classical.not_not, not_false_eq_true, if_true, if_false, and_true, true_and, and_false, false_and, and_self, or_true, true_or, or_false, false_or, not_true_eq_false, reduceIte, ite_self, implies_true, p_I, p_L, p_R, q_I, q_L, q_R, p_cls, p_tp, p_ln, p_cop, p_cov, rd_I hC, rd_L hC, rd_R hC, rd_cls hC, rd_tp hC, rd_ln hC, hC, hW]
  rw [etb]
  have c74 : ∀ bs, j_vc (B bs) (.ref 74) = 10 := fun bs => by rw [v_vc, hBc]; exact w_c74 hW
  have c12 : ∀ bs, j_vc (B bs) (.ref 12) = 11 := fun bs => by rw [v_vc, hBc]; exact w_c12 hW
  have cr : ∀ bs, j_vc (B bs) (.ref r) = 7 := fun bs => by rw [v_vc, hBc]; exact gk
  have a12 : ∀ bs, va_rf (j_R (B bs) (j_pa (.ref 12)) 8) = .ref 74 := fun bs => by rw [v_pa, hBR _ _ _ rfl, w_r12_8 hW]; rfl
  have a120 : ∀ bs, va_rf (j_R (B bs) (j_pa (.ref 12)) 0) = .ref 13 := fun bs => by rw [v_pa, hBR _ _ _ rfl, w_r12_0 hW]; rfl
  have a12' : ∀ bs, va_rf (j_R (B bs) 12 8) = .ref 74 := a12
  have a120' : ∀ bs, va_rf (j_R (B bs) 12 0) = .ref 13 := a120
  have c13 : ∀ bs, j_vc (B bs) (.ref 13) = 0 := fun bs => by rw [v_vc, hBc]; exact w_c13 hW
  have gI1 : ∀ bs, j_I (B bs) r 1 = g := fun bs => (hBI _ _ _ n74 (sr _)).trans g4'
  have gI2 : ∀ bs, j_I (B bs) r 2 = j_I C 83 g.toInt.toNat := fun bs => (hBI _ _ _ n74 (sr _)).trans g5'
  have nr11 : ¬ (Value.ref r) = .ref 11 := fun h => by injection h; contradiction
  have nrn : ¬ (Value.ref r) = .null := fun h => by cases h
  clear hBI hBR hBc hBt hBl g2 g3 g4 g5 hC1 e134 n11 n74 sr gk g4' g5' e4 a1 a2
  simp (disch := (first | exact c74 _ | exact cr _ | exact c12 _ | exact v_ir | exact nr11 | exact nrn | exact ha | (simp only [a12, a120, a12', a120', c74, cr, c12, c13, v_ir] <;> decide) | decide | omega | fail)) only [↓if_pos, ↓if_neg, ↓b92_7, ↓b92_15, ↓b92_22, ↓b92_24, ↓b92_52_7, ↓b92_62, ↓b92_63_7, ↓b92_73, ↓b92_74_7, ↓b92_84, ↓b92_85, ↓b18_0, ↓b18_6, ↓b44_0, ↓b44_6, ↓b44_14, ↓b47_0, ↓b47_6, ↓b47_12, ↓b60_0, ↓b60_6, ↓b60_12, ↓b19_0, ↓b19_6_7, ↓b19_12, ↓b38_0, ↓b38_6, ↓b38_12, ↓b48_0, ↓b48_6, ↓b48_14, ↓b59_0, ↓b59_6, ↓b59_12, ↓b59_18, ↓b20_0, ↓b20_6_7, ↓b20_12, ↓b15_0, ↓b15_6, ↓b15_17, ↓b41_0, ↓b41_6, ↓b41_18, j_ks, j_ke, hk1, hk63, a12, a120, a12', a120', v_pa, gI1, gI2, List.nil_append, List.cons_append]
  all_goals rfl
set_option maxHeartbeats 200000 in
theorem k191_4_2 {b : Nat} {H C : j_H} {g act x : Int32} {Q : Option Value → j_H → Prop} (hC : j_co H = C) (hW : j_Wd C) (hn : 0 ≤ (j_I C 81 0).toInt) (hn2 : (j_I C 81 0).toInt ≤ 7) (hg : 0 ≤ g.toInt ∧ g.toInt < j_n C) (ha : act.toInt = 2) (hk : j_kd C g.toInt = 4) : j_wp (b + 20) 191 0 [.ref 81, .int g, .int act, .int x] [] H Q = Q (some (.int (j_acv 4 2 x g (j_I C 83 g.toInt.toNat)))) (j_bo 110 81 52 0 (j_acb 4 2) (j_sI H 81 52 (Int32.ofInt 0))) := by
  have h2 : 0 ≤ g.toInt ∧ g.toInt < (j_I C 81 0).toInt := hg
  have hk' : (j_I C 82 g.toInt.toNat).toInt = 4 := hk
  have hC1 : j_co (j_sI H 81 52 (Int32.ofInt 0)) = j_sI C 81 52 (Int32.ofInt 0) := by rw [c_sI' rfl, hC]
  have e810 : j_I (j_sI C 81 52 (Int32.ofInt 0)) 81 0 = j_I C 81 0 := by rw [h_II, if_neg (by decide)]
  have hk1 := fun (b' : Nat) (Q : Option Value → j_H → Prop) => k124 (b := b') (x := g) (Q := Q) hC1 (show j_Wd (j_sI C 81 52 (Int32.ofInt 0)) from hW) (by rw [e810]; exact hn) (by rw [e810]; exact hn2)
  simp only [e810, t_bzT h2] at hk1
  have hk121 : ∀ (b' : Nat) (v : Value) (H : j_H) (Q : Option Value → j_H → Prop), j_wp b' 121 0 [v, .int act, .int (Int32.ofInt 0), .int (Int32.ofInt 2)] [] H Q = Q (some (.int (Int32.ofInt 1))) H := fun b' v H Q => by
    rw [k121, t_bzT (by rw [ha]; decide)]
  obtain ⟨B, hB⟩ : ∃ B, B = j_aM H := ⟨_, rfl⟩
  have etm : j_sI H 81 52 (Int32.ofInt 0) = B [] := by rw [hB]; rfl
  have hBI : ∀ bs a k, ¬ a = 110 → ¬ (a = 81 ∧ k = 52) → j_scr a k = false → j_I (B bs) a k = j_I C a k := fun bs a k h1 h3 h4 => by rw [hB, tm_I h1 h3, rd_I hC h4]
  have hBR : ∀ bs a k, j_scr a k = false → j_R (B bs) a k = j_R C a k := fun bs a k h2 => by rw [hB, tm_R, rd_R hC h2]
  have hBc : ∀ bs a, j_cls (B bs) a = j_cls C a := fun bs a => by rw [hB, tm_cls, rd_cls hC]
  have hBt : ∀ bs a, j_tp (B bs) a = j_tp C a := fun bs a => by rw [hB, tm_tp, rd_tp hC]
  have hBl : ∀ bs a, j_ln (B bs) a = j_ln C a := fun bs a => by rw [hB, tm_ln, rd_ln hC]
  have hk63 : ∀ (b' : Nat) (bs : List Int) (y : Int) (Q : Option Value → j_H → Prop), bs.length < 20 → j_wp b' 183 0 [.ref 81, .int (Int32.ofInt y)] [] (B bs) Q = Q none (B (bs ++ [y])) := fun b' bs y Q hl => by rw [hB]; exact k183 hC hW hl
  rw [etm] at hk1
  have hfin : Q (some (.int (j_acv 4 2 x g (j_I C 83 g.toInt.toNat)))) (j_bo 110 81 52 0 (j_acb 4 2) (j_sI H 81 52 (Int32.ofInt 0))) = Q (some (.int (j_acv 4 2 x g (j_I C 83 g.toInt.toNat)))) (B (j_acb 4 2)) := by rw [hB]; rfl
  rw [hfin]
  have p1 : ∀ bs, j_vc (B bs) (.ref 81) = 12 := fun bs => by rw [v_vc, hBc]; exact w_c81 hW
  have f4 : ∀ bs, va_rf (j_R (B bs) (j_pa (.ref 81)) 4) = .ref 82 := fun bs => by rw [v_pa, hBR _ _ _ rfl, w_r81_4 hW]; rfl
  have f5 : ∀ bs, va_rf (j_R (B bs) (j_pa (.ref 81)) 5) = .ref 83 := fun bs => by rw [v_pa, hBR _ _ _ rfl, w_r81_5 hW]; rfl
  have p2 : ∀ bs, j_vt (B bs) (va_rf (j_R (B bs) (j_pa (.ref 81)) 4)) = 0 := fun bs => by rw [f4, v_vt, hBt]; exact w_t82 hW
  have p2' : ∀ bs, j_vt (B bs) (va_rf (j_R (B bs) (j_pa (.ref 81)) 5)) = 0 := fun bs => by rw [f5, v_vt, hBt]; exact w_t83 hW
  have p3 : 0 ≤ g.toInt := hg.1
  have p4 : ∀ bs, g.toInt < ((j_vl (B bs) (va_rf (j_R (B bs) (j_pa (.ref 81)) 4)) : Nat) : Int) := fun bs => by rw [f4, v_vl, hBl, w_n82 hW]; have := h2.2; omega
  have p4' : ∀ bs, g.toInt < ((j_vl (B bs) (va_rf (j_R (B bs) (j_pa (.ref 81)) 5)) : Nat) : Int) := fun bs => by rw [f5, v_vl, hBl, w_n83 hW]; have := h2.2; omega
  have kd : ∀ bs, (j_I (B bs) (j_pa (va_rf (j_R (B bs) (j_pa (.ref 81)) 4))) (j_ix g)).toInt = 4 := fun bs => by rw [f4, v_pa, hBI _ _ _ (by decide) (by omega) rfl]; exact hk'
  have vv : ∀ bs, j_I (B bs) (j_pa (va_rf (j_R (B bs) (j_pa (.ref 81)) 5))) (j_ix g) = j_I C 83 g.toInt.toNat := fun bs => by rw [f5, v_pa, hBI _ _ _ (by decide) (by omega) rfl]; rfl
  rw [b191_0 (by rw [v_vc, rd_cls hC]; exact w_c81 hW), v_pa, etm]
  clear hfin hB hk hn hn2 hg hC1 e810 hBI hBR hBc hBt hBl f4 f5 etm
  simp (disch := (first | exact p1 _ | exact p2 _ | exact p2' _ | exact p3 | exact p4 _ | exact p4' _ | (simp only [kd] <;> omega) | decide | omega | fail)) only [↓if_pos, ↓if_neg, ↓b191_5, ↓b191_10, ↓b191_13, ↓b191_20, ↓b191_23, ↓b191_25, ↓b191_29, ↓b191_35, ↓b191_38, ↓b191_43, ↓b191_49, ↓b191_52, ↓b191_58, ↓b184_0, ↓b184_6, ↓b185_0, ↓b185_40, ↓b185_46, ↓b185_54, ↓b185_55, ↓b185_61, ↓b185_67, ↓b185_69, ↓b185_75, ↓b185_81, ↓b185_89, ↓b185_95, ↓b186_0, ↓b186_6, ↓b186_12, ↓b187_0, ↓b187_6, ↓b187_12, ↓b188_0, ↓b188_40, ↓b188_46, ↓b188_47, ↓b188_53, ↓b188_61, ↓b188_62, ↓b188_68, ↓b188_74, ↓b188_82, ↓b188_84, ↓b188_90, ↓b189_0, ↓b189_6, ↓b189_12, ↓b190_0, ↓b190_36, ↓b190_42, ↓b190_48, ↓b190_56, ↓b190_58, ↓b190_64, ↓b190_72, ↓b190_73, ↓b190_79, j_ks, j_ke, hk1, hk121, hk63, vv, List.nil_append, List.cons_append]
  all_goals rfl
set_option maxHeartbeats 200000 in
theorem k92_5_2 {b : Nat} {H C : j_H} {g act x : Int32} {Q : Option Value → j_H → Prop} (hC : j_co H = C) (hI : j_In C) (hg : 0 ≤ g.toInt ∧ g.toInt < j_n C) (ha : act.toInt = 2) (hk : j_kd C g.toInt = 5) : j_wp (b + 20) 92 0 [.ref 12, .int g, .int act, .int x, j_u] [] H Q = Q (some (.int (j_acv 5 2 x g (j_I C 83 g.toInt.toNat)))) (j_bo 75 74 1 0 (j_acb 5 2) (j_sI H 74 1 (Int32.ofInt 0))) := by
  have hW := hI.1
  have hN := i_G hI
  obtain ⟨e4, -⟩ := i_n hI
  obtain ⟨a1, a2, -⟩ := i_r hI
  have h2 : 0 ≤ g.toInt ∧ g.toInt < (j_I C 81 0).toInt := hg
  obtain ⟨r, hr, hG⟩ := i_gs hI hg.1 hg.2
  obtain ⟨g1, g2, g3, g4, g5, -⟩ := id hG
  rw [hk] at g2
  have gk : j_cls C r = 1 := g2
  have sr := j_scr_r g1
  have g4' : j_I C r 1 = g := t_ext g4
  have g5' : j_I C r 2 = j_I C 83 g.toInt.toNat := t_ext g5
  have hC1 : j_co (j_sI H 74 1 (Int32.ofInt 0)) = j_sI C 74 1 (Int32.ofInt 0) := by rw [c_sI' rfl, hC]
  have e134 : j_I (j_sI C 74 1 (Int32.ofInt 0)) 13 4 = j_I C 81 0 := by rw [h_II, if_neg (by decide)]; exact e4
  have hk1 := fun (b' : Nat) (Q : Option Value → j_H → Prop) => k1 (b := b') (x := g) (Q := Q) hC1 (show j_Wd (j_sI C 74 1 (Int32.ofInt 0)) from hW) (by rw [e134]; exact a2) hN
  simp only [e134] at hk1
  have hr' : va_rf (j_R (j_sI C 74 1 (Int32.ofInt 0)) 14 (j_ix g)) = .ref r := by show va_rf (j_R C 14 g.toInt.toNat) = _; rw [hr]; rfl
  simp only [if_pos h2, hr'] at hk1
  have n11 : ¬ r = 11 := by omega
  have n74 : ¬ (r = 74 ∨ r = 75) := by omega
  obtain ⟨B, hB⟩ : ∃ B, B = j_aB H := ⟨_, rfl⟩
  have etb : j_sI H 74 1 (Int32.ofInt 0) = B [] := by rw [hB]; rfl
  have hBI : ∀ bs a k, ¬ (a = 74 ∨ a = 75) → j_scr a k = false → j_I (B bs) a k = j_I C a k := fun bs a k h1 h2 => by rw [hB, tb_I h1, rd_I hC h2]
  have hBR : ∀ bs a k, j_scr a k = false → j_R (B bs) a k = j_R C a k := fun bs a k h2 => by rw [hB, tb_R, rd_R hC h2]
  have hBc : ∀ bs a, j_cls (B bs) a = j_cls C a := fun bs a => by rw [hB, tb_cls, rd_cls hC]
  have hBt : ∀ bs a, j_tp (B bs) a = j_tp C a := fun bs a => by rw [hB, tb_tp, rd_tp hC]
  have hBl : ∀ bs a, j_ln (B bs) a = j_ln C a := fun bs a => by rw [hB, tb_ln, rd_ln hC]
  have hk63 : ∀ (b' : Nat) (bs : List Int) (y : Int) (Q : Option Value → j_H → Prop), bs.length < 20 → j_wp b' 63 0 [.ref 74, .int (Int32.ofInt y)] [] (B bs) Q = Q none (B (bs ++ [y])) := fun b' bs y Q hl => by rw [hB]; exact k63 hC hW hl
  rw [etb] at hk1
  have hfin : Q (some (.int (j_acv 5 2 x g (j_I C 83 g.toInt.toNat)))) (j_bo 75 74 1 0 (j_acb 5 2) (j_sI H 74 1 (Int32.ofInt 0))) = Q (some (.int (j_acv 5 2 x g (j_I C 83 g.toInt.toNat)))) (B (j_acb 5 2)) := by rw [hB]; rfl
  rw [hfin]
  clear hfin hB hk hG hI hN hg h2 hr hr'
  simp (disch := (first | assumption | exact n_N11 | exact n_R11 (by decide) | exact n_bz | (simp (disch := (first | assumption | omega | decide)) only [v_rs, v_rn, v_pa, v_vc, v_vt, v_vl, v_ir, v_in, v_po, v_pn, v_re, v_rN, v_Nr, v_fe, v_fN, v_c1i, v_c1r, v_c1n, v_c1u, v_c1f, v_if, h_II, h_LL, h_RR, h_IL, h_IR, h_LI, h_LR, h_RI, h_RL, h_Ic, h_Lc, h_Rc, h_Id, h_Ld, h_Rd, h_cls_sI, h_cls_sL, h_cls_sR, h_cls_cI, h_cls_cL, h_tp_sI, h_tp_sL, h_tp_sR, h_tp_cI, h_tp_cL, h_ln_sI, h_ln_sL, h_ln_sR, h_ln_cI, h_ln_cL, v_if, j_scr, w_c12 hW, w_r12_0 hW, w_r12_1 hW, w_r12_3 hW, w_r12_5 hW, w_r12_7 hW, w_r12_8 hW, w_r12_9 hW, w_r12_10 hW, w_r12_11 hW, w_r12_12 hW, w_r12_13 hW, w_c74 hW, w_r74_0 hW, j_Wd_I, j_Wd_L, t_addo, t_subo, t_mulo, t_of, t_divc, t_remc, t_em, Int.toNat_zero, j_ix, Int.toNat_natCast, t_addc, t_subc, t_mulc, t_bz0, t_bz1, Classical.not_not, not_false_eq_true, if_true, if_false, and_true, true_and, and_false, false_and, and_self, or_true, true_or, or_false, false_or, not_true_eq_false, reduceIte, ite_self, implies_true, p_I, p_L, p_R, q_I, q_L, q_R, p_cls, p_tp, p_ln, p_cop, p_cov, rd_I hC, rd_L hC, rd_R hC, rd_cls hC, rd_tp hC, rd_ln hC, hC, hW] <;> first | omega | rfl | decide) | omega | decide | fail)) only [↓if_pos, ↓if_neg, ↓b92_0, ↓b92_62, ↓b92_73, ↓b92_84, ↓b92_85, ↓b62_0, ↓b62_5, v_rs, v_rn, v_pa, v_vc, v_vt, v_vl, v_ir, v_in, v_po, v_pn, v_re, v_rN, v_Nr, v_fe, v_fN, v_c1i, v_c1r, v_c1n, v_c1u, v_c1f, v_if, h_II, h_LL, h_RR, h_IL, h_IR, h_LI, h_LR, h_RI, h_RL, h_Ic, h_Lc, h_Rc, h_Id, h_Ld, h_Rd, h_cls_sI, h_cls_sL, h_cls_sR, h_cls_cI, h_cls_cL, h_tp_sI, h_tp_sL, h_tp_sR, h_tp_cI, h_tp_cL, h_ln_sI, h_ln_sL, h_ln_sR, h_ln_cI, h_ln_cL, v_if, w_c12 hW, w_r12_0 hW, w_r12_1 hW, w_r12_3 hW, w_r12_5 hW, w_r12_7 hW, w_r12_8 hW, w_r12_9 hW, w_r12_10 hW, w_r12_11 hW, w_r12_12 hW, w_r12_13 hW, w_c74 hW, w_r74_0 hW, j_ks, j_ke, t_addo, t_subo, t_mulo, t_of, t_divc, t_remc, t_em, Int.toNat_zero, j_ix, Int.toNat_natCast, t_addc, t_subc, t_mulc, t_bz0, t_bz1, Classical.not_not, not_false_eq_true, if_true, if_false, and_true, true_and, and_false, false_and, and_self, or_true, true_or, or_false, false_or, not_true_eq_false, reduceIte, ite_self, implies_true, p_I, p_L, p_R, q_I, q_L, q_R, p_cls, p_tp, p_ln, p_cop, p_cov, rd_I hC, rd_L hC, rd_R hC, rd_cls hC, rd_tp hC, rd_ln hC, hC, hW]
  rw [etb]
  have c74 : ∀ bs, j_vc (B bs) (.ref 74) = 10 := fun bs => by rw [v_vc, hBc]; exact w_c74 hW
  have c12 : ∀ bs, j_vc (B bs) (.ref 12) = 11 := fun bs => by rw [v_vc, hBc]; exact w_c12 hW
  have cr : ∀ bs, j_vc (B bs) (.ref r) = 1 := fun bs => by rw [v_vc, hBc]; exact gk
  have a12 : ∀ bs, va_rf (j_R (B bs) (j_pa (.ref 12)) 8) = .ref 74 := fun bs => by rw [v_pa, hBR _ _ _ rfl, w_r12_8 hW]; rfl
  have a120 : ∀ bs, va_rf (j_R (B bs) (j_pa (.ref 12)) 0) = .ref 13 := fun bs => by rw [v_pa, hBR _ _ _ rfl, w_r12_0 hW]; rfl
  have a12' : ∀ bs, va_rf (j_R (B bs) 12 8) = .ref 74 := a12
  have a120' : ∀ bs, va_rf (j_R (B bs) 12 0) = .ref 13 := a120
  have c13 : ∀ bs, j_vc (B bs) (.ref 13) = 0 := fun bs => by rw [v_vc, hBc]; exact w_c13 hW
  have gI1 : ∀ bs, j_I (B bs) r 1 = g := fun bs => (hBI _ _ _ n74 (sr _)).trans g4'
  have gI2 : ∀ bs, j_I (B bs) r 2 = j_I C 83 g.toInt.toNat := fun bs => (hBI _ _ _ n74 (sr _)).trans g5'
  have nr11 : ¬ (Value.ref r) = .ref 11 := fun h => by injection h; contradiction
  have nrn : ¬ (Value.ref r) = .null := fun h => by cases h
  clear hBI hBR hBc hBt hBl g2 g3 g4 g5 hC1 e134 n11 n74 sr gk g4' g5' e4 a1 a2
  simp (disch := (first | exact c74 _ | exact cr _ | exact c12 _ | exact v_ir | exact nr11 | exact nrn | exact ha | (simp only [a12, a120, a12', a120', c74, cr, c12, c13, v_ir] <;> decide) | decide | omega | fail)) only [↓if_pos, ↓if_neg, ↓b92_7, ↓b92_15, ↓b92_22, ↓b92_24, ↓b92_52_1, ↓b92_62, ↓b92_63_1, ↓b92_73, ↓b92_74_1, ↓b92_84, ↓b92_85, ↓b18_0, ↓b18_6, ↓b44_0, ↓b44_6, ↓b44_14, ↓b47_0, ↓b47_6, ↓b47_12, ↓b60_0, ↓b60_6, ↓b60_12, ↓b19_0, ↓b19_6_1, ↓b19_12, ↓b38_0, ↓b38_6, ↓b38_12, ↓b48_0, ↓b48_6, ↓b48_14, ↓b59_0, ↓b59_6, ↓b59_12, ↓b59_18, ↓b20_0, ↓b20_6_1, ↓b20_12, ↓b15_0, ↓b15_6, ↓b15_17, ↓b41_0, ↓b41_6, ↓b41_18, j_ks, j_ke, hk1, hk63, a12, a120, a12', a120', v_pa, gI1, gI2, List.nil_append, List.cons_append]
  all_goals rfl
set_option maxHeartbeats 200000 in
theorem k191_5_2 {b : Nat} {H C : j_H} {g act x : Int32} {Q : Option Value → j_H → Prop} (hC : j_co H = C) (hW : j_Wd C) (hn : 0 ≤ (j_I C 81 0).toInt) (hn2 : (j_I C 81 0).toInt ≤ 7) (hg : 0 ≤ g.toInt ∧ g.toInt < j_n C) (ha : act.toInt = 2) (hk : j_kd C g.toInt = 5) : j_wp (b + 20) 191 0 [.ref 81, .int g, .int act, .int x] [] H Q = Q (some (.int (j_acv 5 2 x g (j_I C 83 g.toInt.toNat)))) (j_bo 110 81 52 0 (j_acb 5 2) (j_sI H 81 52 (Int32.ofInt 0))) := by
  have h2 : 0 ≤ g.toInt ∧ g.toInt < (j_I C 81 0).toInt := hg
  have hk' : (j_I C 82 g.toInt.toNat).toInt = 5 := hk
  have hC1 : j_co (j_sI H 81 52 (Int32.ofInt 0)) = j_sI C 81 52 (Int32.ofInt 0) := by rw [c_sI' rfl, hC]
  have e810 : j_I (j_sI C 81 52 (Int32.ofInt 0)) 81 0 = j_I C 81 0 := by rw [h_II, if_neg (by decide)]
  have hk1 := fun (b' : Nat) (Q : Option Value → j_H → Prop) => k124 (b := b') (x := g) (Q := Q) hC1 (show j_Wd (j_sI C 81 52 (Int32.ofInt 0)) from hW) (by rw [e810]; exact hn) (by rw [e810]; exact hn2)
  simp only [e810, t_bzT h2] at hk1
  have hk121 : ∀ (b' : Nat) (v : Value) (H : j_H) (Q : Option Value → j_H → Prop), j_wp b' 121 0 [v, .int act, .int (Int32.ofInt 0), .int (Int32.ofInt 2)] [] H Q = Q (some (.int (Int32.ofInt 1))) H := fun b' v H Q => by
    rw [k121, t_bzT (by rw [ha]; decide)]
  obtain ⟨B, hB⟩ : ∃ B, B = j_aM H := ⟨_, rfl⟩
  have etm : j_sI H 81 52 (Int32.ofInt 0) = B [] := by rw [hB]; rfl
  have hBI : ∀ bs a k, ¬ a = 110 → ¬ (a = 81 ∧ k = 52) → j_scr a k = false → j_I (B bs) a k = j_I C a k := fun bs a k h1 h3 h4 => by rw [hB, tm_I h1 h3, rd_I hC h4]
  have hBR : ∀ bs a k, j_scr a k = false → j_R (B bs) a k = j_R C a k := fun bs a k h2 => by rw [hB, tm_R, rd_R hC h2]
  have hBc : ∀ bs a, j_cls (B bs) a = j_cls C a := fun bs a => by rw [hB, tm_cls, rd_cls hC]
  have hBt : ∀ bs a, j_tp (B bs) a = j_tp C a := fun bs a => by rw [hB, tm_tp, rd_tp hC]
  have hBl : ∀ bs a, j_ln (B bs) a = j_ln C a := fun bs a => by rw [hB, tm_ln, rd_ln hC]
  have hk63 : ∀ (b' : Nat) (bs : List Int) (y : Int) (Q : Option Value → j_H → Prop), bs.length < 20 → j_wp b' 183 0 [.ref 81, .int (Int32.ofInt y)] [] (B bs) Q = Q none (B (bs ++ [y])) := fun b' bs y Q hl => by rw [hB]; exact k183 hC hW hl
  rw [etm] at hk1
  have hfin : Q (some (.int (j_acv 5 2 x g (j_I C 83 g.toInt.toNat)))) (j_bo 110 81 52 0 (j_acb 5 2) (j_sI H 81 52 (Int32.ofInt 0))) = Q (some (.int (j_acv 5 2 x g (j_I C 83 g.toInt.toNat)))) (B (j_acb 5 2)) := by rw [hB]; rfl
  rw [hfin]
  have p1 : ∀ bs, j_vc (B bs) (.ref 81) = 12 := fun bs => by rw [v_vc, hBc]; exact w_c81 hW
  have f4 : ∀ bs, va_rf (j_R (B bs) (j_pa (.ref 81)) 4) = .ref 82 := fun bs => by rw [v_pa, hBR _ _ _ rfl, w_r81_4 hW]; rfl
  have f5 : ∀ bs, va_rf (j_R (B bs) (j_pa (.ref 81)) 5) = .ref 83 := fun bs => by rw [v_pa, hBR _ _ _ rfl, w_r81_5 hW]; rfl
  have p2 : ∀ bs, j_vt (B bs) (va_rf (j_R (B bs) (j_pa (.ref 81)) 4)) = 0 := fun bs => by rw [f4, v_vt, hBt]; exact w_t82 hW
  have p2' : ∀ bs, j_vt (B bs) (va_rf (j_R (B bs) (j_pa (.ref 81)) 5)) = 0 := fun bs => by rw [f5, v_vt, hBt]; exact w_t83 hW
  have p3 : 0 ≤ g.toInt := hg.1
  have p4 : ∀ bs, g.toInt < ((j_vl (B bs) (va_rf (j_R (B bs) (j_pa (.ref 81)) 4)) : Nat) : Int) := fun bs => by rw [f4, v_vl, hBl, w_n82 hW]; have := h2.2; omega
  have p4' : ∀ bs, g.toInt < ((j_vl (B bs) (va_rf (j_R (B bs) (j_pa (.ref 81)) 5)) : Nat) : Int) := fun bs => by rw [f5, v_vl, hBl, w_n83 hW]; have := h2.2; omega
  have kd : ∀ bs, (j_I (B bs) (j_pa (va_rf (j_R (B bs) (j_pa (.ref 81)) 4))) (j_ix g)).toInt = 5 := fun bs => by rw [f4, v_pa, hBI _ _ _ (by decide) (by omega) rfl]; exact hk'
  have vv : ∀ bs, j_I (B bs) (j_pa (va_rf (j_R (B bs) (j_pa (.ref 81)) 5))) (j_ix g) = j_I C 83 g.toInt.toNat := fun bs => by rw [f5, v_pa, hBI _ _ _ (by decide) (by omega) rfl]; rfl
  rw [b191_0 (by rw [v_vc, rd_cls hC]; exact w_c81 hW), v_pa, etm]
  clear hfin hB hk hn hn2 hg hC1 e810 hBI hBR hBc hBt hBl f4 f5 etm
  simp (disch := (first | exact p1 _ | exact p2 _ | exact p2' _ | exact p3 | exact p4 _ | exact p4' _ | (simp only [kd] <;> omega) | decide | omega | fail)) only [↓if_pos, ↓if_neg, ↓b191_5, ↓b191_10, ↓b191_13, ↓b191_20, ↓b191_23, ↓b191_25, ↓b191_29, ↓b191_35, ↓b191_38, ↓b191_43, ↓b191_49, ↓b191_52, ↓b191_58, ↓b184_0, ↓b184_6, ↓b185_0, ↓b185_40, ↓b185_46, ↓b185_54, ↓b185_55, ↓b185_61, ↓b185_67, ↓b185_69, ↓b185_75, ↓b185_81, ↓b185_89, ↓b185_95, ↓b186_0, ↓b186_6, ↓b186_12, ↓b187_0, ↓b187_6, ↓b187_12, ↓b188_0, ↓b188_40, ↓b188_46, ↓b188_47, ↓b188_53, ↓b188_61, ↓b188_62, ↓b188_68, ↓b188_74, ↓b188_82, ↓b188_84, ↓b188_90, ↓b189_0, ↓b189_6, ↓b189_12, ↓b190_0, ↓b190_36, ↓b190_42, ↓b190_48, ↓b190_56, ↓b190_58, ↓b190_64, ↓b190_72, ↓b190_73, ↓b190_79, j_ks, j_ke, hk1, hk121, hk63, vv, List.nil_append, List.cons_append]
  all_goals rfl
set_option maxHeartbeats 200000 in
theorem k92_6_2 {b : Nat} {H C : j_H} {g act x : Int32} {Q : Option Value → j_H → Prop} (hC : j_co H = C) (hI : j_In C) (hg : 0 ≤ g.toInt ∧ g.toInt < j_n C) (ha : act.toInt = 2) (hk : j_kd C g.toInt = 6) : j_wp (b + 20) 92 0 [.ref 12, .int g, .int act, .int x, j_u] [] H Q = Q (some (.int (j_acv 6 2 x g (j_I C 83 g.toInt.toNat)))) (j_bo 75 74 1 0 (j_acb 6 2) (j_sI H 74 1 (Int32.ofInt 0))) := by
  have hW := hI.1
  have hN := i_G hI
  obtain ⟨e4, -⟩ := i_n hI
  obtain ⟨a1, a2, -⟩ := i_r hI
  have h2 : 0 ≤ g.toInt ∧ g.toInt < (j_I C 81 0).toInt := hg
  obtain ⟨r, hr, hG⟩ := i_gs hI hg.1 hg.2
  obtain ⟨g1, g2, g3, g4, g5, -⟩ := id hG
  rw [hk] at g2
  have gk : j_cls C r = 9 := g2
  have sr := j_scr_r g1
  have g4' : j_I C r 1 = g := t_ext g4
  have g5' : j_I C r 2 = j_I C 83 g.toInt.toNat := t_ext g5
  have hC1 : j_co (j_sI H 74 1 (Int32.ofInt 0)) = j_sI C 74 1 (Int32.ofInt 0) := by rw [c_sI' rfl, hC]
  have e134 : j_I (j_sI C 74 1 (Int32.ofInt 0)) 13 4 = j_I C 81 0 := by rw [h_II, if_neg (by decide)]; exact e4
  have hk1 := fun (b' : Nat) (Q : Option Value → j_H → Prop) => k1 (b := b') (x := g) (Q := Q) hC1 (show j_Wd (j_sI C 74 1 (Int32.ofInt 0)) from hW) (by rw [e134]; exact a2) hN
  simp only [e134] at hk1
  have hr' : va_rf (j_R (j_sI C 74 1 (Int32.ofInt 0)) 14 (j_ix g)) = .ref r := by show va_rf (j_R C 14 g.toInt.toNat) = _; rw [hr]; rfl
  simp only [if_pos h2, hr'] at hk1
  have n11 : ¬ r = 11 := by omega
  have n74 : ¬ (r = 74 ∨ r = 75) := by omega
  obtain ⟨B, hB⟩ : ∃ B, B = j_aB H := ⟨_, rfl⟩
  have etb : j_sI H 74 1 (Int32.ofInt 0) = B [] := by rw [hB]; rfl
  have hBI : ∀ bs a k, ¬ (a = 74 ∨ a = 75) → j_scr a k = false → j_I (B bs) a k = j_I C a k := fun bs a k h1 h2 => by rw [hB, tb_I h1, rd_I hC h2]
  have hBR : ∀ bs a k, j_scr a k = false → j_R (B bs) a k = j_R C a k := fun bs a k h2 => by rw [hB, tb_R, rd_R hC h2]
  have hBc : ∀ bs a, j_cls (B bs) a = j_cls C a := fun bs a => by rw [hB, tb_cls, rd_cls hC]
  have hBt : ∀ bs a, j_tp (B bs) a = j_tp C a := fun bs a => by rw [hB, tb_tp, rd_tp hC]
  have hBl : ∀ bs a, j_ln (B bs) a = j_ln C a := fun bs a => by rw [hB, tb_ln, rd_ln hC]
  have hk63 : ∀ (b' : Nat) (bs : List Int) (y : Int) (Q : Option Value → j_H → Prop), bs.length < 20 → j_wp b' 63 0 [.ref 74, .int (Int32.ofInt y)] [] (B bs) Q = Q none (B (bs ++ [y])) := fun b' bs y Q hl => by rw [hB]; exact k63 hC hW hl
  rw [etb] at hk1
  have hfin : Q (some (.int (j_acv 6 2 x g (j_I C 83 g.toInt.toNat)))) (j_bo 75 74 1 0 (j_acb 6 2) (j_sI H 74 1 (Int32.ofInt 0))) = Q (some (.int (j_acv 6 2 x g (j_I C 83 g.toInt.toNat)))) (B (j_acb 6 2)) := by rw [hB]; rfl
  rw [hfin]
  clear hfin hB hk hG hI hN hg h2 hr hr'
  simp (disch := (first | assumption | exact n_N11 | exact n_R11 (by decide) | exact n_bz | (simp (disch := (first | assumption | omega | decide)) only [v_rs, v_rn, v_pa, v_vc, v_vt, v_vl, v_ir, v_in, v_po, v_pn, v_re, v_rN, v_Nr, v_fe, v_fN, v_c1i, v_c1r, v_c1n, v_c1u, v_c1f, v_if, h_II, h_LL, h_RR, h_IL, h_IR, h_LI, h_LR, h_RI, h_RL, h_Ic, h_Lc, h_Rc, h_Id, h_Ld, h_Rd, h_cls_sI, h_cls_sL, h_cls_sR, h_cls_cI, h_cls_cL, h_tp_sI, h_tp_sL, h_tp_sR, h_tp_cI, h_tp_cL, h_ln_sI, h_ln_sL, h_ln_sR, h_ln_cI, h_ln_cL, v_if, j_scr, w_c12 hW, w_r12_0 hW, w_r12_1 hW, w_r12_3 hW, w_r12_5 hW, w_r12_7 hW, w_r12_8 hW, w_r12_9 hW, w_r12_10 hW, w_r12_11 hW, w_r12_12 hW, w_r12_13 hW, w_c74 hW, w_r74_0 hW, j_Wd_I, j_Wd_L, t_addo, t_subo, t_mulo, t_of, t_divc, t_remc, t_em, Int.toNat_zero, j_ix, Int.toNat_natCast, t_addc, t_subc, t_mulc, t_bz0, t_bz1, Classical.not_not, not_false_eq_true, if_true, if_false, and_true, true_and, and_false, false_and, and_self, or_true, true_or, or_false, false_or, not_true_eq_false, reduceIte, ite_self, implies_true, p_I, p_L, p_R, q_I, q_L, q_R, p_cls, p_tp, p_ln, p_cop, p_cov, rd_I hC, rd_L hC, rd_R hC, rd_cls hC, rd_tp hC, rd_ln hC, hC, hW] <;> first | omega | rfl | decide) | omega | decide | fail)) only [↓if_pos, ↓if_neg, ↓b92_0, ↓b92_62, ↓b92_73, ↓b92_84, ↓b92_85, ↓b62_0, ↓b62_5, v_rs, v_rn, v_pa, v_vc, v_vt, v_vl, v_ir, v_in, v_po, v_pn, v_re, v_rN, v_Nr, v_fe, v_fN, v_c1i, v_c1r, v_c1n, v_c1u, v_c1f, v_if, h_II, h_LL, h_RR, h_IL, h_IR, h_LI, h_LR, h_RI, h_RL, h_Ic, h_Lc, h_Rc, h_Id, h_Ld, h_Rd, h_cls_sI, h_cls_sL, h_cls_sR, h_cls_cI, h_cls_cL, h_tp_sI, h_tp_sL, h_tp_sR, h_tp_cI, h_tp_cL, h_ln_sI, h_ln_sL, h_ln_sR, h_ln_cI, h_ln_cL, v_if, w_c12 hW, w_r12_0 hW, w_r12_1 hW, w_r12_3 hW, w_r12_5 hW, w_r12_7 hW, w_r12_8 hW, w_r12_9 hW, w_r12_10 hW, w_r12_11 hW, w_r12_12 hW, w_r12_13 hW, w_c74 hW, w_r74_0 hW, j_ks, j_ke, t_addo, t_subo, t_mulo, t_of, t_divc, t_remc, t_em, Int.toNat_zero, j_ix, Int.toNat_natCast, t_addc, t_subc, t_mulc, t_bz0, t_bz1, Classical.not_not, not_false_eq_true, if_true, if_false, and_true, true_and, and_false, false_and, and_self, or_true, true_or, or_false, false_or, not_true_eq_false, reduceIte, ite_self, implies_true, p_I, p_L, p_R, q_I, q_L, q_R, p_cls, p_tp, p_ln, p_cop, p_cov, rd_I hC, rd_L hC, rd_R hC, rd_cls hC, rd_tp hC, rd_ln hC, hC, hW]
  rw [etb]
  have c74 : ∀ bs, j_vc (B bs) (.ref 74) = 10 := fun bs => by rw [v_vc, hBc]; exact w_c74 hW
  have c12 : ∀ bs, j_vc (B bs) (.ref 12) = 11 := fun bs => by rw [v_vc, hBc]; exact w_c12 hW
  have cr : ∀ bs, j_vc (B bs) (.ref r) = 9 := fun bs => by rw [v_vc, hBc]; exact gk
  have a12 : ∀ bs, va_rf (j_R (B bs) (j_pa (.ref 12)) 8) = .ref 74 := fun bs => by rw [v_pa, hBR _ _ _ rfl, w_r12_8 hW]; rfl
  have a120 : ∀ bs, va_rf (j_R (B bs) (j_pa (.ref 12)) 0) = .ref 13 := fun bs => by rw [v_pa, hBR _ _ _ rfl, w_r12_0 hW]; rfl
  have a12' : ∀ bs, va_rf (j_R (B bs) 12 8) = .ref 74 := a12
  have a120' : ∀ bs, va_rf (j_R (B bs) 12 0) = .ref 13 := a120
  have c13 : ∀ bs, j_vc (B bs) (.ref 13) = 0 := fun bs => by rw [v_vc, hBc]; exact w_c13 hW
  have gI1 : ∀ bs, j_I (B bs) r 1 = g := fun bs => (hBI _ _ _ n74 (sr _)).trans g4'
  have gI2 : ∀ bs, j_I (B bs) r 2 = j_I C 83 g.toInt.toNat := fun bs => (hBI _ _ _ n74 (sr _)).trans g5'
  have nr11 : ¬ (Value.ref r) = .ref 11 := fun h => by injection h; contradiction
  have nrn : ¬ (Value.ref r) = .null := fun h => by cases h
  clear hBI hBR hBc hBt hBl g2 g3 g4 g5 hC1 e134 n11 n74 sr gk g4' g5' e4 a1 a2
  simp (disch := (first | exact c74 _ | exact cr _ | exact c12 _ | exact v_ir | exact nr11 | exact nrn | exact ha | (simp only [a12, a120, a12', a120', c74, cr, c12, c13, v_ir] <;> decide) | decide | omega | fail)) only [↓if_pos, ↓if_neg, ↓b92_7, ↓b92_15, ↓b92_22, ↓b92_24, ↓b92_52_9, ↓b92_62, ↓b92_63_9, ↓b92_73, ↓b92_74_9, ↓b92_84, ↓b92_85, ↓b18_0, ↓b18_6, ↓b44_0, ↓b44_6, ↓b44_14, ↓b47_0, ↓b47_6, ↓b47_12, ↓b60_0, ↓b60_6, ↓b60_12, ↓b19_0, ↓b19_6_9, ↓b19_12, ↓b38_0, ↓b38_6, ↓b38_12, ↓b48_0, ↓b48_6, ↓b48_14, ↓b59_0, ↓b59_6, ↓b59_12, ↓b59_18, ↓b20_0, ↓b20_6_9, ↓b20_12, ↓b15_0, ↓b15_6, ↓b15_17, ↓b41_0, ↓b41_6, ↓b41_12_9, ↓b41_18, j_ks, j_ke, hk1, hk63, a12, a120, a12', a120', v_pa, gI1, gI2, List.nil_append, List.cons_append]
  all_goals rfl
set_option maxHeartbeats 200000 in
theorem k191_6_2 {b : Nat} {H C : j_H} {g act x : Int32} {Q : Option Value → j_H → Prop} (hC : j_co H = C) (hW : j_Wd C) (hn : 0 ≤ (j_I C 81 0).toInt) (hn2 : (j_I C 81 0).toInt ≤ 7) (hg : 0 ≤ g.toInt ∧ g.toInt < j_n C) (ha : act.toInt = 2) (hk : j_kd C g.toInt = 6) : j_wp (b + 20) 191 0 [.ref 81, .int g, .int act, .int x] [] H Q = Q (some (.int (j_acv 6 2 x g (j_I C 83 g.toInt.toNat)))) (j_bo 110 81 52 0 (j_acb 6 2) (j_sI H 81 52 (Int32.ofInt 0))) := by
  have h2 : 0 ≤ g.toInt ∧ g.toInt < (j_I C 81 0).toInt := hg
  have hk' : (j_I C 82 g.toInt.toNat).toInt = 6 := hk
  have hC1 : j_co (j_sI H 81 52 (Int32.ofInt 0)) = j_sI C 81 52 (Int32.ofInt 0) := by rw [c_sI' rfl, hC]
  have e810 : j_I (j_sI C 81 52 (Int32.ofInt 0)) 81 0 = j_I C 81 0 := by rw [h_II, if_neg (by decide)]
  have hk1 := fun (b' : Nat) (Q : Option Value → j_H → Prop) => k124 (b := b') (x := g) (Q := Q) hC1 (show j_Wd (j_sI C 81 52 (Int32.ofInt 0)) from hW) (by rw [e810]; exact hn) (by rw [e810]; exact hn2)
  simp only [e810, t_bzT h2] at hk1
  have hk121 : ∀ (b' : Nat) (v : Value) (H : j_H) (Q : Option Value → j_H → Prop), j_wp b' 121 0 [v, .int act, .int (Int32.ofInt 0), .int (Int32.ofInt 2)] [] H Q = Q (some (.int (Int32.ofInt 1))) H := fun b' v H Q => by
    rw [k121, t_bzT (by rw [ha]; decide)]
  obtain ⟨B, hB⟩ : ∃ B, B = j_aM H := ⟨_, rfl⟩
  have etm : j_sI H 81 52 (Int32.ofInt 0) = B [] := by rw [hB]; rfl
  have hBI : ∀ bs a k, ¬ a = 110 → ¬ (a = 81 ∧ k = 52) → j_scr a k = false → j_I (B bs) a k = j_I C a k := fun bs a k h1 h3 h4 => by rw [hB, tm_I h1 h3, rd_I hC h4]
  have hBR : ∀ bs a k, j_scr a k = false → j_R (B bs) a k = j_R C a k := fun bs a k h2 => by rw [hB, tm_R, rd_R hC h2]
  have hBc : ∀ bs a, j_cls (B bs) a = j_cls C a := fun bs a => by rw [hB, tm_cls, rd_cls hC]
  have hBt : ∀ bs a, j_tp (B bs) a = j_tp C a := fun bs a => by rw [hB, tm_tp, rd_tp hC]
  have hBl : ∀ bs a, j_ln (B bs) a = j_ln C a := fun bs a => by rw [hB, tm_ln, rd_ln hC]
  have hk63 : ∀ (b' : Nat) (bs : List Int) (y : Int) (Q : Option Value → j_H → Prop), bs.length < 20 → j_wp b' 183 0 [.ref 81, .int (Int32.ofInt y)] [] (B bs) Q = Q none (B (bs ++ [y])) := fun b' bs y Q hl => by rw [hB]; exact k183 hC hW hl
  rw [etm] at hk1
  have hfin : Q (some (.int (j_acv 6 2 x g (j_I C 83 g.toInt.toNat)))) (j_bo 110 81 52 0 (j_acb 6 2) (j_sI H 81 52 (Int32.ofInt 0))) = Q (some (.int (j_acv 6 2 x g (j_I C 83 g.toInt.toNat)))) (B (j_acb 6 2)) := by rw [hB]; rfl
  rw [hfin]
  have p1 : ∀ bs, j_vc (B bs) (.ref 81) = 12 := fun bs => by rw [v_vc, hBc]; exact w_c81 hW
  have f4 : ∀ bs, va_rf (j_R (B bs) (j_pa (.ref 81)) 4) = .ref 82 := fun bs => by rw [v_pa, hBR _ _ _ rfl, w_r81_4 hW]; rfl
  have f5 : ∀ bs, va_rf (j_R (B bs) (j_pa (.ref 81)) 5) = .ref 83 := fun bs => by rw [v_pa, hBR _ _ _ rfl, w_r81_5 hW]; rfl
  have p2 : ∀ bs, j_vt (B bs) (va_rf (j_R (B bs) (j_pa (.ref 81)) 4)) = 0 := fun bs => by rw [f4, v_vt, hBt]; exact w_t82 hW
  have p2' : ∀ bs, j_vt (B bs) (va_rf (j_R (B bs) (j_pa (.ref 81)) 5)) = 0 := fun bs => by rw [f5, v_vt, hBt]; exact w_t83 hW
  have p3 : 0 ≤ g.toInt := hg.1
  have p4 : ∀ bs, g.toInt < ((j_vl (B bs) (va_rf (j_R (B bs) (j_pa (.ref 81)) 4)) : Nat) : Int) := fun bs => by rw [f4, v_vl, hBl, w_n82 hW]; have := h2.2; omega
  have p4' : ∀ bs, g.toInt < ((j_vl (B bs) (va_rf (j_R (B bs) (j_pa (.ref 81)) 5)) : Nat) : Int) := fun bs => by rw [f5, v_vl, hBl, w_n83 hW]; have := h2.2; omega
  have kd : ∀ bs, (j_I (B bs) (j_pa (va_rf (j_R (B bs) (j_pa (.ref 81)) 4))) (j_ix g)).toInt = 6 := fun bs => by rw [f4, v_pa, hBI _ _ _ (by decide) (by omega) rfl]; exact hk'
  have vv : ∀ bs, j_I (B bs) (j_pa (va_rf (j_R (B bs) (j_pa (.ref 81)) 5))) (j_ix g) = j_I C 83 g.toInt.toNat := fun bs => by rw [f5, v_pa, hBI _ _ _ (by decide) (by omega) rfl]; rfl
  rw [b191_0 (by rw [v_vc, rd_cls hC]; exact w_c81 hW), v_pa, etm]
  clear hfin hB hk hn hn2 hg hC1 e810 hBI hBR hBc hBt hBl f4 f5 etm
  simp (disch := (first | exact p1 _ | exact p2 _ | exact p2' _ | exact p3 | exact p4 _ | exact p4' _ | (simp only [kd] <;> omega) | decide | omega | fail)) only [↓if_pos, ↓if_neg, ↓b191_5, ↓b191_10, ↓b191_13, ↓b191_20, ↓b191_23, ↓b191_25, ↓b191_29, ↓b191_35, ↓b191_38, ↓b191_43, ↓b191_49, ↓b191_52, ↓b191_58, ↓b184_0, ↓b184_6, ↓b185_0, ↓b185_40, ↓b185_46, ↓b185_54, ↓b185_55, ↓b185_61, ↓b185_67, ↓b185_69, ↓b185_75, ↓b185_81, ↓b185_89, ↓b185_95, ↓b186_0, ↓b186_6, ↓b186_12, ↓b187_0, ↓b187_6, ↓b187_12, ↓b188_0, ↓b188_40, ↓b188_46, ↓b188_47, ↓b188_53, ↓b188_61, ↓b188_62, ↓b188_68, ↓b188_74, ↓b188_82, ↓b188_84, ↓b188_90, ↓b189_0, ↓b189_6, ↓b189_12, ↓b190_0, ↓b190_36, ↓b190_42, ↓b190_48, ↓b190_56, ↓b190_58, ↓b190_64, ↓b190_72, ↓b190_73, ↓b190_79, j_ks, j_ke, hk1, hk121, hk63, vv, List.nil_append, List.cons_append]
  all_goals rfl
theorem k92n {b : Nat} {H C : j_H} {g act x : Int32} {Q : Option Value → j_H → Prop} (hC : j_co H = C) (hI : j_In C) (h : ¬ ((0 ≤ g.toInt ∧ g.toInt < j_n C) ∧ 0 ≤ act.toInt ∧ act.toInt ≤ 2)) : j_wp (b + 20) 92 0 [.ref 12, .int g, .int act, .int x, j_u] [] H Q = Q (some (.int (Int32.ofInt 0))) (j_sI H 74 1 (Int32.ofInt 0)) := by
  have hW := hI.1
  have hN := i_G hI
  obtain ⟨e4, -⟩ := i_n hI
  obtain ⟨a1, a2, -⟩ := i_r hI
  have hC1 : j_co (j_sI H 74 1 (Int32.ofInt 0)) = j_sI C 74 1 (Int32.ofInt 0) := by rw [c_sI' rfl, hC]
  have e134 : j_I (j_sI C 74 1 (Int32.ofInt 0)) 13 4 = j_I C 81 0 := by rw [h_II, if_neg (by decide)]; exact e4
  have hk1 := fun (b' : Nat) (Q : Option Value → j_H → Prop) => k1 (b := b') (x := g) (Q := Q) hC1 (show j_Wd (j_sI C 74 1 (Int32.ofInt 0)) from hW) (by rw [e134]; exact a2) hN
  simp only [e134] at hk1
  by_cases hg : 0 ≤ g.toInt ∧ g.toInt < j_n C
  · have h2 : 0 ≤ g.toInt ∧ g.toInt < (j_I C 81 0).toInt := hg
    obtain ⟨r, hr, hG⟩ := i_gs hI hg.1 hg.2
    have q0 : ¬ act.toInt = 0 := by omega
    have q1 : ¬ act.toInt = 1 := by omega
    have q2 : ¬ act.toInt = 2 := by omega
    have n11 : ¬ r = 11 := by have := hG.1; omega
    have hr' : va_rf (j_R (j_sI C 74 1 (Int32.ofInt 0)) 14 (j_ix g)) = .ref r := by show va_rf (j_R C 14 g.toInt.toNat) = _; rw [hr]; rfl
    simp only [if_pos h2, hr'] at hk1
    simp (disch := (first | assumption | exact n_N11 | exact n_R11 (by decide) | exact n_bz | (simp (disch := (first | assumption | omega | decide)) only [v_rs, v_rn, v_pa, v_vc, v_vt, v_vl, v_ir, v_in, v_po, v_pn, v_re, v_rN, v_Nr, v_fe, v_fN, v_c1i, v_c1r, v_c1n, v_c1u, v_c1f, v_if, h_II, h_LL, h_RR, h_IL, h_IR, h_LI, h_LR, h_RI, h_RL, h_Ic, h_Lc, h_Rc, h_Id, h_Ld, h_Rd, h_cls_sI, h_cls_sL, h_cls_sR, h_cls_cI, h_cls_cL, h_tp_sI, h_tp_sL, h_tp_sR, h_tp_cI, h_tp_cL, h_ln_sI, h_ln_sL, h_ln_sR, h_ln_cI, h_ln_cL, v_if, j_scr, w_c12 hW, w_r12_0 hW, w_r12_1 hW, w_r12_3 hW, w_r12_5 hW, w_r12_7 hW, w_r12_8 hW, w_r12_9 hW, w_r12_10 hW, w_r12_11 hW, w_r12_12 hW, w_r12_13 hW, w_c13 hW, w_r13_0 hW, w_r13_1 hW, w_r13_2 hW, w_r13_3 hW, w_c74 hW, w_r74_0 hW, j_Wd_I, j_Wd_L, t_addo, t_subo, t_mulo, t_of, t_divc, t_remc, t_em, Int.toNat_zero, j_ix, Int.toNat_natCast, t_addc, t_subc, t_mulc, t_bz0, t_bz1, Classical.not_not, not_false_eq_true, if_true, if_false, and_true, true_and, and_false, false_and, and_self, or_true, true_or, or_false, false_or, not_true_eq_false, reduceIte, ite_self, implies_true, p_I, p_L, p_R, q_I, q_L, q_R, p_cls, p_tp, p_ln, p_cop, p_cov, rd_I hC, rd_L hC, rd_R hC, rd_cls hC, rd_tp hC, rd_ln hC, hC, hW, hk1, q0, q1, q2, n11] <;> first | omega | rfl | decide) | omega | decide | fail)) only [↓if_pos, ↓if_neg, ↓b92_0, ↓b92_7, ↓b92_15, ↓b92_22, ↓b92_24, ↓b92_52_1, ↓b92_52_2, ↓b92_52_4, ↓b92_52_5, ↓b92_52_6, ↓b92_52_7, ↓b92_52_9, ↓b92_62, ↓b92_63_1, ↓b92_63_2, ↓b92_63_4, ↓b92_63_5, ↓b92_63_6, ↓b92_63_7, ↓b92_63_9, ↓b92_73, ↓b92_74_1, ↓b92_74_2, ↓b92_74_4, ↓b92_74_5, ↓b92_74_6, ↓b92_74_7, ↓b92_74_9, ↓b92_84, ↓b92_85, ↓b62_0, ↓b62_5, v_rs, v_rn, v_pa, v_vc, v_vt, v_vl, v_ir, v_in, v_po, v_pn, v_re, v_rN, v_Nr, v_fe, v_fN, v_c1i, v_c1r, v_c1n, v_c1u, v_c1f, v_if, h_II, h_LL, h_RR, h_IL, h_IR, h_LI, h_LR, h_RI, h_RL, h_Ic, h_Lc, h_Rc, h_Id, h_Ld, h_Rd, h_cls_sI, h_cls_sL, h_cls_sR, h_cls_cI, h_cls_cL, h_tp_sI, h_tp_sL, h_tp_sR, h_tp_cI, h_tp_cL, h_ln_sI, h_ln_sL, h_ln_sR, h_ln_cI, h_ln_cL, v_if, w_c12 hW, w_r12_0 hW, w_r12_1 hW, w_r12_3 hW, w_r12_5 hW, w_r12_7 hW, w_r12_8 hW, w_r12_9 hW, w_r12_10 hW, w_r12_11 hW, w_r12_12 hW, w_r12_13 hW, w_c13 hW, w_r13_0 hW, w_r13_1 hW, w_r13_2 hW, w_r13_3 hW, w_c74 hW, w_r74_0 hW, j_ks, j_ke, t_addo, t_subo, t_mulo, t_of, t_divc, t_remc, t_em, Int.toNat_zero, j_ix, Int.toNat_natCast, t_addc, t_subc, t_mulc, t_bz0, t_bz1, Classical.not_not, not_false_eq_true, if_true, if_false, and_true, true_and, and_false, false_and, and_self, or_true, true_or, or_false, false_or, not_true_eq_false, reduceIte, ite_self, implies_true, p_I, p_L, p_R, q_I, q_L, q_R, p_cls, p_tp, p_ln, p_cop, p_cov, rd_I hC, rd_L hC, rd_R hC, rd_cls hC, rd_tp hC, rd_ln hC, hC, hW, hk1, q0, q1, q2, n11]
  · have h2 : ¬ (0 ≤ g.toInt ∧ g.toInt < (j_I C 81 0).toInt) := hg
    simp only [if_neg h2] at hk1
    simp (disch := (first | assumption | exact n_N11 | exact n_R11 (by decide) | exact n_bz | (simp (disch := (first | assumption | omega | decide)) only [v_rs, v_rn, v_pa, v_vc, v_vt, v_vl, v_ir, v_in, v_po, v_pn, v_re, v_rN, v_Nr, v_fe, v_fN, v_c1i, v_c1r, v_c1n, v_c1u, v_c1f, v_if, h_II, h_LL, h_RR, h_IL, h_IR, h_LI, h_LR, h_RI, h_RL, h_Ic, h_Lc, h_Rc, h_Id, h_Ld, h_Rd, h_cls_sI, h_cls_sL, h_cls_sR, h_cls_cI, h_cls_cL, h_tp_sI, h_tp_sL, h_tp_sR, h_tp_cI, h_tp_cL, h_ln_sI, h_ln_sL, h_ln_sR, h_ln_cI, h_ln_cL, v_if, j_scr, w_c12 hW, w_r12_0 hW, w_r12_1 hW, w_r12_3 hW, w_r12_5 hW, w_r12_7 hW, w_r12_8 hW, w_r12_9 hW, w_r12_10 hW, w_r12_11 hW, w_r12_12 hW, w_r12_13 hW, w_c13 hW, w_r13_0 hW, w_r13_1 hW, w_r13_2 hW, w_r13_3 hW, w_c74 hW, w_r74_0 hW, j_Wd_I, j_Wd_L, t_addo, t_subo, t_mulo, t_of, t_divc, t_remc, t_em, Int.toNat_zero, j_ix, Int.toNat_natCast, t_addc, t_subc, t_mulc, t_bz0, t_bz1, Classical.not_not, not_false_eq_true, if_true, if_false, and_true, true_and, and_false, false_and, and_self, or_true, true_or, or_false, false_or, not_true_eq_false, reduceIte, ite_self, implies_true, p_I, p_L, p_R, q_I, q_L, q_R, p_cls, p_tp, p_ln, p_cop, p_cov, rd_I hC, rd_L hC, rd_R hC, rd_cls hC, rd_tp hC, rd_ln hC, hC, hW, hk1] <;> first | omega | rfl | decide) | omega | decide | fail)) only [↓if_pos, ↓if_neg, ↓b92_0, ↓b92_7, ↓b92_15, ↓b92_22, ↓b92_24, ↓b92_52_1, ↓b92_52_2, ↓b92_52_4, ↓b92_52_5, ↓b92_52_6, ↓b92_52_7, ↓b92_52_9, ↓b92_62, ↓b92_63_1, ↓b92_63_2, ↓b92_63_4, ↓b92_63_5, ↓b92_63_6, ↓b92_63_7, ↓b92_63_9, ↓b92_73, ↓b92_74_1, ↓b92_74_2, ↓b92_74_4, ↓b92_74_5, ↓b92_74_6, ↓b92_74_7, ↓b92_74_9, ↓b92_84, ↓b92_85, ↓b62_0, ↓b62_5, v_rs, v_rn, v_pa, v_vc, v_vt, v_vl, v_ir, v_in, v_po, v_pn, v_re, v_rN, v_Nr, v_fe, v_fN, v_c1i, v_c1r, v_c1n, v_c1u, v_c1f, v_if, h_II, h_LL, h_RR, h_IL, h_IR, h_LI, h_LR, h_RI, h_RL, h_Ic, h_Lc, h_Rc, h_Id, h_Ld, h_Rd, h_cls_sI, h_cls_sL, h_cls_sR, h_cls_cI, h_cls_cL, h_tp_sI, h_tp_sL, h_tp_sR, h_tp_cI, h_tp_cL, h_ln_sI, h_ln_sL, h_ln_sR, h_ln_cI, h_ln_cL, v_if, w_c12 hW, w_r12_0 hW, w_r12_1 hW, w_r12_3 hW, w_r12_5 hW, w_r12_7 hW, w_r12_8 hW, w_r12_9 hW, w_r12_10 hW, w_r12_11 hW, w_r12_12 hW, w_r12_13 hW, w_c13 hW, w_r13_0 hW, w_r13_1 hW, w_r13_2 hW, w_r13_3 hW, w_c74 hW, w_r74_0 hW, j_ks, j_ke, t_addo, t_subo, t_mulo, t_of, t_divc, t_remc, t_em, Int.toNat_zero, j_ix, Int.toNat_natCast, t_addc, t_subc, t_mulc, t_bz0, t_bz1, Classical.not_not, not_false_eq_true, if_true, if_false, and_true, true_and, and_false, false_and, and_self, or_true, true_or, or_false, false_or, not_true_eq_false, reduceIte, ite_self, implies_true, p_I, p_L, p_R, q_I, q_L, q_R, p_cls, p_tp, p_ln, p_cop, p_cov, rd_I hC, rd_L hC, rd_R hC, rd_cls hC, rd_tp hC, rd_ln hC, hC, hW, hk1]
theorem k191n {b : Nat} {H C : j_H} {g act x : Int32} {Q : Option Value → j_H → Prop} (hC : j_co H = C) (hW : j_Wd C) (hn : 0 ≤ (j_I C 81 0).toInt) (hn2 : (j_I C 81 0).toInt ≤ 7) (h : ¬ ((0 ≤ g.toInt ∧ g.toInt < j_n C) ∧ 0 ≤ act.toInt ∧ act.toInt ≤ 2)) : j_wp (b + 20) 191 0 [.ref 81, .int g, .int act, .int x] [] H Q = Q (some (.int (Int32.ofInt 0))) (j_sI H 81 52 (Int32.ofInt 0)) := by
  have hC1 : j_co (j_sI H 81 52 (Int32.ofInt 0)) = j_sI C 81 52 (Int32.ofInt 0) := by rw [c_sI' rfl, hC]
  have e810 : j_I (j_sI C 81 52 (Int32.ofInt 0)) 81 0 = j_I C 81 0 := by rw [h_II, if_neg (by decide)]
  have hk1 := fun (b' : Nat) (Q : Option Value → j_H → Prop) => k124 (b := b') (x := g) (Q := Q) hC1 (show j_Wd (j_sI C 81 52 (Int32.ofInt 0)) from hW) (by rw [e810]; exact hn) (by rw [e810]; exact hn2)
  simp only [e810] at hk1
  by_cases hg : 0 ≤ g.toInt ∧ g.toInt < j_n C
  · have h2 : 0 ≤ g.toInt ∧ g.toInt < (j_I C 81 0).toInt := hg
    have q : ¬ (0 ≤ act.toInt ∧ act.toInt ≤ 2) := fun h' => h ⟨hg, h'⟩
    simp (disch := (first | assumption | exact n_N11 | exact n_R11 (by decide) | exact n_bz | (simp (disch := (first | assumption | omega | decide)) only [v_rs, v_rn, v_pa, v_vc, v_vt, v_vl, v_ir, v_in, v_po, v_pn, v_re, v_rN, v_Nr, v_fe, v_fN, v_c1i, v_c1r, v_c1n, v_c1u, v_c1f, v_if, h_II, h_LL, h_RR, h_IL, h_IR, h_LI, h_LR, h_RI, h_RL, h_Ic, h_Lc, h_Rc, h_Id, h_Ld, h_Rd, h_cls_sI, h_cls_sL, h_cls_sR, h_cls_cI, h_cls_cL, h_tp_sI, h_tp_sL, h_tp_sR, h_tp_cI, h_tp_cL, h_ln_sI, h_ln_sL, h_ln_sR, h_ln_cI, h_ln_cL, v_if, j_scr, w_c81 hW, w_r81_4 hW, w_r81_5 hW, w_r81_6 hW, w_r81_7 hW, w_r81_13 hW, w_r81_14 hW, w_r81_15 hW, w_r81_16 hW, w_r81_17 hW, w_r81_18 hW, w_r81_19 hW, w_r81_20 hW, w_r81_24 hW, w_r81_25 hW, w_r81_26 hW, w_r81_28 hW, w_r81_29 hW, w_r81_30 hW, w_r81_31 hW, w_r81_32 hW, w_r81_33 hW, w_r81_37 hW, w_r81_46 hW, w_r81_47 hW, w_r81_48 hW, w_r81_49 hW, w_r81_50 hW, w_r81_51 hW, w_r81_53 hW, w_r81_54 hW, w_r81_55 hW, w_r81_56 hW, w_r81_57 hW, j_Wd_I, j_Wd_L, t_addo, t_subo, t_mulo, t_of, t_divc, t_remc, t_em, Int.toNat_zero, j_ix, Int.toNat_natCast, t_addc, t_subc, t_mulc, t_bz0, t_bz1, Classical.not_not, not_false_eq_true, if_true, if_false, and_true, true_and, and_false, false_and, and_self, or_true, true_or, or_false, false_or, not_true_eq_false, reduceIte, ite_self, implies_true, p_I, p_L, p_R, q_I, q_L, q_R, p_cls, p_tp, p_ln, p_cop, p_cov, rd_I hC, rd_L hC, rd_R hC, rd_cls hC, rd_tp hC, rd_ln hC, hC, hW, hk1, k121, h2, q] <;> first | omega | rfl | decide) | omega | decide | fail)) only [↓if_pos, ↓if_neg, ↓b191_0, ↓b191_5, ↓b191_10, ↓b191_13, ↓b191_20, ↓b191_23, ↓b191_25, ↓b191_29, ↓b191_35, ↓b191_38, ↓b191_43, ↓b191_49, ↓b191_52, ↓b191_58, v_rs, v_rn, v_pa, v_vc, v_vt, v_vl, v_ir, v_in, v_po, v_pn, v_re, v_rN, v_Nr, v_fe, v_fN, v_c1i, v_c1r, v_c1n, v_c1u, v_c1f, v_if, h_II, h_LL, h_RR, h_IL, h_IR, h_LI, h_LR, h_RI, h_RL, h_Ic, h_Lc, h_Rc, h_Id, h_Ld, h_Rd, h_cls_sI, h_cls_sL, h_cls_sR, h_cls_cI, h_cls_cL, h_tp_sI, h_tp_sL, h_tp_sR, h_tp_cI, h_tp_cL, h_ln_sI, h_ln_sL, h_ln_sR, h_ln_cI, h_ln_cL, v_if, w_c81 hW, w_r81_4 hW, w_r81_5 hW, w_r81_6 hW, w_r81_7 hW, w_r81_13 hW, w_r81_14 hW, w_r81_15 hW, w_r81_16 hW, w_r81_17 hW, w_r81_18 hW, w_r81_19 hW, w_r81_20 hW, w_r81_24 hW, w_r81_25 hW, w_r81_26 hW, w_r81_28 hW, w_r81_29 hW, w_r81_30 hW, w_r81_31 hW, w_r81_32 hW, w_r81_33 hW, w_r81_37 hW, w_r81_46 hW, w_r81_47 hW, w_r81_48 hW, w_r81_49 hW, w_r81_50 hW, w_r81_51 hW, w_r81_53 hW, w_r81_54 hW, w_r81_55 hW, w_r81_56 hW, w_r81_57 hW, j_ks, j_ke, t_addo, t_subo, t_mulo, t_of, t_divc, t_remc, t_em, Int.toNat_zero, j_ix, Int.toNat_natCast, t_addc, t_subc, t_mulc, t_bz0, t_bz1, Classical.not_not, not_false_eq_true, if_true, if_false, and_true, true_and, and_false, false_and, and_self, or_true, true_or, or_false, false_or, not_true_eq_false, reduceIte, ite_self, implies_true, p_I, p_L, p_R, q_I, q_L, q_R, p_cls, p_tp, p_ln, p_cop, p_cov, rd_I hC, rd_L hC, rd_R hC, rd_cls hC, rd_tp hC, rd_ln hC, hC, hW, hk1, k121, h2, q]
  · have h2 : ¬ (0 ≤ g.toInt ∧ g.toInt < (j_I C 81 0).toInt) := hg
    simp (disch := (first | assumption | exact n_N11 | exact n_R11 (by decide) | exact n_bz | (simp (disch := (first | assumption | omega | decide)) only [v_rs, v_rn, v_pa, v_vc, v_vt, v_vl, v_ir, v_in, v_po, v_pn, v_re, v_rN, v_Nr, v_fe, v_fN, v_c1i, v_c1r, v_c1n, v_c1u, v_c1f, v_if, h_II, h_LL, h_RR, h_IL, h_IR, h_LI, h_LR, h_RI, h_RL, h_Ic, h_Lc, h_Rc, h_Id, h_Ld, h_Rd, h_cls_sI, h_cls_sL, h_cls_sR, h_cls_cI, h_cls_cL, h_tp_sI, h_tp_sL, h_tp_sR, h_tp_cI, h_tp_cL, h_ln_sI, h_ln_sL, h_ln_sR, h_ln_cI, h_ln_cL, v_if, j_scr, w_c81 hW, w_r81_4 hW, w_r81_5 hW, w_r81_6 hW, w_r81_7 hW, w_r81_13 hW, w_r81_14 hW, w_r81_15 hW, w_r81_16 hW, w_r81_17 hW, w_r81_18 hW, w_r81_19 hW, w_r81_20 hW, w_r81_24 hW, w_r81_25 hW, w_r81_26 hW, w_r81_28 hW, w_r81_29 hW, w_r81_30 hW, w_r81_31 hW, w_r81_32 hW, w_r81_33 hW, w_r81_37 hW, w_r81_46 hW, w_r81_47 hW, w_r81_48 hW, w_r81_49 hW, w_r81_50 hW, w_r81_51 hW, w_r81_53 hW, w_r81_54 hW, w_r81_55 hW, w_r81_56 hW, w_r81_57 hW, j_Wd_I, j_Wd_L, t_addo, t_subo, t_mulo, t_of, t_divc, t_remc, t_em, Int.toNat_zero, j_ix, Int.toNat_natCast, t_addc, t_subc, t_mulc, t_bz0, t_bz1, Classical.not_not, not_false_eq_true, if_true, if_false, and_true, true_and, and_false, false_and, and_self, or_true, true_or, or_false, false_or, not_true_eq_false, reduceIte, ite_self, implies_true, p_I, p_L, p_R, q_I, q_L, q_R, p_cls, p_tp, p_ln, p_cop, p_cov, rd_I hC, rd_L hC, rd_R hC, rd_cls hC, rd_tp hC, rd_ln hC, hC, hW, hk1, k121, h2] <;> first | omega | rfl | decide) | omega | decide | fail)) only [↓if_pos, ↓if_neg, ↓b191_0, ↓b191_5, ↓b191_10, ↓b191_13, ↓b191_20, ↓b191_23, ↓b191_25, ↓b191_29, ↓b191_35, ↓b191_38, ↓b191_43, ↓b191_49, ↓b191_52, ↓b191_58, v_rs, v_rn, v_pa, v_vc, v_vt, v_vl, v_ir, v_in, v_po, v_pn, v_re, v_rN, v_Nr, v_fe, v_fN, v_c1i, v_c1r, v_c1n, v_c1u, v_c1f, v_if, h_II, h_LL, h_RR, h_IL, h_IR, h_LI, h_LR, h_RI, h_RL, h_Ic, h_Lc, h_Rc, h_Id, h_Ld, h_Rd, h_cls_sI, h_cls_sL, h_cls_sR, h_cls_cI, h_cls_cL, h_tp_sI, h_tp_sL, h_tp_sR, h_tp_cI, h_tp_cL, h_ln_sI, h_ln_sL, h_ln_sR, h_ln_cI, h_ln_cL, v_if, w_c81 hW, w_r81_4 hW, w_r81_5 hW, w_r81_6 hW, w_r81_7 hW, w_r81_13 hW, w_r81_14 hW, w_r81_15 hW, w_r81_16 hW, w_r81_17 hW, w_r81_18 hW, w_r81_19 hW, w_r81_20 hW, w_r81_24 hW, w_r81_25 hW, w_r81_26 hW, w_r81_28 hW, w_r81_29 hW, w_r81_30 hW, w_r81_31 hW, w_r81_32 hW, w_r81_33 hW, w_r81_37 hW, w_r81_46 hW, w_r81_47 hW, w_r81_48 hW, w_r81_49 hW, w_r81_50 hW, w_r81_51 hW, w_r81_53 hW, w_r81_54 hW, w_r81_55 hW, w_r81_56 hW, w_r81_57 hW, j_ks, j_ke, t_addo, t_subo, t_mulo, t_of, t_divc, t_remc, t_em, Int.toNat_zero, j_ix, Int.toNat_natCast, t_addc, t_subc, t_mulc, t_bz0, t_bz1, Classical.not_not, not_false_eq_true, if_true, if_false, and_true, true_and, and_false, false_and, and_self, or_true, true_or, or_false, false_or, not_true_eq_false, reduceIte, ite_self, implies_true, p_I, p_L, p_R, q_I, q_L, q_R, p_cls, p_tp, p_ln, p_cop, p_cov, rd_I hC, rd_L hC, rd_R hC, rd_cls hC, rd_tp hC, rd_ln hC, hC, hW, hk1, k121, h2]
theorem j_acb_l (k a : Int) : (j_acb k a).length ≤ 20 := by
  unfold j_acb; (repeat' split) <;> decide
theorem k92 {b : Nat} {H C : j_H} {g act x : Int32} {Q : Option Value → j_H → Prop} (hC : j_co H = C) (hI : j_In C) (hg : 0 ≤ g.toInt ∧ g.toInt < j_n C) (ha : 0 ≤ act.toInt ∧ act.toInt ≤ 2) : j_wp (b + 20) 92 0 [.ref 12, .int g, .int act, .int x, j_u] [] H Q = Q (some (.int (j_acv (j_kd C g.toInt) act.toInt x g (j_I C 83 g.toInt.toNat)))) (j_bo 75 74 1 0 (j_acb (j_kd C g.toInt) act.toInt) (j_sI H 74 1 (Int32.ofInt 0))) := by
  obtain ⟨r, hr, hG⟩ := i_gs hI hg.1 hg.2
  obtain ⟨g1, g2, g3, g4, g5, g6, g7, g8, g9, -⟩ := id hG
  rcases (show act.toInt = 0 ∨ act.toInt = 1 ∨ act.toInt = 2 by omega) with a | a | a <;> rcases (show j_kd C g.toInt = 0 ∨ j_kd C g.toInt = 1 ∨ j_kd C g.toInt = 2 ∨ j_kd C g.toInt = 3 ∨ j_kd C g.toInt = 4 ∨ j_kd C g.toInt = 5 ∨ j_kd C g.toInt = 6 by omega) with e | e | e | e | e | e | e <;> rw [a, e]
  · exact k92_0_0 hC hI hg a e
  · exact k92_1_0 hC hI hg a e
  · exact k92_2_0 hC hI hg a e
  · exact k92_3_0 hC hI hg a e
  · exact k92_4_0 hC hI hg a e
  · exact k92_5_0 hC hI hg a e
  · exact k92_6_0 hC hI hg a e
  · exact k92_0_1 hC hI hg a e
  · exact k92_1_1 hC hI hg a e
  · exact k92_2_1 hC hI hg a e
  · exact k92_3_1 hC hI hg a e
  · exact k92_4_1 hC hI hg a e
  · exact k92_5_1 hC hI hg a e
  · exact k92_6_1 hC hI hg a e
  · exact k92_0_2 hC hI hg a e
  · exact k92_1_2 hC hI hg a e
  · exact k92_2_2 hC hI hg a e
  · exact k92_3_2 hC hI hg a e
  · exact k92_4_2 hC hI hg a e
  · exact k92_5_2 hC hI hg a e
  · exact k92_6_2 hC hI hg a e
theorem k191 {b : Nat} {H C : j_H} {g act x : Int32} {Q : Option Value → j_H → Prop} (hC : j_co H = C) (hW : j_Wd C) (hn : 0 ≤ (j_I C 81 0).toInt) (hn2 : (j_I C 81 0).toInt ≤ 7) (hg : 0 ≤ g.toInt ∧ g.toInt < j_n C) (hk : 0 ≤ j_kd C g.toInt ∧ j_kd C g.toInt ≤ 6) (ha : 0 ≤ act.toInt ∧ act.toInt ≤ 2) : j_wp (b + 20) 191 0 [.ref 81, .int g, .int act, .int x] [] H Q = Q (some (.int (j_acv (j_kd C g.toInt) act.toInt x g (j_I C 83 g.toInt.toNat)))) (j_bo 110 81 52 0 (j_acb (j_kd C g.toInt) act.toInt) (j_sI H 81 52 (Int32.ofInt 0))) := by
  rcases (show act.toInt = 0 ∨ act.toInt = 1 ∨ act.toInt = 2 by omega) with a | a | a <;> rcases (show j_kd C g.toInt = 0 ∨ j_kd C g.toInt = 1 ∨ j_kd C g.toInt = 2 ∨ j_kd C g.toInt = 3 ∨ j_kd C g.toInt = 4 ∨ j_kd C g.toInt = 5 ∨ j_kd C g.toInt = 6 by omega) with e | e | e | e | e | e | e <;> rw [a, e]
  · exact k191_0_0 hC hW hn hn2 hg a e
  · exact k191_1_0 hC hW hn hn2 hg a e
  · exact k191_2_0 hC hW hn hn2 hg a e
  · exact k191_3_0 hC hW hn hn2 hg a e
  · exact k191_4_0 hC hW hn hn2 hg a e
  · exact k191_5_0 hC hW hn hn2 hg a e
  · exact k191_6_0 hC hW hn hn2 hg a e
  · exact k191_0_1 hC hW hn hn2 hg a e
  · exact k191_1_1 hC hW hn hn2 hg a e
  · exact k191_2_1 hC hW hn hn2 hg a e
  · exact k191_3_1 hC hW hn hn2 hg a e
  · exact k191_4_1 hC hW hn hn2 hg a e
  · exact k191_5_1 hC hW hn hn2 hg a e
  · exact k191_6_1 hC hW hn hn2 hg a e
  · exact k191_0_2 hC hW hn hn2 hg a e
  · exact k191_1_2 hC hW hn hn2 hg a e
  · exact k191_2_2 hC hW hn hn2 hg a e
  · exact k191_3_2 hC hW hn hn2 hg a e
  · exact k191_4_2 hC hW hn hn2 hg a e
  · exact k191_5_2 hC hW hn hn2 hg a e
  · exact k191_6_2 hC hW hn hn2 hg a e
theorem L_act {H : j_H} {g act x : Int32} (hI : j_In (j_co H)) : j_pair 92 [.ref 12, .int g, .int act, .int x, j_u] 191 [.ref 81, .int g, .int act, .int x] H := by
  have hW : j_Wd (j_co H) := hI.1
  obtain ⟨a1, a2, -⟩ := i_r hI
  have hc1 : ∀ bs, j_co (j_bo 75 74 1 0 bs (j_sI H 74 1 (Int32.ofInt 0))) = j_bo 75 74 1 0 bs (j_sI (j_co H) 74 1 (Int32.ofInt 0)) := fun bs => by
    rw [bo_co (fun _ => rfl) rfl, c_sI' rfl]
  have hc2 : ∀ bs (H1 : j_H), j_co (j_bo 110 81 52 0 bs (j_sI H1 81 52 (Int32.ofInt 0))) = j_bo 110 81 52 0 bs (j_sI (j_co H1) 81 52 (Int32.ofInt 0)) := fun bs H1 => by
    rw [bo_co (fun _ => rfl) rfl, c_sI' rfl]
  have hrd : ∀ bs a k, ¬ a = 75 → ¬ a = 74 → j_I (j_co (j_bo 75 74 1 0 bs (j_sI H 74 1 (Int32.ofInt 0)))) a k = j_I (j_co H) a k := fun bs a k h1 h2 => by
    rw [hc1, bo_o _ _ _ _ _ h1 (fun h => h2 h.1), h_II, if_neg (fun h => h2 h.1)]
  have hrd0 : ∀ a k, ¬ a = 75 → ¬ a = 74 → j_I (j_co (j_sI H 74 1 (Int32.ofInt 0))) a k = j_I (j_co H) a k := hrd []
  have hWd : ∀ bs, j_Wd (j_co (j_bo 75 74 1 0 bs (j_sI H 74 1 (Int32.ofInt 0)))) := fun bs => by
    rw [hc1]
    exact ⟨fun a y hy => by rw [bo_sh]; exact hW.1 a y hy, fun p hp => ((bo_R bs 0 (j_sI (j_co H) 74 1 (Int32.ofInt 0)) p.1 p.2.1).1).trans (hW.2.1 p hp), by rw [bo_sh]; exact hW.2.2⟩
  by_cases h : (0 ≤ g.toInt ∧ g.toInt < j_n (j_co H)) ∧ 0 ≤ act.toInt ∧ act.toInt ≤ 2
  · obtain ⟨r, hr, hG⟩ := i_gs hI h.1.1 h.1.2
    obtain ⟨g1, g2, g3, g4, g5, g6, g7, g8, g9, -⟩ := id hG
    have hx := fun Q => k92 (b := 79) (H := H) (x := x) (Q := Q) rfl hI h.1 h.2
    obtain ⟨bs, hbs⟩ : ∃ bs, bs = j_acb (j_kd (j_co H) g.toInt) act.toInt := ⟨_, rfl⟩
    have hbl : bs.length ≤ 20 := by rw [hbs]; exact j_acb_l _ _
    rw [← hbs] at hx
    have hm := fun Q => k191 (b := 79) (H := j_bo 75 74 1 0 bs (j_sI H 74 1 (Int32.ofInt 0))) (g := g) (act := act) (x := x) (Q := Q) rfl (hWd bs) (by rw [hrd bs 81 0 (by decide) (by decide)]; exact a1) (by rw [hrd bs 81 0 (by decide) (by decide)]; exact a2) (by unfold j_n; rw [hrd bs 81 0 (by decide) (by decide)]; exact h.1) (by unfold j_kd; rw [hrd bs 82 _ (by decide) (by decide)]; exact ⟨g8, g9⟩) h.2
    simp only [j_kd, hrd bs 82 _ (by decide) (by decide), hrd bs 83 _ (by decide) (by decide)] at hm
    rw [show j_acb (j_I (j_co H) 82 g.toInt.toNat).toInt act.toInt = bs from hbs.symm] at hm
    refine ⟨_, _, _, hx, hm, ?_, Or.inl ?_, ⟨_, rfl⟩, Or.inl (by rw [bo_sh]; rfl), fun k => (rd_I rfl rfl).trans ((hrd bs 10 k (by decide) (by decide)).trans (rd_I rfl rfl).symm)⟩
    · rw [hc2, hc1]
      exact In_act hI bs hbl
    · rw [bo_sh]
      show (j_bo 75 74 1 0 bs (j_sI H 74 1 (Int32.ofInt 0))).1 = H.1
      rw [bo_sh]; rfl
  · have hx := fun Q => k92n (b := 79) (H := H) (x := x) (Q := Q) rfl hI h
    have hm := fun Q => k191n (b := 79) (H := j_sI H 74 1 (Int32.ofInt 0)) (g := g) (act := act) (x := x) (Q := Q) rfl (hWd []) (by rw [hrd0 81 0 (by decide) (by decide)]; exact a1) (by rw [hrd0 81 0 (by decide) (by decide)]; exact a2) (by unfold j_n; rw [hrd0 81 0 (by decide) (by decide)]; exact h)
    refine ⟨_, _, _, hx, hm, ?_, Or.inl rfl, ⟨_, rfl⟩, (Or.inl (by first | rfl | exact j_px_F.1)), (by intros; first | (simp (disch := omega) only [h_II, h_IL, h_IR, h_Ic, h_Id, p_I, q_I, if_neg]; done) | rfl | exact j_px_F.I rfl)⟩
    rw [c_sI' rfl, c_sI' rfl]
    exact In_act hI [] (by decide)
