/-! CALLS THAT CHANGE: guest -/
theorem nw_I {H : j_H} {x : j_Sh} {a k : Nat} (h : ¬ a = H.1.length) : j_I (j_nw H x) a k = j_I H a k := if_neg h
theorem nw_L {H : j_H} {x : j_Sh} {a k : Nat} (h : ¬ a = H.1.length) : j_L (j_nw H x) a k = j_L H a k := if_neg h
theorem nw_R {H : j_H} {x : j_Sh} {a k : Nat} (h : ¬ a = H.1.length) : j_R (j_nw H x) a k = j_R H a k := if_neg h
theorem nw_sh {H : j_H} {x : j_Sh} {a : Nat} (h : a < H.1.length) : j_sh (j_nw H x) a = j_sh H a := List.getElem?_append_left h
theorem nw_new {H : j_H} {x : j_Sh} : j_sh (j_nw H x) H.1.length = some x := by
  show (H.1 ++ [x])[H.1.length]? = some x
  rw [List.getElem?_append_right (Nat.le_refl _), Nat.sub_self]; rfl
theorem nw_cls {H : j_H} {c : Nat} : j_cls (j_nw H (.inl c)) H.1.length = c := by unfold j_cls; rw [nw_new]
theorem c_nw {H : j_H} {x : j_Sh} : j_co (j_nw H x) = j_nw (j_co H) x := by
  have e : ∀ (α : Type) (z : α) (f : Nat → Nat → α), j_mk z (j_z f H.1.length z) = j_z (j_mk z f) H.1.length z := fun α z f => by
    funext b j
    unfold j_mk j_z
    by_cases h1 : j_scr b j = true
    · rw [if_pos h1]
      by_cases h2 : b = H.1.length
      · rw [if_pos h2]
      · rw [if_neg h2]; exact (if_pos h1).symm
    · rw [if_neg h1]
      by_cases h2 : b = H.1.length
      · rw [if_pos h2, if_pos h2]
      · rw [if_neg h2, if_neg h2]; exact (if_neg h1).symm
  show (H.1 ++ [x], j_mk 0 (j_z H.2.1 H.1.length 0), j_mk 0 (j_z H.2.2.1 H.1.length 0), j_mk none (j_z H.2.2.2 H.1.length none)) = _
  rw [e, e, e]; rfl
theorem j_FR_n : ∀ p ∈ j_FR, ¬ p.1 = 14 ∧ ¬ p.1 = 19 ∧ p.1 < 115 ∧ ¬ (p.1 = 13 ∧ p.2.1 = 10) ∧ ¬ (p.1 = 18 ∧ p.2.1 = 10) := by decide
theorem j_S0_n : j_S0.length ≤ 115 := by decide
theorem gr_sh {C C' : j_H} {x : j_Sh} (hs : C'.1 = C.1 ++ [x]) {a : Nat} (h : a < C.1.length) : j_sh C' a = j_sh C a := by
  unfold j_sh; rw [hs]; exact List.getElem?_append_left h
theorem tr_Eg2 {C C' : j_H} {e sg aK aV aN : Nat} (hs : j_I C' 81 sg = j_I C 81 sg) (hR : ∀ k, j_R C' (e + 1) k = j_R C (e + 1) k) (hK : ∀ k, j_I C' aK k = j_I C aK k) (hV : ∀ k, j_I C' aV k = j_I C aV k) (hN : ∀ k, j_I C' aN k = j_I C aN k) (ho : ∀ r k, 115 ≤ r → r < C.1.length → j_I C' r k = j_I C r k) (hc : ∀ r, r < C.1.length → j_cls C' r = j_cls C r) (hl : C.1.length ≤ C'.1.length) (h : j_Eg C e sg aK aV aN) : j_Eg C' e sg aK aV aN := by
  refine ⟨fun g hg => ?_, fun k => ?_⟩
  · rw [hs] at hg
    obtain ⟨r, hr, hG⟩ := h.1 g hg
    exact ⟨r, by rw [hR]; exact hr, tr_Gr (fun k => ho r k hG.1 hG.2.1) (hc r hG.2.1) hl (hK _) (hV _) (hN _) hG⟩
  · rw [hR]
    refine ⟨(h.2 k).1, fun r hr => ?_⟩
    obtain ⟨h1, h2⟩ := (h.2 k).2 r hr
    have hlt : r < C.1.length := by
      by_cases h3 : r < C.1.length
      · exact h3
      · exfalso
        have : j_cls C r = 99 := by
          unfold j_cls j_sh
          rw [List.getElem?_eq_none (by omega)]
        rw [this] at h2
        exact absurd h2 (by decide)
    rw [hc r hlt]
    exact ⟨h1, h2⟩
theorem In_guest {C C' : j_H} {kd vv bb : Int32} {nn : Nat} (hI : j_In C) (hnn : (j_I C 81 0).toInt = (nn : Int)) (h7 : nn < 7) (hk : 0 ≤ kd.toInt ∧ kd.toInt ≤ 6) (hv : 0 ≤ vv.toInt ∧ vv.toInt ≤ 9) (hb : 0 ≤ bb.toInt ∧ bb.toInt ≤ 255) (hs : C'.1 = C.1 ++ [.inl (j_gc kd.toInt)]) (hR : ∀ a k, ¬ a = C.1.length → ¬ (a = 14 ∧ k = nn) → j_R C' a k = j_R C a k) (hRn : j_R C' 14 nn = some C.1.length) (hL : ∀ a k, ¬ a = C.1.length → j_L C' a k = j_L C a k) (hO : ∀ a k, ¬ a = C.1.length → ¬ (a = 15 ∧ k = nn) → ¬ (a = 13 ∧ k = 4) → ¬ (a = 82 ∧ k = nn) → ¬ (a = 83 ∧ k = nn) → ¬ (a = 84 ∧ k = nn) → ¬ (a = 85 ∧ 8 * nn ≤ k ∧ k < 8 * nn + 8) → ¬ (a = 81 ∧ k = 0) → j_I C' a k = j_I C a k) (v15 : j_I C' 15 nn = Int32.ofInt 0) (v13 : j_I C' 13 4 = Int32.ofInt ((nn : Int) + 1)) (v82 : j_I C' 82 nn = kd) (v83 : j_I C' 83 nn = vv) (v84 : j_I C' 84 nn = bb) (v85 : ∀ k, 8 * nn ≤ k → k < 8 * nn + 8 → j_I C' 85 k = Int32.ofInt 0) (v81 : j_I C' 81 0 = Int32.ofInt ((nn : Int) + 1)) (g0 : j_I C' C.1.length 0 = kd) (g1 : (j_I C' C.1.length 1).toInt = (nn : Int)) (g2 : j_I C' C.1.length 2 = vv) (g3 : j_I C' C.1.length 3 = bb) (g4 : (j_I C' C.1.length 4).toInt = j_pop bb.toInt) : j_In C' := by
  have hlen := hI.1.2.2
  obtain ⟨L, hLe⟩ : ∃ L, L = C.1.length := ⟨_, rfl⟩
  have hsl : C'.1.length = L + 1 := by rw [hs, List.length_append, hLe]; rfl
  have hcl : ∀ r, r < L → j_cls C' r = j_cls C r := fun r hr => by unfold j_cls; rw [gr_sh hs (by omega)]
  have hcn : j_cls C' L = j_gc kd.toInt := by
    unfold j_cls j_sh
    rw [hs, hLe, List.getElem?_append_right (Nat.le_refl _), Nat.sub_self]; rfl
  rw [← hLe] at hlen hR hRn hL hO g0 g1 g2 g3 g4
  have o := fun a k h1 h2 h3 h4 h5 h6 h7 h8 => hO a k h1 h2 h3 h4 h5 h6 h7 h8
  have n1 := t_of (z := (nn : Int) + 1) (by omega) (by omega)
  obtain ⟨x1, ⟨es, er, et, eg, ew, eb⟩, x3, x4, x5, x6, x7, x8, x9⟩ := hI
  refine ⟨⟨fun a x hx => ?_, fun p hp => ?_, by omega⟩, ⟨?_, ?_, ?_, ?_, ?_, ?_⟩, ?_, ?_, ?_, ?_, ?_, ?_, ?_, ?_⟩
  · have h1 := x1.1 a x hx
    have h2 := (List.getElem?_eq_some_iff.mp h1).1
    rw [hs, List.getElem?_append_left h2]; exact h1
  · obtain ⟨q1, q2, q3, q4⟩ := j_FR_n p hp
    exact (hR p.1 p.2.1 (by omega) (by omega)).trans (x1.2.1 p hp)
  · obtain ⟨s1, s2, s3, s4, s5, s6⟩ := es
    refine ⟨by rw [v13, v81], ?_, ?_, ?_, ?_, ?_⟩
    · rw [o 13 5 (by omega) (by omega) (by omega) (by omega) (by omega) (by omega) (by omega) (by omega), o 81 1 (by omega) (by omega) (by omega) (by omega) (by omega) (by omega) (by omega) (by omega)]; exact s2
    · rw [o 13 6 (by omega) (by omega) (by omega) (by omega) (by omega) (by omega) (by omega) (by omega), o 81 2 (by omega) (by omega) (by omega) (by omega) (by omega) (by omega) (by omega) (by omega)]; exact s3
    · rw [o 13 7 (by omega) (by omega) (by omega) (by omega) (by omega) (by omega) (by omega) (by omega), o 81 3 (by omega) (by omega) (by omega) (by omega) (by omega) (by omega) (by omega) (by omega)]; exact s4
    · rw [o 13 8 (by omega) (by omega) (by omega) (by omega) (by omega) (by omega) (by omega) (by omega), o 81 27 (by omega) (by omega) (by omega) (by omega) (by omega) (by omega) (by omega) (by omega)]; exact s5
    · rw [o 13 9 (by omega) (by omega) (by omega) (by omega) (by omega) (by omega) (by omega) (by omega), o 81 36 (by omega) (by omega) (by omega) (by omega) (by omega) (by omega) (by omega) (by omega)]; exact s6
  · obtain ⟨t1, t2, t3, t4, t5, t6, t7⟩ := er
    unfold j_Er
    rw [v81, n1, o 81 1 (by omega) (by omega) (by omega) (by omega) (by omega) (by omega) (by omega) (by omega), o 81 2 (by omega) (by omega) (by omega) (by omega) (by omega) (by omega) (by omega) (by omega), o 81 3 (by omega) (by omega) (by omega) (by omega) (by omega) (by omega) (by omega) (by omega), o 81 27 (by omega) (by omega) (by omega) (by omega) (by omega) (by omega) (by omega) (by omega), o 81 36 (by omega) (by omega) (by omega) (by omega) (by omega) (by omega) (by omega) (by omega)]
    exact ⟨by omega, by omega, t3, t4, t5, by omega, t7⟩
  · exact tr_Et (o 81 8 (by omega) (by omega) (by omega) (by omega) (by omega) (by omega) (by omega) (by omega)) (o 81 9 (by omega) (by omega) (by omega) (by omega) (by omega) (by omega) (by omega) (by omega)) (hR 13 10 (by omega) (by omega)) et
  · refine ⟨fun g hg => ?_, fun g => ?_⟩
    · rw [v81, n1] at hg
      by_cases e : g = nn
      · subst e
        refine ⟨L, hRn, by omega, by omega, ?_, ?_, ?_, ?_, ?_, ?_, ?_, ?_, ?_, ?_, ?_, ?_⟩
        · rw [hcn, v82]
        · rw [g0, v82]
        · exact g1
        · rw [g2, v83]
        · rw [g3, v84]
        · rw [g4, v84]
        · rw [v82]; exact hk.1
        · rw [v82]; exact hk.2
        · rw [v83]; exact hv.1
        · rw [v83]; exact hv.2
        · rw [v84]; exact hb.1
        · rw [v84]; exact hb.2
      · obtain ⟨r, hr, hG⟩ := eg.1 g (by omega)
        have hrl : r < L := by have := hG.2.1; omega
        have hr0 := hG.1
        exact ⟨r, by rw [hR _ _ (by omega) (by omega)]; exact hr, tr_Gr (fun k => o r k (by omega) (by omega) (by omega) (by omega) (by omega) (by omega) (by omega) (by omega)) (hcl r hrl) (by omega) (o 82 g (by omega) (by omega) (by omega) (by omega) (by omega) (by omega) (by omega) (by omega)) (o 83 g (by omega) (by omega) (by omega) (by omega) (by omega) (by omega) (by omega) (by omega)) (o 84 g (by omega) (by omega) (by omega) (by omega) (by omega) (by omega) (by omega) (by omega)) hG⟩
    · by_cases e : g = nn
      · subst e
        rw [show (13 + 1 : Nat) = 14 from rfl, hRn]
        refine ⟨fun h => ?_, fun r hr => ?_⟩
        · injection h with h; omega
        · injection hr with hr
          subst hr
          rw [hcn]
          exact ⟨by omega, j_gc_g _⟩
      · rw [hR _ _ (by omega) (by omega)]
        refine ⟨(eg.2 g).1, fun r hr => ?_⟩
        obtain ⟨h1, h2⟩ := (eg.2 g).2 r hr
        have hlt : r < L := by
          by_cases h3 : r < L
          · exact h3
          · exfalso
            have : j_cls C r = 99 := by
              unfold j_cls j_sh
              rw [List.getElem?_eq_none (by omega)]
            rw [this] at h2
            exact absurd h2 (by decide)
        rw [hcl r hlt]
        exact ⟨h1, h2⟩
  · intro g hg
    by_cases e : g = nn
    · subst e
      have z : (Int32.ofInt 0).toInt = 0 := rfl
      rw [show (13 + 2 : Nat) = 15 from rfl, v15, z]
      refine ⟨by omega, by omega, fun p hp => ?_⟩
      rw [v85 (8 * g + p) (by omega) (by omega), z, if_neg (by rw [show (0 : Int).toNat = 0 from rfl, Nat.zero_testBit]; decide)]
    · obtain ⟨w1, w2, w3⟩ := ew g hg
      rw [o (13 + 2) g (by omega) (by omega) (by omega) (by omega) (by omega) (by omega) (by omega) (by omega)]
      refine ⟨w1, w2, fun p hp => ?_⟩
      rw [o 85 (8 * g + p) (by omega) (by omega) (by omega) (by omega) (by omega) (by omega) (by omega) (by omega)]
      exact w3 p hp
  · intro k hk12
    obtain ⟨y1, y2, y3, y4⟩ := eb k hk12
    rw [o (13 + 3) k (by omega) (by omega) (by omega) (by omega) (by omega) (by omega) (by omega) (by omega), o 97 k (by omega) (by omega) (by omega) (by omega) (by omega) (by omega) (by omega) (by omega), o (13 + 4) k (by omega) (by omega) (by omega) (by omega) (by omega) (by omega) (by omega) (by omega), o 103 k (by omega) (by omega) (by omega) (by omega) (by omega) (by omega) (by omega) (by omega), o 81 27 (by omega) (by omega) (by omega) (by omega) (by omega) (by omega) (by omega) (by omega), o 81 36 (by omega) (by omega) (by omega) (by omega) (by omega) (by omega) (by omega) (by omega), v81, n1]
    exact ⟨y1, y2, fun h => ⟨(y3 h).1, by have := (y3 h).2; omega⟩, y4⟩
  · obtain ⟨ks, kr, kt, kg, kw, kb⟩ := x3
    have w : ∀ a k, (17 < a ∧ a < 82 ∧ ¬ (a = 81 ∧ k = 0)) ∨ (85 < a ∧ a < 115) → j_I C' a k = j_I C a k := fun a k h => o a k (by omega) (by omega) (by omega) (by omega) (by omega) (by omega) (by omega) (by omega)
    exact ⟨tr_Es (fun k _ => w _ _ (by omega)) (w _ _ (by omega)) (w _ _ (by omega)) (w _ _ (by omega)) (w _ _ (by omega)) (w _ _ (by omega)) (w _ _ (by omega)) ks, tr_Er (w _ _ (by omega)) (w _ _ (by omega)) (w _ _ (by omega)) (w _ _ (by omega)) (w _ _ (by omega)) (w _ _ (by omega)) kr, tr_Et (w _ _ (by omega)) (w _ _ (by omega)) (hR _ _ (by omega) (by omega)) kt, tr_Eg2 (w _ _ (by omega)) (fun k => hR _ _ (by omega) (by omega)) (fun k => w _ _ (by omega)) (fun k => w _ _ (by omega)) (fun k => w _ _ (by omega)) (fun r k h1 h2 => o r k (by omega) (by omega) (by omega) (by omega) (by omega) (by omega) (by omega) (by omega)) (fun r hr => hcl r (by omega)) (by omega) kg, tr_Ew (fun k => w _ _ (by omega)) (fun k => w _ _ (by omega)) kw, tr_Eb (fun k => w _ _ (by omega)) (fun k => w _ _ (by omega)) (fun k => w _ _ (by omega)) (fun k => w _ _ (by omega)) (w _ _ (by omega)) (w _ _ (by omega)) (w _ _ (by omega)) kb⟩
  · rw [o 12 2 (by omega) (by omega) (by omega) (by omega) (by omega) (by omega) (by omega) (by omega), o 81 38 (by omega) (by omega) (by omega) (by omega) (by omega) (by omega) (by omega) (by omega)]; exact x4
  all_goals have w : ∀ a k, (a < 13 ∨ (17 < a ∧ a < 82 ∧ ¬ (a = 81 ∧ k = 0)) ∨ (85 < a ∧ a < 115)) → j_I C' a k = j_I C a k := fun a k h => o a k (by omega) (by omega) (by omega) (by omega) (by omega) (by omega) (by omega) (by omega)
  · exact tr_Hs (w _ _ (by omega)) (w _ _ (by omega)) (fun a k h1 h2 => w _ _ (by omega)) (fun k => w _ _ (by omega)) (fun k => w _ _ (by omega)) (fun k => w _ _ (by omega)) (fun k => w _ _ (by omega)) (fun k => w _ _ (by omega)) (fun k => w _ _ (by omega)) x5
  · exact tr_Tx (w _ _ (by omega)) (w _ _ (by omega)) (fun k => w _ _ (by omega)) (fun k => w _ _ (by omega)) x6
  · exact tr_Ta (fun a k h1 h2 => w _ _ (by omega)) (fun a k h1 h2 => hL _ _ (by omega)) (fun k => w _ _ (by omega)) (fun k => w _ _ (by omega)) (fun k => hL _ _ (by omega)) x7
  · exact tr_Tr (w _ _ (by omega)) (w _ _ (by omega)) (fun k => w _ _ (by omega)) (fun k => w _ _ (by omega)) x8
  · intro k hk12
    rw [w 94 k (by omega)]; exact x9.1 k hk12
  · exact tr_St (fun a k h => w _ _ (by omega)) (fun a k h => hR _ _ (by omega) (by omega)) x9.2
theorem k16 {b : Nat} {H : j_H} {r c : Nat} {x y v z : Int32} {Q : Option Value → j_H → Prop} (hc : j_cls H r = c) (hg : [1, 2, 4, 5, 6, 7, 9].contains c = true) (hr : ¬ r = 11) (h0 : 0 ≤ z.toInt) (h1 : z.toInt ≤ 255) : j_wp (b + 1) 16 0 [.ref r, .int x, .int y, .int v, .int z] [] H Q = Q none (j_sI (j_sI (j_sI (j_sI (j_sI H r 0 x) r 1 y) r 2 v) r 3 z) r 4 (Int32.ofInt (j_pop z.toInt))) := by
  have hg2 : [2, 1, 4, 5, 6, 7, 9].contains c = true := by
    simp only [List.contains_eq_mem, List.mem_cons, List.not_mem_nil, or_false, decide_eq_true_eq] at hg ⊢
    omega
  simp (disch := (first | assumption | exact n_N11 | exact n_R11 (by decide) | exact n_bz | (simp (disch := (first | assumption | omega | decide)) only [v_rs, v_rn, v_pa, v_vc, v_vt, v_vl, v_ir, v_in, v_po, v_pn, v_re, v_rN, v_Nr, v_fe, v_fN, v_c1i, v_c1r, v_c1n, v_c1u, v_c1f, v_if, h_II, h_LL, h_RR, h_IL, h_IR, h_LI, h_LR, h_RI, h_RL, h_Ic, h_Lc, h_Rc, h_Id, h_Ld, h_Rd, h_cls_sI, h_cls_sL, h_cls_sR, h_cls_cI, h_cls_cL, h_tp_sI, h_tp_sL, h_tp_sR, h_tp_cI, h_tp_cL, h_ln_sI, h_ln_sL, h_ln_sR, h_ln_cI, h_ln_cL, v_if, j_scr, j_Wd_I, j_Wd_L, t_addo, t_subo, t_mulo, t_of, t_divc, t_remc, t_em, Int.toNat_zero, j_ix, Int.toNat_natCast, t_addc, t_subc, t_mulc, t_bz0, t_bz1, Classical.not_not, not_false_eq_true, if_true, if_false, and_true, true_and, and_false, false_and, and_self, or_true, true_or, or_false, false_or, not_true_eq_false, reduceIte, ite_self, implies_true, hc, hg, hg2, hr, k201] <;> first | omega | rfl | decide) | omega | decide | fail)) only [↓if_pos, ↓if_neg, ↓b16_0, ↓b16_9, ↓b16_14, ↓b16_19, ↓b16_25, ↓b16_31, ↓b16_34, v_rs, v_rn, v_pa, v_vc, v_vt, v_vl, v_ir, v_in, v_po, v_pn, v_re, v_rN, v_Nr, v_fe, v_fN, v_c1i, v_c1r, v_c1n, v_c1u, v_c1f, v_if, h_II, h_LL, h_RR, h_IL, h_IR, h_LI, h_LR, h_RI, h_RL, h_Ic, h_Lc, h_Rc, h_Id, h_Ld, h_Rd, h_cls_sI, h_cls_sL, h_cls_sR, h_cls_cI, h_cls_cL, h_tp_sI, h_tp_sL, h_tp_sR, h_tp_cI, h_tp_cL, h_ln_sI, h_ln_sL, h_ln_sR, h_ln_cI, h_ln_cL, v_if, j_ks, j_ke, t_addo, t_subo, t_mulo, t_of, t_divc, t_remc, t_em, Int.toNat_zero, j_ix, Int.toNat_natCast, t_addc, t_subc, t_mulc, t_bz0, t_bz1, Classical.not_not, not_false_eq_true, if_true, if_false, and_true, true_and, and_false, false_and, and_self, or_true, true_or, or_false, false_or, not_true_eq_false, reduceIte, ite_self, implies_true, hc, hg, hg2, hr, k201]
/-- the new guest -/
def j_ng (H : j_H) (c : Nat) (x y v z : Int32) : j_H := j_sI (j_sI (j_sI (j_sI (j_sI (j_nw H (.inl c)) H.1.length 0 x) H.1.length 1 y) H.1.length 2 v) H.1.length 3 z) H.1.length 4 (Int32.ofInt (j_pop z.toInt))
theorem k104 {b : Nat} {H : j_H} {x y v z : Int32} {Q : Option Value → j_H → Prop} (hl : 115 ≤ H.1.length) (hx : 0 ≤ x.toInt ∧ x.toInt ≤ 6) (h0 : 0 ≤ z.toInt) (h1 : z.toInt ≤ 255) : j_wp (b + 5) 104 0 [.int x, .int y, .int v, .int z] [] H Q = Q (some (.ref H.1.length)) (j_ng H (j_gc x.toInt) x y v z) := by
  have n11 : ¬ H.1.length = 11 := by omega
  have hr11 : ¬ (Value.ref H.1.length) = .ref 11 := fun h => by injection h; contradiction
  have hk16 := fun (c : Nat) (b' : Nat) (Q : Option Value → j_H → Prop) (hg : [1, 2, 4, 5, 6, 7, 9].contains c = true) => k16 (b := b') (H := j_nw H (.inl c)) (r := H.1.length) (c := c) (x := x) (y := y) (v := v) (z := z) (Q := Q) nw_cls hg n11 h0 h1
  unfold j_ng
  rcases (show x.toInt = 0 ∨ x.toInt = 1 ∨ x.toInt = 2 ∨ x.toInt = 3 ∨ x.toInt = 4 ∨ x.toInt = 5 ∨ x.toInt = 6 by omega) with e | e | e | e | e | e | e <;> rw [e]
  · have hk := fun b' Q => hk16 2 b' Q rfl
    have hc : j_cls (j_nw H (.inl 2)) H.1.length = 2 := nw_cls
    simp (disch := (first | assumption | exact n_N11 | exact n_R11 (by decide) | exact n_bz | (simp (disch := (first | assumption | omega | decide)) only [v_rs, v_rn, v_pa, v_vc, v_vt, v_vl, v_ir, v_in, v_po, v_pn, v_re, v_rN, v_Nr, v_fe, v_fN, v_c1i, v_c1r, v_c1n, v_c1u, v_c1f, v_if, h_II, h_LL, h_RR, h_IL, h_IR, h_LI, h_LR, h_RI, h_RL, h_Ic, h_Lc, h_Rc, h_Id, h_Ld, h_Rd, h_cls_sI, h_cls_sL, h_cls_sR, h_cls_cI, h_cls_cL, h_tp_sI, h_tp_sL, h_tp_sR, h_tp_cI, h_tp_cL, h_ln_sI, h_ln_sL, h_ln_sR, h_ln_cI, h_ln_cL, v_if, j_scr, j_Wd_I, j_Wd_L, t_addo, t_subo, t_mulo, t_of, t_divc, t_remc, t_em, Int.toNat_zero, j_ix, Int.toNat_natCast, t_addc, t_subc, t_mulc, t_bz0, t_bz1, Classical.not_not, not_false_eq_true, if_true, if_false, and_true, true_and, and_false, false_and, and_self, or_true, true_or, or_false, false_or, not_true_eq_false, reduceIte, ite_self, implies_true, e, hk, hc, n11] <;> first | omega | rfl | decide) | omega | decide | fail)) only [↓if_pos, ↓if_neg, ↓b104_0, ↓b104_40, ↓b104_51, ↓b104_52, ↓b104_63, ↓b104_64, ↓b104_75, ↓b104_76, ↓b104_87, ↓b104_88, ↓b104_99, ↓b104_100, ↓b104_111, ↓b104_112, ↓b104_123, v_rs, v_rn, v_pa, v_vc, v_vt, v_vl, v_ir, v_in, v_po, v_pn, v_re, v_rN, v_Nr, v_fe, v_fN, v_c1i, v_c1r, v_c1n, v_c1u, v_c1f, v_if, h_II, h_LL, h_RR, h_IL, h_IR, h_LI, h_LR, h_RI, h_RL, h_Ic, h_Lc, h_Rc, h_Id, h_Ld, h_Rd, h_cls_sI, h_cls_sL, h_cls_sR, h_cls_cI, h_cls_cL, h_tp_sI, h_tp_sL, h_tp_sR, h_tp_cI, h_tp_cL, h_ln_sI, h_ln_sL, h_ln_sR, h_ln_cI, h_ln_cL, v_if, j_ks, j_ke, t_addo, t_subo, t_mulo, t_of, t_divc, t_remc, t_em, Int.toNat_zero, j_ix, Int.toNat_natCast, t_addc, t_subc, t_mulc, t_bz0, t_bz1, Classical.not_not, not_false_eq_true, if_true, if_false, and_true, true_and, and_false, false_and, and_self, or_true, true_or, or_false, false_or, not_true_eq_false, reduceIte, ite_self, implies_true, e, hk, hc, n11]
    rfl
  · have hk := fun b' Q => hk16 4 b' Q rfl
    have hc : j_cls (j_nw H (.inl 4)) H.1.length = 4 := nw_cls
    simp (disch := (first | assumption | exact n_N11 | exact n_R11 (by decide) | exact n_bz | (simp (disch := (first | assumption | omega | decide)) only [v_rs, v_rn, v_pa, v_vc, v_vt, v_vl, v_ir, v_in, v_po, v_pn, v_re, v_rN, v_Nr, v_fe, v_fN, v_c1i, v_c1r, v_c1n, v_c1u, v_c1f, v_if, h_II, h_LL, h_RR, h_IL, h_IR, h_LI, h_LR, h_RI, h_RL, h_Ic, h_Lc, h_Rc, h_Id, h_Ld, h_Rd, h_cls_sI, h_cls_sL, h_cls_sR, h_cls_cI, h_cls_cL, h_tp_sI, h_tp_sL, h_tp_sR, h_tp_cI, h_tp_cL, h_ln_sI, h_ln_sL, h_ln_sR, h_ln_cI, h_ln_cL, v_if, j_scr, j_Wd_I, j_Wd_L, t_addo, t_subo, t_mulo, t_of, t_divc, t_remc, t_em, Int.toNat_zero, j_ix, Int.toNat_natCast, t_addc, t_subc, t_mulc, t_bz0, t_bz1, Classical.not_not, not_false_eq_true, if_true, if_false, and_true, true_and, and_false, false_and, and_self, or_true, true_or, or_false, false_or, not_true_eq_false, reduceIte, ite_self, implies_true, e, hk, hc, n11] <;> first | omega | rfl | decide) | omega | decide | fail)) only [↓if_pos, ↓if_neg, ↓b104_0, ↓b104_40, ↓b104_51, ↓b104_52, ↓b104_63, ↓b104_64, ↓b104_75, ↓b104_76, ↓b104_87, ↓b104_88, ↓b104_99, ↓b104_100, ↓b104_111, ↓b104_112, ↓b104_123, ↓b36_0, ↓b36_9, v_rs, v_rn, v_pa, v_vc, v_vt, v_vl, v_ir, v_in, v_po, v_pn, v_re, v_rN, v_Nr, v_fe, v_fN, v_c1i, v_c1r, v_c1n, v_c1u, v_c1f, v_if, h_II, h_LL, h_RR, h_IL, h_IR, h_LI, h_LR, h_RI, h_RL, h_Ic, h_Lc, h_Rc, h_Id, h_Ld, h_Rd, h_cls_sI, h_cls_sL, h_cls_sR, h_cls_cI, h_cls_cL, h_tp_sI, h_tp_sL, h_tp_sR, h_tp_cI, h_tp_cL, h_ln_sI, h_ln_sL, h_ln_sR, h_ln_cI, h_ln_cL, v_if, j_ks, j_ke, t_addo, t_subo, t_mulo, t_of, t_divc, t_remc, t_em, Int.toNat_zero, j_ix, Int.toNat_natCast, t_addc, t_subc, t_mulc, t_bz0, t_bz1, Classical.not_not, not_false_eq_true, if_true, if_false, and_true, true_and, and_false, false_and, and_self, or_true, true_or, or_false, false_or, not_true_eq_false, reduceIte, ite_self, implies_true, e, hk, hc, n11]
    rfl
  · have hk := fun b' Q => hk16 6 b' Q rfl
    have hc : j_cls (j_nw H (.inl 6)) H.1.length = 6 := nw_cls
    simp (disch := (first | assumption | exact n_N11 | exact n_R11 (by decide) | exact n_bz | (simp (disch := (first | assumption | omega | decide)) only [v_rs, v_rn, v_pa, v_vc, v_vt, v_vl, v_ir, v_in, v_po, v_pn, v_re, v_rN, v_Nr, v_fe, v_fN, v_c1i, v_c1r, v_c1n, v_c1u, v_c1f, v_if, h_II, h_LL, h_RR, h_IL, h_IR, h_LI, h_LR, h_RI, h_RL, h_Ic, h_Lc, h_Rc, h_Id, h_Ld, h_Rd, h_cls_sI, h_cls_sL, h_cls_sR, h_cls_cI, h_cls_cL, h_tp_sI, h_tp_sL, h_tp_sR, h_tp_cI, h_tp_cL, h_ln_sI, h_ln_sL, h_ln_sR, h_ln_cI, h_ln_cL, v_if, j_scr, j_Wd_I, j_Wd_L, t_addo, t_subo, t_mulo, t_of, t_divc, t_remc, t_em, Int.toNat_zero, j_ix, Int.toNat_natCast, t_addc, t_subc, t_mulc, t_bz0, t_bz1, Classical.not_not, not_false_eq_true, if_true, if_false, and_true, true_and, and_false, false_and, and_self, or_true, true_or, or_false, false_or, not_true_eq_false, reduceIte, ite_self, implies_true, e, hk, hc, n11] <;> first | omega | rfl | decide) | omega | decide | fail)) only [↓if_pos, ↓if_neg, ↓b104_0, ↓b104_40, ↓b104_51, ↓b104_52, ↓b104_63, ↓b104_64, ↓b104_75, ↓b104_76, ↓b104_87, ↓b104_88, ↓b104_99, ↓b104_100, ↓b104_111, ↓b104_112, ↓b104_123, ↓b42_0, ↓b42_9, v_rs, v_rn, v_pa, v_vc, v_vt, v_vl, v_ir, v_in, v_po, v_pn, v_re, v_rN, v_Nr, v_fe, v_fN, v_c1i, v_c1r, v_c1n, v_c1u, v_c1f, v_if, h_II, h_LL, h_RR, h_IL, h_IR, h_LI, h_LR, h_RI, h_RL, h_Ic, h_Lc, h_Rc, h_Id, h_Ld, h_Rd, h_cls_sI, h_cls_sL, h_cls_sR, h_cls_cI, h_cls_cL, h_tp_sI, h_tp_sL, h_tp_sR, h_tp_cI, h_tp_cL, h_ln_sI, h_ln_sL, h_ln_sR, h_ln_cI, h_ln_cL, v_if, j_ks, j_ke, t_addo, t_subo, t_mulo, t_of, t_divc, t_remc, t_em, Int.toNat_zero, j_ix, Int.toNat_natCast, t_addc, t_subc, t_mulc, t_bz0, t_bz1, Classical.not_not, not_false_eq_true, if_true, if_false, and_true, true_and, and_false, false_and, and_self, or_true, true_or, or_false, false_or, not_true_eq_false, reduceIte, ite_self, implies_true, e, hk, hc, n11]
    rfl
  · have hk := fun b' Q => hk16 5 b' Q rfl
    have hc : j_cls (j_nw H (.inl 5)) H.1.length = 5 := nw_cls
    simp (disch := (first | assumption | exact n_N11 | exact n_R11 (by decide) | exact n_bz | (simp (disch := (first | assumption | omega | decide)) only [v_rs, v_rn, v_pa, v_vc, v_vt, v_vl, v_ir, v_in, v_po, v_pn, v_re, v_rN, v_Nr, v_fe, v_fN, v_c1i, v_c1r, v_c1n, v_c1u, v_c1f, v_if, h_II, h_LL, h_RR, h_IL, h_IR, h_LI, h_LR, h_RI, h_RL, h_Ic, h_Lc, h_Rc, h_Id, h_Ld, h_Rd, h_cls_sI, h_cls_sL, h_cls_sR, h_cls_cI, h_cls_cL, h_tp_sI, h_tp_sL, h_tp_sR, h_tp_cI, h_tp_cL, h_ln_sI, h_ln_sL, h_ln_sR, h_ln_cI, h_ln_cL, v_if, j_scr, j_Wd_I, j_Wd_L, t_addo, t_subo, t_mulo, t_of, t_divc, t_remc, t_em, Int.toNat_zero, j_ix, Int.toNat_natCast, t_addc, t_subc, t_mulc, t_bz0, t_bz1, Classical.not_not, not_false_eq_true, if_true, if_false, and_true, true_and, and_false, false_and, and_self, or_true, true_or, or_false, false_or, not_true_eq_false, reduceIte, ite_self, implies_true, e, hk, hc, n11] <;> first | omega | rfl | decide) | omega | decide | fail)) only [↓if_pos, ↓if_neg, ↓b104_0, ↓b104_40, ↓b104_51, ↓b104_52, ↓b104_63, ↓b104_64, ↓b104_75, ↓b104_76, ↓b104_87, ↓b104_88, ↓b104_99, ↓b104_100, ↓b104_111, ↓b104_112, ↓b104_123, ↓b39_0, ↓b39_9, v_rs, v_rn, v_pa, v_vc, v_vt, v_vl, v_ir, v_in, v_po, v_pn, v_re, v_rN, v_Nr, v_fe, v_fN, v_c1i, v_c1r, v_c1n, v_c1u, v_c1f, v_if, h_II, h_LL, h_RR, h_IL, h_IR, h_LI, h_LR, h_RI, h_RL, h_Ic, h_Lc, h_Rc, h_Id, h_Ld, h_Rd, h_cls_sI, h_cls_sL, h_cls_sR, h_cls_cI, h_cls_cL, h_tp_sI, h_tp_sL, h_tp_sR, h_tp_cI, h_tp_cL, h_ln_sI, h_ln_sL, h_ln_sR, h_ln_cI, h_ln_cL, v_if, j_ks, j_ke, t_addo, t_subo, t_mulo, t_of, t_divc, t_remc, t_em, Int.toNat_zero, j_ix, Int.toNat_natCast, t_addc, t_subc, t_mulc, t_bz0, t_bz1, Classical.not_not, not_false_eq_true, if_true, if_false, and_true, true_and, and_false, false_and, and_self, or_true, true_or, or_false, false_or, not_true_eq_false, reduceIte, ite_self, implies_true, e, hk, hc, n11]
    rfl
  · have hk := fun b' Q => hk16 7 b' Q rfl
    have hc : j_cls (j_nw H (.inl 7)) H.1.length = 7 := nw_cls
    simp (disch := (first | assumption | exact n_N11 | exact n_R11 (by decide) | exact n_bz | (simp (disch := (first | assumption | omega | decide)) only [v_rs, v_rn, v_pa, v_vc, v_vt, v_vl, v_ir, v_in, v_po, v_pn, v_re, v_rN, v_Nr, v_fe, v_fN, v_c1i, v_c1r, v_c1n, v_c1u, v_c1f, v_if, h_II, h_LL, h_RR, h_IL, h_IR, h_LI, h_LR, h_RI, h_RL, h_Ic, h_Lc, h_Rc, h_Id, h_Ld, h_Rd, h_cls_sI, h_cls_sL, h_cls_sR, h_cls_cI, h_cls_cL, h_tp_sI, h_tp_sL, h_tp_sR, h_tp_cI, h_tp_cL, h_ln_sI, h_ln_sL, h_ln_sR, h_ln_cI, h_ln_cL, v_if, j_scr, j_Wd_I, j_Wd_L, t_addo, t_subo, t_mulo, t_of, t_divc, t_remc, t_em, Int.toNat_zero, j_ix, Int.toNat_natCast, t_addc, t_subc, t_mulc, t_bz0, t_bz1, Classical.not_not, not_false_eq_true, if_true, if_false, and_true, true_and, and_false, false_and, and_self, or_true, true_or, or_false, false_or, not_true_eq_false, reduceIte, ite_self, implies_true, e, hk, hc, n11] <;> first | omega | rfl | decide) | omega | decide | fail)) only [↓if_pos, ↓if_neg, ↓b104_0, ↓b104_40, ↓b104_51, ↓b104_52, ↓b104_63, ↓b104_64, ↓b104_75, ↓b104_76, ↓b104_87, ↓b104_88, ↓b104_99, ↓b104_100, ↓b104_111, ↓b104_112, ↓b104_123, ↓b45_0, ↓b45_9, ↓b36_0, ↓b36_9, v_rs, v_rn, v_pa, v_vc, v_vt, v_vl, v_ir, v_in, v_po, v_pn, v_re, v_rN, v_Nr, v_fe, v_fN, v_c1i, v_c1r, v_c1n, v_c1u, v_c1f, v_if, h_II, h_LL, h_RR, h_IL, h_IR, h_LI, h_LR, h_RI, h_RL, h_Ic, h_Lc, h_Rc, h_Id, h_Ld, h_Rd, h_cls_sI, h_cls_sL, h_cls_sR, h_cls_cI, h_cls_cL, h_tp_sI, h_tp_sL, h_tp_sR, h_tp_cI, h_tp_cL, h_ln_sI, h_ln_sL, h_ln_sR, h_ln_cI, h_ln_cL, v_if, j_ks, j_ke, t_addo, t_subo, t_mulo, t_of, t_divc, t_remc, t_em, Int.toNat_zero, j_ix, Int.toNat_natCast, t_addc, t_subc, t_mulc, t_bz0, t_bz1, Classical.not_not, not_false_eq_true, if_true, if_false, and_true, true_and, and_false, false_and, and_self, or_true, true_or, or_false, false_or, not_true_eq_false, reduceIte, ite_self, implies_true, e, hk, hc, n11]
    rfl
  · have hk := fun b' Q => hk16 1 b' Q rfl
    have hc : j_cls (j_nw H (.inl 1)) H.1.length = 1 := nw_cls
    simp (disch := (first | assumption | exact n_N11 | exact n_R11 (by decide) | exact n_bz | (simp (disch := (first | assumption | omega | decide)) only [v_rs, v_rn, v_pa, v_vc, v_vt, v_vl, v_ir, v_in, v_po, v_pn, v_re, v_rN, v_Nr, v_fe, v_fN, v_c1i, v_c1r, v_c1n, v_c1u, v_c1f, v_if, h_II, h_LL, h_RR, h_IL, h_IR, h_LI, h_LR, h_RI, h_RL, h_Ic, h_Lc, h_Rc, h_Id, h_Ld, h_Rd, h_cls_sI, h_cls_sL, h_cls_sR, h_cls_cI, h_cls_cL, h_tp_sI, h_tp_sL, h_tp_sR, h_tp_cI, h_tp_cL, h_ln_sI, h_ln_sL, h_ln_sR, h_ln_cI, h_ln_cL, v_if, j_scr, j_Wd_I, j_Wd_L, t_addo, t_subo, t_mulo, t_of, t_divc, t_remc, t_em, Int.toNat_zero, j_ix, Int.toNat_natCast, t_addc, t_subc, t_mulc, t_bz0, t_bz1, Classical.not_not, not_false_eq_true, if_true, if_false, and_true, true_and, and_false, false_and, and_self, or_true, true_or, or_false, false_or, not_true_eq_false, reduceIte, ite_self, implies_true, e, hk, hc, n11] <;> first | omega | rfl | decide) | omega | decide | fail)) only [↓if_pos, ↓if_neg, ↓b104_0, ↓b104_40, ↓b104_51, ↓b104_52, ↓b104_63, ↓b104_64, ↓b104_75, ↓b104_76, ↓b104_87, ↓b104_88, ↓b104_99, ↓b104_100, ↓b104_111, ↓b104_112, ↓b104_123, ↓b13_0, ↓b13_9, ↓b42_0, ↓b42_9, v_rs, v_rn, v_pa, v_vc, v_vt, v_vl, v_ir, v_in, v_po, v_pn, v_re, v_rN, v_Nr, v_fe, v_fN, v_c1i, v_c1r, v_c1n, v_c1u, v_c1f, v_if, h_II, h_LL, h_RR, h_IL, h_IR, h_LI, h_LR, h_RI, h_RL, h_Ic, h_Lc, h_Rc, h_Id, h_Ld, h_Rd, h_cls_sI, h_cls_sL, h_cls_sR, h_cls_cI, h_cls_cL, h_tp_sI, h_tp_sL, h_tp_sR, h_tp_cI, h_tp_cL, h_ln_sI, h_ln_sL, h_ln_sR, h_ln_cI, h_ln_cL, v_if, j_ks, j_ke, t_addo, t_subo, t_mulo, t_of, t_divc, t_remc, t_em, Int.toNat_zero, j_ix, Int.toNat_natCast, t_addc, t_subc, t_mulc, t_bz0, t_bz1, Classical.not_not, not_false_eq_true, if_true, if_false, and_true, true_and, and_false, false_and, and_self, or_true, true_or, or_false, false_or, not_true_eq_false, reduceIte, ite_self, implies_true, e, hk, hc, n11]
    rfl
  · have hk := fun b' Q => hk16 9 b' Q rfl
    have hc : j_cls (j_nw H (.inl 9)) H.1.length = 9 := nw_cls
    simp (disch := (first | assumption | exact n_N11 | exact n_R11 (by decide) | exact n_bz | (simp (disch := (first | assumption | omega | decide)) only [v_rs, v_rn, v_pa, v_vc, v_vt, v_vl, v_ir, v_in, v_po, v_pn, v_re, v_rN, v_Nr, v_fe, v_fN, v_c1i, v_c1r, v_c1n, v_c1u, v_c1f, v_if, h_II, h_LL, h_RR, h_IL, h_IR, h_LI, h_LR, h_RI, h_RL, h_Ic, h_Lc, h_Rc, h_Id, h_Ld, h_Rd, h_cls_sI, h_cls_sL, h_cls_sR, h_cls_cI, h_cls_cL, h_tp_sI, h_tp_sL, h_tp_sR, h_tp_cI, h_tp_cL, h_ln_sI, h_ln_sL, h_ln_sR, h_ln_cI, h_ln_cL, v_if, j_scr, j_Wd_I, j_Wd_L, t_addo, t_subo, t_mulo, t_of, t_divc, t_remc, t_em, Int.toNat_zero, j_ix, Int.toNat_natCast, t_addc, t_subc, t_mulc, t_bz0, t_bz1, Classical.not_not, not_false_eq_true, if_true, if_false, and_true, true_and, and_false, false_and, and_self, or_true, true_or, or_false, false_or, not_true_eq_false, reduceIte, ite_self, implies_true, e, hk, hc, n11] <;> first | omega | rfl | decide) | omega | decide | fail)) only [↓if_pos, ↓if_neg, ↓b104_0, ↓b104_40, ↓b104_51, ↓b104_52, ↓b104_63, ↓b104_64, ↓b104_75, ↓b104_76, ↓b104_87, ↓b104_88, ↓b104_99, ↓b104_100, ↓b104_111, ↓b104_112, ↓b104_123, ↓b57_0, ↓b57_9, ↓b39_0, ↓b39_9, v_rs, v_rn, v_pa, v_vc, v_vt, v_vl, v_ir, v_in, v_po, v_pn, v_re, v_rN, v_Nr, v_fe, v_fN, v_c1i, v_c1r, v_c1n, v_c1u, v_c1f, v_if, h_II, h_LL, h_RR, h_IL, h_IR, h_LI, h_LR, h_RI, h_RL, h_Ic, h_Lc, h_Rc, h_Id, h_Ld, h_Rd, h_cls_sI, h_cls_sL, h_cls_sR, h_cls_cI, h_cls_cL, h_tp_sI, h_tp_sL, h_tp_sR, h_tp_cI, h_tp_cL, h_ln_sI, h_ln_sL, h_ln_sR, h_ln_cI, h_ln_cL, v_if, j_ks, j_ke, t_addo, t_subo, t_mulo, t_of, t_divc, t_remc, t_em, Int.toNat_zero, j_ix, Int.toNat_natCast, t_addc, t_subc, t_mulc, t_bz0, t_bz1, Classical.not_not, not_false_eq_true, if_true, if_false, and_true, true_and, and_false, false_and, and_self, or_true, true_or, or_false, false_or, not_true_eq_false, reduceIte, ite_self, implies_true, e, hk, hc, n11]
    rfl
theorem k2 {b : Nat} {H : j_H} {r c : Nat} {nI : Int32} {Q : Option Value → j_H → Prop} (h1 : j_cls H 13 = 0) (h2 : j_R H 13 0 = some 14) (h3 : j_tp H 14 = 4) (h4 : j_ln H 14 = 7) (h5 : j_R H 13 1 = some 15) (h6 : j_tp H 15 = 0) (h7 : j_ln H 15 = 7) (hn : j_I H 13 4 = nI) (n0 : 0 ≤ nI.toInt) (n7 : nI.toInt < 7) (hc : j_cls H r = c) (hg : c < 99 ∧ j_pr c [1, 1, 2, 0, 4, 2, 5, 3, 6, 4, 7, 5, 9, 6] = true) : j_wp b 2 0 [.ref 13, .ref r] [] H Q = Q (some (.int (nI + Int32.ofInt 1 - Int32.ofInt 1))) (j_sI (j_sI (j_sR H 14 nI.toInt.toNat (some r)) 15 nI.toInt.toNat (Int32.ofInt 0)) 13 4 (nI + Int32.ofInt 1)) := by
  have hg' : (Value.ref r = .null) ∨ (j_vc H (.ref r) < 99 ∧ j_pr (j_vc H (.ref r)) [1, 1, 2, 0, 4, 2, 5, 3, 6, 4, 7, 5, 9, 6] = true) := Or.inr (by rw [v_vc, hc]; exact hg)
  have E0 : va_rf (j_R H (j_pa (.ref 13)) 0) = .ref 14 := by rw [v_pa, h2]; rfl
  have n4 : (j_I H (j_pa (.ref 13)) 4) = nI := hn
  have h1' : j_vc H (.ref 13) = 0 := by rw [v_vc]; exact h1
  rw [b2_0 h1' (by rw [E0]; exact h3), if_pos (by rw [n4, E0, v_vl, h4]; exact n7), b2_15 h1' rfl (by rw [E0]; exact h3) (by rw [n4]; exact n0) (by rw [n4, E0, v_vl, h4]; exact n7) hg', E0, n4, v_pa]
  have ek : j_ix nI = nI.toInt.toNat := rfl
  have ep : j_po (.ref r) = some r := rfl
  have e14 : j_pa (.ref 14) = 14 := rfl
  have e13 : j_pa (.ref 13) = 13 := rfl
  have e15 : j_pa (.ref 15) = 15 := rfl
  rw [ek, ep]
  have c1 : ∀ k, j_vc (j_sR H 14 k (some r)) (.ref 13) = 0 := fun k => h1
  have E6 : ∀ k, va_rf (j_R (j_sR H 14 k (some r)) (j_pa (.ref 13)) 1) = .ref 15 := fun k => by rw [v_pa, h_RR, if_neg (by omega), h5]; rfl
  have n5 : ∀ k, (j_I (j_sR H 14 k (some r)) (j_pa (.ref 13)) 4) = nI := fun k => hn
  rw [b2_25 (c1 _) (by rw [E6]; exact h6) (by rw [n5]; exact n0) (by rw [n5, E6, v_vl]; show nI.toInt < ((j_ln H 15 : Nat) : Int); rw [h7]; exact n7), E6, n5, e15, ek]
  have n6 : ∀ k, (j_I (j_sI (j_sR H 14 k (some r)) 15 k (Int32.ofInt 0)) (j_pa (.ref 13)) 4) = nI := fun k => by rw [v_pa, h_II, if_neg (by omega)]; exact hn
  rw [b2_35 (by exact h1), n6, b2_45 (by exact h1), e13, h_II, if_pos ⟨rfl, rfl⟩]
theorem j_gc_pr (k : Int) : j_gc k < 99 ∧ j_pr (j_gc k) [1, 1, 2, 0, 4, 2, 5, 3, 6, 4, 7, 5, 9, 6] = true := by
  unfold j_gc; (repeat' split) <;> exact ⟨by decide, rfl⟩
