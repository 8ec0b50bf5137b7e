/-! CALLS THAT CHANGE: guest -/
theorem nw_I {H : j_H} {x : j_Sh} {a k : Nat} (h : ¬ a = H.1.length) : j_I (j_nw H x) a k = j_I H a k := if_neg h
theorem nw_L {H : j_H} {x : j_Sh} {a k : Nat} (h : ¬ a = H.1.length) : j_L (j_nw H x) a k = j_L H a k := if_neg h
theorem nw_R {H : j_H} {x : j_Sh} {a k : Nat} (h : ¬ a = H.1.length) : j_R (j_nw H x) a k = j_R H a k := if_neg h
theorem nw_sh {H : j_H} {x : j_Sh} {a : Nat} (h : a < H.1.length) : j_sh (j_nw H x) a = j_sh H a := List.getElem?_append_left h
theorem nw_new {H : j_H} {x : j_Sh} : j_sh (j_nw H x) H.1.length = some x := by
  show (H.1 ++ [x])[H.1.length]? = some x
  rw [List.getElem?_append_right (Nat.le_refl _), Nat.sub_self]; rfl
theorem nw_cls {H : j_H} {c : Nat} : j_cls (j_nw H (.inl c)) H.1.length = c := by unfold j_cls; rw [nw_new]
theorem c_nw {H : j_H} {x : j_Sh} : j_co (j_nw H x) = j_nw (j_co H) x := by
  have e : ∀ (α : Type) (z : α) (f : Nat → Nat → α), j_mk z (j_z f H.1.length z) = j_z (j_mk z f) H.1.length z := fun α z f => by
    funext b j
    unfold j_mk j_z
    by_cases h1 : j_scr b j = true
    · rw [if_pos h1]
      by_cases h2 : b = H.1.length
      · rw [if_pos h2]
      · rw [if_neg h2]; exact (if_pos h1).symm
    · rw [if_neg h1]
      by_cases h2 : b = H.1.length
      · rw [if_pos h2, if_pos h2]
      · rw [if_neg h2, if_neg h2]; exact (if_neg h1).symm
  show (H.1 ++ [x], j_mk 0 (j_z H.2.1 H.1.length 0), j_mk 0 (j_z H.2.2.1 H.1.length 0), j_mk none (j_z H.2.2.2 H.1.length none)) = _
  rw [e, e, e]; rfl
theorem j_FR_n : ∀ p ∈ j_FR, ¬ p.1 = 14 ∧ ¬ p.1 = 19 ∧ p.1 < 115 ∧ ¬ (p.1 = 13 ∧ p.2.1 = 10) ∧ ¬ (p.1 = 18 ∧ p.2.1 = 10) := by decide
theorem j_S0_n : j_S0.length ≤ 115 := by decide
theorem gr_sh {C C' : j_H} {x : j_Sh} (hs : C'.1 = C.1 ++ [x]) {a : Nat} (h : a < C.1.length) : j_sh C' a = j_sh C a := by
  unfold j_sh; rw [hs]; exact List.getElem?_append_left h
theorem tr_Eg2 {C C' : j_H} {e sg aK aV aN : Nat} (hs : j_I C' 81 sg = j_I C 81 sg) (hR : ∀ k, j_R C' (e + 1) k = j_R C (e + 1) k) (hK : ∀ k, j_I C' aK k = j_I C aK k) (hV : ∀ k, j_I C' aV k = j_I C aV k) (hN : ∀ k, j_I C' aN k = j_I C aN k) (ho : ∀ r k, 115 ≤ r → r < C.1.length → j_I C' r k = j_I C r k) (hc : ∀ r, r < C.1.length → j_cls C' r = j_cls C r) (hl : C.1.length ≤ C'.1.length) (h : j_Eg C e sg aK aV aN) : j_Eg C' e sg aK aV aN := by
  refine ⟨fun g hg => ?_, fun k => ?_⟩
  · rw [hs] at hg
    obtain ⟨r, hr, hG⟩ := h.1 g hg
    exact ⟨r, by rw [hR]; exact hr, tr_Gr (fun k => ho r k hG.1 hG.2.1) (hc r hG.2.1) hl (hK _) (hV _) (hN _) hG⟩
  · rw [hR]
    refine ⟨(h.2 k).1, fun r hr => ?_⟩
    obtain ⟨h1, h2⟩ := (h.2 k).2 r hr
    have hlt : r < C.1.length := by
      by_cases h3 : r < C.1.length
      · exact h3
      · exfalso
        have : j_cls C r = 99 := by
          unfold j_cls j_sh
          rw [List.getElem?_eq_none (by omega)]
        rw [this] at h2
        exact absurd h2 (by decide)
    rw [hc r hlt]
    exact ⟨h1, h2⟩
theorem In_guest {C C' : j_H} {kd vv bb : Int32} {nn : Nat} (hI : j_In C) (hnn : (j_I C 81 0).toInt = (nn : Int)) (h7 : nn < 7) (hk : 0 ≤ kd.toInt ∧ kd.toInt ≤ 6) (hv : 0 ≤ vv.toInt ∧ vv.toInt ≤ 9) (hb : 0 ≤ bb.toInt ∧ bb.toInt ≤ 255) (hs : C'.1 = C.1 ++ [.inl (j_gc kd.toInt)]) (hR : ∀ a k, ¬ a = C.1.length → ¬ (a = 14 ∧ k = nn) → j_R C' a k = j_R C a k) (hRn : j_R C' 14 nn = some C.1.length) (hL : ∀ a k, ¬ a = C.1.length → j_L C' a k = j_L C a k) (hO : ∀ a k, ¬ a = C.1.length → ¬ (a = 15 ∧ k = nn) → ¬ (a = 13 ∧ k = 4) → ¬ (a = 82 ∧ k = nn) → ¬ (a = 83 ∧ k = nn) → ¬ (a = 84 ∧ k = nn) → ¬ (a = 85 ∧ 8 * nn ≤ k ∧ k < 8 * nn + 8) → ¬ (a = 81 ∧ k = 0) → j_I C' a k = j_I C a k) (v15 : j_I C' 15 nn = Int32.ofInt 0) (v13 : j_I C' 13 4 = Int32.ofInt ((nn : Int) + 1)) (v82 : j_I C' 82 nn = kd) (v83 : j_I C' 83 nn = vv) (v84 : j_I C' 84 nn = bb) (v85 : ∀ k, 8 * nn ≤ k → k < 8 * nn + 8 → j_I C' 85 k = Int32.ofInt 0) (v81 : j_I C' 81 0 = Int32.ofInt ((nn : Int) + 1)) (g0 : j_I C' C.1.length 0 = kd) (g1 : (j_I C' C.1.length 1).toInt = (nn : Int)) (g2 : j_I C' C.1.length 2 = vv) (g3 : j_I C' C.1.length 3 = bb) (g4 : (j_I C' C.1.length 4).toInt = j_pop bb.toInt) : j_In C' := by
  have hlen := hI.1.2.2
  obtain ⟨L, hLe⟩ : ∃ L, L = C.1.length := ⟨_, rfl⟩
  have hsl : C'.1.length = L + 1 := by rw [hs, List.length_append, hLe]; rfl
  have hcl : ∀ r, r < L → j_cls C' r = j_cls C r := fun r hr => by unfold j_cls; rw [gr_sh hs (by omega)]
  have hcn : j_cls C' L = j_gc kd.toInt := by
    unfold j_cls j_sh
    rw [hs, hLe, List.getElem?_append_right (Nat.le_refl _), Nat.sub_self]; rfl
  rw [← hLe] at hlen hR hRn hL hO g0 g1 g2 g3 g4
  have o := fun a k h1 h2 h3 h4 h5 h6 h7 h8 => hO a k h1 h2 h3 h4 h5 h6 h7 h8
  have n1 := t_of (z := (nn : Int) + 1) (by omega) (by omega)
  obtain ⟨x1, ⟨es, er, et, eg, ew, eb⟩, x3, x4, x5, x6, x7, x8, x9⟩ := hI
  refine ⟨⟨fun a x hx => ?_, fun p hp => ?_, by omega⟩, ⟨?_, ?_, ?_, ?_, ?_, ?_⟩, ?_, ?_, ?_, ?_, ?_, ?_, ?_, ?_⟩
  · have h1 := x1.1 a x hx
    have h2 := (List.getElem?_eq_some_iff.mp h1).1
    rw [hs, List.getElem?_append_left h2]; exact h1
  · obtain ⟨q1, q2, q3, q4⟩ := j_FR_n p hp
    exact (hR p.1 p.2.1 (by omega) (by omega)).trans (x1.2.1 p hp)
  · obtain ⟨s1, s2, s3, s4, s5, s6⟩ := es
    refine ⟨by rw [v13, v81], ?_, ?_, ?_, ?_, ?_⟩
    · rw [o 13 5 (by omega) (by omega) (by omega) (by omega) (by omega) (by omega) (by omega) (by omega), o 81 1 (by omega) (by omega) (by omega) (by omega) (by omega) (by omega) (by omega) (by omega)]; exact s2
    · rw [o 13 6 (by omega) (by omega) (by omega) (by omega) (by omega) (by omega) (by omega) (by omega), o 81 2 (by omega) (by omega) (by omega) (by omega) (by omega) (by omega) (by omega) (by omega)]; exact s3
    · rw [o 13 7 (by omega) (by omega) (by omega) (by omega) (by omega) (by omega) (by omega) (by omega), o 81 3 (by omega) (by omega) (by omega) (by omega) (by omega) (by omega) (by omega) (by omega)]; exact s4
    · rw [o 13 8 (by omega) (by omega) (by omega) (by omega) (by omega) (by omega) (by omega) (by omega), o 81 27 (by omega) (by omega) (by omega) (by omega) (by omega) (by omega) (by omega) (by omega)]; exact s5
    · rw [o 13 9 (by omega) (by omega) (by omega) (by omega) (by omega) (by omega) (by omega) (by omega), o 81 36 (by omega) (by omega) (by omega) (by omega) (by omega) (by omega) (by omega) (by omega)]; exact s6
  · obtain ⟨t1, t2, t3, t4, t5, t6, t7⟩ := er
    unfold j_Er
    rw [v81, n1, o 81 1 (by omega) (by omega) (by omega) (by omega) (by omega) (by omega) (by omega) (by omega), o 81 2 (by omega) (by omega) (by omega) (by omega) (by omega) (by omega) (by omega) (by omega), o 81 3 (by omega) (by omega) (by omega) (by omega) (by omega) (by omega) (by omega) (by omega), o 81 27 (by omega) (by omega) (by omega) (by omega) (by omega) (by omega) (by omega) (by omega), o 81 36 (by omega) (by omega) (by omega) (by omega) (by omega) (by omega) (by omega) (by omega)]
    exact ⟨by omega, by omega, t3, t4, t5, by omega, t7⟩
  · exact tr_Et (o 81 8 (by omega) (by omega) (by omega) (by omega) (by omega) (by omega) (by omega) (by omega)) (o 81 9 (by omega) (by omega) (by omega) (by omega) (by omega) (by omega) (by omega) (by omega)) (hR 13 10 (by omega) (by omega)) et
  · refine ⟨fun g hg => ?_, fun g => ?_⟩
    · rw [v81, n1] at hg
      by_cases e : g = nn
      · subst e
        refine ⟨L, hRn, by omega, by omega, ?_, ?_, ?_, ?_, ?_, ?_, ?_, ?_, ?_, ?_, ?_, ?_⟩
        · rw [hcn, v82]
        · rw [g0, v82]
        · exact g1
        · rw [g2, v83]
        · rw [g3, v84]
        · rw [g4, v84]
        · rw [v82]; exact hk.1
        · rw [v82]; exact hk.2
        · rw [v83]; exact hv.1
        · rw [v83]; exact hv.2
        · rw [v84]; exact hb.1
        · rw [v84]; exact hb.2
      · obtain ⟨r, hr, hG⟩ := eg.1 g (by omega)
        have hrl : r < L := by have := hG.2.1; omega
        have hr0 := hG.1
        exact ⟨r, by rw [hR _ _ (by omega) (by omega)]; exact hr, tr_Gr (fun k => o r k (by omega) (by omega) (by omega) (by omega) (by omega) (by omega) (by omega) (by omega)) (hcl r hrl) (by omega) (o 82 g (by omega) (by omega) (by omega) (by omega) (by omega) (by omega) (by omega) (by omega)) (o 83 g (by omega) (by omega) (by omega) (by omega) (by omega) (by omega) (by omega) (by omega)) (o 84 g (by omega) (by omega) (by omega) (by omega) (by omega) (by omega) (by omega) (by omega)) hG⟩
    · by_cases e : g = nn
      · subst e
        rw [show (13 + 1 : Nat) = 14 from rfl, hRn]
        refine ⟨fun h => ?_, fun r hr => ?_⟩
        · injection h with h; omega
        · injection hr with hr
          subst hr
          rw [hcn]
          exact ⟨by omega, j_gc_g _⟩
      · rw [hR _ _ (by omega) (by omega)]
        refine ⟨(eg.2 g).1, fun r hr => ?_⟩
        obtain ⟨h1, h2⟩ := (eg.2 g).2 r hr
        have hlt : r < L := by
          by_cases h3 : r < L
          · exact h3
          · exfalso
            have : j_cls C r = 99 := by
              unfold j_cls j_sh
              rw [List.getElem?_eq_none (by omega)]
            rw [this] at h2
            exact absurd h2 (by decide)
        rw [hcl r hlt]
        exact ⟨h1, h2⟩
  · intro g hg
    by_cases e : g = nn
    · subst e
      have z : (Int32.ofInt 0).toInt = 0 := rfl
      rw [show (13 + 2 : Nat) = 15 from rfl, v15, z]
      refine ⟨by omega, by omega, fun p hp => ?_⟩
      rw [v85 (8 * g + p) (by omega) (by omega), z, if_neg (by rw [show (0 : Int).toNat = 0 from rfl, Nat.zero_testBit]; decide)]
    · obtain ⟨w1, w2, w3⟩ := ew g hg
      rw [o (13 + 2) g (by omega) (by omega) (by omega) (by omega) (by omega) (by omega) (by omega) (by omega)]
      refine ⟨w1, w2, fun p hp => ?_⟩
      rw [o 85 (8 * g + p) (by omega) (by omega) (by omega) (by omega) (by omega) (by omega) (by omega) (by omega)]
      exact w3 p hp
  · intro k hk12
    obtain ⟨y1, y2, y3, y4⟩ := eb k hk12
    rw [o (13 + 3) k (by omega) (by omega) (by omega) (by omega) (by omega) (by omega) (by omega) (by omega), o 97 k (by omega) (by omega) (by omega) (by omega) (by omega) (by omega) (by omega) (by omega), o (13 + 4) k (by omega) (by omega) (by omega) (by omega) (by omega) (by omega) (by omega) (by omega), o 103 k (by omega) (by omega) (by omega) (by omega) (by omega) (by omega) (by omega) (by omega), o 81 27 (by omega) (by omega) (by omega) (by omega) (by omega) (by omega) (by omega) (by omega), o 81 36 (by omega) (by omega) (by omega) (by omega) (by omega) (by omega) (by omega) (by omega), v81, n1]
    exact ⟨y1, y2, fun h => ⟨(y3 h).1, by have := (y3 h).2; omega⟩, y4⟩
  · obtain ⟨ks, kr, kt, kg, kw, kb⟩ := x3
    have w : ∀ a k, (17 < a ∧ a < 82 ∧ ¬ (a = 81 ∧ k = 0)) ∨ (85 < a ∧ a < 115) → j_I C' a k = j_I C a k := fun a k h => o a k (by omega) (by omega) (by omega) (by omega) (by omega) (by omega) (by omega) (by omega)
    exact ⟨tr_Es (fun k _ => w _ _ (by omega)) (w _ _ (by omega)) (w _ _ (by omega)) (w _ _ (by omega)) (w _ _ (by omega)) (w _ _ (by omega)) (w _ _ (by omega)) ks, tr_Er (w _ _ (by omega)) (w _ _ (by omega)) (w _ _ (by omega)) (w _ _ (by omega)) (w _ _ (by omega)) (w _ _ (by omega)) kr, tr_Et (w _ _ (by omega)) (w _ _ (by omega)) (hR _ _ (by omega) (by omega)) kt, tr_Eg2 (w _ _ (by omega)) (fun k => hR _ _ (by omega) (by omega)) (fun k => w _ _ (by omega)) (fun k => w _ _ (by omega)) (fun k => w _ _ (by omega)) (fun r k h1 h2 => o r k (by omega) (by omega) (by omega) (by omega) (by omega) (by omega) (by omega) (by omega)) (fun r hr => hcl r (by omega)) (by omega) kg, tr_Ew (fun k => w _ _ (by omega)) (fun k => w _ _ (by omega)) kw, tr_Eb (fun k => w _ _ (by omega)) (fun k => w _ _ (by omega)) (fun k => w _ _ (by omega)) (fun k => w _ _ (by omega)) (w _ _ (by omega)) (w _ _ (by omega)) (w _ _ (by omega)) kb⟩
  · rw [o 12 2 (by omega) (by omega) (by omega) (by omega) (by omega) (by omega) (by omega) (by omega), o 81 38 (by omega) (by omega) (by omega) (by omega) (by omega) (by omega) (by omega) (by omega)]; exact x4
  all_goals have w : ∀ a k, (a < 13 ∨ (17 < a ∧ a < 82 ∧ ¬ (a = 81 ∧ k = 0)) ∨ (85 < a ∧ a < 115)) → j_I C' a k = j_I C a k := fun a k h => o a k (by omega) (by omega) (by omega) (by omega) (by omega) (by omega) (by omega) (by omega)
  · exact tr_Hs (w _ _ (by omega)) (w _ _ (by omega)) (fun a k h1 h2 => w _ _ (by omega)) (fun k => w _ _ (by omega)) (fun k => w _ _ (by omega)) (fun k => w _ _ (by omega)) (fun k => w _ _ (by omega)) (fun k => w _ _ (by omega)) (fun k => w _ _ (by omega)) x5
  · exact tr_Tx (w _ _ (by omega)) (w _ _ (by omega)) (fun k => w _ _ (by omega)) (fun k => w _ _ (by omega)) x6
  · exact tr_Ta (fun a k h1 h2 => w _ _ (by omega)) (fun a k h1 h2 => hL _ _ (by omega)) (fun k => w _ _ (by omega)) (fun k => w _ _ (by omega)) (fun k => hL _ _ (by omega)) x7
  · exact tr_Tr (w _ _ (by omega)) (w _ _ (by omega)) (fun k => w _ _ (by omega)) (fun k => w _ _ (by omega)) x8
  · intro k hk12
    rw [w 94 k (by omega)]; exact x9.1 k hk12
  · exact tr_St (fun a k h => w _ _ (by omega)) (fun a k h => hR _ _ (by omega) (by omega)) x9.2
