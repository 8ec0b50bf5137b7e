/-! HOUSES: all in order behind -/
theorem y_FRn : ∀ f : Fin 6, ∀ p ∈ j_FR, y_SH f.val p.1 p.2.1 = false := by decide +kernel
theorem In_house {C C' : j_H} {f : Nat} (hI : j_In C) (hf : f < 6) (hcnt : (j_I C 81 8).toInt = (f : Int)) (hfr : j_F (y_SH f) C C') (h126 : j_I C' 12 6 = Int32.ofInt 0) (h8110 : j_I C' 81 10 = Int32.ofInt 0) (hs : (j_I C' 12 4 = j_I C 12 4 ∧ j_I C' 81 8 = j_I C 81 8 ∧ j_I C' 81 9 = j_I C 81 9 ∧ j_R C' 13 10 = j_R C 13 10) ∨ (j_I C' 12 4 = Int32.ofInt ((f : Int) + 1) ∧ j_I C' 81 8 = Int32.ofInt ((f : Int) + 1) ∧ j_I C' 81 9 = Int32.ofInt (f : Int) ∧ j_R C' 13 10 = some (24 + 6 * f) ∧ j_Ho C' f)) : j_In C' := by
  have rI : ∀ b k, ¬ ((24 + 6 * f < b ∧ b ≤ 24 + 6 * f + 4) ∨ (b = 24 + 6 * f ∧ (k < 2 ∨ k = 5 ∨ k = 7 ∨ k = 9 ∨ k = 10 ∨ k = 11)) ∨ (b = 87 ∧ k = f) ∨ (88 ≤ b ∧ b ≤ 91 ∧ 10 * f ≤ k ∧ k < 10 * f + 10) ∨ (b = 92 ∧ 100 * f ≤ k ∧ k < 100 * f + 100) ∨ b = 93 ∨ (b = 81 ∧ (k = 8 ∨ k = 9 ∨ k = 10 ∨ k = 11 ∨ k = 12 ∨ k = 21 ∨ k = 22 ∨ k = 23)) ∨ (b = 12 ∧ (k = 4 ∨ k = 6)) ∨ (b = 13 ∧ k = 10)) → j_I C' b k = j_I C b k := fun b k h => (hfr.2 b k (decide_eq_false h)).1
  have rL : ∀ b k, ¬ ((24 + 6 * f < b ∧ b ≤ 24 + 6 * f + 4) ∨ (b = 24 + 6 * f ∧ (k < 2 ∨ k = 5 ∨ k = 7 ∨ k = 9 ∨ k = 10 ∨ k = 11)) ∨ (b = 87 ∧ k = f) ∨ (88 ≤ b ∧ b ≤ 91 ∧ 10 * f ≤ k ∧ k < 10 * f + 10) ∨ (b = 92 ∧ 100 * f ≤ k ∧ k < 100 * f + 100) ∨ b = 93 ∨ (b = 81 ∧ (k = 8 ∨ k = 9 ∨ k = 10 ∨ k = 11 ∨ k = 12 ∨ k = 21 ∨ k = 22 ∨ k = 23)) ∨ (b = 12 ∧ (k = 4 ∨ k = 6)) ∨ (b = 13 ∧ k = 10)) → j_L C' b k = j_L C b k := fun b k h => (hfr.2 b k (decide_eq_false h)).2.1
  have rR : ∀ b k, ¬ ((24 + 6 * f < b ∧ b ≤ 24 + 6 * f + 4) ∨ (b = 24 + 6 * f ∧ (k < 2 ∨ k = 5 ∨ k = 7 ∨ k = 9 ∨ k = 10 ∨ k = 11)) ∨ (b = 87 ∧ k = f) ∨ (88 ≤ b ∧ b ≤ 91 ∧ 10 * f ≤ k ∧ k < 10 * f + 10) ∨ (b = 92 ∧ 100 * f ≤ k ∧ k < 100 * f + 100) ∨ b = 93 ∨ (b = 81 ∧ (k = 8 ∨ k = 9 ∨ k = 10 ∨ k = 11 ∨ k = 12 ∨ k = 21 ∨ k = 22 ∨ k = 23)) ∨ (b = 12 ∧ (k = 4 ∨ k = 6)) ∨ (b = 13 ∧ k = 10)) → j_R C' b k = j_R C b k := fun b k h => (hfr.2 b k (decide_eq_false h)).2.2
  have hc := hfr.1
  have tf1 : (Int32.ofInt ((f : Int) + 1)).toInt = (f : Int) + 1 := t_of (by omega) (by omega)
  have tf : (Int32.ofInt (f : Int)).toInt = (f : Int) := t_of (by omega) (by omega)
  obtain ⟨x1, ⟨es, er, et, eg, ew, eb⟩, ⟨ks, kr, kt, kg, kw, kb⟩, x4, ⟨s1, s2, s3, s4⟩, ⟨u1, u2, u3, u4⟩, x7, x8, x9, x10⟩ := hI
  have old : ∀ f' : Nat, f' < f → j_Ho C' f' := fun f' hf' => Ho_mv (fun a k h1 h2 => rI a k (by omega)) (rI _ _ (by omega)) (fun b k h1 h2 h3 h4 => rI b k (by omega)) (fun k h1 h2 => rI 92 k (by omega)) (s4 f' (by omega))
  refine ⟨⟨by rw [hc]; exact x1.1, fun p hp => ?_, by rw [hc]; exact x1.2.2⟩, ⟨tr_Es (fun k hk => rI 13 k (by omega)) (rI _ _ (by omega)) (rI _ _ (by omega)) (rI _ _ (by omega)) (rI _ _ (by omega)) (rI _ _ (by omega)) (rI _ _ (by omega)) es, tr_Er (rI _ _ (by omega)) (rI _ _ (by omega)) (rI _ _ (by omega)) (rI _ _ (by omega)) (rI _ _ (by omega)) (rI _ _ (by omega)) er, ?_, tr_Eg (rI _ _ (by omega)) (fun k => rR _ k (by omega)) (fun k => rI _ k (by omega)) (fun k => rI _ k (by omega)) (fun k => rI _ k (by omega)) (fun r k hr => rI r k (by omega)) hc eg, tr_Ew (fun k => rI _ k (by omega)) (fun k => rI _ k (by omega)) ew, tr_Eb (fun k => rI _ k (by omega)) (fun k => rI _ k (by omega)) (fun k => rI _ k (by omega)) (fun k => rI _ k (by omega)) (rI _ _ (by omega)) (rI _ _ (by omega)) (rI _ _ (by omega)) eb⟩, ⟨tr_Es (fun k hk => rI 18 k (by omega)) (rI _ _ (by omega)) (rI _ _ (by omega)) (rI _ _ (by omega)) (rI _ _ (by omega)) (rI _ _ (by omega)) (rI _ _ (by omega)) ks, tr_Er (rI _ _ (by omega)) (rI _ _ (by omega)) (rI _ _ (by omega)) (rI _ _ (by omega)) (rI _ _ (by omega)) (rI _ _ (by omega)) kr, ?_, tr_Eg (rI _ _ (by omega)) (fun k => rR _ k (by omega)) (fun k => rI _ k (by omega)) (fun k => rI _ k (by omega)) (fun k => rI _ k (by omega)) (fun r k hr => rI r k (by omega)) hc kg, tr_Ew (fun k => rI _ k (by omega)) (fun k => rI _ k (by omega)) kw, tr_Eb (fun k => rI _ k (by omega)) (fun k => rI _ k (by omega)) (fun k => rI _ k (by omega)) (fun k => rI _ k (by omega)) (rI _ _ (by omega)) (rI _ _ (by omega)) (rI _ _ (by omega)) kb⟩, by rw [rI 12 2 (by omega), rI 81 38 (by omega)]; exact x4, ?_, ?_, tr_Ta (fun a k h1 h2 => rI a k (by omega)) (fun a k h1 h2 => rL a k (by omega)) (fun k => rI _ k (by omega)) (fun k => rI _ k (by omega)) (fun k => rL _ k (by omega)) x7, tr_Tr (rI _ _ (by omega)) (rI _ _ (by omega)) (fun k => rI _ k (by omega)) (fun k => rI _ k (by omega)) x8, fun k hk => by rw [rI 94 k (by omega)]; exact x9 k hk, tr_St (fun a k h => rI a k (by omega)) (fun a k h => rR a k (by omega)) x10⟩
  · have := (hfr.2 p.1 p.2.1 (y_FRn ⟨f, hf⟩ p hp)).2.2
    show j_R C' p.1 p.2.1 = some p.2.2
    rw [this]; exact x1.2.1 p hp
  · rcases hs with ⟨h1, h2, h3, h4⟩ | ⟨h1, h2, h3, h4, h5⟩
    · unfold j_Et at et ⊢
      rw [h3, h2, h4]; exact et
    · refine Or.inr ⟨?_, ?_, ?_⟩
      · rw [h3, tf]; omega
      · rw [h3, h2, tf, tf1]; omega
      · rw [h3, h4, tf]; rfl
  · unfold j_Et at kt ⊢
    rw [rI 81 39 (by omega), rR 18 10 (by omega)]
    rcases kt with kt | ⟨k1, k2, k3⟩
    · exact Or.inl kt
    · refine Or.inr ⟨k1, ?_, k3⟩
      rcases hs with ⟨h1, h2, h3, h4⟩ | ⟨h1, h2, h3, h4, h5⟩
      · rw [h2]; exact k2
      · rw [h2, tf1]; omega
  · rcases hs with ⟨h1, h2, h3, h4⟩ | ⟨h1, h2, h3, h4, h5⟩
    · refine ⟨by rw [h1, h2]; exact s1, by rw [h2]; exact s2, by rw [h2]; exact s3, fun f' hf' => old f' (by rw [h2] at hf'; omega)⟩
    · refine ⟨by rw [h1, h2], by rw [h2, tf1]; omega, by rw [h2, tf1]; omega, fun f' hf' => ?_⟩
      rw [h2, tf1] at hf'
      by_cases e : f' = f
      · rw [e]; exact h5
      · exact old f' (by omega)
  · refine ⟨by rw [h126, h8110], by rw [h8110]; decide, by rw [h8110]; decide, fun k hk => ?_⟩
    rw [rI 60 k (by omega), rI 86 k (by omega)]
    exact u4 k hk
/-- cores of frames -/
theorem F_co {S : Nat → Nat → Bool} {H H' : j_H} (h : j_F S H H') : j_F S (j_co H) (j_co H') := by
  refine ⟨h.1, fun a k hs => ?_⟩
  obtain ⟨h1, h2, h3⟩ := h.2 a k hs
  have e1 : ∀ X : j_H, j_I (j_co X) a k = if j_scr a k = true then 0 else j_I X a k := fun _ => rfl
  have e2 : ∀ X : j_H, j_L (j_co X) a k = if j_scr a k = true then 0 else j_L X a k := fun _ => rfl
  have e3 : ∀ X : j_H, j_R (j_co X) a k = if j_scr a k = true then none else j_R X a k := fun _ => rfl
  rw [e1, e1, e2, e2, e3, e3, h1, h2, h3]
  exact ⟨rfl, rfl, rfl⟩
