/-! CALLS THAT CHANGE: image, undo: in order behind -/
theorem c_im {H : j_H} : j_co (j_im H) = j_im (j_co H) := by
  unfold j_im j_im0
  rw [c_kI (fun _ => rfl) (fun _ => rfl), c_kI (fun _ => rfl) (fun _ => rfl), c_kI (fun _ => rfl) (fun _ => rfl), c_kI (fun _ => rfl) (fun _ => rfl), c_kI (fun _ => rfl) (fun _ => rfl), c_kI (fun _ => rfl) (fun _ => rfl), c_sI' rfl, c_sI' rfl, c_sI' rfl, c_sI' rfl, c_sI' rfl, c_sI' rfl, c_sI' rfl, c_sI' rfl]
  rfl
theorem c_un {H : j_H} : j_co (j_un H) = j_un (j_co H) := by
  unfold j_un j_un0
  rw [c_kI (fun _ => rfl) (fun _ => rfl), c_kI (fun _ => rfl) (fun _ => rfl), c_kI (fun _ => rfl) (fun _ => rfl), c_kI (fun _ => rfl) (fun _ => rfl), c_kI (fun _ => rfl) (fun _ => rfl), c_kI (fun _ => rfl) (fun _ => rfl), c_sI' rfl, c_sI' rfl, c_sI' rfl, c_sI' rfl, c_sI' rfl, c_sI' rfl, c_sI' rfl]
  rfl
theorem sI_1 {H : j_H} {a k : Nat} {v : Int32} : (j_sI H a k v).1 = H.1 := rfl
theorem sR_1 {H : j_H} {a k : Nat} {v : Option Nat} : (j_sR H a k v).1 = H.1 := rfl
theorem kI_1 {H : j_H} {c a n : Nat} : (j_kI H c a n).1 = H.1 := rfl
theorem kR_1 {H : j_H} {c a n : Nat} : (j_kR H c a n).1 = H.1 := rfl
theorem bc_s {H : j_H} {e f : Nat} : (j_bc H e f).1 = H.1 := by
  unfold j_bc
  rw [sR_1, sI_1, sI_1, sI_1, sI_1, sI_1, sI_1, kI_1, kI_1, kI_1, kR_1]
theorem im_s {H : j_H} : (j_im H).1 = H.1 := by
  unfold j_im j_im0
  rw [kI_1, kI_1, kI_1, kI_1, kI_1, kI_1, sI_1, sI_1, sI_1, sI_1, sI_1, sI_1, sI_1, sI_1]
theorem un_s {H : j_H} : (j_un H).1 = H.1 := by
  unfold j_un j_un0
  rw [kI_1, kI_1, kI_1, kI_1, kI_1, kI_1, sI_1, sI_1, sI_1, sI_1, sI_1, sI_1, sI_1]
theorem im_R {H : j_H} {a k : Nat} : j_R (j_im H) a k = j_R H a k := by
  unfold j_im j_im0
  rw [kI_R, kI_R, kI_R, kI_R, kI_R, kI_R, h_RI, h_RI, h_RI, h_RI, h_RI, h_RI, h_RI, h_RI]
theorem un_R {H : j_H} {a k : Nat} : j_R (j_un H) a k = j_R H a k := by
  unfold j_un j_un0
  rw [kI_R, kI_R, kI_R, kI_R, kI_R, kI_R, h_RI, h_RI, h_RI, h_RI, h_RI, h_RI, h_RI]
theorem im_L {H : j_H} {a k : Nat} : j_L (j_im H) a k = j_L H a k := by
  unfold j_im j_im0
  rw [kI_L, kI_L, kI_L, kI_L, kI_L, kI_L, h_LI, h_LI, h_LI, h_LI, h_LI, h_LI, h_LI, h_LI]
theorem un_L {H : j_H} {a k : Nat} : j_L (j_un H) a k = j_L H a k := by
  unfold j_un j_un0
  rw [kI_L, kI_L, kI_L, kI_L, kI_L, kI_L, h_LI, h_LI, h_LI, h_LI, h_LI, h_LI, h_LI]
theorem Ev_mv {C C' : j_H} {e e' sg sf ss sh sm sb st aK aV aN aR aW aB sg' sf' ss' sh' sm' sb' st' aK' aV' aN' aR' aW' aB' : Nat} (hI : ∀ k, 4 ≤ k → k ≤ 9 → j_I C' e' k = j_I C e k) (h1 : j_I C' 81 sg' = j_I C 81 sg) (h2 : j_I C' 81 sf' = j_I C 81 sf) (h3 : j_I C' 81 ss' = j_I C 81 ss) (h4 : j_I C' 81 sh' = j_I C 81 sh) (h5 : j_I C' 81 sm' = j_I C 81 sm) (h6 : j_I C' 81 sb' = j_I C 81 sb) (h7 : j_I C' 81 st' = j_I C 81 st) (h8 : j_I C' 81 8 = j_I C 81 8) (hR10 : j_R C' e' 10 = j_R C e 10) (hRg : ∀ g, g < 7 → j_R C' (e' + 1) g = j_R C (e + 1) g) (hRo : ∀ g, 7 ≤ g → ¬ j_R C' (e' + 1) g = some 11 ∧ ∀ r, j_R C' (e' + 1) g = some r → 115 ≤ r ∧ [1, 2, 4, 5, 6, 7, 9].contains (j_cls C r) = true) (hw : ∀ g, g < 7 → j_I C' (e' + 2) g = j_I C (e + 2) g) (hb3 : ∀ k, k < 12 → j_I C' (e' + 3) k = j_I C (e + 3) k) (hb4 : ∀ k, k < 12 → j_I C' (e' + 4) k = j_I C (e + 4) k) (hK : ∀ g, g < 7 → j_I C' aK' g = j_I C aK g) (hV : ∀ g, g < 7 → j_I C' aV' g = j_I C aV g) (hN : ∀ g, g < 7 → j_I C' aN' g = j_I C aN g) (hRr : ∀ k, k < 56 → j_I C' aR' k = j_I C aR k) (hWw : ∀ k, k < 12 → j_I C' aW' k = j_I C aW k) (hB : ∀ k, k < 12 → j_I C' aB' k = j_I C aB k) (ho : ∀ r k, 115 ≤ r → j_I C' r k = j_I C r k) (hc : C'.1 = C.1) (h : j_Ev C e sg sf ss sh sm sb st aK aV aN aR aW aB) : j_Ev C' e' sg' sf' ss' sh' sm' sb' st' aK' aV' aN' aR' aW' aB' := by
  obtain ⟨es, er, et, eg, ew, eb⟩ := h
  have hcl : ∀ r, j_cls C' r = j_cls C r := fun r => by unfold j_cls j_sh; rw [hc]
  refine ⟨?_, ?_, ?_, ⟨fun g hg => ?_, fun g => ?_⟩, fun g hg => ?_, fun k hk => ?_⟩
  · obtain ⟨s1, s2, s3, s4, s5, s6⟩ := es
    exact ⟨by rw [hI 4 (by omega) (by omega), h1]; exact s1, by rw [hI 5 (by omega) (by omega), h2]; exact s2, by rw [hI 6 (by omega) (by omega), h3]; exact s3, by rw [hI 7 (by omega) (by omega), h4]; exact s4, by rw [hI 8 (by omega) (by omega), h5]; exact s5, by rw [hI 9 (by omega) (by omega), h6]; exact s6⟩
  · unfold j_Er at er ⊢
    rw [h1, h2, h3, h4, h5, h6]; exact er
  · unfold j_Et at et ⊢
    rw [h7, h8, hR10]; exact et
  · rw [h1] at hg
    have g7 : g < 7 := by have := er.2.1; omega
    obtain ⟨r, hr, hG⟩ := eg.1 g hg
    refine ⟨r, by rw [hRg g g7]; exact hr, ?_⟩
    have hr0 := hG.1
    unfold j_Gr at hG ⊢
    rw [hcl, ho r 0 hr0, ho r 1 hr0, ho r 2 hr0, ho r 3 hr0, ho r 4 hr0, hK g g7, hV g g7, hN g g7, hc]; exact hG
  · by_cases g7 : g < 7
    · rw [hRg g g7]
      exact ⟨(eg.2 g).1, fun r hr => by rw [hcl]; exact (eg.2 g).2 r hr⟩
    · have := hRo g (by omega)
      exact ⟨this.1, fun r hr => by rw [hcl]; exact this.2 r hr⟩
  · obtain ⟨w1, w2, w3⟩ := ew g hg
    rw [hw g hg]
    exact ⟨w1, w2, fun p hp => by rw [hRr (8 * g + p) (by omega)]; exact w3 p hp⟩
  · rw [hb3 k hk, hb4 k hk, hWw k hk, hB k hk, h1, h5, h6]
    exact eb k hk
theorem In_image {C : j_H} (hI : j_In C) : j_In (j_im (j_sI (j_bc C 18 13) 12 2 (Int32.ofInt 1))) := by
  obtain ⟨C', hC'⟩ : ∃ C', j_im (j_sI (j_bc C 18 13) 12 2 (Int32.ofInt 1)) = C' := ⟨_, rfl⟩
  have hd : 18 + 5 ≤ 13 ∨ 13 + 5 ≤ 18 := by omega
  have o : ∀ a k, ¬ (a = 81 ∧ 38 ≤ k ∧ k ≤ 45) → ¬ (104 ≤ a ∧ a ≤ 109) → ¬ (a = 12 ∧ k = 2) → ¬ (18 ≤ a ∧ a ≤ 22) → j_I C' a k = j_I C a k := fun a k h1 h2 h3 h4 => by rw [← hC', im_o h1 h2, h_II, if_neg h3, bc_o h4]
  have oK : ∀ a k, ¬ (a = 81 ∧ 38 ≤ k ∧ k ≤ 45) → ¬ (104 ≤ a ∧ a ≤ 109) → ¬ (a = 12 ∧ k = 2) → j_I C' a k = j_I (j_bc C 18 13) a k := fun a k h1 h2 h3 => by rw [← hC', im_o h1 h2, h_II, if_neg h3]
  have oB : ∀ a k, ¬ (a = 12 ∧ k = 2) → ¬ (18 ≤ a ∧ a ≤ 22) → j_I (j_sI (j_bc C 18 13) 12 2 (Int32.ofInt 1)) a k = j_I C a k := fun a k h3 h4 => by rw [h_II, if_neg h3, bc_o h4]
  obtain ⟨f1, f2, f3, f4, f5, f6, f7, f8⟩ := @im_f (j_sI (j_bc C 18 13) 12 2 (Int32.ofInt 1))
  have fa := fun k => @im_a (j_sI (j_bc C 18 13) 12 2 (Int32.ofInt 1)) k
  have oR : ∀ a k, j_R C' a k = j_R (j_bc C 18 13) a k := fun a k => by rw [← hC', im_R, h_RI]
  have oL : ∀ a k, j_L C' a k = j_L C a k := fun a k => by rw [← hC', im_L, h_LI, bc_L]
  have hs : C'.1 = C.1 := by rw [← hC', im_s, sI_1, bc_s]
  have h12 : j_I C' 12 2 = Int32.ofInt 1 := by rw [← hC', im_o (by omega) (by omega), h_II, if_pos ⟨rfl, rfl⟩]
  rw [hC'] at f1 f2 f3 f4 f5 f6 f7 f8 fa ⊢
  rw [oB _ _ (by omega) (by omega)] at f2 f3 f4 f5 f6 f7 f8
  have e38 : (Int32.ofInt 1).toInt = 1 := rfl
  obtain ⟨x1, x2, x3, x4, x5, x6, x7, x8, x9⟩ := hI
  refine ⟨Wd_I (nn := 0) (mm := 0) x1 hs (fun a k h1 h2 h3 h4 => by rw [oR, bc_ko h2 h4]), ?_, ?_, ⟨by rw [h12, f1], Or.inr (by rw [f1]; exact e38)⟩, ?_, ?_, ?_, ?_, ?_⟩
  · exact tr_Ev (fun a k h1 h2 => o a k (by omega) (by omega) (by omega) (by omega)) (fun a k h1 h2 => by rw [oR, bc_ko (by omega) (by omega)]) (o _ _ (by omega) (by omega) (by omega) (by omega)) (o _ _ (by omega) (by omega) (by omega) (by omega)) (o _ _ (by omega) (by omega) (by omega) (by omega)) (o _ _ (by omega) (by omega) (by omega) (by omega)) (o _ _ (by omega) (by omega) (by omega) (by omega)) (o _ _ (by omega) (by omega) (by omega) (by omega)) (o _ _ (by omega) (by omega) (by omega) (by omega)) (o _ _ (by omega) (by omega) (by omega) (by omega)) (fun k => o _ _ (by omega) (by omega) (by omega) (by omega)) (fun k => o _ _ (by omega) (by omega) (by omega) (by omega)) (fun k => o _ _ (by omega) (by omega) (by omega) (by omega)) (fun k => o _ _ (by omega) (by omega) (by omega) (by omega)) (fun k => o _ _ (by omega) (by omega) (by omega) (by omega)) (fun k => o _ _ (by omega) (by omega) (by omega) (by omega)) (fun r k h => o _ _ (by omega) (by omega) (by omega) (by omega)) hs x2
  · refine Ev_mv (e := 13) (e' := 18) (fun k h0 h1 => by rw [oK _ _ (by omega) (by omega) (by omega), bc_f h0 h1]) f3 f4 f5 f6 f7 f8 f2 (o _ _ (by omega) (by omega) (by omega) (by omega)) (by rw [oR, bc_10]) (fun g h => by rw [oR]; exact bc_1 (e := 18) (f := 13) hd h) (fun g h => ?_) (fun g h => by rw [oK _ _ (by omega) (by omega) (by omega)]; exact bc_2 (e := 18) (f := 13) hd h) (fun g h => by rw [oK _ _ (by omega) (by omega) (by omega)]; exact bc_3 (e := 18) (f := 13) hd h) (fun g h => by rw [oK _ _ (by omega) (by omega) (by omega)]; exact bc_4 (e := 18) (f := 13) hd h) (fun g h => ((fa g).1 h).1.trans (oB _ _ (by omega) (by omega))) (fun g h => ((fa g).1 h).2.1.trans (oB _ _ (by omega) (by omega))) (fun g h => ((fa g).1 h).2.2.trans (oB _ _ (by omega) (by omega))) (fun g h => ((fa g).2.1 h).trans (oB _ _ (by omega) (by omega))) (fun g h => ((fa g).2.2 h).1.trans (oB _ _ (by omega) (by omega))) (fun g h => ((fa g).2.2 h).2.trans (oB _ _ (by omega) (by omega))) (fun r k h => o _ _ (by omega) (by omega) (by omega) (by omega)) hs x2
    have e : j_R C' (18 + 1) g = j_R C (18 + 1) g := by rw [oR]; exact bc_1o (e := 18) (f := 13) h
    rw [e]
    exact x3.2.2.2.1.2 g
  · exact tr_Hs (o _ _ (by omega) (by omega) (by omega) (by omega)) (o _ _ (by omega) (by omega) (by omega) (by omega)) (fun a k h1 h2 => o _ _ (by omega) (by omega) (by omega) (by omega)) (fun k => o _ _ (by omega) (by omega) (by omega) (by omega)) (fun k => o _ _ (by omega) (by omega) (by omega) (by omega)) (fun k => o _ _ (by omega) (by omega) (by omega) (by omega)) (fun k => o _ _ (by omega) (by omega) (by omega) (by omega)) (fun k => o _ _ (by omega) (by omega) (by omega) (by omega)) (fun k => o _ _ (by omega) (by omega) (by omega) (by omega)) x5
  · exact tr_Tx (o _ _ (by omega) (by omega) (by omega) (by omega)) (o _ _ (by omega) (by omega) (by omega) (by omega)) (fun k => o _ _ (by omega) (by omega) (by omega) (by omega)) (fun k => o _ _ (by omega) (by omega) (by omega) (by omega)) x6
  · exact tr_Ta (fun a k h1 h2 => o _ _ (by omega) (by omega) (by omega) (by omega)) (fun a k h1 h2 => oL _ _) (fun k => o _ _ (by omega) (by omega) (by omega) (by omega)) (fun k => o _ _ (by omega) (by omega) (by omega) (by omega)) (fun k => oL _ _) x7
  · exact tr_Tr (o _ _ (by omega) (by omega) (by omega) (by omega)) (o _ _ (by omega) (by omega) (by omega) (by omega)) (fun k => o _ _ (by omega) (by omega) (by omega) (by omega)) (fun k => o _ _ (by omega) (by omega) (by omega) (by omega)) x8
  · exact ⟨fun k hk => by rw [o _ _ (by omega) (by omega) (by omega) (by omega)]; exact x9.1 k hk, tr_St (fun a k h => o _ _ (by omega) (by omega) (by omega) (by omega)) (fun a k h => by rw [oR, bc_ko (by omega) (by omega)]) x9.2⟩
theorem In_undo {C : j_H} (hI : j_In C) : j_In (j_un (j_bc C 13 18)) := by
  obtain ⟨C', hC'⟩ : ∃ C', j_un (j_bc C 13 18) = C' := ⟨_, rfl⟩
  have hd : 13 + 5 ≤ 18 ∨ 18 + 5 ≤ 13 := by omega
  have o : ∀ a k, ¬ (a = 81 ∧ (k = 9 ∨ k = 0 ∨ k = 1 ∨ k = 2 ∨ k = 3 ∨ k = 27 ∨ k = 36)) → ¬ (82 ≤ a ∧ a ≤ 85) → ¬ a = 97 → ¬ a = 103 → ¬ (13 ≤ a ∧ a ≤ 17) → j_I C' a k = j_I C a k := fun a k h1 h2 h3 h4 h5 => by rw [← hC', un_o h1 h2 h3 h4, bc_o h5]
  have oK : ∀ a k, ¬ (a = 81 ∧ (k = 9 ∨ k = 0 ∨ k = 1 ∨ k = 2 ∨ k = 3 ∨ k = 27 ∨ k = 36)) → ¬ (82 ≤ a ∧ a ≤ 85) → ¬ a = 97 → ¬ a = 103 → j_I C' a k = j_I (j_bc C 13 18) a k := fun a k h1 h2 h3 h4 => by rw [← hC', un_o h1 h2 h3 h4]
  have oB : ∀ a k, ¬ (13 ≤ a ∧ a ≤ 17) → j_I (j_bc C 13 18) a k = j_I C a k := fun a k h4 => bc_o h4
  obtain ⟨f2, f3, f4, f5, f6, f7, f8⟩ := @un_f (j_bc C 13 18)
  have fa := fun k => @un_a (j_bc C 13 18) k
  have oR : ∀ a k, j_R C' a k = j_R (j_bc C 13 18) a k := fun a k => by rw [← hC', un_R]
  have oL : ∀ a k, j_L C' a k = j_L C a k := fun a k => by rw [← hC', un_L, bc_L]
  have hs : C'.1 = C.1 := by rw [← hC', un_s, bc_s]
  rw [hC'] at f2 f3 f4 f5 f6 f7 f8 fa ⊢
  rw [oB _ _ (by omega)] at f2 f3 f4 f5 f6 f7 f8
  have u : ∀ a k, (a < 13 ∨ (17 < a ∧ a < 81) ∨ (a = 81 ∧ (4 ≤ k ∧ k < 9 ∨ 9 < k ∧ k < 27 ∨ 27 < k ∧ k < 36 ∨ 36 < k)) ∨ (85 < a ∧ a < 97) ∨ (97 < a ∧ a < 103) ∨ 103 < a) → j_I C' a k = j_I C a k := fun a k h => o a k (by omega) (by omega) (by omega) (by omega) (by omega)
  obtain ⟨x1, x2, x3, x4, x5, x6, x7, x8, x9⟩ := hI
  refine ⟨Wd_I (nn := 0) (mm := 0) x1 hs (fun a k h1 h2 h3 h4 => by rw [oR, bc_ko h1 h3]), ?_, ?_, by rw [u 12 2 (by omega), u 81 38 (by omega)]; exact x4, ?_, ?_, ?_, ?_, ?_⟩
  · refine Ev_mv (e := 18) (e' := 13) (fun k h0 h1 => by rw [oK _ _ (by omega) (by omega) (by omega) (by omega), bc_f h0 h1]) f3 f4 f5 f6 f7 f8 f2 (u _ _ (by omega)) (by rw [oR, bc_10]) (fun g h => by rw [oR]; exact bc_1 (e := 13) (f := 18) hd h) (fun g h => ?_) (fun g h => by rw [oK _ _ (by omega) (by omega) (by omega) (by omega)]; exact bc_2 (e := 13) (f := 18) hd h) (fun g h => by rw [oK _ _ (by omega) (by omega) (by omega) (by omega)]; exact bc_3 (e := 13) (f := 18) hd h) (fun g h => by rw [oK _ _ (by omega) (by omega) (by omega) (by omega)]; exact bc_4 (e := 13) (f := 18) hd h) (fun g h => ((fa g).1 h).1.trans (oB _ _ (by omega))) (fun g h => ((fa g).1 h).2.1.trans (oB _ _ (by omega))) (fun g h => ((fa g).1 h).2.2.trans (oB _ _ (by omega))) (fun g h => ((fa g).2.1 h).trans (oB _ _ (by omega))) (fun g h => ((fa g).2.2 h).1.trans (oB _ _ (by omega))) (fun g h => ((fa g).2.2 h).2.trans (oB _ _ (by omega))) (fun r k h => u _ _ (by omega)) hs x3
    have e : j_R C' (13 + 1) g = j_R C (13 + 1) g := by rw [oR]; exact bc_1o (e := 13) (f := 18) h
    rw [e]
    exact x2.2.2.2.1.2 g
  · exact tr_Ev (fun a k h1 h2 => u _ _ (by omega)) (fun a k h1 h2 => by rw [oR, bc_ko (by omega) (by omega)]) (u _ _ (by omega)) (u _ _ (by omega)) (u _ _ (by omega)) (u _ _ (by omega)) (u _ _ (by omega)) (u _ _ (by omega)) (u _ _ (by omega)) (u _ _ (by omega)) (fun k => u _ _ (by omega)) (fun k => u _ _ (by omega)) (fun k => u _ _ (by omega)) (fun k => u _ _ (by omega)) (fun k => u _ _ (by omega)) (fun k => u _ _ (by omega)) (fun r k h => u _ _ (by omega)) hs x3
  · exact tr_Hs (u _ _ (by omega)) (u _ _ (by omega)) (fun a k h1 h2 => u _ _ (by omega)) (fun k => u _ _ (by omega)) (fun k => u _ _ (by omega)) (fun k => u _ _ (by omega)) (fun k => u _ _ (by omega)) (fun k => u _ _ (by omega)) (fun k => u _ _ (by omega)) x5
  · exact tr_Tx (u _ _ (by omega)) (u _ _ (by omega)) (fun k => u _ _ (by omega)) (fun k => u _ _ (by omega)) x6
  · exact tr_Ta (fun a k h1 h2 => u _ _ (by omega)) (fun a k h1 h2 => oL _ _) (fun k => u _ _ (by omega)) (fun k => u _ _ (by omega)) (fun k => oL _ _) x7
  · exact tr_Tr (u _ _ (by omega)) (u _ _ (by omega)) (fun k => u _ _ (by omega)) (fun k => u _ _ (by omega)) x8
  · exact ⟨fun k hk => by rw [u _ _ (by omega)]; exact x9.1 k hk, tr_St (fun a k h => u _ _ (by omega)) (fun a k h => by rw [oR, bc_ko (by omega) (by omega)]) x9.2⟩
theorem k90 {b : Nat} {H C : j_H} {Q : Option Value → j_H → Prop} (hC : j_co H = C) (hI : j_In C) : j_wp (b + 1) 90 0 [.ref 12] [] H Q = Q (some (.int (j_I C 81 0))) (j_sI (j_bc H 18 13) 12 2 (Int32.ofInt 1)) := by
  have hW := hI.1
  obtain ⟨e4, -⟩ := i_n hI
  have hk := fun (Q : Option Value → j_H → Prop) => k5_18 (b := b) (Q := Q) hC hW (fun n => okR_of (fun r hr => (hI.2.1.2.2.2.1.2 n).2 r (by rw [← rd_R hC rfl]; exact hr)))
  have e18 : j_I (j_bc H 18 13) 18 4 = j_I C 81 0 := by rw [bc_f (by omega) (by omega), rd_I hC rfl]; exact e4
  simp (disch := (first | assumption | exact n_N11 | exact n_R11 (by decide) | exact n_bz | (simp (disch := (first | assumption | omega | decide)) only [v_rs, v_rn, v_pa, v_vc, v_vt, v_vl, v_ir, v_in, v_po, v_pn, v_re, v_rN, v_Nr, v_fe, v_fN, v_c1i, v_c1r, v_c1n, v_c1u, v_c1f, v_if, h_II, h_LL, h_RR, h_IL, h_IR, h_LI, h_LR, h_RI, h_RL, h_Ic, h_Lc, h_Rc, h_Id, h_Ld, h_Rd, h_cls_sI, h_cls_sL, h_cls_sR, h_cls_cI, h_cls_cL, h_tp_sI, h_tp_sL, h_tp_sR, h_tp_cI, h_tp_cL, h_ln_sI, h_ln_sL, h_ln_sR, h_ln_cI, h_ln_cL, v_if, j_scr, w_c12 hW, w_r12_0 hW, w_r12_1 hW, w_r12_3 hW, w_r12_5 hW, w_r12_7 hW, w_r12_8 hW, w_r12_9 hW, w_r12_10 hW, w_r12_11 hW, w_r12_12 hW, w_r12_13 hW, w_c18 hW, w_r18_0 hW, w_r18_1 hW, w_r18_2 hW, w_r18_3 hW, j_Wd_I, j_Wd_L, t_addo, t_subo, t_mulo, t_of, t_divc, t_remc, t_em, Int.toNat_zero, j_ix, Int.toNat_natCast, t_addc, t_subc, t_mulc, t_bz0, t_bz1, Classical.not_not, not_false_eq_true, if_true, if_false, and_true, true_and, and_false, false_and, and_self, or_true, true_or, or_false, false_or, not_true_eq_false, reduceIte, ite_self, implies_true, p_I, p_L, p_R, q_I, q_L, q_R, p_cls, p_tp, p_ln, p_cop, p_cov, rd_I hC, rd_L hC, rd_R hC, rd_cls hC, rd_tp hC, rd_ln hC, hC, hW, hk, bc_cls, bc_tp, bc_ln, bc_Ro, e18, if_neg] <;> first | omega | rfl | decide) | omega | decide | fail)) only [↓if_pos, ↓if_neg, ↓b90_0, ↓b90_11, ↓b90_16, v_rs, v_rn, v_pa, v_vc, v_vt, v_vl, v_ir, v_in, v_po, v_pn, v_re, v_rN, v_Nr, v_fe, v_fN, v_c1i, v_c1r, v_c1n, v_c1u, v_c1f, v_if, h_II, h_LL, h_RR, h_IL, h_IR, h_LI, h_LR, h_RI, h_RL, h_Ic, h_Lc, h_Rc, h_Id, h_Ld, h_Rd, h_cls_sI, h_cls_sL, h_cls_sR, h_cls_cI, h_cls_cL, h_tp_sI, h_tp_sL, h_tp_sR, h_tp_cI, h_tp_cL, h_ln_sI, h_ln_sL, h_ln_sR, h_ln_cI, h_ln_cL, v_if, w_c12 hW, w_r12_0 hW, w_r12_1 hW, w_r12_3 hW, w_r12_5 hW, w_r12_7 hW, w_r12_8 hW, w_r12_9 hW, w_r12_10 hW, w_r12_11 hW, w_r12_12 hW, w_r12_13 hW, w_c18 hW, w_r18_0 hW, w_r18_1 hW, w_r18_2 hW, w_r18_3 hW, j_ks, j_ke, t_addo, t_subo, t_mulo, t_of, t_divc, t_remc, t_em, Int.toNat_zero, j_ix, Int.toNat_natCast, t_addc, t_subc, t_mulc, t_bz0, t_bz1, Classical.not_not, not_false_eq_true, if_true, if_false, and_true, true_and, and_false, false_and, and_self, or_true, true_or, or_false, false_or, not_true_eq_false, reduceIte, ite_self, implies_true, p_I, p_L, p_R, q_I, q_L, q_R, p_cls, p_tp, p_ln, p_cop, p_cov, rd_I hC, rd_L hC, rd_R hC, rd_cls hC, rd_tp hC, rd_ln hC, hC, hW, hk, bc_cls, bc_tp, bc_ln, bc_Ro, e18, if_neg]
theorem k91 {b : Nat} {H C : j_H} {Q : Option Value → j_H → Prop} (hC : j_co H = C) (hI : j_In C) (h2 : ¬ (j_I C 81 38).toInt = 0) : j_wp (b + 1) 91 0 [.ref 12] [] H Q = Q (some (.int (j_I C 81 40))) (j_bc H 13 18) := by
  have hW := hI.1
  have e38 := hI.2.2.2.1.1
  have e4 := hI.2.2.1.1.1
  have hk := fun (Q : Option Value → j_H → Prop) => k5_13 (b := b) (Q := Q) hC hW (fun n => okR_of (fun r hr => (hI.2.2.1.2.2.2.1.2 n).2 r (by rw [← rd_R hC rfl]; exact hr)))
  have e13 : j_I (j_bc H 13 18) 13 4 = j_I C 81 40 := by rw [bc_f (by omega) (by omega), rd_I hC rfl]; exact e4
  simp (disch := (first | assumption | exact n_N11 | exact n_R11 (by decide) | exact n_bz | (simp (disch := (first | assumption | omega | decide)) only [v_rs, v_rn, v_pa, v_vc, v_vt, v_vl, v_ir, v_in, v_po, v_pn, v_re, v_rN, v_Nr, v_fe, v_fN, v_c1i, v_c1r, v_c1n, v_c1u, v_c1f, v_if, h_II, h_LL, h_RR, h_IL, h_IR, h_LI, h_LR, h_RI, h_RL, h_Ic, h_Lc, h_Rc, h_Id, h_Ld, h_Rd, h_cls_sI, h_cls_sL, h_cls_sR, h_cls_cI, h_cls_cL, h_tp_sI, h_tp_sL, h_tp_sR, h_tp_cI, h_tp_cL, h_ln_sI, h_ln_sL, h_ln_sR, h_ln_cI, h_ln_cL, v_if, j_scr, w_c12 hW, w_r12_0 hW, w_r12_1 hW, w_r12_3 hW, w_r12_5 hW, w_r12_7 hW, w_r12_8 hW, w_r12_9 hW, w_r12_10 hW, w_r12_11 hW, w_r12_12 hW, w_r12_13 hW, w_c13 hW, w_r13_0 hW, w_r13_1 hW, w_r13_2 hW, w_r13_3 hW, j_Wd_I, j_Wd_L, t_addo, t_subo, t_mulo, t_of, t_divc, t_remc, t_em, Int.toNat_zero, j_ix, Int.toNat_natCast, t_addc, t_subc, t_mulc, t_bz0, t_bz1, Classical.not_not, not_false_eq_true, if_true, if_false, and_true, true_and, and_false, false_and, and_self, or_true, true_or, or_false, false_or, not_true_eq_false, reduceIte, ite_self, implies_true, p_I, p_L, p_R, q_I, q_L, q_R, p_cls, p_tp, p_ln, p_cop, p_cov, rd_I hC, rd_L hC, rd_R hC, rd_cls hC, rd_tp hC, rd_ln hC, hC, hW, hk, bc_cls, bc_tp, bc_ln, bc_Ro, e13, e38, h2, if_neg] <;> first | omega | rfl | decide) | omega | decide | fail)) only [↓if_pos, ↓if_neg, ↓b91_0, ↓b91_7, ↓b91_10, ↓b91_21, v_rs, v_rn, v_pa, v_vc, v_vt, v_vl, v_ir, v_in, v_po, v_pn, v_re, v_rN, v_Nr, v_fe, v_fN, v_c1i, v_c1r, v_c1n, v_c1u, v_c1f, v_if, h_II, h_LL, h_RR, h_IL, h_IR, h_LI, h_LR, h_RI, h_RL, h_Ic, h_Lc, h_Rc, h_Id, h_Ld, h_Rd, h_cls_sI, h_cls_sL, h_cls_sR, h_cls_cI, h_cls_cL, h_tp_sI, h_tp_sL, h_tp_sR, h_tp_cI, h_tp_cL, h_ln_sI, h_ln_sL, h_ln_sR, h_ln_cI, h_ln_cL, v_if, w_c12 hW, w_r12_0 hW, w_r12_1 hW, w_r12_3 hW, w_r12_5 hW, w_r12_7 hW, w_r12_8 hW, w_r12_9 hW, w_r12_10 hW, w_r12_11 hW, w_r12_12 hW, w_r12_13 hW, w_c13 hW, w_r13_0 hW, w_r13_1 hW, w_r13_2 hW, w_r13_3 hW, j_ks, j_ke, t_addo, t_subo, t_mulo, t_of, t_divc, t_remc, t_em, Int.toNat_zero, j_ix, Int.toNat_natCast, t_addc, t_subc, t_mulc, t_bz0, t_bz1, Classical.not_not, not_false_eq_true, if_true, if_false, and_true, true_and, and_false, false_and, and_self, or_true, true_or, or_false, false_or, not_true_eq_false, reduceIte, ite_self, implies_true, p_I, p_L, p_R, q_I, q_L, q_R, p_cls, p_tp, p_ln, p_cop, p_cov, rd_I hC, rd_L hC, rd_R hC, rd_cls hC, rd_tp hC, rd_ln hC, hC, hW, hk, bc_cls, bc_tp, bc_ln, bc_Ro, e13, e38, h2, if_neg]
theorem L_image {H : j_H} (hI : j_In (j_co H)) : j_pair 90 [.ref 12] 181 [.ref 81, j_u] H := by
  have hc1 : j_co (j_sI (j_bc H 18 13) 12 2 (Int32.ofInt 1)) = j_sI (j_bc (j_co H) 18 13) 12 2 (Int32.ofInt 1) := by rw [c_sI' rfl, c_bc (fun a k h => scr_ev a k (by omega))]
  have hW1 : j_Wd (j_sI (j_bc (j_co H) 18 13) 12 2 (Int32.ofInt 1)) := Wd_I (nn := 0) (mm := 0) hI.1 (by rw [sI_1, bc_s]) (fun a k h1 h2 h3 h4 => by rw [h_RI, bc_ko h2 h4])
  have e0 : j_I (j_sI (j_bc H 18 13) 12 2 (Int32.ofInt 1)) 81 0 = j_I (j_co H) 81 0 := by rw [h_II, if_neg (by omega), bc_o (by omega), rd_I rfl rfl]
  refine ⟨.int (j_I (j_co H) 81 0), _, j_im (j_sI (j_bc H 18 13) 12 2 (Int32.ofInt 1)), fun Q => k90 (b := 98) rfl hI, fun Q => ?_, ?_, Or.inl (by rw [im_s, sI_1, bc_s]), ⟨_, rfl⟩, Or.inl (by rw [sI_1, bc_s]), fun k => by rw [h_II, if_neg (by omega), bc_o (by omega)]⟩
  · have := k181 (b := 99) (Q := Q) hc1 hW1
    rw [e0] at this
    exact this
  · rw [c_im, hc1]
    exact In_image hI
theorem L_undo {H : j_H} (hI : j_In (j_co H)) : j_pair 91 [.ref 12] 182 [.ref 81, j_u] H := by
  by_cases h : (j_I (j_co H) 81 38).toInt = 0
  · have hW := hI.1
    have e38 := hI.2.2.2.1.1
    refine j_pair_q (x := Int32.ofInt (-3)) hI (fun Q => ?_) j_F.refl (fun Q => ?_) j_F.refl
    · obtain ⟨C, hC⟩ : ∃ C, j_co H = C := ⟨_, rfl⟩
      rw [hC] at h hW e38
      simp (disch := (first | assumption | exact n_N11 | exact n_R11 (by decide) | exact n_bz | (simp (disch := (first | assumption | omega | decide)) only [v_rs, v_rn, v_pa, v_vc, v_vt, v_vl, v_ir, v_in, v_po, v_pn, v_re, v_rN, v_Nr, v_fe, v_fN, v_c1i, v_c1r, v_c1n, v_c1u, v_c1f, v_if, h_II, h_LL, h_RR, h_IL, h_IR, h_LI, h_LR, h_RI, h_RL, h_Ic, h_Lc, h_Rc, h_Id, h_Ld, h_Rd, h_cls_sI, h_cls_sL, h_cls_sR, h_cls_cI, h_cls_cL, h_tp_sI, h_tp_sL, h_tp_sR, h_tp_cI, h_tp_cL, h_ln_sI, h_ln_sL, h_ln_sR, h_ln_cI, h_ln_cL, v_if, j_scr, w_c12 hW, w_r12_0 hW, w_r12_1 hW, w_r12_3 hW, w_r12_5 hW, w_r12_7 hW, w_r12_8 hW, w_r12_9 hW, w_r12_10 hW, w_r12_11 hW, w_r12_12 hW, w_r12_13 hW, j_Wd_I, j_Wd_L, t_addo, t_subo, t_mulo, t_of, t_divc, t_remc, t_em, Int.toNat_zero, j_ix, Int.toNat_natCast, t_addc, t_subc, t_mulc, t_bz0, t_bz1, Classical.not_not, not_false_eq_true, if_true, if_false, and_true, true_and, and_false, false_and, and_self, or_true, true_or, or_false, false_or, not_true_eq_false, reduceIte, ite_self, implies_true, p_I, p_L, p_R, q_I, q_L, q_R, p_cls, p_tp, p_ln, p_cop, p_cov, rd_I hC, rd_L hC, rd_R hC, rd_cls hC, rd_tp hC, rd_ln hC, hC, hW, e38, h] <;> first | omega | rfl | decide) | omega | decide | fail)) only [↓if_pos, ↓if_neg, ↓b91_0, ↓b91_7, ↓b91_10, ↓b91_21, v_rs, v_rn, v_pa, v_vc, v_vt, v_vl, v_ir, v_in, v_po, v_pn, v_re, v_rN, v_Nr, v_fe, v_fN, v_c1i, v_c1r, v_c1n, v_c1u, v_c1f, v_if, h_II, h_LL, h_RR, h_IL, h_IR, h_LI, h_LR, h_RI, h_RL, h_Ic, h_Lc, h_Rc, h_Id, h_Ld, h_Rd, h_cls_sI, h_cls_sL, h_cls_sR, h_cls_cI, h_cls_cL, h_tp_sI, h_tp_sL, h_tp_sR, h_tp_cI, h_tp_cL, h_ln_sI, h_ln_sL, h_ln_sR, h_ln_cI, h_ln_cL, v_if, w_c12 hW, w_r12_0 hW, w_r12_1 hW, w_r12_3 hW, w_r12_5 hW, w_r12_7 hW, w_r12_8 hW, w_r12_9 hW, w_r12_10 hW, w_r12_11 hW, w_r12_12 hW, w_r12_13 hW, j_ks, j_ke, t_addo, t_subo, t_mulo, t_of, t_divc, t_remc, t_em, Int.toNat_zero, j_ix, Int.toNat_natCast, t_addc, t_subc, t_mulc, t_bz0, t_bz1, Classical.not_not, not_false_eq_true, if_true, if_false, and_true, true_and, and_false, false_and, and_self, or_true, true_or, or_false, false_or, not_true_eq_false, reduceIte, ite_self, implies_true, p_I, p_L, p_R, q_I, q_L, q_R, p_cls, p_tp, p_ln, p_cop, p_cov, rd_I hC, rd_L hC, rd_R hC, rd_cls hC, rd_tp hC, rd_ln hC, hC, hW, e38, h]
    · obtain ⟨C, hC⟩ : ∃ C, j_co H = C := ⟨_, rfl⟩
      rw [hC] at h hW e38
      simp (disch := (first | assumption | exact n_N11 | exact n_R11 (by decide) | exact n_bz | (simp (disch := (first | assumption | omega | decide)) only [v_rs, v_rn, v_pa, v_vc, v_vt, v_vl, v_ir, v_in, v_po, v_pn, v_re, v_rN, v_Nr, v_fe, v_fN, v_c1i, v_c1r, v_c1n, v_c1u, v_c1f, v_if, h_II, h_LL, h_RR, h_IL, h_IR, h_LI, h_LR, h_RI, h_RL, h_Ic, h_Lc, h_Rc, h_Id, h_Ld, h_Rd, h_cls_sI, h_cls_sL, h_cls_sR, h_cls_cI, h_cls_cL, h_tp_sI, h_tp_sL, h_tp_sR, h_tp_cI, h_tp_cL, h_ln_sI, h_ln_sL, h_ln_sR, h_ln_cI, h_ln_cL, v_if, j_scr, w_c81 hW, w_r81_4 hW, w_r81_5 hW, w_r81_6 hW, w_r81_7 hW, w_r81_13 hW, w_r81_14 hW, w_r81_15 hW, w_r81_16 hW, w_r81_17 hW, w_r81_18 hW, w_r81_19 hW, w_r81_20 hW, w_r81_24 hW, w_r81_25 hW, w_r81_26 hW, w_r81_28 hW, w_r81_29 hW, w_r81_30 hW, w_r81_31 hW, w_r81_32 hW, w_r81_33 hW, w_r81_37 hW, w_r81_46 hW, w_r81_47 hW, w_r81_48 hW, w_r81_49 hW, w_r81_50 hW, w_r81_51 hW, w_r81_53 hW, w_r81_54 hW, w_r81_55 hW, w_r81_56 hW, w_r81_57 hW, j_Wd_I, j_Wd_L, t_addo, t_subo, t_mulo, t_of, t_divc, t_remc, t_em, Int.toNat_zero, j_ix, Int.toNat_natCast, t_addc, t_subc, t_mulc, t_bz0, t_bz1, Classical.not_not, not_false_eq_true, if_true, if_false, and_true, true_and, and_false, false_and, and_self, or_true, true_or, or_false, false_or, not_true_eq_false, reduceIte, ite_self, implies_true, p_I, p_L, p_R, q_I, q_L, q_R, p_cls, p_tp, p_ln, p_cop, p_cov, rd_I hC, rd_L hC, rd_R hC, rd_cls hC, rd_tp hC, rd_ln hC, hC, hW, h] <;> first | omega | rfl | decide) | omega | decide | fail)) only [↓if_pos, ↓if_neg, ↓b182_0, ↓b182_7, ↓b182_10, ↓b182_18, ↓b182_26, ↓b182_34, ↓b182_42, ↓b182_50, ↓b182_58, ↓b182_66, ↓b182_74, ↓b182_86, ↓b182_98, ↓b182_110, ↓b182_116, ↓b182_124, ↓b182_136, ↓b182_142, ↓b182_150, ↓b182_162, ↓b182_174, ↓b182_180, v_rs, v_rn, v_pa, v_vc, v_vt, v_vl, v_ir, v_in, v_po, v_pn, v_re, v_rN, v_Nr, v_fe, v_fN, v_c1i, v_c1r, v_c1n, v_c1u, v_c1f, v_if, h_II, h_LL, h_RR, h_IL, h_IR, h_LI, h_LR, h_RI, h_RL, h_Ic, h_Lc, h_Rc, h_Id, h_Ld, h_Rd, h_cls_sI, h_cls_sL, h_cls_sR, h_cls_cI, h_cls_cL, h_tp_sI, h_tp_sL, h_tp_sR, h_tp_cI, h_tp_cL, h_ln_sI, h_ln_sL, h_ln_sR, h_ln_cI, h_ln_cL, v_if, w_c81 hW, w_r81_4 hW, w_r81_5 hW, w_r81_6 hW, w_r81_7 hW, w_r81_13 hW, w_r81_14 hW, w_r81_15 hW, w_r81_16 hW, w_r81_17 hW, w_r81_18 hW, w_r81_19 hW, w_r81_20 hW, w_r81_24 hW, w_r81_25 hW, w_r81_26 hW, w_r81_28 hW, w_r81_29 hW, w_r81_30 hW, w_r81_31 hW, w_r81_32 hW, w_r81_33 hW, w_r81_37 hW, w_r81_46 hW, w_r81_47 hW, w_r81_48 hW, w_r81_49 hW, w_r81_50 hW, w_r81_51 hW, w_r81_53 hW, w_r81_54 hW, w_r81_55 hW, w_r81_56 hW, w_r81_57 hW, j_ks, j_ke, t_addo, t_subo, t_mulo, t_of, t_divc, t_remc, t_em, Int.toNat_zero, j_ix, Int.toNat_natCast, t_addc, t_subc, t_mulc, t_bz0, t_bz1, Classical.not_not, not_false_eq_true, if_true, if_false, and_true, true_and, and_false, false_and, and_self, or_true, true_or, or_false, false_or, not_true_eq_false, reduceIte, ite_self, implies_true, p_I, p_L, p_R, q_I, q_L, q_R, p_cls, p_tp, p_ln, p_cop, p_cov, rd_I hC, rd_L hC, rd_R hC, rd_cls hC, rd_tp hC, rd_ln hC, hC, hW, h]
  · have hc1 : j_co (j_bc H 13 18) = j_bc (j_co H) 13 18 := c_bc (fun a k h => scr_ev a k (by omega))
    have hW1 : j_Wd (j_bc (j_co H) 13 18) := Wd_I (nn := 0) (mm := 0) hI.1 bc_s (fun a k h1 h2 h3 h4 => by rw [bc_ko h1 h3])
    have e0 : ∀ k, j_I (j_bc H 13 18) 81 k = j_I H 81 k := fun k => bc_o (by omega)
    have e40 : j_I (j_bc H 13 18) 81 40 = j_I (j_co H) 81 40 := by rw [e0, rd_I rfl rfl]
    have e38 : ¬ (j_I (j_bc H 13 18) 81 38).toInt = 0 := by rw [e0, rd_I rfl rfl]; exact h
    refine ⟨.int (j_I (j_co H) 81 40), _, j_un (j_bc H 13 18), fun Q => k91 (b := 98) rfl hI h, fun Q => ?_, ?_, Or.inl (by rw [un_s, bc_s]), ⟨_, rfl⟩, Or.inl bc_s, fun k => bc_o (by omega)⟩
    · have := k182 (b := 99) (Q := Q) hc1 hW1 e38
      rw [e40] at this
      exact this
    · rw [c_un, hc1]
      exact In_undo hI
