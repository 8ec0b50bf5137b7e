/-! WHAT STAYS when other cells are written -/
theorem tr_Et {C C' : j_H} {e st : Nat} (h8 : j_I C' 81 8 = j_I C 81 8) (hs : j_I C' 81 st = j_I C 81 st) (hr : j_R C' e 10 = j_R C e 10) (h : j_Et C e st) : j_Et C' e st := by
  unfold j_Et at *; rw [h8, hs, hr]; exact h
theorem tr_Er {C C' : j_H} {sg sf ss sh sm sb : Nat} (h1 : j_I C' 81 sg = j_I C 81 sg) (h2 : j_I C' 81 sf = j_I C 81 sf) (h3 : j_I C' 81 ss = j_I C 81 ss) (h4 : j_I C' 81 sh = j_I C 81 sh) (h5 : j_I C' 81 sm = j_I C 81 sm) (h6 : j_I C' 81 sb = j_I C 81 sb) (h : j_Er C sg sf ss sh sm sb) : j_Er C' sg sf ss sh sm sb := by
  unfold j_Er at *; rw [h1, h2, h3, h4, h5, h6]; exact h
theorem tr_Es {C C' : j_H} {e sg sf ss sh sm sb : Nat} (h0 : ∀ k, k < 10 → j_I C' e k = j_I C e k) (h1 : j_I C' 81 sg = j_I C 81 sg) (h2 : j_I C' 81 sf = j_I C 81 sf) (h3 : j_I C' 81 ss = j_I C 81 ss) (h4 : j_I C' 81 sh = j_I C 81 sh) (h5 : j_I C' 81 sm = j_I C 81 sm) (h6 : j_I C' 81 sb = j_I C 81 sb) (h : j_Es C e sg sf ss sh sm sb) : j_Es C' e sg sf ss sh sm sb := by
  unfold j_Es at *; rw [h1, h2, h3, h4, h5, h6, h0 4 (by decide), h0 5 (by decide), h0 6 (by decide), h0 7 (by decide), h0 8 (by decide), h0 9 (by decide)]; exact h
theorem tr_Gr {C C' : j_H} {r g aK aV aN : Nat} (hr : ∀ k, j_I C' r k = j_I C r k) (hc : j_cls C' r = j_cls C r) (hl : C.1.length ≤ C'.1.length) (hK : j_I C' aK g = j_I C aK g) (hV : j_I C' aV g = j_I C aV g) (hN : j_I C' aN g = j_I C aN g) (h : j_Gr C r g aK aV aN) : j_Gr C' r g aK aV aN := by
  unfold j_Gr at *
  rw [hc, hK, hV, hN, hr 0, hr 1, hr 2, hr 3, hr 4]
  exact ⟨h.1, by omega, h.2.2⟩
theorem tr_Eg {C C' : j_H} {e sg aK aV aN : Nat} (hs : j_I C' 81 sg = j_I C 81 sg) (hR : ∀ k, j_R C' (e + 1) k = j_R C (e + 1) k) (hK : ∀ k, j_I C' aK k = j_I C aK k) (hV : ∀ k, j_I C' aV k = j_I C aV k) (hN : ∀ k, j_I C' aN k = j_I C aN k) (ho : ∀ r k, 115 ≤ r → j_I C' r k = j_I C r k) (hc : C'.1 = C.1) (h : j_Eg C e sg aK aV aN) : j_Eg C' e sg aK aV aN := by
  refine ⟨fun g hg => ?_, fun k => by
    have hcl : ∀ r, j_cls C' r = j_cls C r := fun r => by unfold j_cls j_sh; rw [hc]
    rw [hR]; exact ⟨(h.2 k).1, fun r hr => by rw [hcl]; exact (h.2 k).2 r hr⟩⟩
  rw [hs] at hg
  obtain ⟨r, hr, hG⟩ := h.1 g hg
  exact ⟨r, by rw [hR]; exact hr, tr_Gr (fun k => ho r k hG.1) (by unfold j_cls j_sh; rw [hc]) (by rw [hc]; exact Nat.le_refl _) (hK _) (hV _) (hN _) hG⟩
theorem tr_Ew {C C' : j_H} {e aR : Nat} (hw : ∀ k, j_I C' (e + 2) k = j_I C (e + 2) k) (hR : ∀ k, j_I C' aR k = j_I C aR k) (h : j_Ew C e aR) : j_Ew C' e aR := by
  intro g hg
  obtain ⟨h1, h2, h3⟩ := h g hg
  rw [hw]
  exact ⟨h1, h2, fun p hp => by rw [hR]; exact h3 p hp⟩
theorem tr_Eb {C C' : j_H} {e aW aB sg sm sb : Nat} (h3 : ∀ k, j_I C' (e + 3) k = j_I C (e + 3) k) (h4 : ∀ k, j_I C' (e + 4) k = j_I C (e + 4) k) (hW : ∀ k, j_I C' aW k = j_I C aW k) (hB : ∀ k, j_I C' aB k = j_I C aB k) (hg : j_I C' 81 sg = j_I C 81 sg) (hm : j_I C' 81 sm = j_I C 81 sm) (hb : j_I C' 81 sb = j_I C 81 sb) (h : j_Eb C e aW aB sg sm sb) : j_Eb C' e aW aB sg sm sb := by
  intro k hk
  rw [h3, h4, hW, hB, hg, hm, hb]
  exact h k hk
theorem tr_Ev {C C' : j_H} {e sg sf ss sh sm sb st aK aV aN aR aW aB : Nat} (hE : ∀ a k, e ≤ a → a ≤ e + 4 → j_I C' a k = j_I C a k) (hER : ∀ a k, e ≤ a → a ≤ e + 4 → j_R C' a k = j_R C a k) (h8 : j_I C' 81 8 = j_I C 81 8) (h1 : j_I C' 81 sg = j_I C 81 sg) (h2 : j_I C' 81 sf = j_I C 81 sf) (h3 : j_I C' 81 ss = j_I C 81 ss) (h4 : j_I C' 81 sh = j_I C 81 sh) (h5 : j_I C' 81 sm = j_I C 81 sm) (h6 : j_I C' 81 sb = j_I C 81 sb) (h7 : j_I C' 81 st = j_I C 81 st) (hK : ∀ k, j_I C' aK k = j_I C aK k) (hV : ∀ k, j_I C' aV k = j_I C aV k) (hN : ∀ k, j_I C' aN k = j_I C aN k) (hR : ∀ k, j_I C' aR k = j_I C aR k) (hW : ∀ k, j_I C' aW k = j_I C aW k) (hB : ∀ k, j_I C' aB k = j_I C aB k) (ho : ∀ r k, 115 ≤ r → j_I C' r k = j_I C r k) (hc : C'.1 = C.1) (h : j_Ev C e sg sf ss sh sm sb st aK aV aN aR aW aB) : j_Ev C' e sg sf ss sh sm sb st aK aV aN aR aW aB := by
  obtain ⟨x1, x2, x3, x4, x5, x6⟩ := h
  exact ⟨tr_Es (fun k _ => hE e k (by omega) (by omega)) h1 h2 h3 h4 h5 h6 x1, tr_Er h1 h2 h3 h4 h5 h6 x2, tr_Et h8 h7 (hER e 10 (by omega) (by omega)) x3, tr_Eg h1 (fun k => hER _ k (by omega) (by omega)) hK hV hN ho hc x4, tr_Ew (fun k => hE _ k (by omega) (by omega)) hR x5, tr_Eb (fun k => hE _ k (by omega) (by omega)) (fun k => hE _ k (by omega) (by omega)) hW hB h1 h5 h6 x6⟩
theorem tr_fr2 {C C' : j_H} (h88 : ∀ k, j_I C' 88 k = j_I C 88 k) (h89 : ∀ k, j_I C' 89 k = j_I C 89 k) : ∀ (n c : Nat) (a : Int), j_fr2 C' c n a = j_fr2 C c n a
  | 0, _, _ => rfl
  | n + 1, c, a => by rw [j_fr2, j_fr2, h88, h89, tr_fr2 h88 h89 n]
theorem tr_hw2 {C C' : j_H} (h88 : ∀ k, j_I C' 88 k = j_I C 88 k) (w : Int) : ∀ (n c : Nat), j_hw2 C' w c n = j_hw2 C w c n
  | 0, _ => rfl
  | n + 1, c => by rw [j_hw2, j_hw2, h88, tr_hw2 h88 w n]
theorem tr_Ho {C C' : j_H} {f : Nat} (hf : f < 6) (hH : ∀ a k, 24 ≤ a → a ≤ 59 → j_I C' a k = j_I C a k) (h87 : ∀ k, j_I C' 87 k = j_I C 87 k) (h88 : ∀ k, j_I C' 88 k = j_I C 88 k) (h89 : ∀ k, j_I C' 89 k = j_I C 89 k) (h90 : ∀ k, j_I C' 90 k = j_I C 90 k) (h91 : ∀ k, j_I C' 91 k = j_I C 91 k) (h92 : ∀ k, j_I C' 92 k = j_I C 92 k) (h : j_Ho C f) : j_Ho C' f := by
  have e4 : ∀ k, j_I C' (24 + 6 * f) k = j_I C (24 + 6 * f) k := fun k => hH _ k (by omega) (by omega)
  have e5 : ∀ k, j_I C' (25 + 6 * f) k = j_I C (25 + 6 * f) k := fun k => hH _ k (by omega) (by omega)
  have e6 : ∀ k, j_I C' (26 + 6 * f) k = j_I C (26 + 6 * f) k := fun k => hH _ k (by omega) (by omega)
  have e7 : ∀ k, j_I C' (27 + 6 * f) k = j_I C (27 + 6 * f) k := fun k => hH _ k (by omega) (by omega)
  have e8 : ∀ k, j_I C' (28 + 6 * f) k = j_I C (28 + 6 * f) k := fun k => hH _ k (by omega) (by omega)
  have ec : j_cn2 C' f = j_cn2 C f := by unfold j_cn2; rw [h87]
  obtain ⟨o1, o2, o3, o4, e, p, o5, o6, o7, o8, o9, o10⟩ := h
  refine ⟨by rw [h87]; exact o1, by rw [h87]; exact o2, by rw [e4, ec, tr_fr2 h88 h89]; exact o3, by rw [e4, ec, tr_hw2 h88]; exact o4, e, p, o5, o6, by rw [e4, ec]; exact o7, by rw [ec]; exact o8, fun c hc => ?_, fun j hj => ?_⟩
  · rw [ec] at hc
    have := o9 c hc
    simp only [j_Hc, j_dp, e5, e6, e7, h88, h89, h90, h91, h92] at this ⊢
    exact this
  · rw [ec] at hj
    rw [e8, h92]; exact o10 j hj
theorem tr_Hs {C C' : j_H} (h12 : j_I C' 12 4 = j_I C 12 4) (h8 : j_I C' 81 8 = j_I C 81 8) (hH : ∀ a k, 24 ≤ a → a ≤ 59 → j_I C' a k = j_I C a k) (h87 : ∀ k, j_I C' 87 k = j_I C 87 k) (h88 : ∀ k, j_I C' 88 k = j_I C 88 k) (h89 : ∀ k, j_I C' 89 k = j_I C 89 k) (h90 : ∀ k, j_I C' 90 k = j_I C 90 k) (h91 : ∀ k, j_I C' 91 k = j_I C 91 k) (h92 : ∀ k, j_I C' 92 k = j_I C 92 k) (h : j_Hs C) : j_Hs C' := by
  obtain ⟨x1, x2, x3, x4⟩ := h
  refine ⟨by rw [h12, h8]; exact x1, by rw [h8]; exact x2, by rw [h8]; exact x3, fun f hf => ?_⟩
  rw [h8] at hf
  exact tr_Ho (by omega) hH h87 h88 h89 h90 h91 h92 (x4 f hf)
theorem tr_Tx {C C' : j_H} (h12 : j_I C' 12 6 = j_I C 12 6) (h10 : j_I C' 81 10 = j_I C 81 10) (h60 : ∀ k, j_I C' 60 k = j_I C 60 k) (h86 : ∀ k, j_I C' 86 k = j_I C 86 k) (h : j_Tx C) : j_Tx C' := by
  simp only [j_Tx, h12, h10, h60, h86] at h ⊢
  exact h
theorem tr_Ta {C C' : j_H} (hI : ∀ a k, 62 ≤ a → a ≤ 73 → j_I C' a k = j_I C a k) (hL : ∀ a k, 62 ≤ a → a ≤ 73 → j_L C' a k = j_L C a k) (h1 : ∀ k, j_I C' 111 k = j_I C 111 k) (h2 : ∀ k, j_I C' 112 k = j_I C 112 k) (h3 : ∀ k, j_L C' 113 k = j_L C 113 k) (h : j_Ta C) : j_Ta C' := by
  intro t ht
  have := h t ht
  rw [hI (62 + 2 * t) 1 (by omega) (by omega), hI (62 + 2 * t) 2 (by omega) (by omega), h1, h2]
  obtain ⟨y1, y2, y3, y4, y5, y6, y7, y8⟩ := this
  exact ⟨y1, y2, y3, y4, y5, y6, y7, fun k hk => by rw [hL (63 + 2 * t) k (by omega) (by omega), h3]; exact y8 k hk⟩
theorem tr_Tr {C C' : j_H} (h74 : j_I C' 74 1 = j_I C 74 1) (h52 : j_I C' 81 52 = j_I C 81 52) (h75 : ∀ k, j_I C' 75 k = j_I C 75 k) (h110 : ∀ k, j_I C' 110 k = j_I C 110 k) (h : j_Tr C) : j_Tr C' := by
  simp only [j_Tr, h74, h52, h75, h110] at h ⊢
  exact h
theorem tr_Im {C C' : j_H} (hW : j_Wd C') (hM : ∀ a k, 81 ≤ a → a ≤ 114 → j_I C' a k = j_I C a k) (h : j_Im C) : j_Im C' := by
  have e81 : ∀ k, j_I C' 81 k = j_I C 81 k := fun k => hM _ k (by decide) (by decide)
  have e82 : ∀ k, j_I C' 82 k = j_I C 82 k := fun k => hM _ k (by decide) (by decide)
  have e83 : ∀ k, j_I C' 83 k = j_I C 83 k := fun k => hM _ k (by decide) (by decide)
  have e84 : ∀ k, j_I C' 84 k = j_I C 84 k := fun k => hM _ k (by decide) (by decide)
  have e85 : ∀ k, j_I C' 85 k = j_I C 85 k := fun k => hM _ k (by decide) (by decide)
  have e87 : ∀ k, j_I C' 87 k = j_I C 87 k := fun k => hM _ k (by decide) (by decide)
  have e88 : ∀ k, j_I C' 88 k = j_I C 88 k := fun k => hM _ k (by decide) (by decide)
  have e89 : ∀ k, j_I C' 89 k = j_I C 89 k := fun k => hM _ k (by decide) (by decide)
  have e90 : ∀ k, j_I C' 90 k = j_I C 90 k := fun k => hM _ k (by decide) (by decide)
  have e91 : ∀ k, j_I C' 91 k = j_I C 91 k := fun k => hM _ k (by decide) (by decide)
  have e92 : ∀ k, j_I C' 92 k = j_I C 92 k := fun k => hM _ k (by decide) (by decide)
  simp only [j_Im, j_Er, j_Mc, j_dp, j_n, j_the, j_cn2, e81, e82, e83, e84, e85, e87, e88, e89, e90, e91, e92] at h ⊢
  exact ⟨hW, h.2⟩
theorem tr_St {C C' : j_H} (hI : ∀ a k, a < 10 → j_I C' a k = j_I C a k) (hR : ∀ a k, a < 10 → j_R C' a k = j_R C a k) (h : j_St C) : j_St C' := by
  intro s hs
  obtain ⟨h1, h2, h3⟩ := h s hs
  rw [hR s 0 (by omega), hI s 1 (by omega)]
  exact ⟨h1, h2, fun i hi => by rw [hI (s + 5) i (by omega)]; exact h3 i hi⟩
