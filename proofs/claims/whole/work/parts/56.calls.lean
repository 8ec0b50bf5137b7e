/-! THE LAW: one call of the script, both sides -/
def j_Lf (H : j_H) (L : Nat) : Prop := j_cls H 12 = 11 ∧ j_cls H 81 = 12 ∧ j_tp H 10 = 8 ∧ j_ln H 10 = L
theorem gr_all {H H1 : j_H} (h : j_gr H H1) {a : Nat} (ha : a < H.1.length) : j_sh H1 a = j_sh H a := by
  rcases h with h | ⟨c, -, h⟩
  · unfold j_sh; rw [h]
  · exact gr_sh h ha
theorem Lf_gr {H H1 : j_H} {L : Nat} (hf : j_Lf H L) (hI : j_In (j_co H)) (h : j_gr H H1) : j_Lf H1 L := by
  have hl : 115 ≤ H.1.length := hI.1.2.2
  obtain ⟨f1, f2, f3, f4⟩ := hf
  refine ⟨?_, ?_, ?_, ?_⟩
  · rw [← f1]; unfold j_cls; rw [gr_all h (by omega)]
  · rw [← f2]; unfold j_cls; rw [gr_all h (by omega)]
  · rw [← f3]; unfold j_tp; rw [gr_all h (by omega)]
  · rw [← f4]; unfold j_ln; rw [gr_all h (by omega)]
theorem Lf_f {H : j_H} {L : Nat} {x3 : Int32} (hf : j_Lf H L) (hx : 0 ≤ x3.toInt ∧ x3.toInt + 6 ≤ (L : Int) ∧ L ≤ 3072) : j_vc H (.ref 12) = 11 ∧ j_vc H (.ref 81) = 12 ∧ j_vt H (.ref 10) = 8 ∧ (0 ≤ x3.toInt ∧ x3.toInt < ((j_vl H (.ref 10) : Nat) : Int)) ∧ (0 ≤ (x3 + Int32.ofInt 1).toInt ∧ (x3 + Int32.ofInt 1).toInt < ((j_vl H (.ref 10) : Nat) : Int)) ∧ (0 ≤ (x3 + Int32.ofInt 2).toInt ∧ (x3 + Int32.ofInt 2).toInt < ((j_vl H (.ref 10) : Nat) : Int)) ∧ (0 ≤ (x3 + Int32.ofInt 3).toInt ∧ (x3 + Int32.ofInt 3).toInt < ((j_vl H (.ref 10) : Nat) : Int)) ∧ (0 ≤ (x3 + Int32.ofInt 4).toInt ∧ (x3 + Int32.ofInt 4).toInt < ((j_vl H (.ref 10) : Nat) : Int)) ∧ (0 ≤ (x3 + Int32.ofInt 5).toInt ∧ (x3 + Int32.ofInt 5).toInt < ((j_vl H (.ref 10) : Nat) : Int)) := by
  obtain ⟨f1, f2, f3, f4⟩ := hf
  obtain ⟨x0, x6, x7⟩ := hx
  have hl : j_vl H (.ref 10) = L := f4
  rw [hl, t_addc (by omega) (by omega) (by omega) (by omega), t_addc (by omega) (by omega) (by omega) (by omega), t_addc (by omega) (by omega) (by omega) (by omega), t_addc (by omega) (by omega) (by omega) (by omega), t_addc (by omega) (by omega) (by omega) (by omega)]
  exact ⟨f1, f2, f3, ⟨by omega, by omega⟩, ⟨by omega, by omega⟩, ⟨by omega, by omega⟩, ⟨by omega, by omega⟩, ⟨by omega, by omega⟩, ⟨by omega, by omega⟩⟩
theorem o_184 {H : j_H} {L : Nat} {x3 : Int32} {Q : Option Value → j_H → Prop} (hI : j_In (j_co H)) (hf : j_Lf H L) (hx : 0 ≤ x3.toInt ∧ x3.toInt + 6 ≤ (L : Int) ∧ L ≤ 3072) (hQ : ∀ H2, j_In (j_co H2) → j_Lf H2 L → j_gr H H2 → j_wp (99 + 1) 213 1265 [.ref 10, .ref 12, .ref 81, .int x3] [] H2 Q) : j_wp (99 + 1) 213 184 [.ref 10, .ref 12, .ref 81, .int x3] [] H Q := by
  have hp : j_pair 66 [.ref 12, .int (j_I H (j_pa (.ref 10)) (j_ix (x3 + (Int32.ofInt 1)))), .int (j_I H (j_pa (.ref 10)) (j_ix (x3 + (Int32.ofInt 2)))), .int (j_I H (j_pa (.ref 10)) (j_ix (x3 + (Int32.ofInt 3))))] 125 [.ref 81, .int (j_I H (j_pa (.ref 10)) (j_ix (x3 + (Int32.ofInt 1)))), .int (j_I H (j_pa (.ref 10)) (j_ix (x3 + (Int32.ofInt 2)))), .int (j_I H (j_pa (.ref 10)) (j_ix (x3 + (Int32.ofInt 3)))), j_u] H := L_guest hI
  obtain ⟨v, H1, H2, h1, h2, hI2, hg, ⟨y, rfl⟩, hg1, h10⟩ := hp
  have f1 := Lf_gr hf hI hg1
  have f2 := Lf_gr hf hI hg
  obtain ⟨a0, a1, a2, ⟨b0, c0⟩, ⟨b1, c1⟩, ⟨b2, c2⟩, ⟨b3, c3⟩, ⟨b4, c4⟩, ⟨b5, c5⟩⟩ := Lf_f hf hx
  obtain ⟨d0, d1, d2, ⟨e0, g0⟩, ⟨e1, g1⟩, ⟨e2, g2⟩, ⟨e3, g3⟩, ⟨e4, g4⟩, ⟨e5, g5⟩⟩ := Lf_f f1 hx
  have h10' : ∀ k, j_I H1 (j_pa (.ref 10)) k = j_I H (j_pa (.ref 10)) k := h10
  rw [b213_184 (H := H) (x0 := .ref 10) (x1 := .ref 12) (x2 := .ref 81) (x3 := x3) a0 a2 b1 c1 b2 c2 b3 c3, h1, j_ks, b213_203 (H := H1) (x0 := .ref 10) (x1 := .ref 12) (x2 := .ref 81) (x3 := x3) d1 d2 e1 g1 e2 g2 e3 g3]
  simp only [h10']
  rw [h2, j_ks, b213_222, if_pos rfl]
  exact hQ H2 hI2 f2 hg
theorem o_227 {H : j_H} {L : Nat} {x3 : Int32} {Q : Option Value → j_H → Prop} (hI : j_In (j_co H)) (hf : j_Lf H L) (hx : 0 ≤ x3.toInt ∧ x3.toInt + 6 ≤ (L : Int) ∧ L ≤ 3072) (hQ : ∀ H2, j_In (j_co H2) → j_Lf H2 L → j_gr H H2 → j_wp (99 + 1) 213 1265 [.ref 10, .ref 12, .ref 81, .int x3] [] H2 Q) : j_wp (99 + 1) 213 227 [.ref 10, .ref 12, .ref 81, .int x3] [] H Q := by
  have hp : j_pair 67 [.ref 12, .int (j_I H (j_pa (.ref 10)) (j_ix (x3 + (Int32.ofInt 1)))), .int (j_I H (j_pa (.ref 10)) (j_ix (x3 + (Int32.ofInt 2)))), j_u] 158 [.ref 81, .int (j_I H (j_pa (.ref 10)) (j_ix (x3 + (Int32.ofInt 1)))), .int (j_I H (j_pa (.ref 10)) (j_ix (x3 + (Int32.ofInt 2))))] H := L_of hI
  obtain ⟨v, H1, H2, h1, h2, hI2, hg, ⟨y, rfl⟩, hg1, h10⟩ := hp
  have f1 := Lf_gr hf hI hg1
  have f2 := Lf_gr hf hI hg
  obtain ⟨a0, a1, a2, ⟨b0, c0⟩, ⟨b1, c1⟩, ⟨b2, c2⟩, ⟨b3, c3⟩, ⟨b4, c4⟩, ⟨b5, c5⟩⟩ := Lf_f hf hx
  obtain ⟨d0, d1, d2, ⟨e0, g0⟩, ⟨e1, g1⟩, ⟨e2, g2⟩, ⟨e3, g3⟩, ⟨e4, g4⟩, ⟨e5, g5⟩⟩ := Lf_f f1 hx
  have h10' : ∀ k, j_I H1 (j_pa (.ref 10)) k = j_I H (j_pa (.ref 10)) k := h10
  rw [b213_227 (H := H) (x0 := .ref 10) (x1 := .ref 12) (x2 := .ref 81) (x3 := x3) a0 a2 b1 c1 b2 c2, h1, j_ks, b213_241 (H := H1) (x0 := .ref 10) (x1 := .ref 12) (x2 := .ref 81) (x3 := x3) d1 d2 e1 g1 e2 g2]
  simp only [h10']
  rw [h2, j_ks, b213_255, if_pos rfl]
  exact hQ H2 hI2 f2 hg
theorem o_260 {H : j_H} {L : Nat} {x3 : Int32} {Q : Option Value → j_H → Prop} (hI : j_In (j_co H)) (hf : j_Lf H L) (hx : 0 ≤ x3.toInt ∧ x3.toInt + 6 ≤ (L : Int) ∧ L ≤ 3072) (hQ : ∀ H2, j_In (j_co H2) → j_Lf H2 L → j_gr H H2 → j_wp (99 + 1) 213 1265 [.ref 10, .ref 12, .ref 81, .int x3] [] H2 Q) : j_wp (99 + 1) 213 260 [.ref 10, .ref 12, .ref 81, .int x3] [] H Q := by
  obtain ⟨w, hw⟩ : ∃ w, (if (j_I H (j_pa (.ref 10)) (j_ix (x3 + Int32.ofInt 2))).toInt = 0 then Int32.ofInt 0 else Int32.ofInt 1) = w := ⟨_, rfl⟩
  have hp : j_pair 68 [.ref 12, .int (j_I H (j_pa (.ref 10)) (j_ix (x3 + Int32.ofInt 1))), .int w, j_u] 126 [.ref 81, .int (j_I H (j_pa (.ref 10)) (j_ix (x3 + Int32.ofInt 1))), .int w, j_u] H := L_fact hI
  obtain ⟨v, H1, H2, h1, h2, hI2, hg, ⟨y, rfl⟩, hg1, h10⟩ := hp
  have f1 := Lf_gr hf hI hg1
  have f2 := Lf_gr hf hI hg
  obtain ⟨a0, a1, a2, ⟨b0, c0⟩, ⟨b1, c1⟩, ⟨b2, c2⟩, ⟨b3, c3⟩, ⟨b4, c4⟩, ⟨b5, c5⟩⟩ := Lf_f hf hx
  obtain ⟨d0, d1, d2, ⟨e0, g0⟩, ⟨e1, g1⟩, ⟨e2, g2⟩, ⟨e3, g3⟩, ⟨e4, g4⟩, ⟨e5, g5⟩⟩ := Lf_f f1 hx
  have h10' : ∀ k, j_I H1 (j_pa (.ref 10)) k = j_I H (j_pa (.ref 10)) k := h10
  have r := hQ H2 hI2 f2 hg
  by_cases z : (j_I H (j_pa (.ref 10)) (j_ix (x3 + Int32.ofInt 2))).toInt = 0
  · rw [if_pos z] at hw
    subst hw
    rw [b213_260 (H := H) (x0 := .ref 10) (x1 := .ref 12) (x2 := .ref 81) (x3 := x3) rfl a2 b1 c1 b2 c2, if_pos z, b213_278, b213_279 (b := 99) (y2 := .ref 12) a0, h1, j_ks, b213_282 (H := H1) (x0 := .ref 10) (x1 := .ref 12) (x2 := .ref 81) (x3 := x3) rfl d2 e1 g1 e2 g2, h10', h10', if_pos z, b213_300, b213_301 (b := 99) (y2 := .ref 81) d1, h2, j_ks, b213_304, if_pos rfl]
    exact r
  · rw [if_neg z] at hw
    subst hw
    rw [b213_260 (H := H) (x0 := .ref 10) (x1 := .ref 12) (x2 := .ref 81) (x3 := x3) rfl a2 b1 c1 b2 c2, if_neg z, b213_274, b213_279 (b := 99) (y2 := .ref 12) a0, h1, j_ks, b213_282 (H := H1) (x0 := .ref 10) (x1 := .ref 12) (x2 := .ref 81) (x3 := x3) rfl d2 e1 g1 e2 g2, h10', h10', if_neg z, b213_296, b213_301 (b := 99) (y2 := .ref 81) d1, h2, j_ks, b213_304, if_pos rfl]
    exact r
theorem o_309 {H : j_H} {L : Nat} {x3 : Int32} {Q : Option Value → j_H → Prop} (hI : j_In (j_co H)) (hf : j_Lf H L) (hx : 0 ≤ x3.toInt ∧ x3.toInt + 6 ≤ (L : Int) ∧ L ≤ 3072) (hQ : ∀ H2, j_In (j_co H2) → j_Lf H2 L → j_gr H H2 → j_wp (99 + 1) 213 1265 [.ref 10, .ref 12, .ref 81, .int x3] [] H2 Q) : j_wp (99 + 1) 213 309 [.ref 10, .ref 12, .ref 81, .int x3] [] H Q := by
  have hp : j_pair 69 [.ref 12, .int (j_I H (j_pa (.ref 10)) (j_ix (x3 + (Int32.ofInt 1)))), j_u] 127 [.ref 81, .int (j_I H (j_pa (.ref 10)) (j_ix (x3 + (Int32.ofInt 1)))), j_u] H := L_hat hI
  obtain ⟨v, H1, H2, h1, h2, hI2, hg, ⟨y, rfl⟩, hg1, h10⟩ := hp
  have f1 := Lf_gr hf hI hg1
  have f2 := Lf_gr hf hI hg
  obtain ⟨a0, a1, a2, ⟨b0, c0⟩, ⟨b1, c1⟩, ⟨b2, c2⟩, ⟨b3, c3⟩, ⟨b4, c4⟩, ⟨b5, c5⟩⟩ := Lf_f hf hx
  obtain ⟨d0, d1, d2, ⟨e0, g0⟩, ⟨e1, g1⟩, ⟨e2, g2⟩, ⟨e3, g3⟩, ⟨e4, g4⟩, ⟨e5, g5⟩⟩ := Lf_f f1 hx
  have h10' : ∀ k, j_I H1 (j_pa (.ref 10)) k = j_I H (j_pa (.ref 10)) k := h10
  rw [b213_309 (H := H) (x0 := .ref 10) (x1 := .ref 12) (x2 := .ref 81) (x3 := x3) a0 a2 b1 c1, h1, j_ks, b213_318 (H := H1) (x0 := .ref 10) (x1 := .ref 12) (x2 := .ref 81) (x3 := x3) d1 d2 e1 g1]
  simp only [h10']
  rw [h2, j_ks, b213_327, if_pos rfl]
  exact hQ H2 hI2 f2 hg
theorem o_332 {H : j_H} {L : Nat} {x3 : Int32} {Q : Option Value → j_H → Prop} (hI : j_In (j_co H)) (hf : j_Lf H L) (hx : 0 ≤ x3.toInt ∧ x3.toInt + 6 ≤ (L : Int) ∧ L ≤ 3072) (hQ : ∀ H2, j_In (j_co H2) → j_Lf H2 L → j_gr H H2 → j_wp (99 + 1) 213 1265 [.ref 10, .ref 12, .ref 81, .int x3] [] H2 Q) : j_wp (99 + 1) 213 332 [.ref 10, .ref 12, .ref 81, .int x3] [] H Q := by
  have hp : j_pair 70 [.ref 12, .int (j_I H (j_pa (.ref 10)) (j_ix (x3 + (Int32.ofInt 1)))), .int (j_I H (j_pa (.ref 10)) (j_ix (x3 + (Int32.ofInt 2)))), .int (j_I H (j_pa (.ref 10)) (j_ix (x3 + (Int32.ofInt 3)))), j_u, j_u] 128 [.ref 81, .int (j_I H (j_pa (.ref 10)) (j_ix (x3 + (Int32.ofInt 1)))), .int (j_I H (j_pa (.ref 10)) (j_ix (x3 + (Int32.ofInt 2)))), .int (j_I H (j_pa (.ref 10)) (j_ix (x3 + (Int32.ofInt 3)))), j_u] H := L_row hI
  obtain ⟨v, H1, H2, h1, h2, hI2, hg, ⟨y, rfl⟩, hg1, h10⟩ := hp
  have f1 := Lf_gr hf hI hg1
  have f2 := Lf_gr hf hI hg
  obtain ⟨a0, a1, a2, ⟨b0, c0⟩, ⟨b1, c1⟩, ⟨b2, c2⟩, ⟨b3, c3⟩, ⟨b4, c4⟩, ⟨b5, c5⟩⟩ := Lf_f hf hx
  obtain ⟨d0, d1, d2, ⟨e0, g0⟩, ⟨e1, g1⟩, ⟨e2, g2⟩, ⟨e3, g3⟩, ⟨e4, g4⟩, ⟨e5, g5⟩⟩ := Lf_f f1 hx
  have h10' : ∀ k, j_I H1 (j_pa (.ref 10)) k = j_I H (j_pa (.ref 10)) k := h10
  rw [b213_332 (H := H) (x0 := .ref 10) (x1 := .ref 12) (x2 := .ref 81) (x3 := x3) a0 a2 b1 c1 b2 c2 b3 c3, h1, j_ks, b213_351 (H := H1) (x0 := .ref 10) (x1 := .ref 12) (x2 := .ref 81) (x3 := x3) d1 d2 e1 g1 e2 g2 e3 g3]
  simp only [h10']
  rw [h2, j_ks, b213_370, if_pos rfl]
  exact hQ H2 hI2 f2 hg
theorem o_375 {H : j_H} {L : Nat} {x3 : Int32} {Q : Option Value → j_H → Prop} (hI : j_In (j_co H)) (hf : j_Lf H L) (hx : 0 ≤ x3.toInt ∧ x3.toInt + 6 ≤ (L : Int) ∧ L ≤ 3072) (hQ : ∀ H2, j_In (j_co H2) → j_Lf H2 L → j_gr H H2 → j_wp (99 + 1) 213 1265 [.ref 10, .ref 12, .ref 81, .int x3] [] H2 Q) : j_wp (99 + 1) 213 375 [.ref 10, .ref 12, .ref 81, .int x3] [] H Q := by
  have hp : j_pair 71 [.ref 12, .int (j_I H (j_pa (.ref 10)) (j_ix (x3 + (Int32.ofInt 1))))] 129 [.ref 81, .int (j_I H (j_pa (.ref 10)) (j_ix (x3 + (Int32.ofInt 1))))] H := L_feed hI
  obtain ⟨v, H1, H2, h1, h2, hI2, hg, ⟨y, rfl⟩, hg1, h10⟩ := hp
  have f1 := Lf_gr hf hI hg1
  have f2 := Lf_gr hf hI hg
  obtain ⟨a0, a1, a2, ⟨b0, c0⟩, ⟨b1, c1⟩, ⟨b2, c2⟩, ⟨b3, c3⟩, ⟨b4, c4⟩, ⟨b5, c5⟩⟩ := Lf_f hf hx
  obtain ⟨d0, d1, d2, ⟨e0, g0⟩, ⟨e1, g1⟩, ⟨e2, g2⟩, ⟨e3, g3⟩, ⟨e4, g4⟩, ⟨e5, g5⟩⟩ := Lf_f f1 hx
  have h10' : ∀ k, j_I H1 (j_pa (.ref 10)) k = j_I H (j_pa (.ref 10)) k := h10
  rw [b213_375 (H := H) (x0 := .ref 10) (x1 := .ref 12) (x2 := .ref 81) (x3 := x3) a0 a2 b1 c1, h1, j_ks, b213_384 (H := H1) (x0 := .ref 10) (x1 := .ref 12) (x2 := .ref 81) (x3 := x3) d1 d2 e1 g1]
  simp only [h10']
  rw [h2, j_ks, b213_393, if_pos rfl]
  exact hQ H2 hI2 f2 hg
theorem o_398 (hh : ∀ H, j_In (j_co H) → j_pair 72 [.ref 12, j_u, j_u] 144 [.ref 81, j_u] H) {H : j_H} {L : Nat} {x3 : Int32} {Q : Option Value → j_H → Prop} (hI : j_In (j_co H)) (hf : j_Lf H L) (hx : 0 ≤ x3.toInt ∧ x3.toInt + 6 ≤ (L : Int) ∧ L ≤ 3072) (hQ : ∀ H2, j_In (j_co H2) → j_Lf H2 L → j_gr H H2 → j_wp (99 + 1) 213 1265 [.ref 10, .ref 12, .ref 81, .int x3] [] H2 Q) : j_wp (99 + 1) 213 398 [.ref 10, .ref 12, .ref 81, .int x3] [] H Q := by
  have hp : j_pair 72 [.ref 12, j_u, j_u] 144 [.ref 81, j_u] H := hh H hI
  obtain ⟨v, H1, H2, h1, h2, hI2, hg, ⟨y, rfl⟩, hg1, h10⟩ := hp
  have f1 := Lf_gr hf hI hg1
  have f2 := Lf_gr hf hI hg
  obtain ⟨a0, a1, a2, ⟨b0, c0⟩, ⟨b1, c1⟩, ⟨b2, c2⟩, ⟨b3, c3⟩, ⟨b4, c4⟩, ⟨b5, c5⟩⟩ := Lf_f hf hx
  obtain ⟨d0, d1, d2, ⟨e0, g0⟩, ⟨e1, g1⟩, ⟨e2, g2⟩, ⟨e3, g3⟩, ⟨e4, g4⟩, ⟨e5, g5⟩⟩ := Lf_f f1 hx
  have h10' : ∀ k, j_I H1 (j_pa (.ref 10)) k = j_I H (j_pa (.ref 10)) k := h10
  rw [b213_398 (H := H) (x0 := .ref 10) (x1 := .ref 12) (x2 := .ref 81) (x3 := x3) a0, h1, j_ks, b213_402 (H := H1) (x0 := .ref 10) (x1 := .ref 12) (x2 := .ref 81) (x3 := x3) d1]
  rw [h2, j_ks, b213_406, if_pos rfl]
  exact hQ H2 hI2 f2 hg
theorem o_411 {H : j_H} {L : Nat} {x3 : Int32} {Q : Option Value → j_H → Prop} (hI : j_In (j_co H)) (hf : j_Lf H L) (hx : 0 ≤ x3.toInt ∧ x3.toInt + 6 ≤ (L : Int) ∧ L ≤ 3072) (hQ : ∀ H2, j_In (j_co H2) → j_Lf H2 L → j_gr H H2 → j_wp (99 + 1) 213 1265 [.ref 10, .ref 12, .ref 81, .int x3] [] H2 Q) : j_wp (99 + 1) 213 411 [.ref 10, .ref 12, .ref 81, .int x3] [] H Q := by
  have hp : j_pair 73 [.ref 12, .int (j_I H (j_pa (.ref 10)) (j_ix (x3 + (Int32.ofInt 1))))] 159 [.ref 81, .int (j_I H (j_pa (.ref 10)) (j_ix (x3 + (Int32.ofInt 1))))] H := L_told hI
  obtain ⟨v, H1, H2, h1, h2, hI2, hg, ⟨y, rfl⟩, hg1, h10⟩ := hp
  have f1 := Lf_gr hf hI hg1
  have f2 := Lf_gr hf hI hg
  obtain ⟨a0, a1, a2, ⟨b0, c0⟩, ⟨b1, c1⟩, ⟨b2, c2⟩, ⟨b3, c3⟩, ⟨b4, c4⟩, ⟨b5, c5⟩⟩ := Lf_f hf hx
  obtain ⟨d0, d1, d2, ⟨e0, g0⟩, ⟨e1, g1⟩, ⟨e2, g2⟩, ⟨e3, g3⟩, ⟨e4, g4⟩, ⟨e5, g5⟩⟩ := Lf_f f1 hx
  have h10' : ∀ k, j_I H1 (j_pa (.ref 10)) k = j_I H (j_pa (.ref 10)) k := h10
  rw [b213_411 (H := H) (x0 := .ref 10) (x1 := .ref 12) (x2 := .ref 81) (x3 := x3) a0 a2 b1 c1, h1, j_ks, b213_420 (H := H1) (x0 := .ref 10) (x1 := .ref 12) (x2 := .ref 81) (x3 := x3) d1 d2 e1 g1]
  simp only [h10']
  rw [h2, j_ks, b213_429, if_pos rfl]
  exact hQ H2 hI2 f2 hg
theorem o_434 {H : j_H} {L : Nat} {x3 : Int32} {Q : Option Value → j_H → Prop} (hI : j_In (j_co H)) (hf : j_Lf H L) (hx : 0 ≤ x3.toInt ∧ x3.toInt + 6 ≤ (L : Int) ∧ L ≤ 3072) (hQ : ∀ H2, j_In (j_co H2) → j_Lf H2 L → j_gr H H2 → j_wp (99 + 1) 213 1265 [.ref 10, .ref 12, .ref 81, .int x3] [] H2 Q) : j_wp (99 + 1) 213 434 [.ref 10, .ref 12, .ref 81, .int x3] [] H Q := by
  have hp : j_pair 74 [.ref 12, j_u] 160 [.ref 81, j_u] H := L_saying hI
  obtain ⟨v, H1, H2, h1, h2, hI2, hg, ⟨y, rfl⟩, hg1, h10⟩ := hp
  have f1 := Lf_gr hf hI hg1
  have f2 := Lf_gr hf hI hg
  obtain ⟨a0, a1, a2, ⟨b0, c0⟩, ⟨b1, c1⟩, ⟨b2, c2⟩, ⟨b3, c3⟩, ⟨b4, c4⟩, ⟨b5, c5⟩⟩ := Lf_f hf hx
  obtain ⟨d0, d1, d2, ⟨e0, g0⟩, ⟨e1, g1⟩, ⟨e2, g2⟩, ⟨e3, g3⟩, ⟨e4, g4⟩, ⟨e5, g5⟩⟩ := Lf_f f1 hx
  have h10' : ∀ k, j_I H1 (j_pa (.ref 10)) k = j_I H (j_pa (.ref 10)) k := h10
  rw [b213_434 (H := H) (x0 := .ref 10) (x1 := .ref 12) (x2 := .ref 81) (x3 := x3) a0, h1, j_ks, b213_438 (H := H1) (x0 := .ref 10) (x1 := .ref 12) (x2 := .ref 81) (x3 := x3) d1]
  rw [h2, j_ks, b213_442, if_pos rfl]
  exact hQ H2 hI2 f2 hg
theorem o_447 {H : j_H} {L : Nat} {x3 : Int32} {Q : Option Value → j_H → Prop} (hI : j_In (j_co H)) (hf : j_Lf H L) (hx : 0 ≤ x3.toInt ∧ x3.toInt + 6 ≤ (L : Int) ∧ L ≤ 3072) (hQ : ∀ H2, j_In (j_co H2) → j_Lf H2 L → j_gr H H2 → j_wp (99 + 1) 213 1265 [.ref 10, .ref 12, .ref 81, .int x3] [] H2 Q) : j_wp (99 + 1) 213 447 [.ref 10, .ref 12, .ref 81, .int x3] [] H Q := by
  have hp : j_pair 75 [.ref 12, .int (j_I H (j_pa (.ref 10)) (j_ix (x3 + (Int32.ofInt 1)))), .int (j_I H (j_pa (.ref 10)) (j_ix (x3 + (Int32.ofInt 2)))), j_u, j_u, j_u, j_u, j_u, j_u] 161 [.ref 81, .int (j_I H (j_pa (.ref 10)) (j_ix (x3 + (Int32.ofInt 1)))), .int (j_I H (j_pa (.ref 10)) (j_ix (x3 + (Int32.ofInt 2)))), j_u, j_u, j_u, j_u] H := L_at hI
  obtain ⟨v, H1, H2, h1, h2, hI2, hg, ⟨y, rfl⟩, hg1, h10⟩ := hp
  have f1 := Lf_gr hf hI hg1
  have f2 := Lf_gr hf hI hg
  obtain ⟨a0, a1, a2, ⟨b0, c0⟩, ⟨b1, c1⟩, ⟨b2, c2⟩, ⟨b3, c3⟩, ⟨b4, c4⟩, ⟨b5, c5⟩⟩ := Lf_f hf hx
  obtain ⟨d0, d1, d2, ⟨e0, g0⟩, ⟨e1, g1⟩, ⟨e2, g2⟩, ⟨e3, g3⟩, ⟨e4, g4⟩, ⟨e5, g5⟩⟩ := Lf_f f1 hx
  have h10' : ∀ k, j_I H1 (j_pa (.ref 10)) k = j_I H (j_pa (.ref 10)) k := h10
  rw [b213_447 (H := H) (x0 := .ref 10) (x1 := .ref 12) (x2 := .ref 81) (x3 := x3) a0 a2 b1 c1 b2 c2, h1, j_ks, b213_461 (H := H1) (x0 := .ref 10) (x1 := .ref 12) (x2 := .ref 81) (x3 := x3) d1 d2 e1 g1 e2 g2]
  simp only [h10']
  rw [h2, j_ks, b213_475, if_pos rfl]
  exact hQ H2 hI2 f2 hg
theorem o_480 {H : j_H} {L : Nat} {x3 : Int32} {Q : Option Value → j_H → Prop} (hI : j_In (j_co H)) (hf : j_Lf H L) (hx : 0 ≤ x3.toInt ∧ x3.toInt + 6 ≤ (L : Int) ∧ L ≤ 3072) (hQ : ∀ H2, j_In (j_co H2) → j_Lf H2 L → j_gr H H2 → j_wp (99 + 1) 213 1265 [.ref 10, .ref 12, .ref 81, .int x3] [] H2 Q) : j_wp (99 + 1) 213 480 [.ref 10, .ref 12, .ref 81, .int x3] [] H Q := by
  have hp : j_pair 76 [.ref 12, .int (j_I H (j_pa (.ref 10)) (j_ix (x3 + (Int32.ofInt 1))))] 162 [.ref 81, .int (j_I H (j_pa (.ref 10)) (j_ix (x3 + (Int32.ofInt 1)))), j_u, j_u] H := L_comes hI
  obtain ⟨v, H1, H2, h1, h2, hI2, hg, ⟨y, rfl⟩, hg1, h10⟩ := hp
  have f1 := Lf_gr hf hI hg1
  have f2 := Lf_gr hf hI hg
  obtain ⟨a0, a1, a2, ⟨b0, c0⟩, ⟨b1, c1⟩, ⟨b2, c2⟩, ⟨b3, c3⟩, ⟨b4, c4⟩, ⟨b5, c5⟩⟩ := Lf_f hf hx
  obtain ⟨d0, d1, d2, ⟨e0, g0⟩, ⟨e1, g1⟩, ⟨e2, g2⟩, ⟨e3, g3⟩, ⟨e4, g4⟩, ⟨e5, g5⟩⟩ := Lf_f f1 hx
  have h10' : ∀ k, j_I H1 (j_pa (.ref 10)) k = j_I H (j_pa (.ref 10)) k := h10
  rw [b213_480 (H := H) (x0 := .ref 10) (x1 := .ref 12) (x2 := .ref 81) (x3 := x3) a0 a2 b1 c1, h1, j_ks, b213_489 (H := H1) (x0 := .ref 10) (x1 := .ref 12) (x2 := .ref 81) (x3 := x3) d1 d2 e1 g1]
  simp only [h10']
  rw [h2, j_ks, b213_498, if_pos rfl]
  exact hQ H2 hI2 f2 hg
theorem o_503 {H : j_H} {L : Nat} {x3 : Int32} {Q : Option Value → j_H → Prop} (hI : j_In (j_co H)) (hf : j_Lf H L) (hx : 0 ≤ x3.toInt ∧ x3.toInt + 6 ≤ (L : Int) ∧ L ≤ 3072) (hQ : ∀ H2, j_In (j_co H2) → j_Lf H2 L → j_gr H H2 → j_wp (99 + 1) 213 1265 [.ref 10, .ref 12, .ref 81, .int x3] [] H2 Q) : j_wp (99 + 1) 213 503 [.ref 10, .ref 12, .ref 81, .int x3] [] H Q := by
  have hp : j_pair 77 [.ref 12, .int (j_I H (j_pa (.ref 10)) (j_ix (x3 + (Int32.ofInt 1)))), .int (j_I H (j_pa (.ref 10)) (j_ix (x3 + (Int32.ofInt 2)))), j_u, j_u, j_u, j_u] 163 [.ref 81, .int (j_I H (j_pa (.ref 10)) (j_ix (x3 + (Int32.ofInt 1)))), .int (j_I H (j_pa (.ref 10)) (j_ix (x3 + (Int32.ofInt 2)))), j_u, j_u, j_u] H := L_soonest hI
  obtain ⟨v, H1, H2, h1, h2, hI2, hg, ⟨y, rfl⟩, hg1, h10⟩ := hp
  have f1 := Lf_gr hf hI hg1
  have f2 := Lf_gr hf hI hg
  obtain ⟨a0, a1, a2, ⟨b0, c0⟩, ⟨b1, c1⟩, ⟨b2, c2⟩, ⟨b3, c3⟩, ⟨b4, c4⟩, ⟨b5, c5⟩⟩ := Lf_f hf hx
  obtain ⟨d0, d1, d2, ⟨e0, g0⟩, ⟨e1, g1⟩, ⟨e2, g2⟩, ⟨e3, g3⟩, ⟨e4, g4⟩, ⟨e5, g5⟩⟩ := Lf_f f1 hx
  have h10' : ∀ k, j_I H1 (j_pa (.ref 10)) k = j_I H (j_pa (.ref 10)) k := h10
  rw [b213_503 (H := H) (x0 := .ref 10) (x1 := .ref 12) (x2 := .ref 81) (x3 := x3) a0 a2 b1 c1 b2 c2, h1, j_ks, b213_517 (H := H1) (x0 := .ref 10) (x1 := .ref 12) (x2 := .ref 81) (x3 := x3) d1 d2 e1 g1 e2 g2]
  simp only [h10']
  rw [h2, j_ks, b213_531, if_pos rfl]
  exact hQ H2 hI2 f2 hg
theorem o_536 {H : j_H} {L : Nat} {x3 : Int32} {Q : Option Value → j_H → Prop} (hI : j_In (j_co H)) (hf : j_Lf H L) (hx : 0 ≤ x3.toInt ∧ x3.toInt + 6 ≤ (L : Int) ∧ L ≤ 3072) (hQ : ∀ H2, j_In (j_co H2) → j_Lf H2 L → j_gr H H2 → j_wp (99 + 1) 213 1265 [.ref 10, .ref 12, .ref 81, .int x3] [] H2 Q) : j_wp (99 + 1) 213 536 [.ref 10, .ref 12, .ref 81, .int x3] [] H Q := by
  have hp : j_pair 78 [.ref 12, .int (j_I H (j_pa (.ref 10)) (j_ix (x3 + (Int32.ofInt 1)))), .int (j_I H (j_pa (.ref 10)) (j_ix (x3 + (Int32.ofInt 2)))), j_u, j_u] 164 [.ref 81, .int (j_I H (j_pa (.ref 10)) (j_ix (x3 + (Int32.ofInt 1)))), .int (j_I H (j_pa (.ref 10)) (j_ix (x3 + (Int32.ofInt 2)))), j_u, j_u, j_u, j_u, j_u] H := L_keeps hI
  obtain ⟨v, H1, H2, h1, h2, hI2, hg, ⟨y, rfl⟩, hg1, h10⟩ := hp
  have f1 := Lf_gr hf hI hg1
  have f2 := Lf_gr hf hI hg
  obtain ⟨a0, a1, a2, ⟨b0, c0⟩, ⟨b1, c1⟩, ⟨b2, c2⟩, ⟨b3, c3⟩, ⟨b4, c4⟩, ⟨b5, c5⟩⟩ := Lf_f hf hx
  obtain ⟨d0, d1, d2, ⟨e0, g0⟩, ⟨e1, g1⟩, ⟨e2, g2⟩, ⟨e3, g3⟩, ⟨e4, g4⟩, ⟨e5, g5⟩⟩ := Lf_f f1 hx
  have h10' : ∀ k, j_I H1 (j_pa (.ref 10)) k = j_I H (j_pa (.ref 10)) k := h10
  rw [b213_536 (H := H) (x0 := .ref 10) (x1 := .ref 12) (x2 := .ref 81) (x3 := x3) a0 a2 b1 c1 b2 c2, h1, j_ks, b213_550 (H := H1) (x0 := .ref 10) (x1 := .ref 12) (x2 := .ref 81) (x3 := x3) d1 d2 e1 g1 e2 g2]
  simp only [h10']
  rw [h2, j_ks, b213_564, if_pos rfl]
  exact hQ H2 hI2 f2 hg
theorem o_569 {H : j_H} {L : Nat} {x3 : Int32} {Q : Option Value → j_H → Prop} (hI : j_In (j_co H)) (hf : j_Lf H L) (hx : 0 ≤ x3.toInt ∧ x3.toInt + 6 ≤ (L : Int) ∧ L ≤ 3072) (hQ : ∀ H2, j_In (j_co H2) → j_Lf H2 L → j_gr H H2 → j_wp (99 + 1) 213 1265 [.ref 10, .ref 12, .ref 81, .int x3] [] H2 Q) : j_wp (99 + 1) 213 569 [.ref 10, .ref 12, .ref 81, .int x3] [] H Q := by
  have hp : j_pair 79 [.ref 12, .int (j_I H (j_pa (.ref 10)) (j_ix (x3 + (Int32.ofInt 1))))] 165 [.ref 81, .int (j_I H (j_pa (.ref 10)) (j_ix (x3 + (Int32.ofInt 1))))] H := L_was hI
  obtain ⟨v, H1, H2, h1, h2, hI2, hg, ⟨y, rfl⟩, hg1, h10⟩ := hp
  have f1 := Lf_gr hf hI hg1
  have f2 := Lf_gr hf hI hg
  obtain ⟨a0, a1, a2, ⟨b0, c0⟩, ⟨b1, c1⟩, ⟨b2, c2⟩, ⟨b3, c3⟩, ⟨b4, c4⟩, ⟨b5, c5⟩⟩ := Lf_f hf hx
  obtain ⟨d0, d1, d2, ⟨e0, g0⟩, ⟨e1, g1⟩, ⟨e2, g2⟩, ⟨e3, g3⟩, ⟨e4, g4⟩, ⟨e5, g5⟩⟩ := Lf_f f1 hx
  have h10' : ∀ k, j_I H1 (j_pa (.ref 10)) k = j_I H (j_pa (.ref 10)) k := h10
  rw [b213_569 (H := H) (x0 := .ref 10) (x1 := .ref 12) (x2 := .ref 81) (x3 := x3) a0 a2 b1 c1, h1, j_ks, b213_578 (H := H1) (x0 := .ref 10) (x1 := .ref 12) (x2 := .ref 81) (x3 := x3) d1 d2 e1 g1]
  simp only [h10']
  rw [h2, j_ks, b213_587, if_pos rfl]
  exact hQ H2 hI2 f2 hg
theorem o_592 {H : j_H} {L : Nat} {x3 : Int32} {Q : Option Value → j_H → Prop} (hI : j_In (j_co H)) (hf : j_Lf H L) (hx : 0 ≤ x3.toInt ∧ x3.toInt + 6 ≤ (L : Int) ∧ L ≤ 3072) (hQ : ∀ H2, j_In (j_co H2) → j_Lf H2 L → j_gr H H2 → j_wp (99 + 1) 213 1265 [.ref 10, .ref 12, .ref 81, .int x3] [] H2 Q) : j_wp (99 + 1) 213 592 [.ref 10, .ref 12, .ref 81, .int x3] [] H Q := by
  have hp : j_pair 80 [.ref 12, .int (j_I H (j_pa (.ref 10)) (j_ix (x3 + (Int32.ofInt 1)))), j_u, j_u, j_u, j_u, j_u] 166 [.ref 81, .int (j_I H (j_pa (.ref 10)) (j_ix (x3 + (Int32.ofInt 1)))), j_u, j_u, j_u, j_u, j_u] H := L_lied hI
  obtain ⟨v, H1, H2, h1, h2, hI2, hg, ⟨y, rfl⟩, hg1, h10⟩ := hp
  have f1 := Lf_gr hf hI hg1
  have f2 := Lf_gr hf hI hg
  obtain ⟨a0, a1, a2, ⟨b0, c0⟩, ⟨b1, c1⟩, ⟨b2, c2⟩, ⟨b3, c3⟩, ⟨b4, c4⟩, ⟨b5, c5⟩⟩ := Lf_f hf hx
  obtain ⟨d0, d1, d2, ⟨e0, g0⟩, ⟨e1, g1⟩, ⟨e2, g2⟩, ⟨e3, g3⟩, ⟨e4, g4⟩, ⟨e5, g5⟩⟩ := Lf_f f1 hx
  have h10' : ∀ k, j_I H1 (j_pa (.ref 10)) k = j_I H (j_pa (.ref 10)) k := h10
  rw [b213_592 (H := H) (x0 := .ref 10) (x1 := .ref 12) (x2 := .ref 81) (x3 := x3) a0 a2 b1 c1, h1, j_ks, b213_601 (H := H1) (x0 := .ref 10) (x1 := .ref 12) (x2 := .ref 81) (x3 := x3) d1 d2 e1 g1]
  simp only [h10']
  rw [h2, j_ks, b213_610, if_pos rfl]
  exact hQ H2 hI2 f2 hg
theorem o_615 {H : j_H} {L : Nat} {x3 : Int32} {Q : Option Value → j_H → Prop} (hI : j_In (j_co H)) (hf : j_Lf H L) (hx : 0 ≤ x3.toInt ∧ x3.toInt + 6 ≤ (L : Int) ∧ L ≤ 3072) (hQ : ∀ H2, j_In (j_co H2) → j_Lf H2 L → j_gr H H2 → j_wp (99 + 1) 213 1265 [.ref 10, .ref 12, .ref 81, .int x3] [] H2 Q) : j_wp (99 + 1) 213 615 [.ref 10, .ref 12, .ref 81, .int x3] [] H Q := by
  have hp : j_pair 81 [.ref 12, .int (j_I H (j_pa (.ref 10)) (j_ix (x3 + (Int32.ofInt 1)))), .int (j_I H (j_pa (.ref 10)) (j_ix (x3 + (Int32.ofInt 2)))), j_u, j_u, j_u, j_u] 167 [.ref 81, .int (j_I H (j_pa (.ref 10)) (j_ix (x3 + (Int32.ofInt 1)))), .int (j_I H (j_pa (.ref 10)) (j_ix (x3 + (Int32.ofInt 2)))), j_u, j_u, j_u, j_u, j_u, j_u, j_u] H := L_stranger hI
  obtain ⟨v, H1, H2, h1, h2, hI2, hg, ⟨y, rfl⟩, hg1, h10⟩ := hp
  have f1 := Lf_gr hf hI hg1
  have f2 := Lf_gr hf hI hg
  obtain ⟨a0, a1, a2, ⟨b0, c0⟩, ⟨b1, c1⟩, ⟨b2, c2⟩, ⟨b3, c3⟩, ⟨b4, c4⟩, ⟨b5, c5⟩⟩ := Lf_f hf hx
  obtain ⟨d0, d1, d2, ⟨e0, g0⟩, ⟨e1, g1⟩, ⟨e2, g2⟩, ⟨e3, g3⟩, ⟨e4, g4⟩, ⟨e5, g5⟩⟩ := Lf_f f1 hx
  have h10' : ∀ k, j_I H1 (j_pa (.ref 10)) k = j_I H (j_pa (.ref 10)) k := h10
  rw [b213_615 (H := H) (x0 := .ref 10) (x1 := .ref 12) (x2 := .ref 81) (x3 := x3) a0 a2 b1 c1 b2 c2, h1, j_ks, b213_629 (H := H1) (x0 := .ref 10) (x1 := .ref 12) (x2 := .ref 81) (x3 := x3) d1 d2 e1 g1 e2 g2]
  simp only [h10']
  rw [h2, j_ks, b213_643, if_pos rfl]
  exact hQ H2 hI2 f2 hg
theorem o_648 {H : j_H} {L : Nat} {x3 : Int32} {Q : Option Value → j_H → Prop} (hI : j_In (j_co H)) (hf : j_Lf H L) (hx : 0 ≤ x3.toInt ∧ x3.toInt + 6 ≤ (L : Int) ∧ L ≤ 3072) (hQ : ∀ H2, j_In (j_co H2) → j_Lf H2 L → j_gr H H2 → j_wp (99 + 1) 213 1265 [.ref 10, .ref 12, .ref 81, .int x3] [] H2 Q) : j_wp (99 + 1) 213 648 [.ref 10, .ref 12, .ref 81, .int x3] [] H Q := by
  have hp : j_pair 82 [.ref 12, .int (j_I H (j_pa (.ref 10)) (j_ix (x3 + (Int32.ofInt 1)))), .int (j_I H (j_pa (.ref 10)) (j_ix (x3 + (Int32.ofInt 2)))), .int (j_I H (j_pa (.ref 10)) (j_ix (x3 + (Int32.ofInt 3))))] 170 [.ref 81, .int (j_I H (j_pa (.ref 10)) (j_ix (x3 + (Int32.ofInt 1)))), .int (j_I H (j_pa (.ref 10)) (j_ix (x3 + (Int32.ofInt 2)))), .int (j_I H (j_pa (.ref 10)) (j_ix (x3 + (Int32.ofInt 3))))] H := L_wants hI
  obtain ⟨v, H1, H2, h1, h2, hI2, hg, ⟨y, rfl⟩, hg1, h10⟩ := hp
  have f1 := Lf_gr hf hI hg1
  have f2 := Lf_gr hf hI hg
  obtain ⟨a0, a1, a2, ⟨b0, c0⟩, ⟨b1, c1⟩, ⟨b2, c2⟩, ⟨b3, c3⟩, ⟨b4, c4⟩, ⟨b5, c5⟩⟩ := Lf_f hf hx
  obtain ⟨d0, d1, d2, ⟨e0, g0⟩, ⟨e1, g1⟩, ⟨e2, g2⟩, ⟨e3, g3⟩, ⟨e4, g4⟩, ⟨e5, g5⟩⟩ := Lf_f f1 hx
  have h10' : ∀ k, j_I H1 (j_pa (.ref 10)) k = j_I H (j_pa (.ref 10)) k := h10
  rw [b213_648 (H := H) (x0 := .ref 10) (x1 := .ref 12) (x2 := .ref 81) (x3 := x3) a0 a2 b1 c1 b2 c2 b3 c3, h1, j_ks, b213_667 (H := H1) (x0 := .ref 10) (x1 := .ref 12) (x2 := .ref 81) (x3 := x3) d1 d2 e1 g1 e2 g2 e3 g3]
  simp only [h10']
  rw [h2, j_ks, b213_686, if_pos rfl]
  exact hQ H2 hI2 f2 hg
theorem o_691 {H : j_H} {L : Nat} {x3 : Int32} {Q : Option Value → j_H → Prop} (hI : j_In (j_co H)) (hf : j_Lf H L) (hx : 0 ≤ x3.toInt ∧ x3.toInt + 6 ≤ (L : Int) ∧ L ≤ 3072) (hQ : ∀ H2, j_In (j_co H2) → j_Lf H2 L → j_gr H H2 → j_wp (99 + 1) 213 1265 [.ref 10, .ref 12, .ref 81, .int x3] [] H2 Q) : j_wp (99 + 1) 213 691 [.ref 10, .ref 12, .ref 81, .int x3] [] H Q := by
  have hp : j_pair 83 [.ref 12, .int (j_I H (j_pa (.ref 10)) (j_ix (x3 + (Int32.ofInt 1)))), .int (j_I H (j_pa (.ref 10)) (j_ix (x3 + (Int32.ofInt 2)))), .int (j_I H (j_pa (.ref 10)) (j_ix (x3 + (Int32.ofInt 3))))] 171 [.ref 81, .int (j_I H (j_pa (.ref 10)) (j_ix (x3 + (Int32.ofInt 1)))), .int (j_I H (j_pa (.ref 10)) (j_ix (x3 + (Int32.ofInt 2)))), .int (j_I H (j_pa (.ref 10)) (j_ix (x3 + (Int32.ofInt 3))))] H := L_rid hI
  obtain ⟨v, H1, H2, h1, h2, hI2, hg, ⟨y, rfl⟩, hg1, h10⟩ := hp
  have f1 := Lf_gr hf hI hg1
  have f2 := Lf_gr hf hI hg
  obtain ⟨a0, a1, a2, ⟨b0, c0⟩, ⟨b1, c1⟩, ⟨b2, c2⟩, ⟨b3, c3⟩, ⟨b4, c4⟩, ⟨b5, c5⟩⟩ := Lf_f hf hx
  obtain ⟨d0, d1, d2, ⟨e0, g0⟩, ⟨e1, g1⟩, ⟨e2, g2⟩, ⟨e3, g3⟩, ⟨e4, g4⟩, ⟨e5, g5⟩⟩ := Lf_f f1 hx
  have h10' : ∀ k, j_I H1 (j_pa (.ref 10)) k = j_I H (j_pa (.ref 10)) k := h10
  rw [b213_691 (H := H) (x0 := .ref 10) (x1 := .ref 12) (x2 := .ref 81) (x3 := x3) a0 a2 b1 c1 b2 c2 b3 c3, h1, j_ks, b213_710 (H := H1) (x0 := .ref 10) (x1 := .ref 12) (x2 := .ref 81) (x3 := x3) d1 d2 e1 g1 e2 g2 e3 g3]
  simp only [h10']
  rw [h2, j_ks, b213_729, if_pos rfl]
  exact hQ H2 hI2 f2 hg
theorem o_734 {H : j_H} {L : Nat} {x3 : Int32} {Q : Option Value → j_H → Prop} (hI : j_In (j_co H)) (hf : j_Lf H L) (hx : 0 ≤ x3.toInt ∧ x3.toInt + 6 ≤ (L : Int) ∧ L ≤ 3072) (hQ : ∀ H2, j_In (j_co H2) → j_Lf H2 L → j_gr H H2 → j_wp (99 + 1) 213 1265 [.ref 10, .ref 12, .ref 81, .int x3] [] H2 Q) : j_wp (99 + 1) 213 734 [.ref 10, .ref 12, .ref 81, .int x3] [] H Q := by
  have hp : j_pair 84 [.ref 12, .int (j_I H (j_pa (.ref 10)) (j_ix (x3 + (Int32.ofInt 1)))), j_u, j_u, j_u] 172 [.ref 81, .int (j_I H (j_pa (.ref 10)) (j_ix (x3 + (Int32.ofInt 1)))), j_u, j_u, j_u] H := L_two hI
  obtain ⟨v, H1, H2, h1, h2, hI2, hg, ⟨y, rfl⟩, hg1, h10⟩ := hp
  have f1 := Lf_gr hf hI hg1
  have f2 := Lf_gr hf hI hg
  obtain ⟨a0, a1, a2, ⟨b0, c0⟩, ⟨b1, c1⟩, ⟨b2, c2⟩, ⟨b3, c3⟩, ⟨b4, c4⟩, ⟨b5, c5⟩⟩ := Lf_f hf hx
  obtain ⟨d0, d1, d2, ⟨e0, g0⟩, ⟨e1, g1⟩, ⟨e2, g2⟩, ⟨e3, g3⟩, ⟨e4, g4⟩, ⟨e5, g5⟩⟩ := Lf_f f1 hx
  have h10' : ∀ k, j_I H1 (j_pa (.ref 10)) k = j_I H (j_pa (.ref 10)) k := h10
  rw [b213_734 (H := H) (x0 := .ref 10) (x1 := .ref 12) (x2 := .ref 81) (x3 := x3) a0 a2 b1 c1, h1, j_ks, b213_743 (H := H1) (x0 := .ref 10) (x1 := .ref 12) (x2 := .ref 81) (x3 := x3) d1 d2 e1 g1]
  simp only [h10']
  rw [h2, j_ks, b213_752, if_pos rfl]
  exact hQ H2 hI2 f2 hg
theorem o_757 {H : j_H} {L : Nat} {x3 : Int32} {Q : Option Value → j_H → Prop} (hI : j_In (j_co H)) (hf : j_Lf H L) (hx : 0 ≤ x3.toInt ∧ x3.toInt + 6 ≤ (L : Int) ∧ L ≤ 3072) (hQ : ∀ H2, j_In (j_co H2) → j_Lf H2 L → j_gr H H2 → j_wp (99 + 1) 213 1265 [.ref 10, .ref 12, .ref 81, .int x3] [] H2 Q) : j_wp (99 + 1) 213 757 [.ref 10, .ref 12, .ref 81, .int x3] [] H Q := by
  have hp : j_pairL 85 [.ref 12, .int (j_I H (j_pa (.ref 10)) (j_ix (x3 + (Int32.ofInt 1)))), .int (j_I H (j_pa (.ref 10)) (j_ix (x3 + (Int32.ofInt 2)))), .int (j_I H (j_pa (.ref 10)) (j_ix (x3 + (Int32.ofInt 3)))), j_u, j_u, j_u] 176 [.ref 81, .int (j_I H (j_pa (.ref 10)) (j_ix (x3 + (Int32.ofInt 1)))), .int (j_I H (j_pa (.ref 10)) (j_ix (x3 + (Int32.ofInt 2)))), .int (j_I H (j_pa (.ref 10)) (j_ix (x3 + (Int32.ofInt 3))))] H := L_odds hI
  obtain ⟨v, H1, H2, h1, h2, hI2, hg, ⟨y, rfl⟩, hg1, h10⟩ := hp
  have f1 := Lf_gr hf hI hg1
  have f2 := Lf_gr hf hI hg
  obtain ⟨a0, a1, a2, ⟨b0, c0⟩, ⟨b1, c1⟩, ⟨b2, c2⟩, ⟨b3, c3⟩, ⟨b4, c4⟩, ⟨b5, c5⟩⟩ := Lf_f hf hx
  obtain ⟨d0, d1, d2, ⟨e0, g0⟩, ⟨e1, g1⟩, ⟨e2, g2⟩, ⟨e3, g3⟩, ⟨e4, g4⟩, ⟨e5, g5⟩⟩ := Lf_f f1 hx
  have h10' : ∀ k, j_I H1 (j_pa (.ref 10)) k = j_I H (j_pa (.ref 10)) k := h10
  rw [b213_757 (H := H) (x0 := .ref 10) (x1 := .ref 12) (x2 := .ref 81) (x3 := x3) a0 a2 b1 c1 b2 c2 b3 c3, h1, j_ks, b213_776 (H := H1) (x0 := .ref 10) (x1 := .ref 12) (x2 := .ref 81) (x3 := x3) d1 d2 e1 g1 e2 g2 e3 g3]
  simp only [h10']
  rw [h2, j_ks, b213_795, if_pos (by rw [t_cmp0])]
  exact hQ H2 hI2 f2 hg
theorem o_801 {H : j_H} {L : Nat} {x3 : Int32} {Q : Option Value → j_H → Prop} (hI : j_In (j_co H)) (hf : j_Lf H L) (hx : 0 ≤ x3.toInt ∧ x3.toInt + 6 ≤ (L : Int) ∧ L ≤ 3072) (hQ : ∀ H2, j_In (j_co H2) → j_Lf H2 L → j_gr H H2 → j_wp (99 + 1) 213 1265 [.ref 10, .ref 12, .ref 81, .int x3] [] H2 Q) : j_wp (99 + 1) 213 801 [.ref 10, .ref 12, .ref 81, .int x3] [] H Q := by
  have hp : j_pairL 86 [.ref 12, .int (j_I H (j_pa (.ref 10)) (j_ix (x3 + (Int32.ofInt 1)))), .int (j_I H (j_pa (.ref 10)) (j_ix (x3 + (Int32.ofInt 2)))), j_u, j_u, j_u, j_u, j_u] 177 [.ref 81, .int (j_I H (j_pa (.ref 10)) (j_ix (x3 + (Int32.ofInt 1)))), .int (j_I H (j_pa (.ref 10)) (j_ix (x3 + (Int32.ofInt 2))))] H := L_mean hI
  obtain ⟨v, H1, H2, h1, h2, hI2, hg, ⟨y, rfl⟩, hg1, h10⟩ := hp
  have f1 := Lf_gr hf hI hg1
  have f2 := Lf_gr hf hI hg
  obtain ⟨a0, a1, a2, ⟨b0, c0⟩, ⟨b1, c1⟩, ⟨b2, c2⟩, ⟨b3, c3⟩, ⟨b4, c4⟩, ⟨b5, c5⟩⟩ := Lf_f hf hx
  obtain ⟨d0, d1, d2, ⟨e0, g0⟩, ⟨e1, g1⟩, ⟨e2, g2⟩, ⟨e3, g3⟩, ⟨e4, g4⟩, ⟨e5, g5⟩⟩ := Lf_f f1 hx
  have h10' : ∀ k, j_I H1 (j_pa (.ref 10)) k = j_I H (j_pa (.ref 10)) k := h10
  rw [b213_801 (H := H) (x0 := .ref 10) (x1 := .ref 12) (x2 := .ref 81) (x3 := x3) a0 a2 b1 c1 b2 c2, h1, j_ks, b213_815 (H := H1) (x0 := .ref 10) (x1 := .ref 12) (x2 := .ref 81) (x3 := x3) d1 d2 e1 g1 e2 g2]
  simp only [h10']
  rw [h2, j_ks, b213_829, if_pos (by rw [t_cmp0])]
  exact hQ H2 hI2 f2 hg
theorem o_835 {H : j_H} {L : Nat} {x3 : Int32} {Q : Option Value → j_H → Prop} (hI : j_In (j_co H)) (hf : j_Lf H L) (hx : 0 ≤ x3.toInt ∧ x3.toInt + 6 ≤ (L : Int) ∧ L ≤ 3072) (hQ : ∀ H2, j_In (j_co H2) → j_Lf H2 L → j_gr H H2 → j_wp (99 + 1) 213 1265 [.ref 10, .ref 12, .ref 81, .int x3] [] H2 Q) : j_wp (99 + 1) 213 835 [.ref 10, .ref 12, .ref 81, .int x3] [] H Q := by
  have hp : j_pair 87 [.ref 12, .int (j_I H (j_pa (.ref 10)) (j_ix (x3 + (Int32.ofInt 1))))] 178 [.ref 81, .int (j_I H (j_pa (.ref 10)) (j_ix (x3 + (Int32.ofInt 1))))] H := L_book hI
  obtain ⟨v, H1, H2, h1, h2, hI2, hg, ⟨y, rfl⟩, hg1, h10⟩ := hp
  have f1 := Lf_gr hf hI hg1
  have f2 := Lf_gr hf hI hg
  obtain ⟨a0, a1, a2, ⟨b0, c0⟩, ⟨b1, c1⟩, ⟨b2, c2⟩, ⟨b3, c3⟩, ⟨b4, c4⟩, ⟨b5, c5⟩⟩ := Lf_f hf hx
  obtain ⟨d0, d1, d2, ⟨e0, g0⟩, ⟨e1, g1⟩, ⟨e2, g2⟩, ⟨e3, g3⟩, ⟨e4, g4⟩, ⟨e5, g5⟩⟩ := Lf_f f1 hx
  have h10' : ∀ k, j_I H1 (j_pa (.ref 10)) k = j_I H (j_pa (.ref 10)) k := h10
  rw [b213_835 (H := H) (x0 := .ref 10) (x1 := .ref 12) (x2 := .ref 81) (x3 := x3) a0 a2 b1 c1, h1, j_ks, b213_844 (H := H1) (x0 := .ref 10) (x1 := .ref 12) (x2 := .ref 81) (x3 := x3) d1 d2 e1 g1]
  simp only [h10']
  rw [h2, j_ks, b213_853, if_pos rfl]
  exact hQ H2 hI2 f2 hg
theorem o_858 {H : j_H} {L : Nat} {x3 : Int32} {Q : Option Value → j_H → Prop} (hI : j_In (j_co H)) (hf : j_Lf H L) (hx : 0 ≤ x3.toInt ∧ x3.toInt + 6 ≤ (L : Int) ∧ L ≤ 3072) (hQ : ∀ H2, j_In (j_co H2) → j_Lf H2 L → j_gr H H2 → j_wp (99 + 1) 213 1265 [.ref 10, .ref 12, .ref 81, .int x3] [] H2 Q) : j_wp (99 + 1) 213 858 [.ref 10, .ref 12, .ref 81, .int x3] [] H Q := by
  have hp : j_pair 88 [.ref 12, j_u, j_u, j_u] 179 [.ref 81, j_u, j_u] H := L_looked hI
  obtain ⟨v, H1, H2, h1, h2, hI2, hg, ⟨y, rfl⟩, hg1, h10⟩ := hp
  have f1 := Lf_gr hf hI hg1
  have f2 := Lf_gr hf hI hg
  obtain ⟨a0, a1, a2, ⟨b0, c0⟩, ⟨b1, c1⟩, ⟨b2, c2⟩, ⟨b3, c3⟩, ⟨b4, c4⟩, ⟨b5, c5⟩⟩ := Lf_f hf hx
  obtain ⟨d0, d1, d2, ⟨e0, g0⟩, ⟨e1, g1⟩, ⟨e2, g2⟩, ⟨e3, g3⟩, ⟨e4, g4⟩, ⟨e5, g5⟩⟩ := Lf_f f1 hx
  have h10' : ∀ k, j_I H1 (j_pa (.ref 10)) k = j_I H (j_pa (.ref 10)) k := h10
  rw [b213_858 (H := H) (x0 := .ref 10) (x1 := .ref 12) (x2 := .ref 81) (x3 := x3) a0, h1, j_ks, b213_862 (H := H1) (x0 := .ref 10) (x1 := .ref 12) (x2 := .ref 81) (x3 := x3) d1]
  rw [h2, j_ks, b213_866, if_pos rfl]
  exact hQ H2 hI2 f2 hg
theorem o_871 {H : j_H} {L : Nat} {x3 : Int32} {Q : Option Value → j_H → Prop} (hI : j_In (j_co H)) (hf : j_Lf H L) (hx : 0 ≤ x3.toInt ∧ x3.toInt + 6 ≤ (L : Int) ∧ L ≤ 3072) (hQ : ∀ H2, j_In (j_co H2) → j_Lf H2 L → j_gr H H2 → j_wp (99 + 1) 213 1265 [.ref 10, .ref 12, .ref 81, .int x3] [] H2 Q) : j_wp (99 + 1) 213 871 [.ref 10, .ref 12, .ref 81, .int x3] [] H Q := by
  have hp : j_pair 89 [.ref 12, .int (j_I H (j_pa (.ref 10)) (j_ix (x3 + (Int32.ofInt 1)))), .int (j_I H (j_pa (.ref 10)) (j_ix (x3 + (Int32.ofInt 2)))), j_u, j_u] 180 [.ref 81, .int (j_I H (j_pa (.ref 10)) (j_ix (x3 + (Int32.ofInt 1)))), .int (j_I H (j_pa (.ref 10)) (j_ix (x3 + (Int32.ofInt 2)))), j_u] H := L_judge hI
  obtain ⟨v, H1, H2, h1, h2, hI2, hg, ⟨y, rfl⟩, hg1, h10⟩ := hp
  have f1 := Lf_gr hf hI hg1
  have f2 := Lf_gr hf hI hg
  obtain ⟨a0, a1, a2, ⟨b0, c0⟩, ⟨b1, c1⟩, ⟨b2, c2⟩, ⟨b3, c3⟩, ⟨b4, c4⟩, ⟨b5, c5⟩⟩ := Lf_f hf hx
  obtain ⟨d0, d1, d2, ⟨e0, g0⟩, ⟨e1, g1⟩, ⟨e2, g2⟩, ⟨e3, g3⟩, ⟨e4, g4⟩, ⟨e5, g5⟩⟩ := Lf_f f1 hx
  have h10' : ∀ k, j_I H1 (j_pa (.ref 10)) k = j_I H (j_pa (.ref 10)) k := h10
  rw [b213_871 (H := H) (x0 := .ref 10) (x1 := .ref 12) (x2 := .ref 81) (x3 := x3) a0 a2 b1 c1 b2 c2, h1, j_ks, b213_885 (H := H1) (x0 := .ref 10) (x1 := .ref 12) (x2 := .ref 81) (x3 := x3) d1 d2 e1 g1 e2 g2]
  simp only [h10']
  rw [h2, j_ks, b213_899, if_pos rfl]
  exact hQ H2 hI2 f2 hg
theorem o_904 {H : j_H} {L : Nat} {x3 : Int32} {Q : Option Value → j_H → Prop} (hI : j_In (j_co H)) (hf : j_Lf H L) (hx : 0 ≤ x3.toInt ∧ x3.toInt + 6 ≤ (L : Int) ∧ L ≤ 3072) (hQ : ∀ H2, j_In (j_co H2) → j_Lf H2 L → j_gr H H2 → j_wp (99 + 1) 213 1265 [.ref 10, .ref 12, .ref 81, .int x3] [] H2 Q) : j_wp (99 + 1) 213 904 [.ref 10, .ref 12, .ref 81, .int x3] [] H Q := by
  have hp : j_pair 90 [.ref 12] 181 [.ref 81, j_u] H := L_image hI
  obtain ⟨v, H1, H2, h1, h2, hI2, hg, ⟨y, rfl⟩, hg1, h10⟩ := hp
  have f1 := Lf_gr hf hI hg1
  have f2 := Lf_gr hf hI hg
  obtain ⟨a0, a1, a2, ⟨b0, c0⟩, ⟨b1, c1⟩, ⟨b2, c2⟩, ⟨b3, c3⟩, ⟨b4, c4⟩, ⟨b5, c5⟩⟩ := Lf_f hf hx
  obtain ⟨d0, d1, d2, ⟨e0, g0⟩, ⟨e1, g1⟩, ⟨e2, g2⟩, ⟨e3, g3⟩, ⟨e4, g4⟩, ⟨e5, g5⟩⟩ := Lf_f f1 hx
  have h10' : ∀ k, j_I H1 (j_pa (.ref 10)) k = j_I H (j_pa (.ref 10)) k := h10
  rw [b213_904 (H := H) (x0 := .ref 10) (x1 := .ref 12) (x2 := .ref 81) (x3 := x3) a0, h1, j_ks, b213_908 (H := H1) (x0 := .ref 10) (x1 := .ref 12) (x2 := .ref 81) (x3 := x3) d1]
  rw [h2, j_ks, b213_912, if_pos rfl]
  exact hQ H2 hI2 f2 hg
theorem o_917 {H : j_H} {L : Nat} {x3 : Int32} {Q : Option Value → j_H → Prop} (hI : j_In (j_co H)) (hf : j_Lf H L) (hx : 0 ≤ x3.toInt ∧ x3.toInt + 6 ≤ (L : Int) ∧ L ≤ 3072) (hQ : ∀ H2, j_In (j_co H2) → j_Lf H2 L → j_gr H H2 → j_wp (99 + 1) 213 1265 [.ref 10, .ref 12, .ref 81, .int x3] [] H2 Q) : j_wp (99 + 1) 213 917 [.ref 10, .ref 12, .ref 81, .int x3] [] H Q := by
  have hp : j_pair 91 [.ref 12] 182 [.ref 81, j_u] H := L_undo hI
  obtain ⟨v, H1, H2, h1, h2, hI2, hg, ⟨y, rfl⟩, hg1, h10⟩ := hp
  have f1 := Lf_gr hf hI hg1
  have f2 := Lf_gr hf hI hg
  obtain ⟨a0, a1, a2, ⟨b0, c0⟩, ⟨b1, c1⟩, ⟨b2, c2⟩, ⟨b3, c3⟩, ⟨b4, c4⟩, ⟨b5, c5⟩⟩ := Lf_f hf hx
  obtain ⟨d0, d1, d2, ⟨e0, g0⟩, ⟨e1, g1⟩, ⟨e2, g2⟩, ⟨e3, g3⟩, ⟨e4, g4⟩, ⟨e5, g5⟩⟩ := Lf_f f1 hx
  have h10' : ∀ k, j_I H1 (j_pa (.ref 10)) k = j_I H (j_pa (.ref 10)) k := h10
  rw [b213_917 (H := H) (x0 := .ref 10) (x1 := .ref 12) (x2 := .ref 81) (x3 := x3) a0, h1, j_ks, b213_921 (H := H1) (x0 := .ref 10) (x1 := .ref 12) (x2 := .ref 81) (x3 := x3) d1]
  rw [h2, j_ks, b213_925, if_pos rfl]
  exact hQ H2 hI2 f2 hg
theorem o_930 {H : j_H} {L : Nat} {x3 : Int32} {Q : Option Value → j_H → Prop} (hI : j_In (j_co H)) (hf : j_Lf H L) (hx : 0 ≤ x3.toInt ∧ x3.toInt + 6 ≤ (L : Int) ∧ L ≤ 3072) (hQ : ∀ H2, j_In (j_co H2) → j_Lf H2 L → j_gr H H2 → j_wp (99 + 1) 213 1265 [.ref 10, .ref 12, .ref 81, .int x3] [] H2 Q) : j_wp (99 + 1) 213 930 [.ref 10, .ref 12, .ref 81, .int x3] [] H Q := by
  have hp : j_pair 92 [.ref 12, .int (j_I H (j_pa (.ref 10)) (j_ix (x3 + (Int32.ofInt 1)))), .int (j_I H (j_pa (.ref 10)) (j_ix (x3 + (Int32.ofInt 2)))), .int (j_I H (j_pa (.ref 10)) (j_ix (x3 + (Int32.ofInt 3)))), j_u] 191 [.ref 81, .int (j_I H (j_pa (.ref 10)) (j_ix (x3 + (Int32.ofInt 1)))), .int (j_I H (j_pa (.ref 10)) (j_ix (x3 + (Int32.ofInt 2)))), .int (j_I H (j_pa (.ref 10)) (j_ix (x3 + (Int32.ofInt 3))))] H := L_act hI
  obtain ⟨v, H1, H2, h1, h2, hI2, hg, ⟨y, rfl⟩, hg1, h10⟩ := hp
  have f1 := Lf_gr hf hI hg1
  have f2 := Lf_gr hf hI hg
  obtain ⟨a0, a1, a2, ⟨b0, c0⟩, ⟨b1, c1⟩, ⟨b2, c2⟩, ⟨b3, c3⟩, ⟨b4, c4⟩, ⟨b5, c5⟩⟩ := Lf_f hf hx
  obtain ⟨d0, d1, d2, ⟨e0, g0⟩, ⟨e1, g1⟩, ⟨e2, g2⟩, ⟨e3, g3⟩, ⟨e4, g4⟩, ⟨e5, g5⟩⟩ := Lf_f f1 hx
  have h10' : ∀ k, j_I H1 (j_pa (.ref 10)) k = j_I H (j_pa (.ref 10)) k := h10
  rw [b213_930 (H := H) (x0 := .ref 10) (x1 := .ref 12) (x2 := .ref 81) (x3 := x3) a0 a2 b1 c1 b2 c2 b3 c3, h1, j_ks, b213_949 (H := H1) (x0 := .ref 10) (x1 := .ref 12) (x2 := .ref 81) (x3 := x3) d1 d2 e1 g1 e2 g2 e3 g3]
  simp only [h10']
  rw [h2, j_ks, b213_968, if_pos rfl]
  exact hQ H2 hI2 f2 hg
theorem o_973 {H : j_H} {L : Nat} {x3 : Int32} {Q : Option Value → j_H → Prop} (hI : j_In (j_co H)) (hf : j_Lf H L) (hx : 0 ≤ x3.toInt ∧ x3.toInt + 6 ≤ (L : Int) ∧ L ≤ 3072) (hQ : ∀ H2, j_In (j_co H2) → j_Lf H2 L → j_gr H H2 → j_wp (99 + 1) 213 1265 [.ref 10, .ref 12, .ref 81, .int x3] [] H2 Q) : j_wp (99 + 1) 213 973 [.ref 10, .ref 12, .ref 81, .int x3] [] H Q := by
  have hp : j_pair 93 [.ref 12, .int (j_I H (j_pa (.ref 10)) (j_ix (x3 + (Int32.ofInt 1))))] 192 [.ref 81, .int (j_I H (j_pa (.ref 10)) (j_ix (x3 + (Int32.ofInt 1))))] H := L_trace hI
  obtain ⟨v, H1, H2, h1, h2, hI2, hg, ⟨y, rfl⟩, hg1, h10⟩ := hp
  have f1 := Lf_gr hf hI hg1
  have f2 := Lf_gr hf hI hg
  obtain ⟨a0, a1, a2, ⟨b0, c0⟩, ⟨b1, c1⟩, ⟨b2, c2⟩, ⟨b3, c3⟩, ⟨b4, c4⟩, ⟨b5, c5⟩⟩ := Lf_f hf hx
  obtain ⟨d0, d1, d2, ⟨e0, g0⟩, ⟨e1, g1⟩, ⟨e2, g2⟩, ⟨e3, g3⟩, ⟨e4, g4⟩, ⟨e5, g5⟩⟩ := Lf_f f1 hx
  have h10' : ∀ k, j_I H1 (j_pa (.ref 10)) k = j_I H (j_pa (.ref 10)) k := h10
  rw [b213_973 (H := H) (x0 := .ref 10) (x1 := .ref 12) (x2 := .ref 81) (x3 := x3) a0 a2 b1 c1, h1, j_ks, b213_982 (H := H1) (x0 := .ref 10) (x1 := .ref 12) (x2 := .ref 81) (x3 := x3) d1 d2 e1 g1]
  simp only [h10']
  rw [h2, j_ks, b213_991, if_pos rfl]
  exact hQ H2 hI2 f2 hg
theorem o_996 {H : j_H} {L : Nat} {x3 : Int32} {Q : Option Value → j_H → Prop} (hI : j_In (j_co H)) (hf : j_Lf H L) (hx : 0 ≤ x3.toInt ∧ x3.toInt + 6 ≤ (L : Int) ∧ L ≤ 3072) (hQ : ∀ H2, j_In (j_co H2) → j_Lf H2 L → j_gr H H2 → j_wp (99 + 1) 213 1265 [.ref 10, .ref 12, .ref 81, .int x3] [] H2 Q) : j_wp (99 + 1) 213 996 [.ref 10, .ref 12, .ref 81, .int x3] [] H Q := by
  have hp : j_pair 94 [.ref 12, .int (j_I H (j_pa (.ref 10)) (j_ix (x3 + (Int32.ofInt 1)))), .int (j_I H (j_pa (.ref 10)) (j_ix (x3 + (Int32.ofInt 2)))), j_u] 193 [.ref 81, .int (j_I H (j_pa (.ref 10)) (j_ix (x3 + (Int32.ofInt 1)))), .int (j_I H (j_pa (.ref 10)) (j_ix (x3 + (Int32.ofInt 2)))), j_u] H := L_taken hI
  obtain ⟨v, H1, H2, h1, h2, hI2, hg, ⟨y, rfl⟩, hg1, h10⟩ := hp
  have f1 := Lf_gr hf hI hg1
  have f2 := Lf_gr hf hI hg
  obtain ⟨a0, a1, a2, ⟨b0, c0⟩, ⟨b1, c1⟩, ⟨b2, c2⟩, ⟨b3, c3⟩, ⟨b4, c4⟩, ⟨b5, c5⟩⟩ := Lf_f hf hx
  obtain ⟨d0, d1, d2, ⟨e0, g0⟩, ⟨e1, g1⟩, ⟨e2, g2⟩, ⟨e3, g3⟩, ⟨e4, g4⟩, ⟨e5, g5⟩⟩ := Lf_f f1 hx
  have h10' : ∀ k, j_I H1 (j_pa (.ref 10)) k = j_I H (j_pa (.ref 10)) k := h10
  rw [b213_996 (H := H) (x0 := .ref 10) (x1 := .ref 12) (x2 := .ref 81) (x3 := x3) a0 a2 b1 c1 b2 c2, h1, j_ks, b213_1010 (H := H1) (x0 := .ref 10) (x1 := .ref 12) (x2 := .ref 81) (x3 := x3) d1 d2 e1 g1 e2 g2]
  simp only [h10']
  rw [h2, j_ks, b213_1024, if_pos rfl]
  exact hQ H2 hI2 f2 hg
theorem o_1029 {H : j_H} {L : Nat} {x3 : Int32} {Q : Option Value → j_H → Prop} (hI : j_In (j_co H)) (hf : j_Lf H L) (hx : 0 ≤ x3.toInt ∧ x3.toInt + 6 ≤ (L : Int) ∧ L ≤ 3072) (hQ : ∀ H2, j_In (j_co H2) → j_Lf H2 L → j_gr H H2 → j_wp (99 + 1) 213 1265 [.ref 10, .ref 12, .ref 81, .int x3] [] H2 Q) : j_wp (99 + 1) 213 1029 [.ref 10, .ref 12, .ref 81, .int x3] [] H Q := by
  have hp : j_pair 95 [.ref 12, .int (j_I H (j_pa (.ref 10)) (j_ix (x3 + (Int32.ofInt 1))))] 194 [.ref 81, .int (j_I H (j_pa (.ref 10)) (j_ix (x3 + (Int32.ofInt 1))))] H := L_count hI
  obtain ⟨v, H1, H2, h1, h2, hI2, hg, ⟨y, rfl⟩, hg1, h10⟩ := hp
  have f1 := Lf_gr hf hI hg1
  have f2 := Lf_gr hf hI hg
  obtain ⟨a0, a1, a2, ⟨b0, c0⟩, ⟨b1, c1⟩, ⟨b2, c2⟩, ⟨b3, c3⟩, ⟨b4, c4⟩, ⟨b5, c5⟩⟩ := Lf_f hf hx
  obtain ⟨d0, d1, d2, ⟨e0, g0⟩, ⟨e1, g1⟩, ⟨e2, g2⟩, ⟨e3, g3⟩, ⟨e4, g4⟩, ⟨e5, g5⟩⟩ := Lf_f f1 hx
  have h10' : ∀ k, j_I H1 (j_pa (.ref 10)) k = j_I H (j_pa (.ref 10)) k := h10
  rw [b213_1029 (H := H) (x0 := .ref 10) (x1 := .ref 12) (x2 := .ref 81) (x3 := x3) a0 a2 b1 c1, h1, j_ks, b213_1038 (H := H1) (x0 := .ref 10) (x1 := .ref 12) (x2 := .ref 81) (x3 := x3) d1 d2 e1 g1]
  simp only [h10']
  rw [h2, j_ks, b213_1047, if_pos rfl]
  exact hQ H2 hI2 f2 hg
theorem o_1052 {H : j_H} {L : Nat} {x3 : Int32} {Q : Option Value → j_H → Prop} (hI : j_In (j_co H)) (hf : j_Lf H L) (hx : 0 ≤ x3.toInt ∧ x3.toInt + 6 ≤ (L : Int) ∧ L ≤ 3072) (hQ : ∀ H2, j_In (j_co H2) → j_Lf H2 L → j_gr H H2 → j_wp (99 + 1) 213 1265 [.ref 10, .ref 12, .ref 81, .int x3] [] H2 Q) : j_wp (99 + 1) 213 1052 [.ref 10, .ref 12, .ref 81, .int x3] [] H Q := by
  have hp : j_pair 96 [.ref 12, .int (j_I H (j_pa (.ref 10)) (j_ix (x3 + (Int32.ofInt 1)))), .int (j_I H (j_pa (.ref 10)) (j_ix (x3 + (Int32.ofInt 2)))), .int (j_I H (j_pa (.ref 10)) (j_ix (x3 + (Int32.ofInt 3)))), j_u] 196 [.ref 81, .int (j_I H (j_pa (.ref 10)) (j_ix (x3 + (Int32.ofInt 1)))), .int (j_I H (j_pa (.ref 10)) (j_ix (x3 + (Int32.ofInt 2)))), .int (j_I H (j_pa (.ref 10)) (j_ix (x3 + (Int32.ofInt 3)))), j_u] H := L_tape hI
  obtain ⟨v, H1, H2, h1, h2, hI2, hg, ⟨y, rfl⟩, hg1, h10⟩ := hp
  have f1 := Lf_gr hf hI hg1
  have f2 := Lf_gr hf hI hg
  obtain ⟨a0, a1, a2, ⟨b0, c0⟩, ⟨b1, c1⟩, ⟨b2, c2⟩, ⟨b3, c3⟩, ⟨b4, c4⟩, ⟨b5, c5⟩⟩ := Lf_f hf hx
  obtain ⟨d0, d1, d2, ⟨e0, g0⟩, ⟨e1, g1⟩, ⟨e2, g2⟩, ⟨e3, g3⟩, ⟨e4, g4⟩, ⟨e5, g5⟩⟩ := Lf_f f1 hx
  have h10' : ∀ k, j_I H1 (j_pa (.ref 10)) k = j_I H (j_pa (.ref 10)) k := h10
  rw [b213_1052 (H := H) (x0 := .ref 10) (x1 := .ref 12) (x2 := .ref 81) (x3 := x3) a0 a2 b1 c1 b2 c2 b3 c3, h1, j_ks, b213_1071 (H := H1) (x0 := .ref 10) (x1 := .ref 12) (x2 := .ref 81) (x3 := x3) d1 d2 e1 g1 e2 g2 e3 g3]
  simp only [h10']
  rw [h2, j_ks, b213_1090, if_pos rfl]
  exact hQ H2 hI2 f2 hg
theorem o_1095 {H : j_H} {L : Nat} {x3 : Int32} {Q : Option Value → j_H → Prop} (hI : j_In (j_co H)) (hf : j_Lf H L) (hx : 0 ≤ x3.toInt ∧ x3.toInt + 6 ≤ (L : Int) ∧ L ≤ 3072) (hQ : ∀ H2, j_In (j_co H2) → j_Lf H2 L → j_gr H H2 → j_wp (99 + 1) 213 1265 [.ref 10, .ref 12, .ref 81, .int x3] [] H2 Q) : j_wp (99 + 1) 213 1095 [.ref 10, .ref 12, .ref 81, .int x3] [] H Q := by
  have hp : j_pair 97 [.ref 12, .int (j_I H (j_pa (.ref 10)) (j_ix (x3 + (Int32.ofInt 1)))), .int (j_I H (j_pa (.ref 10)) (j_ix (x3 + (Int32.ofInt 2)))), .long ((j_lshl ((j_I H (j_pa (.ref 10)) (j_ix (x3 + (Int32.ofInt 3)))).toInt64) (Int32.ofInt 32)) ||| (((j_I H (j_pa (.ref 10)) (j_ix (x3 + (Int32.ofInt 4)))).toInt64) &&& (Int64.ofInt 4294967295))), j_u, j_u] 198 [.ref 81, .int (j_I H (j_pa (.ref 10)) (j_ix (x3 + (Int32.ofInt 1)))), .int (j_I H (j_pa (.ref 10)) (j_ix (x3 + (Int32.ofInt 2)))), .long ((j_lshl ((j_I H (j_pa (.ref 10)) (j_ix (x3 + (Int32.ofInt 3)))).toInt64) (Int32.ofInt 32)) ||| (((j_I H (j_pa (.ref 10)) (j_ix (x3 + (Int32.ofInt 4)))).toInt64) &&& (Int64.ofInt 4294967295))), j_u] H := L_item hI
  obtain ⟨v, H1, H2, h1, h2, hI2, hg, ⟨y, rfl⟩, hg1, h10⟩ := hp
  have f1 := Lf_gr hf hI hg1
  have f2 := Lf_gr hf hI hg
  obtain ⟨a0, a1, a2, ⟨b0, c0⟩, ⟨b1, c1⟩, ⟨b2, c2⟩, ⟨b3, c3⟩, ⟨b4, c4⟩, ⟨b5, c5⟩⟩ := Lf_f hf hx
  obtain ⟨d0, d1, d2, ⟨e0, g0⟩, ⟨e1, g1⟩, ⟨e2, g2⟩, ⟨e3, g3⟩, ⟨e4, g4⟩, ⟨e5, g5⟩⟩ := Lf_f f1 hx
  have h10' : ∀ k, j_I H1 (j_pa (.ref 10)) k = j_I H (j_pa (.ref 10)) k := h10
  rw [b213_1095 (H := H) (x0 := .ref 10) (x1 := .ref 12) (x2 := .ref 81) (x3 := x3) a0 a2 b1 c1 b2 c2 b3 c3 b4 c4, h1, j_ks, b213_1129 (H := H1) (x0 := .ref 10) (x1 := .ref 12) (x2 := .ref 81) (x3 := x3) d1 d2 e1 g1 e2 g2 e3 g3 e4 g4]
  simp only [h10']
  rw [h2, j_ks, b213_1163, if_pos rfl]
  exact hQ H2 hI2 f2 hg
theorem o_1168 {H : j_H} {L : Nat} {x3 : Int32} {Q : Option Value → j_H → Prop} (hI : j_In (j_co H)) (hf : j_Lf H L) (hx : 0 ≤ x3.toInt ∧ x3.toInt + 6 ≤ (L : Int) ∧ L ≤ 3072) (hQ : ∀ H2, j_In (j_co H2) → j_Lf H2 L → j_gr H H2 → j_wp (99 + 1) 213 1265 [.ref 10, .ref 12, .ref 81, .int x3] [] H2 Q) : j_wp (99 + 1) 213 1168 [.ref 10, .ref 12, .ref 81, .int x3] [] H Q := by
  have hp : j_pairL 98 [.ref 12, .int (j_I H (j_pa (.ref 10)) (j_ix (x3 + (Int32.ofInt 1)))), .int (j_I H (j_pa (.ref 10)) (j_ix (x3 + (Int32.ofInt 2)))), j_u] 199 [.ref 81, .int (j_I H (j_pa (.ref 10)) (j_ix (x3 + (Int32.ofInt 1)))), .int (j_I H (j_pa (.ref 10)) (j_ix (x3 + (Int32.ofInt 2))))] H := L_read hI
  obtain ⟨v, H1, H2, h1, h2, hI2, hg, ⟨y, rfl⟩, hg1, h10⟩ := hp
  have f1 := Lf_gr hf hI hg1
  have f2 := Lf_gr hf hI hg
  obtain ⟨a0, a1, a2, ⟨b0, c0⟩, ⟨b1, c1⟩, ⟨b2, c2⟩, ⟨b3, c3⟩, ⟨b4, c4⟩, ⟨b5, c5⟩⟩ := Lf_f hf hx
  obtain ⟨d0, d1, d2, ⟨e0, g0⟩, ⟨e1, g1⟩, ⟨e2, g2⟩, ⟨e3, g3⟩, ⟨e4, g4⟩, ⟨e5, g5⟩⟩ := Lf_f f1 hx
  have h10' : ∀ k, j_I H1 (j_pa (.ref 10)) k = j_I H (j_pa (.ref 10)) k := h10
  rw [b213_1168 (H := H) (x0 := .ref 10) (x1 := .ref 12) (x2 := .ref 81) (x3 := x3) a0 a2 b1 c1 b2 c2, h1, j_ks, b213_1182 (H := H1) (x0 := .ref 10) (x1 := .ref 12) (x2 := .ref 81) (x3 := x3) d1 d2 e1 g1 e2 g2]
  simp only [h10']
  rw [h2, j_ks, b213_1196, if_pos (by rw [t_cmp0])]
  exact hQ H2 hI2 f2 hg
theorem o_1202 {H : j_H} {L : Nat} {x3 : Int32} {Q : Option Value → j_H → Prop} (hI : j_In (j_co H)) (hf : j_Lf H L) (hx : 0 ≤ x3.toInt ∧ x3.toInt + 6 ≤ (L : Int) ∧ L ≤ 3072) (hQ : ∀ H2, j_In (j_co H2) → j_Lf H2 L → j_gr H H2 → j_wp (99 + 1) 213 1265 [.ref 10, .ref 12, .ref 81, .int x3] [] H2 Q) : j_wp (99 + 1) 213 1202 [.ref 10, .ref 12, .ref 81, .int x3] [] H Q := by
  have hp : j_pair 99 [.ref 12, .int (j_I H (j_pa (.ref 10)) (j_ix (x3 + (Int32.ofInt 1)))), .int (j_I H (j_pa (.ref 10)) (j_ix (x3 + (Int32.ofInt 2)))), .int (j_I H (j_pa (.ref 10)) (j_ix (x3 + (Int32.ofInt 3)))), .int (j_I H (j_pa (.ref 10)) (j_ix (x3 + (Int32.ofInt 4)))), .int (j_I H (j_pa (.ref 10)) (j_ix (x3 + (Int32.ofInt 5)))), j_u, j_u] 200 [.ref 81, .int (j_I H (j_pa (.ref 10)) (j_ix (x3 + (Int32.ofInt 1)))), .int (j_I H (j_pa (.ref 10)) (j_ix (x3 + (Int32.ofInt 2)))), .int (j_I H (j_pa (.ref 10)) (j_ix (x3 + (Int32.ofInt 3)))), .int (j_I H (j_pa (.ref 10)) (j_ix (x3 + (Int32.ofInt 4)))), .int (j_I H (j_pa (.ref 10)) (j_ix (x3 + (Int32.ofInt 5)))), j_u] H := L_shift hI
  obtain ⟨v, H1, H2, h1, h2, hI2, hg, ⟨y, rfl⟩, hg1, h10⟩ := hp
  have f1 := Lf_gr hf hI hg1
  have f2 := Lf_gr hf hI hg
  obtain ⟨a0, a1, a2, ⟨b0, c0⟩, ⟨b1, c1⟩, ⟨b2, c2⟩, ⟨b3, c3⟩, ⟨b4, c4⟩, ⟨b5, c5⟩⟩ := Lf_f hf hx
  obtain ⟨d0, d1, d2, ⟨e0, g0⟩, ⟨e1, g1⟩, ⟨e2, g2⟩, ⟨e3, g3⟩, ⟨e4, g4⟩, ⟨e5, g5⟩⟩ := Lf_f f1 hx
  have h10' : ∀ k, j_I H1 (j_pa (.ref 10)) k = j_I H (j_pa (.ref 10)) k := h10
  rw [b213_1202 (H := H) (x0 := .ref 10) (x1 := .ref 12) (x2 := .ref 81) (x3 := x3) a0 a2 b1 c1 b2 c2 b3 c3 b4 c4 b5 c5, h1, j_ks, b213_1231 (H := H1) (x0 := .ref 10) (x1 := .ref 12) (x2 := .ref 81) (x3 := x3) d1 d2 e1 g1 e2 g2 e3 g3 e4 g4 e5 g5]
  simp only [h10']
  rw [h2, j_ks, b213_1260, if_pos rfl]
  exact hQ H2 hI2 f2 hg
theorem o_27 (hh : ∀ H, j_In (j_co H) → j_pair 72 [.ref 12, j_u, j_u] 144 [.ref 81, j_u] H) {H : j_H} {L : Nat} {x3 : Int32} {Q : Option Value → j_H → Prop} (hI : j_In (j_co H)) (hf : j_Lf H L) (hx : 0 ≤ x3.toInt ∧ x3.toInt + 6 ≤ (L : Int) ∧ L ≤ 3072) (hQ : ∀ H2, j_In (j_co H2) → j_Lf H2 L → j_gr H H2 → j_wp (99 + 1) 213 1265 [.ref 10, .ref 12, .ref 81, .int x3] [] H2 Q) : j_wp (99 + 1) 213 27 [.ref 10, .ref 12, .ref 81, .int x3] [] H Q := by
  obtain ⟨a0, a1, a2, ⟨b0, c0⟩, -⟩ := Lf_f hf hx
  rw [b213_27 (H := H) (x0 := .ref 10) (x1 := .ref 12) (x2 := .ref 81) (x3 := x3) a2 b0 c0]
  obtain ⟨w, hw⟩ : ∃ w, (j_I H (j_pa (.ref 10)) (j_ix x3) &&& Int32.ofInt 63).toInt = w := ⟨_, rfl⟩
  rw [hw]
  by_cases z0 : w = 0
  · rw [if_pos z0]
    exact o_184 hI hf hx hQ
  rw [if_neg z0]
  by_cases z1 : w = 1
  · rw [if_pos z1]
    exact o_227 hI hf hx hQ
  rw [if_neg z1]
  by_cases z2 : w = 2
  · rw [if_pos z2]
    exact o_260 hI hf hx hQ
  rw [if_neg z2]
  by_cases z3 : w = 3
  · rw [if_pos z3]
    exact o_309 hI hf hx hQ
  rw [if_neg z3]
  by_cases z4 : w = 4
  · rw [if_pos z4]
    exact o_332 hI hf hx hQ
  rw [if_neg z4]
  by_cases z5 : w = 5
  · rw [if_pos z5]
    exact o_375 hI hf hx hQ
  rw [if_neg z5]
  by_cases z6 : w = 6
  · rw [if_pos z6]
    exact o_398 hh hI hf hx hQ
  rw [if_neg z6]
  by_cases z7 : w = 7
  · rw [if_pos z7]
    exact o_411 hI hf hx hQ
  rw [if_neg z7]
  by_cases z8 : w = 8
  · rw [if_pos z8]
    exact o_434 hI hf hx hQ
  rw [if_neg z8]
  by_cases z9 : w = 9
  · rw [if_pos z9]
    exact o_447 hI hf hx hQ
  rw [if_neg z9]
  by_cases z10 : w = 10
  · rw [if_pos z10]
    exact o_480 hI hf hx hQ
  rw [if_neg z10]
  by_cases z11 : w = 11
  · rw [if_pos z11]
    exact o_503 hI hf hx hQ
  rw [if_neg z11]
  by_cases z12 : w = 12
  · rw [if_pos z12]
    exact o_536 hI hf hx hQ
  rw [if_neg z12]
  by_cases z13 : w = 13
  · rw [if_pos z13]
    exact o_569 hI hf hx hQ
  rw [if_neg z13]
  by_cases z14 : w = 14
  · rw [if_pos z14]
    exact o_592 hI hf hx hQ
  rw [if_neg z14]
  by_cases z15 : w = 15
  · rw [if_pos z15]
    exact o_615 hI hf hx hQ
  rw [if_neg z15]
  by_cases z16 : w = 16
  · rw [if_pos z16]
    exact o_648 hI hf hx hQ
  rw [if_neg z16]
  by_cases z17 : w = 17
  · rw [if_pos z17]
    exact o_691 hI hf hx hQ
  rw [if_neg z17]
  by_cases z18 : w = 18
  · rw [if_pos z18]
    exact o_734 hI hf hx hQ
  rw [if_neg z18]
  by_cases z19 : w = 19
  · rw [if_pos z19]
    exact o_757 hI hf hx hQ
  rw [if_neg z19]
  by_cases z20 : w = 20
  · rw [if_pos z20]
    exact o_801 hI hf hx hQ
  rw [if_neg z20]
  by_cases z21 : w = 21
  · rw [if_pos z21]
    exact o_835 hI hf hx hQ
  rw [if_neg z21]
  by_cases z22 : w = 22
  · rw [if_pos z22]
    exact o_858 hI hf hx hQ
  rw [if_neg z22]
  by_cases z23 : w = 23
  · rw [if_pos z23]
    exact o_871 hI hf hx hQ
  rw [if_neg z23]
  by_cases z24 : w = 24
  · rw [if_pos z24]
    exact o_904 hI hf hx hQ
  rw [if_neg z24]
  by_cases z25 : w = 25
  · rw [if_pos z25]
    exact o_917 hI hf hx hQ
  rw [if_neg z25]
  by_cases z26 : w = 26
  · rw [if_pos z26]
    exact o_930 hI hf hx hQ
  rw [if_neg z26]
  by_cases z27 : w = 27
  · rw [if_pos z27]
    exact o_973 hI hf hx hQ
  rw [if_neg z27]
  by_cases z28 : w = 28
  · rw [if_pos z28]
    exact o_996 hI hf hx hQ
  rw [if_neg z28]
  by_cases z29 : w = 29
  · rw [if_pos z29]
    exact o_1029 hI hf hx hQ
  rw [if_neg z29]
  by_cases z30 : w = 30
  · rw [if_pos z30]
    exact o_1052 hI hf hx hQ
  rw [if_neg z30]
  by_cases z31 : w = 31
  · rw [if_pos z31]
    exact o_1095 hI hf hx hQ
  rw [if_neg z31]
  by_cases z32 : w = 32
  · rw [if_pos z32]
    exact o_1168 hI hf hx hQ
  rw [if_neg z32]
  by_cases z33 : w = 33
  · rw [if_pos z33]
    exact o_1202 hI hf hx hQ
  rw [if_neg z33]
  exact hQ H hI hf (Or.inl rfl)
theorem law_loop {L : Nat} {Q : Option Value → j_H → Prop} (hh : ∀ H, j_In (j_co H) → j_pair 72 [.ref 12, j_u, j_u] 144 [.ref 81, j_u] H) (hL : L ≤ 3072) : ∀ (m : Nat) (x3 : Int32) (H : j_H), 0 ≤ x3.toInt → x3.toInt ≤ 3072 → (L : Int) - x3.toInt ≤ 6 * m → j_In (j_co H) → j_Lf H L → (∀ Hf l, Hf.1 = H.1 ++ l → l.length ≤ m → (∀ s ∈ l, ∃ c : Nat, c ≤ 9 ∧ s = .inl c) → Q (some (.int (Int32.ofInt 1))) Hf) → j_wp (99 + 1) 213 18 [.ref 10, .ref 12, .ref 81, .int x3] [] H Q
  | m, x3, H, h0, h1, hm, hI, hf, hQ => by
    have t8 : j_vt H (.ref 10) = 8 := hf.2.2.1
    have hl : j_vl H (.ref 10) = L := hf.2.2.2
    have hs : (Int32.ofInt (j_vl H (.ref 10) : Nat) - Int32.ofInt 6).toInt = (L : Int) - 6 := by rw [hl, t_subo, t_of (by omega) (by omega)]
    rw [b213_18 (H := H) (x0 := .ref 10) t8]
    by_cases h : (L : Int) - 6 < x3.toInt
    · rw [if_pos (by rw [hs]; exact h), b213_1271]
      exact hQ H [] (by rw [List.append_nil]) (by simp) (by intro s hs; cases hs)
    · rw [if_neg (by rw [hs]; exact h)]
      match m, hm, hQ with
      | 0, hm, hQ => exfalso; omega
      | m + 1, hm, hQ =>
        have e6 : (x3 + Int32.ofInt 6).toInt = x3.toInt + 6 := t_addc (by omega) (by omega) (by omega) (by omega)
        refine o_27 hh hI hf ⟨h0, by omega, hL⟩ (fun H2 hI2 hf2 hg => ?_)
        rw [b213_1265]
        refine law_loop hh hL m (x3 + Int32.ofInt 6) H2 (by omega) (by omega) (by omega) hI2 hf2 (fun Hf l hl2 hlen hall => ?_)
        rcases hg with hg | ⟨c, hc, hg⟩
        · exact hQ Hf l (by rw [hl2, hg]) (by omega) hall
        · refine hQ Hf (.inl c :: l) (by rw [hl2, hg, List.append_assoc]; rfl) (by rw [List.length_cons]; omega) (fun s hs => ?_)
          rcases List.mem_cons.mp hs with h | h
          · exact ⟨c, hc, h⟩
          · exact hall s h
