/-! THE LAW: one call of the script, both sides -/
def j_Lf (H : j_H) (L : Nat) : Prop := j_cls H 12 = 11 ∧ j_cls H 81 = 12 ∧ j_tp H 10 = 8 ∧ j_ln H 10 = L
theorem gr_all {H H1 : j_H} (h : j_gr H H1) {a : Nat} (ha : a < H.1.length) : j_sh H1 a = j_sh H a := by
  rcases h with h | ⟨c, -, h⟩
  · unfold j_sh; rw [h]
  · exact gr_sh h ha
theorem Lf_gr {H H1 : j_H} {L : Nat} (hf : j_Lf H L) (hI : j_In (j_co H)) (h : j_gr H H1) : j_Lf H1 L := by
  have hl : 115 ≤ H.1.length := hI.1.2.2
  obtain ⟨f1, f2, f3, f4⟩ := hf
  refine ⟨?_, ?_, ?_, ?_⟩
  · rw [← f1]; unfold j_cls; rw [gr_all h (by omega)]
  · rw [← f2]; unfold j_cls; rw [gr_all h (by omega)]
  · rw [← f3]; unfold j_tp; rw [gr_all h (by omega)]
  · rw [← f4]; unfold j_ln; rw [gr_all h (by omega)]
theorem Lf_f {H : j_H} {L : Nat} {x3 : Int32} (hf : j_Lf H L) (hx : 0 ≤ x3.toInt ∧ x3.toInt + 6 ≤ (L : Int) ∧ L ≤ 3072) : j_vc H (.ref 12) = 11 ∧ j_vc H (.ref 81) = 12 ∧ j_vt H (.ref 10) = 8 ∧ (0 ≤ x3.toInt ∧ x3.toInt < ((j_vl H (.ref 10) : Nat) : Int)) ∧ (0 ≤ (x3 + Int32.ofInt 1).toInt ∧ (x3 + Int32.ofInt 1).toInt < ((j_vl H (.ref 10) : Nat) : Int)) ∧ (0 ≤ (x3 + Int32.ofInt 2).toInt ∧ (x3 + Int32.ofInt 2).toInt < ((j_vl H (.ref 10) : Nat) : Int)) ∧ (0 ≤ (x3 + Int32.ofInt 3).toInt ∧ (x3 + Int32.ofInt 3).toInt < ((j_vl H (.ref 10) : Nat) : Int)) ∧ (0 ≤ (x3 + Int32.ofInt 4).toInt ∧ (x3 + Int32.ofInt 4).toInt < ((j_vl H (.ref 10) : Nat) : Int)) ∧ (0 ≤ (x3 + Int32.ofInt 5).toInt ∧ (x3 + Int32.ofInt 5).toInt < ((j_vl H (.ref 10) : Nat) : Int)) := by
  obtain ⟨f1, f2, f3, f4⟩ := hf
  obtain ⟨x0, x6, x7⟩ := hx
  have hl : j_vl H (.ref 10) = L := f4
  rw [hl, t_addc (by omega) (by omega) (by omega) (by omega), t_addc (by omega) (by omega) (by omega) (by omega), t_addc (by omega) (by omega) (by omega) (by omega), t_addc (by omega) (by omega) (by omega) (by omega), t_addc (by omega) (by omega) (by omega) (by omega)]
  exact ⟨f1, f2, f3, ⟨by omega, by omega⟩, ⟨by omega, by omega⟩, ⟨by omega, by omega⟩, ⟨by omega, by omega⟩, ⟨by omega, by omega⟩, ⟨by omega, by omega⟩⟩
theorem o_184 {H : j_H} {L : Nat} {x3 : Int32} {Q : Option Value → j_H → Prop} (hI : j_In (j_co H)) (hf : j_Lf H L) (hx : 0 ≤ x3.toInt ∧ x3.toInt + 6 ≤ (L : Int) ∧ L ≤ 3072) (hQ : ∀ H2, j_In (j_co H2) → j_Lf H2 L → j_gr H H2 → j_wp (99 + 1) 213 1265 [.ref 10, .ref 12, .ref 81, .int x3] [] H2 Q) : j_wp (99 + 1) 213 184 [.ref 10, .ref 12, .ref 81, .int x3] [] H Q := by
  have hp : j_pair 66 [.ref 12, .int (j_I H (j_pa (.ref 10)) (j_ix (x3 + (Int32.ofInt 1)))), .int (j_I H (j_pa (.ref 10)) (j_ix (x3 + (Int32.ofInt 2)))), .int (j_I H (j_pa (.ref 10)) (j_ix (x3 + (Int32.ofInt 3))))] 125 [.ref 81, .int (j_I H (j_pa (.ref 10)) (j_ix (x3 + (Int32.ofInt 1)))), .int (j_I H (j_pa (.ref 10)) (j_ix (x3 + (Int32.ofInt 2)))), .int (j_I H (j_pa (.ref 10)) (j_ix (x3 + (Int32.ofInt 3)))), j_u] H := L_guest hI
  obtain ⟨v, H1, H2, h1, h2, hI2, hg, ⟨y, rfl⟩, hg1, h10⟩ := hp
  have f1 := Lf_gr hf hI hg1
  have f2 := Lf_gr hf hI hg
  obtain ⟨a0, a1, a2, ⟨b0, c0⟩, ⟨b1, c1⟩, ⟨b2, c2⟩, ⟨b3, c3⟩, ⟨b4, c4⟩, ⟨b5, c5⟩⟩ := Lf_f hf hx
  obtain ⟨d0, d1, d2, ⟨e0, g0⟩, ⟨e1, g1⟩, ⟨e2, g2⟩, ⟨e3, g3⟩, ⟨e4, g4⟩, ⟨e5, g5⟩⟩ := Lf_f f1 hx
  have h10' : ∀ k, j_I H1 (j_pa (.ref 10)) k = j_I H (j_pa (.ref 10)) k := h10
  rw [b213_184 (H := H) (x0 := .ref 10) (x1 := .ref 12) (x2 := .ref 81) (x3 := x3) a0 a2 b1 c1 b2 c2 b3 c3, h1, j_ks, b213_203 (H := H1) (x0 := .ref 10) (x1 := .ref 12) (x2 := .ref 81) (x3 := x3) d1 d2 e1 g1 e2 g2 e3 g3]
  simp only [h10']
  rw [h2, j_ks, b213_222, if_pos rfl]
  exact hQ H2 hI2 f2 hg
theorem o_227 {H : j_H} {L : Nat} {x3 : Int32} {Q : Option Value → j_H → Prop} (hI : j_In (j_co H)) (hf : j_Lf H L) (hx : 0 ≤ x3.toInt ∧ x3.toInt + 6 ≤ (L : Int) ∧ L ≤ 3072) (hQ : ∀ H2, j_In (j_co H2) → j_Lf H2 L → j_gr H H2 → j_wp (99 + 1) 213 1265 [.ref 10, .ref 12, .ref 81, .int x3] [] H2 Q) : j_wp (99 + 1) 213 227 [.ref 10, .ref 12, .ref 81, .int x3] [] H Q := by
  have hp : j_pair 67 [.ref 12, .int (j_I H (j_pa (.ref 10)) (j_ix (x3 + (Int32.ofInt 1)))), .int (j_I H (j_pa (.ref 10)) (j_ix (x3 + (Int32.ofInt 2)))), j_u] 158 [.ref 81, .int (j_I H (j_pa (.ref 10)) (j_ix (x3 + (Int32.ofInt 1)))), .int (j_I H (j_pa (.ref 10)) (j_ix (x3 + (Int32.ofInt 2))))] H := L_of hI
  obtain ⟨v, H1, H2, h1, h2, hI2, hg, ⟨y, rfl⟩, hg1, h10⟩ := hp
  have f1 := Lf_gr hf hI hg1
  have f2 := Lf_gr hf hI hg
  obtain ⟨a0, a1, a2, ⟨b0, c0⟩, ⟨b1, c1⟩, ⟨b2, c2⟩, ⟨b3, c3⟩, ⟨b4, c4⟩, ⟨b5, c5⟩⟩ := Lf_f hf hx
  obtain ⟨d0, d1, d2, ⟨e0, g0⟩, ⟨e1, g1⟩, ⟨e2, g2⟩, ⟨e3, g3⟩, ⟨e4, g4⟩, ⟨e5, g5⟩⟩ := Lf_f f1 hx
  have h10' : ∀ k, j_I H1 (j_pa (.ref 10)) k = j_I H (j_pa (.ref 10)) k := h10
  rw [b213_227 (H := H) (x0 := .ref 10) (x1 := .ref 12) (x2 := .ref 81) (x3 := x3) a0 a2 b1 c1 b2 c2, h1, j_ks, b213_241 (H := H1) (x0 := .ref 10) (x1 := .ref 12) (x2 := .ref 81) (x3 := x3) d1 d2 e1 g1 e2 g2]
  simp only [h10']
  rw [h2, j_ks, b213_255, if_pos rfl]
  exact hQ H2 hI2 f2 hg
theorem o_260 {H : j_H} {L : Nat} {x3 : Int32} {Q : Option Value → j_H → Prop} (hI : j_In (j_co H)) (hf : j_Lf H L) (hx : 0 ≤ x3.toInt ∧ x3.toInt + 6 ≤ (L : Int) ∧ L ≤ 3072) (hQ : ∀ H2, j_In (j_co H2) → j_Lf H2 L → j_gr H H2 → j_wp (99 + 1) 213 1265 [.ref 10, .ref 12, .ref 81, .int x3] [] H2 Q) : j_wp (99 + 1) 213 260 [.ref 10, .ref 12, .ref 81, .int x3] [] H Q := by
  obtain ⟨w, hw⟩ : ∃ w, (if (j_I H (j_pa (.ref 10)) (j_ix (x3 + Int32.ofInt 2))).toInt = 0 then Int32.ofInt 0 else Int32.ofInt 1) = w := ⟨_, rfl⟩
  have hp : j_pair 68 [.ref 12, .int (j_I H (j_pa (.ref 10)) (j_ix (x3 + Int32.ofInt 1))), .int w, j_u] 126 [.ref 81, .int (j_I H (j_pa (.ref 10)) (j_ix (x3 + Int32.ofInt 1))), .int w, j_u] H := L_fact hI
  obtain ⟨v, H1, H2, h1, h2, hI2, hg, ⟨y, rfl⟩, hg1, h10⟩ := hp
  have f1 := Lf_gr hf hI hg1
  have f2 := Lf_gr hf hI hg
  obtain ⟨a0, a1, a2, ⟨b0, c0⟩, ⟨b1, c1⟩, ⟨b2, c2⟩, ⟨b3, c3⟩, ⟨b4, c4⟩, ⟨b5, c5⟩⟩ := Lf_f hf hx
  obtain ⟨d0, d1, d2, ⟨e0, g0⟩, ⟨e1, g1⟩, ⟨e2, g2⟩, ⟨e3, g3⟩, ⟨e4, g4⟩, ⟨e5, g5⟩⟩ := Lf_f f1 hx
  have h10' : ∀ k, j_I H1 (j_pa (.ref 10)) k = j_I H (j_pa (.ref 10)) k := h10
  have r := hQ H2 hI2 f2 hg
  by_cases z : (j_I H (j_pa (.ref 10)) (j_ix (x3 + Int32.ofInt 2))).toInt = 0
  · rw [if_pos z] at hw
    subst hw
    rw [b213_260 (H := H) (x0 := .ref 10) (x1 := .ref 12) (x2 := .ref 81) (x3 := x3) rfl a2 b1 c1 b2 c2, if_pos z, b213_278, b213_279 (b := 99) (y2 := .ref 12) a0, h1, j_ks, b213_282 (H := H1) (x0 := .ref 10) (x1 := .ref 12) (x2 := .ref 81) (x3 := x3) rfl d2 e1 g1 e2 g2, h10', h10', if_pos z, b213_300, b213_301 (b := 99) (y2 := .ref 81) d1, h2, j_ks, b213_304, if_pos rfl]
    exact r
  · rw [if_neg z] at hw
    subst hw
    rw [b213_260 (H := H) (x0 := .ref 10) (x1 := .ref 12) (x2 := .ref 81) (x3 := x3) rfl a2 b1 c1 b2 c2, if_neg z, b213_274, b213_279 (b := 99) (y2 := .ref 12) a0, h1, j_ks, b213_282 (H := H1) (x0 := .ref 10) (x1 := .ref 12) (x2 := .ref 81) (x3 := x3) rfl d2 e1 g1 e2 g2, h10', h10', if_neg z, b213_296, b213_301 (b := 99) (y2 := .ref 81) d1, h2, j_ks, b213_304, if_pos rfl]
    exact r
