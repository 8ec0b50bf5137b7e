/-! NUMBERS -/
theorem t_bi (x : Int32) : x.toInt = x.toBitVec.toInt := rfl
theorem t_msb (x : BitVec 32) : (0 ≤ x.toInt) = (x.msb = false) := by
  rw [BitVec.toInt_eq_msb_cond]
  have h := x.isLt
  cases hm : x.msb with
  | false => simp
  | true => simp; omega
theorem t_xor0 {x y : Int32} (h : 0 ≤ y.toInt) : (0 ≤ (x ^^^ y).toInt) = (0 ≤ x.toInt) := by
  rw [t_bi, t_bi, Int32.toBitVec_xor, t_msb, t_msb, BitVec.msb_xor]
  rw [t_bi, t_msb] at h
  rw [h]; simp
theorem t_rem {x y : Int32} (hx : -2147483648 < x.toInt) (hy : ¬ y.toInt = 0) : (j_rem x y).toInt = x.toInt.tmod y.toInt := by
  have hx2 := t_hi x
  have h1 : (x / y).toInt = x.toInt.tdiv y.toInt := by
    rw [Int32.toInt_div]
    have := Int.natAbs_tdiv_le_natAbs x.toInt y.toInt
    exact Int.bmod_eq_of_le (by omega) (by omega)
  have h2 := Int.tmod_add_mul_tdiv x.toInt y.toInt
  have h3 : (x / y).toInt * y.toInt = x.toInt - x.toInt.tmod y.toInt := by rw [h1, Int.mul_comm]; omega
  have h4 : (x.toInt.tmod y.toInt).natAbs ≤ x.toInt.natAbs := by
    rw [Int.natAbs_tmod]; exact Nat.mod_le _ _
  have h5 : 0 ≤ x.toInt → 0 ≤ x.toInt.tmod y.toInt := fun h => Int.tmod_nonneg _ h
  have h6 : x.toInt ≤ 0 → x.toInt.tmod y.toInt ≤ 0 := fun h => by
    have := Int.tmod_nonneg y.toInt (show 0 ≤ -x.toInt by omega)
    rw [Int.neg_tmod] at this
    omega
  unfold j_rem
  have h7 : (x / y * y).toInt = x.toInt - x.toInt.tmod y.toInt := by
    rw [← h3]
    exact t_mul (by omega) (by omega)
  rw [t_sub (by omega) (by omega), h7]
  omega
theorem t_remn {x y : Int32} (hx : 0 ≤ x.toInt) (hy : 0 < y.toInt) : (j_rem x y).toInt = x.toInt % y.toInt := by
  rw [t_rem (by omega) (by omega), Int.tmod_eq_emod_of_nonneg hx]
theorem t_remc {x : Int32} {c : Int} (hx : 0 ≤ x.toInt) (hc : 0 < c) (hc2 : c ≤ 2147483647) : (j_rem x (Int32.ofInt c)).toInt = x.toInt % c := by
  have := t_of (z := c) (by omega) (by omega)
  rw [t_remn hx (by omega), this]
theorem t_divc {x : Int32} {c : Int} (hx : 0 ≤ x.toInt) (hc : 0 < c) (hc2 : c ≤ 2147483647) : (x / Int32.ofInt c).toInt = x.toInt / c := by
  have h := t_of (z := c) (by omega) (by omega)
  have h2 := t_hi x
  rw [Int32.toInt_div, h, Int.tdiv_eq_ediv_of_nonneg hx]
  have h3 := Int.ediv_nonneg hx (show 0 ≤ c by omega)
  have h4 := Int.ediv_le_self c hx
  exact Int.bmod_eq_of_le (by omega) (by omega)
theorem t_em (c : Prop) : (¬ c ∨ c) = True := propext ⟨fun _ => trivial, fun _ => (Classical.em c).symm⟩
theorem t_ext {x y : Int32} (h : x.toInt = y.toInt) : x = y := Int32.toInt_inj.mp h
theorem t_eqo {x : Int32} {z : Int} (h : x.toInt = z) : x = Int32.ofInt z := by rw [← h, t_un]
/-- the floor's rest -/
theorem k202 {b : Nat} {H : j_H} {x y : Int32} {Q : Option Value → j_H → Prop} (hx : -1000000 ≤ x.toInt) (hx2 : x.toInt ≤ 1000000) (hy : 0 < y.toInt) (hy2 : y.toInt ≤ 1000000) : j_wp b 202 0 [.int x, .int y, j_u] [] H Q = Q (some (.int (Int32.ofInt (x.toInt % y.toInt)))) H := by
  have h1 := t_rem (x := x) (y := y) (by omega) (by omega)
  have h2 := t_xor0 (x := x) (y := y) (by omega)
  have h3 := Int.tmod_eq_emod (a := x.toInt) (b := y.toInt)
  have h4 := Int.emod_nonneg x.toInt (b := y.toInt) (by omega)
  have h5 := Int.emod_lt_of_pos x.toInt hy
  have hd := Int.emod_emod_of_dvd x.toInt (Int.dvd_refl y.toInt)
  rw [b202_0 (by omega)]
  simp only [h2]
  have hab : ((y.toInt.natAbs : Nat) : Int) = y.toInt := by omega
  split
  · rename_i h0
    rw [b202_18, t_eqo (h1.trans (Int.tmod_eq_emod_of_nonneg h0))]
  · rename_i h0
    rw [b202_10]
    by_cases hdv : y.toInt ∣ x.toInt
    · have : x.toInt.tmod y.toInt = 0 := Int.tmod_eq_zero_of_dvd hdv
      rw [if_pos (by omega), b202_18, t_eqo (h1.trans this), Int.emod_eq_zero_of_dvd hdv]
    · rw [if_neg (by intro hz; exact hdv (Int.dvd_of_tmod_eq_zero (h1 ▸ hz))), b202_14]
      rw [if_neg (by rintro (h | h); exact h0 h; exact hdv h), hab] at h3
      rw [t_eqo (x := j_rem x y + y) (z := x.toInt % y.toInt) (by rw [t_add (by omega) (by omega), h1]; omega)]
def j_sw3 (x0 : Int32) : Int32 := (((((((x0 - ((j_ushr x0 (Int32.ofInt 1)) &&& (Int32.ofInt 1431655765))) &&& (Int32.ofInt 858993459)) + ((j_ushr (x0 - ((j_ushr x0 (Int32.ofInt 1)) &&& (Int32.ofInt 1431655765))) (Int32.ofInt 2)) &&& (Int32.ofInt 858993459))) + (j_ushr (((x0 - ((j_ushr x0 (Int32.ofInt 1)) &&& (Int32.ofInt 1431655765))) &&& (Int32.ofInt 858993459)) + ((j_ushr (x0 - ((j_ushr x0 (Int32.ofInt 1)) &&& (Int32.ofInt 1431655765))) (Int32.ofInt 2)) &&& (Int32.ofInt 858993459))) (Int32.ofInt 4))) &&& (Int32.ofInt 252645135)) + (j_ushr (((((x0 - ((j_ushr x0 (Int32.ofInt 1)) &&& (Int32.ofInt 1431655765))) &&& (Int32.ofInt 858993459)) + ((j_ushr (x0 - ((j_ushr x0 (Int32.ofInt 1)) &&& (Int32.ofInt 1431655765))) (Int32.ofInt 2)) &&& (Int32.ofInt 858993459))) + (j_ushr (((x0 - ((j_ushr x0 (Int32.ofInt 1)) &&& (Int32.ofInt 1431655765))) &&& (Int32.ofInt 858993459)) + ((j_ushr (x0 - ((j_ushr x0 (Int32.ofInt 1)) &&& (Int32.ofInt 1431655765))) (Int32.ofInt 2)) &&& (Int32.ofInt 858993459))) (Int32.ofInt 4))) &&& (Int32.ofInt 252645135)) (Int32.ofInt 8))) + (j_ushr ((((((x0 - ((j_ushr x0 (Int32.ofInt 1)) &&& (Int32.ofInt 1431655765))) &&& (Int32.ofInt 858993459)) + ((j_ushr (x0 - ((j_ushr x0 (Int32.ofInt 1)) &&& (Int32.ofInt 1431655765))) (Int32.ofInt 2)) &&& (Int32.ofInt 858993459))) + (j_ushr (((x0 - ((j_ushr x0 (Int32.ofInt 1)) &&& (Int32.ofInt 1431655765))) &&& (Int32.ofInt 858993459)) + ((j_ushr (x0 - ((j_ushr x0 (Int32.ofInt 1)) &&& (Int32.ofInt 1431655765))) (Int32.ofInt 2)) &&& (Int32.ofInt 858993459))) (Int32.ofInt 4))) &&& (Int32.ofInt 252645135)) + (j_ushr (((((x0 - ((j_ushr x0 (Int32.ofInt 1)) &&& (Int32.ofInt 1431655765))) &&& (Int32.ofInt 858993459)) + ((j_ushr (x0 - ((j_ushr x0 (Int32.ofInt 1)) &&& (Int32.ofInt 1431655765))) (Int32.ofInt 2)) &&& (Int32.ofInt 858993459))) + (j_ushr (((x0 - ((j_ushr x0 (Int32.ofInt 1)) &&& (Int32.ofInt 1431655765))) &&& (Int32.ofInt 858993459)) + ((j_ushr (x0 - ((j_ushr x0 (Int32.ofInt 1)) &&& (Int32.ofInt 1431655765))) (Int32.ofInt 2)) &&& (Int32.ofInt 858993459))) (Int32.ofInt 4))) &&& (Int32.ofInt 252645135)) (Int32.ofInt 8))) (Int32.ofInt 16))) &&& (Int32.ofInt 63)
theorem j_sw3_ok : ∀ n : Fin 2048, (j_sw3 (Int32.ofInt (n.val : Int))).toInt = j_pop (n.val : Int) := by decide +kernel
theorem k201 {b : Nat} {H : j_H} {x : Int32} {Q : Option Value → j_H → Prop} (h0 : 0 ≤ x.toInt) (h1 : x.toInt < 2048) : j_wp b 201 0 [.int x] [] H Q = Q (some (.int (Int32.ofInt (j_pop x.toInt)))) H := by
  have h := j_sw3_ok ⟨x.toInt.toNat, by omega⟩
  rw [show (((⟨x.toInt.toNat, by omega⟩ : Fin 2048).val : Nat) : Int) = x.toInt from Int.toNat_of_nonneg h0, t_un] at h
  rw [b201_0, show (Int32.ofInt (j_pop x.toInt)) = j_sw3 x from (t_eqo h).symm]
  rfl
def j_on (x a : Int32) : Nat → Option Int32
  | 0 => none
  | n + 1 => if x.toInt = 0 then some a else j_on (x &&& (x - (Int32.ofInt 1))) (a + Int32.ofInt 1) n
theorem j_on_ok : ∀ n : Fin 2048, j_on (Int32.ofInt (n.val : Int)) (Int32.ofInt 0) 12 = some (Int32.ofInt (j_pop (n.val : Int))) := by decide +kernel
theorem k123l {b : Nat} {H : j_H} {v : Value} {x1 : Int32} {Q : Option Value → j_H → Prop} : ∀ (n : Nat) (x a r : Int32), j_on x a n = some r → j_wp b 123 4 [v, .int x1, .int a, .int x] [] H Q = Q (some (.int r)) H
  | 0, _, _, _, h => by cases h
  | n + 1, x, a, r, h => by
    unfold j_on at h
    rw [b123_4]
    split
    · rename_i hx
      rw [if_pos hx] at h
      cases h
      rw [b123_20]
    · rename_i hx
      rw [if_neg hx] at h
      rw [b123_8, k123l n _ _ _ h]
theorem k123 {b : Nat} {H : j_H} {v : Value} {x : Int32} {Q : Option Value → j_H → Prop} (h0 : 0 ≤ x.toInt) (h1 : x.toInt < 2048) : j_wp b 123 0 [v, .int x, j_u, j_u] [] H Q = Q (some (.int (Int32.ofInt (j_pop x.toInt)))) H := by
  have h := j_on_ok ⟨x.toInt.toNat, by omega⟩
  rw [show (((⟨x.toInt.toNat, by omega⟩ : Fin 2048).val : Nat) : Int) = x.toInt from Int.toNat_of_nonneg h0, t_un] at h
  rw [b123_0, k123l _ _ _ _ h]
