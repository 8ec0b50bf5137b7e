/-! BITS -/
theorem t_nm {x : Int32} (h : 0 ≤ x.toInt) : x.toBitVec.msb = false := by
  have := t_msb x.toBitVec
  rw [← this]; exact h
theorem t_tn {x : Int32} (h : 0 ≤ x.toInt) : x.toInt.toNat = x.toBitVec.toNat := by
  rw [t_bi, BitVec.toInt_eq_toNat_of_msb (t_nm h)]; exact Int.toNat_natCast _
theorem t_tb {x : Int32} (h : 0 ≤ x.toInt) (k : Nat) : x.toInt.toNat.testBit k = x.toBitVec.getLsbD k := by
  rw [t_tn h]; rfl
theorem t_and0 {x y : Int32} (hx : 0 ≤ x.toInt) : 0 ≤ (x &&& y).toInt := by
  have h := t_nm hx
  rw [t_bi, t_msb, Int32.toBitVec_and, BitVec.msb_and, h]; rfl
theorem t_or0 {x y : Int32} (hx : 0 ≤ x.toInt) (hy : 0 ≤ y.toInt) : 0 ≤ (x ||| y).toInt := by
  have h := t_nm hx
  have h2 := t_nm hy
  rw [t_bi, t_msb, Int32.toBitVec_or, BitVec.msb_or, h, h2]; rfl
theorem t_and {x y : Int32} (hx : 0 ≤ x.toInt) (hy : 0 ≤ y.toInt) : (x &&& y).toInt.toNat = x.toInt.toNat &&& y.toInt.toNat := by
  rw [t_tn (t_and0 hx), t_tn hx, t_tn hy, Int32.toBitVec_and, BitVec.toNat_and]
theorem t_or {x y : Int32} (hx : 0 ≤ x.toInt) (hy : 0 ≤ y.toInt) : (x ||| y).toInt.toNat = x.toInt.toNat ||| y.toInt.toNat := by
  rw [t_tn (t_or0 hx hy), t_tn hx, t_tn hy, Int32.toBitVec_or, BitVec.toNat_or]
theorem t_a1 (v : Int32) : ((v &&& Int32.ofInt 1).toInt = 1) = (v.toBitVec.getLsbD 0 = true) := by
  have h : (v &&& Int32.ofInt 1).toBitVec = BitVec.setWidth 32 (BitVec.ofBool (v.toBitVec.getLsbD 0)) := by
    rw [Int32.toBitVec_and]; exact BitVec.and_one_eq_setWidth_ofBool_getLsbD
  rw [t_bi, h]; cases v.toBitVec.getLsbD 0 <;> decide
theorem t_a1e (v : Int32) : v &&& Int32.ofInt 1 = j_bz (v.toBitVec.getLsbD 0 = true) := by
  have h : (v &&& Int32.ofInt 1).toBitVec = BitVec.setWidth 32 (BitVec.ofBool (v.toBitVec.getLsbD 0)) := by
    rw [Int32.toBitVec_and]; exact BitVec.and_one_eq_setWidth_ofBool_getLsbD
  apply Int32.toBitVec_inj.mp
  rw [h]; cases v.toBitVec.getLsbD 0 <;> decide
theorem t_shk : ∀ k : Fin 32, ((Int32.ofInt (k.val : Int) &&& 31).toBitVec.smod 32).toNat = k.val ∧ (Int32.ofInt (k.val : Int) &&& 31) = Int32.ofInt (k.val : Int) := by decide +kernel
theorem t_shb {x y : Int32} {k : Nat} (hy : y.toInt = (k : Int)) (hk : k < 32) (i : Nat) (hi : k + i < 32) : (j_shr x y).toBitVec.getLsbD i = x.toBitVec.getLsbD (k + i) := by
  have h := t_shk ⟨k, hk⟩
  rw [t_eqo hy]
  unfold j_shr
  have e : ((Int32.ofInt (k : Int) &&& 31).toBitVec.smod 32).toNat = k := h.1
  rw [h.2] at e
  rw [show (Int32.ofInt (k : Int) &&& 31) = Int32.ofInt (k : Int) from h.2, Int32.toBitVec_shiftRight, BitVec.sshiftRight', e, BitVec.getLsbD_sshiftRight, if_pos hi, decide_eq_false (by omega)]
  rfl
/-- the bit of a place -/
theorem t_bit {x y : Int32} (hx : 0 ≤ x.toInt) (hy : 0 ≤ y.toInt) (hy2 : y.toInt < 32) : ((j_shr x y &&& Int32.ofInt 1).toInt = 1) = (x.toInt.toNat.testBit y.toInt.toNat = true) := by
  rw [t_a1, t_shb (k := y.toInt.toNat) (by omega) (by omega) 0 (by omega), t_tb hx]; rfl
theorem t_bite {x y : Int32} (hx : 0 ≤ x.toInt) (hy : 0 ≤ y.toInt) (hy2 : y.toInt < 32) : j_shr x y &&& Int32.ofInt 1 = j_bz (x.toInt.toNat.testBit y.toInt.toNat = true) := by
  rw [t_a1e, t_shb (k := y.toInt.toNat) (by omega) (by omega) 0 (by omega), t_tb hx]; rfl
theorem t_remb {h : Int32} (h0 : 0 ≤ h.toInt) {c : Int} (hc : 0 < c) (hc2 : c ≤ 2147483647) : 0 ≤ (j_rem h (Int32.ofInt c)).toInt ∧ (j_rem h (Int32.ofInt c)).toInt < c := by
  rw [t_remc h0 hc hc2]
  exact ⟨Int.emod_nonneg _ (by omega), Int.emod_lt_of_pos _ hc⟩
theorem t_popb (z : Int) : 0 ≤ j_pop z ∧ j_pop z ≤ 12 := by unfold j_pop; omega
