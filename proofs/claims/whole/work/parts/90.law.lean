theorem j_law (L : Nat) (xs : Nat → Int32) (hL : L ≤ 3072) : ∃ (n : Nat) (Hf : j_H), j_rf n 100 213 0 [.ref 10, j_u, j_u, j_u] [] (j_H0 L xs) = some (some (.int 1), Hf) ∧ Hf.1.length ≤ 600000 ∧ j_sz Hf ≤ 7302250 := by
  sorry
