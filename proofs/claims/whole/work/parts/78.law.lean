/-! THE LAW, from its start to its end -/
theorem sz_l : ∀ (l : List j_Sh), (∀ s ∈ l, ∃ c : Nat, c ≤ 9 ∧ s = .inl c) → (l.map j_szs).sum ≤ 20 * l.length
  | [], _ => Nat.le_refl _
  | s :: r, h => by
    obtain ⟨c, hc, e⟩ := h s (List.mem_cons_self ..)
    have h1 : j_szs s ≤ 20 := by
      rw [e]
      exact (show ∀ c : Fin 10, j_nf c.val ≤ 20 by decide) ⟨c, by omega⟩
    have h2 := sz_l r (fun t ht => h t (List.mem_cons_of_mem _ ht))
    rw [List.map_cons, List.sum_cons, List.length_cons]
    omega
theorem sz_0 {L : Nat} {xs : Nat → Int32} : ((j_H0 L xs).1.map j_szs).sum ≤ L + 200 := by
  unfold j_H0
  simp only [List.map_cons, List.map_nil, List.sum_cons, List.sum_nil, j_szs]
  have : j_nf 14 ≤ 10 := by decide
  omega
theorem j_law (L : Nat) (xs : Nat → Int32) (hL : L ≤ 3072) : ∃ (n : Nat) (Hf : j_H), j_rf n 100 213 0 [.ref 10, j_u, j_u, j_u] [] (j_H0 L xs) = some (some (.int 1), Hf) ∧ Hf.1.length ≤ 600000 ∧ j_sz Hf ≤ 7302250 := by
  have key : j_wp (99 + 1) 213 0 [.ref 10, j_u, j_u, j_u] [] (zz L xs 0 0 0 0) (fun v Hf => v = some (.int 1) ∧ Hf.1.length ≤ 600000 ∧ j_sz Hf ≤ 7302250) := by
    rw [b213_0 (H := zz L xs 0 0 0 0) (show ¬ (.ref (zz L xs 0 0 0 0).1.length : Value) = .ref 11 from n_R11 rfl)]
    rw [show (zz L xs 0 0 0 0).1.length = 12 from rfl]
    rw [show j_nw (zz L xs 0 0 0 0) (.inl 11) = zz L xs 1 0 0 0 from z_n rfl rfl]
    refine Eq.mpr (z65 (b := 96)) ?_
    rw [j_ke]
    show j_wp (99 + 1) 213 7 [.ref 10, j_u, j_u, j_u] [.ref 12] (zz L xs 69 12 68 0) _
    rw [b213_7 (H := zz L xs 69 12 68 0) (show j_isr (.ref 12) = true from rfl) (show ¬ (.ref 12 : Value) = .ref 11 from n_R11 rfl) (show j_isr (.ref 10) = true from rfl) (show ¬ (.ref (zz L xs 69 12 68 0).1.length : Value) = .ref 11 from n_R11 rfl)]
    rw [show (zz L xs 69 12 68 0).1.length = 81 from rfl]
    rw [show j_nw (zz L xs 69 12 68 0) (.inl 12) = zz L xs 70 12 68 0 from z_n rfl rfl]
    refine Eq.mpr (z120 (b := 96)) ?_
    rw [j_ke]
    show j_wp (99 + 1) 213 15 [.ref 10, .ref 12, j_u, j_u] [.ref 81] (zz L xs 103 53 101 2) _
    rw [b213_15 (H := zz L xs 103 53 101 2) (show j_isr (.ref 81) = true from rfl) (show ¬ (.ref 81 : Value) = .ref 11 from n_R11 rfl) (show j_isr (.ref 12) = true from rfl)]
    refine law_loop (fun H hI => L_house hI) hL 512 (Int32.ofInt 0) (zz L xs 103 53 101 2) (by decide) (by decide) (by rw [show (Int32.ofInt 0).toInt = 0 from rfl]; omega) z_In z_Lf (fun Hf l h1 h2 h3 => ⟨rfl, ?_, ?_⟩)
    · rw [h1, List.length_append, show (zz L xs 103 53 101 2).1.length = 115 from rfl]; omega
    · unfold j_sz
      have s1 := sz_l l h3
      have s2 := sz_0 (L := L) (xs := xs)
      have s3 : ((z_SF.take 103).map j_szs).sum ≤ 6000 := by decide +kernel
      rw [h1, List.map_append, List.sum_append, show (zz L xs 103 53 101 2).1 = (j_H0 L xs).1 ++ z_SF.take 103 from rfl, List.map_append, List.sum_append]
      omega
  obtain ⟨v, Hf, ⟨n, hn⟩, rfl, h1, h2⟩ := key
  exact ⟨n, Hf, hn, h1, h2⟩
