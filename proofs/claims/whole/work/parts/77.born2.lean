/-! BEHIND BOTH CONSTRUCTORS all is in order -/
section
variable {L : Nat} {xs : Nat → Int32}
theorem z_IC {a k : Nat} (ha : 12 ≤ a) (h : (z_LI.take 53).all (fun e => e.1 != a) = true) : j_I (j_co (zz L xs 103 53 101 2)) a k = 0 := by
  show (if j_scr a k = true then 0 else z_fI xs (z_LI.take 53) a k) = 0
  by_cases hs : j_scr a k = true
  · rw [if_pos hs]
  · rw [if_neg hs]
    unfold z_fI
    rw [z_fI0 (xs := xs) _ _ h, if_neg (by omega), if_neg (by omega)]
theorem z_LC {a k : Nat} (h : (z_LL.take 2).all (fun e => e.1 != a) = true) : j_L (j_co (zz L xs 103 53 101 2)) a k = 0 := by
  show (if j_scr a k = true then 0 else z_fL (z_LL.take 2) a k) = 0
  by_cases hs : j_scr a k = true
  · rw [if_pos hs]
  · rw [if_neg hs]
    unfold z_fL
    rw [z_fL0 _ _ h]
theorem z_RC {a k : Nat} (ha : 12 ≤ a) (h : (z_LR.take 101).all (fun e => e.1 != a) = true) : j_R (j_co (zz L xs 103 53 101 2)) a k = none := by
  show (if j_scr a k = true then none else z_fR (z_LR.take 101) a k) = none
  by_cases hs : j_scr a k = true
  · rw [if_pos hs]
  · rw [if_neg hs]
    unfold z_fR
    rw [z_fR0 _ _ h, if_neg (by omega)]
theorem z_e {x y : Int32} (hx : x = 0) (hy : y = 0) : x = y := hx.trans hy.symm
theorem z_FR : ∀ p ∈ j_FR, j_mk none (z_fR (z_LR.take 101)) p.1 p.2.1 = some p.2.2 := by decide +kernel
theorem z_S0 : j_S0.drop 12 = (z_SF.take 103).map some := by decide +kernel
theorem z_Wd : j_Wd (j_co (zz L xs 103 53 101 2)) := by
  refine ⟨fun a x hx => ?_, z_FR, ?_⟩
  · by_cases ha : a < 12
    · match a, ha with
      | 0, _ => have e : (some (some (.inl 14)) : Option (Option j_Sh)) = some (some x) := hx; cases e; rfl
      | 1, _ => have e : (some (some (.inl 14)) : Option (Option j_Sh)) = some (some x) := hx; cases e; rfl
      | 2, _ => have e : (some (some (.inl 14)) : Option (Option j_Sh)) = some (some x) := hx; cases e; rfl
      | 3, _ => have e : (some (some (.inl 14)) : Option (Option j_Sh)) = some (some x) := hx; cases e; rfl
      | 4, _ => have e : (some (some (.inl 14)) : Option (Option j_Sh)) = some (some x) := hx; cases e; rfl
      | 5, _ => have e : (some (some (.inr (9, 4))) : Option (Option j_Sh)) = some (some x) := hx; cases e; rfl
      | 6, _ => have e : (some (some (.inr (9, 5))) : Option (Option j_Sh)) = some (some x) := hx; cases e; rfl
      | 7, _ => have e : (some (some (.inr (9, 3))) : Option (Option j_Sh)) = some (some x) := hx; cases e; rfl
      | 8, _ => have e : (some (some (.inr (9, 6))) : Option (Option j_Sh)) = some (some x) := hx; cases e; rfl
      | 9, _ => have e : (some (some (.inr (9, 3))) : Option (Option j_Sh)) = some (some x) := hx; cases e; rfl
      | 10, _ => have e : (some none : Option (Option j_Sh)) = some (some x) := hx; cases e
      | 11, _ => have e : (some (some (.inr (7, 0))) : Option (Option j_Sh)) = some (some x) := hx; cases e; rfl
    · rw [show a = 12 + (a - 12) by omega, ← List.getElem?_drop, z_S0, List.getElem?_map] at hx
      show ((j_H0 L xs).1 ++ z_SF.take 103)[a]? = some x
      rw [List.getElem?_append_right (show (j_H0 L xs).1.length ≤ a from (by omega : 12 ≤ a)), show (j_H0 L xs).1.length = 12 from rfl]
      cases h : (z_SF.take 103)[a - 12]? with
      | none => rw [h] at hx; cases hx
      | some y => rw [h] at hx; cases hx; rfl
  · show 115 ≤ ((j_H0 L xs).1 ++ z_SF.take 103).length
    rw [List.length_append, show (j_H0 L xs).1.length = 12 from rfl]
    decide
theorem z_Eb {a b c d sg sm sb : Nat} (h1 : ∀ k, j_I (j_co (zz L xs 103 53 101 2)) a k = 0) (h2 : ∀ k, j_I (j_co (zz L xs 103 53 101 2)) b k = 0) (h3 : ∀ k, j_I (j_co (zz L xs 103 53 101 2)) c k = 0) (h4 : ∀ k, j_I (j_co (zz L xs 103 53 101 2)) d k = 0) (hm : (j_I (j_co (zz L xs 103 53 101 2)) 81 sm).toInt = 0) (hb : (j_I (j_co (zz L xs 103 53 101 2)) 81 sb).toInt = 0) : ∀ k : Nat, k < 12 → j_I (j_co (zz L xs 103 53 101 2)) a k = j_I (j_co (zz L xs 103 53 101 2)) c k ∧ j_I (j_co (zz L xs 103 53 101 2)) b k = j_I (j_co (zz L xs 103 53 101 2)) d k ∧ ((k : Int) < (j_I (j_co (zz L xs 103 53 101 2)) 81 sm).toInt → 0 ≤ (j_I (j_co (zz L xs 103 53 101 2)) c k).toInt ∧ (j_I (j_co (zz L xs 103 53 101 2)) c k).toInt < (j_I (j_co (zz L xs 103 53 101 2)) 81 sg).toInt) ∧ ((k : Int) < (j_I (j_co (zz L xs 103 53 101 2)) 81 sb).toInt → (j_I (j_co (zz L xs 103 53 101 2)) d k).toInt = 0 ∨ (j_I (j_co (zz L xs 103 53 101 2)) d k).toInt = 1) := by
  intro k hk
  refine ⟨(h1 k).trans (h3 k).symm, (h2 k).trans (h4 k).symm, fun h => by omega, fun h => by omega⟩
theorem z_Ew {e aR : Nat} (h1 : ∀ k, j_I (j_co (zz L xs 103 53 101 2)) (e + 2) k = 0) (h2 : ∀ k, j_I (j_co (zz L xs 103 53 101 2)) aR k = 0) : j_Ew (j_co (zz L xs 103 53 101 2)) e aR := by
  intro g hg
  rw [h1]
  refine ⟨by decide, by decide, fun p hp => ?_⟩
  rw [h2, show (0 : Int32).toInt.toNat = 0 from rfl, Nat.zero_testBit, if_neg (by decide)]
  rfl
theorem z_Eg {e sg aK aV aN : Nat} (h : ∀ k, j_R (j_co (zz L xs 103 53 101 2)) (e + 1) k = none) (hs : (j_I (j_co (zz L xs 103 53 101 2)) 81 sg).toInt = 0) : j_Eg (j_co (zz L xs 103 53 101 2)) e sg aK aV aN := by
  refine ⟨fun g hg => by omega, fun g => ?_⟩
  rw [h]
  exact ⟨fun x => (by cases x), fun r x => (by cases x)⟩
theorem z_sc : ∀ (s : Nat), s < 5 → j_scr s 0 = false ∧ j_scr s 1 = false ∧ ∀ i, j_scr (s + 5) i = false := by
  intro s hs
  match s, hs with
  | 0, _ => exact ⟨rfl, rfl, fun _ => rfl⟩
  | 1, _ => exact ⟨rfl, rfl, fun _ => rfl⟩
  | 2, _ => exact ⟨rfl, rfl, fun _ => rfl⟩
  | 3, _ => exact ⟨rfl, rfl, fun _ => rfl⟩
  | 4, _ => exact ⟨rfl, rfl, fun _ => rfl⟩
theorem z_by : ∀ s : Fin 5, ∀ i : Fin 6, i.val < (j_ws s.val).length → ((j_sby.getD s.val []).getD i.val 0).toInt = (j_ws s.val).getD i.val 0 := by decide +kernel
theorem z_low : ∀ s : Fin 12, (z_LI.take 53).all (fun e => e.1 != s.val) = true ∧ (z_LR.take 101).all (fun e => e.1 != s.val) = true ∨ s.val = 10 := by decide +kernel
theorem z_St : j_St (j_co (zz L xs 103 53 101 2)) := by
  intro s hs
  obtain ⟨c0, c1, c5⟩ := z_sc s hs
  refine ⟨?_, ?_, fun i hi => ?_⟩
  · show (if j_scr s 0 = true then none else z_fR (z_LR.take 101) s 0) = some (s + 5)
    rw [c0, if_neg (by decide)]
    unfold z_fR
    rcases z_low ⟨s, by omega⟩ with ⟨-, h⟩ | h
    · have h' : (z_LR.take 101).all (fun e => e.1 != s) = true := h
      rw [z_fR0 _ _ h', if_pos ⟨hs, rfl⟩, Nat.add_comm]
    · exact absurd h (show ¬ s = 10 by omega)
  · show (if j_scr s 1 = true then 0 else z_fI xs (z_LI.take 53) s 1).toInt = 0
    rw [c1, if_neg (by decide)]
    unfold z_fI
    rcases z_low ⟨s, by omega⟩ with ⟨h, -⟩ | h
    · have h' : (z_LI.take 53).all (fun e => e.1 != s) = true := h
      rw [z_fI0 (xs := xs) _ _ h', if_neg (by omega), if_neg (by omega)]; rfl
    · exact absurd h (show ¬ s = 10 by omega)
  · show (if j_scr (s + 5) i = true then 0 else z_fI xs (z_LI.take 53) (s + 5) i).toInt = _
    rw [c5 i, if_neg (by decide)]
    unfold z_fI
    rcases z_low ⟨s + 5, by omega⟩ with ⟨h, -⟩ | h
    · have h' : (z_LI.take 53).all (fun e => e.1 != s + 5) = true := h
      rw [z_fI0 (xs := xs) _ _ h', if_neg (by omega), if_pos (by omega), Nat.add_sub_cancel]
      have h6 : (j_ws s).length ≤ 6 := (show ∀ s : Fin 5, (j_ws s.val).length ≤ 6 by decide) ⟨s, hs⟩
      exact z_by ⟨s, hs⟩ ⟨i, by omega⟩ hi
    · exact absurd h (show ¬ s + 5 = 10 by omega)
theorem z_In : j_In (j_co (zz L xs 103 53 101 2)) := by
  have i0 : (j_I (j_co (zz L xs 103 53 101 2)) 81 0).toInt = 0 := rfl
  have i1 : (j_I (j_co (zz L xs 103 53 101 2)) 81 1).toInt = 0 := rfl
  have i2 : (j_I (j_co (zz L xs 103 53 101 2)) 81 2).toInt = 0 := rfl
  have i3 : (j_I (j_co (zz L xs 103 53 101 2)) 81 3).toInt = 0 := rfl
  have i27 : (j_I (j_co (zz L xs 103 53 101 2)) 81 27).toInt = 0 := rfl
  have i36 : (j_I (j_co (zz L xs 103 53 101 2)) 81 36).toInt = 0 := rfl
  have i40 : (j_I (j_co (zz L xs 103 53 101 2)) 81 40).toInt = 0 := rfl
  have i41 : (j_I (j_co (zz L xs 103 53 101 2)) 81 41).toInt = 0 := rfl
  have i42 : (j_I (j_co (zz L xs 103 53 101 2)) 81 42).toInt = 0 := rfl
  have i43 : (j_I (j_co (zz L xs 103 53 101 2)) 81 43).toInt = 0 := rfl
  have i44 : (j_I (j_co (zz L xs 103 53 101 2)) 81 44).toInt = 0 := rfl
  have i45 : (j_I (j_co (zz L xs 103 53 101 2)) 81 45).toInt = 0 := rfl
  have i8 : (j_I (j_co (zz L xs 103 53 101 2)) 81 8).toInt = 0 := rfl
  have i10 : (j_I (j_co (zz L xs 103 53 101 2)) 81 10).toInt = 0 := rfl
  have i52 : (j_I (j_co (zz L xs 103 53 101 2)) 81 52).toInt = 0 := rfl
  have i38 : (j_I (j_co (zz L xs 103 53 101 2)) 81 38).toInt = 0 := rfl
  have i9 : (j_I (j_co (zz L xs 103 53 101 2)) 81 9).toInt = -1 := rfl
  have i39 : (j_I (j_co (zz L xs 103 53 101 2)) 81 39).toInt = -1 := rfl
  refine ⟨z_Wd, ⟨⟨z_e (by rfl) (by rfl), z_e (by rfl) (by rfl), z_e (by rfl) (by rfl), z_e (by rfl) (by rfl), z_e (by rfl) (by rfl), z_e (by rfl) (by rfl)⟩, ?_, Or.inl ⟨i9, by rfl⟩, z_Eg (fun k => z_RC (by decide) (by rfl)) i0, z_Ew (fun k => z_IC (by decide) (by rfl)) (fun k => z_IC (by decide) (by rfl)), z_Eb (fun k => z_IC (by decide) (by rfl)) (fun k => z_IC (by decide) (by rfl)) (fun k => z_IC (by decide) (by rfl)) (fun k => z_IC (by decide) (by rfl)) i27 i36⟩, ⟨⟨z_e (by rfl) (by rfl), z_e (by rfl) (by rfl), z_e (by rfl) (by rfl), z_e (by rfl) (by rfl), z_e (by rfl) (by rfl), z_e (by rfl) (by rfl)⟩, ?_, Or.inl ⟨i39, by rfl⟩, z_Eg (fun k => z_RC (by decide) (by rfl)) i40, z_Ew (fun k => z_IC (by decide) (by rfl)) (fun k => z_IC (by decide) (by rfl)), z_Eb (fun k => z_IC (by decide) (by rfl)) (fun k => z_IC (by decide) (by rfl)) (fun k => z_IC (by decide) (by rfl)) (fun k => z_IC (by decide) (by rfl)) i44 i45⟩, ⟨z_e (by rfl) (by rfl), Or.inl i38⟩, ⟨z_e (by rfl) (by rfl), by omega, by omega, fun f hf => by omega⟩, ⟨z_e (by rfl) (by rfl), by omega, by omega, fun k hk => ?_⟩, fun t ht => ?_, ⟨z_e (by rfl) (by rfl), by omega, by omega, fun k hk => ?_⟩, fun k hk => ?_, z_St⟩
  · unfold j_Er; omega
  · unfold j_Er; omega
  · rw [z_IC (by decide) (by rfl), z_IC (by decide) (by rfl)]
    exact ⟨rfl, by decide, by decide⟩
  · match t, ht with
    | 0, _ => exact ⟨rfl, of_decide_eq_true rfl, of_decide_eq_true rfl, z_e (by rfl) (by rfl), of_decide_eq_true rfl, of_decide_eq_true rfl, fun _ => rfl, fun k hk => by rw [z_LC (by rfl), z_LC (by rfl)]⟩
    | 1, _ => exact ⟨rfl, of_decide_eq_true rfl, of_decide_eq_true rfl, z_e (by rfl) (by rfl), of_decide_eq_true rfl, of_decide_eq_true rfl, fun _ => rfl, fun k hk => by rw [z_LC (by rfl), z_LC (by rfl)]⟩
    | 2, _ => exact ⟨rfl, of_decide_eq_true rfl, of_decide_eq_true rfl, z_e (by rfl) (by rfl), of_decide_eq_true rfl, of_decide_eq_true rfl, fun _ => rfl, fun k hk => by rw [z_LC (by rfl), z_LC (by rfl)]⟩
    | 3, _ => exact ⟨rfl, of_decide_eq_true rfl, of_decide_eq_true rfl, z_e (by rfl) (by rfl), of_decide_eq_true rfl, of_decide_eq_true rfl, fun _ => rfl, fun k hk => by rw [z_LC (by rfl), z_LC (by rfl)]⟩
    | 4, _ => exact ⟨rfl, of_decide_eq_true rfl, of_decide_eq_true rfl, z_e (by rfl) (by rfl), of_decide_eq_true rfl, of_decide_eq_true rfl, fun _ => rfl, fun k hk => by rw [z_LC (by rfl), z_LC (by rfl)]⟩
    | 5, _ => exact ⟨rfl, of_decide_eq_true rfl, of_decide_eq_true rfl, z_e (by rfl) (by rfl), of_decide_eq_true rfl, of_decide_eq_true rfl, fun _ => rfl, fun k hk => by rw [z_LC (by rfl), z_LC (by rfl)]⟩
  · rw [z_IC (by decide) (by rfl), z_IC (by decide) (by rfl)]
  · match k, hk with
    | 0, _ => rfl
    | 1, _ => rfl
    | 2, _ => rfl
    | 3, _ => rfl
    | 4, _ => rfl
    | 5, _ => rfl
    | 6, _ => rfl
    | 7, _ => rfl
    | 8, _ => rfl
    | 9, _ => rfl
    | 10, _ => rfl
    | 11, _ => rfl
theorem z_Lf : j_Lf (zz L xs 103 53 101 2) L := ⟨rfl, rfl, rfl, rfl⟩
end
