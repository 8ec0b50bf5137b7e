/-! HOUSES: what both hold says the same -/
def y_wf (x : Nat × Int × List Int) : Prop := 0 ≤ x.2.1 ∧ x.2.1 ≤ 99 ∧ x.1 ≤ 2 ∧ (x.1 = 2 → x.2.2 = []) ∧ (¬ x.1 = 2 → (∀ t, t ∈ x.2.2 → y_tk t) ∧ y_hs 0 x.2.2 = some 1)
theorem y_ls_wf {h : Nat → Int} {n : Nat} (hn : ∀ q, n ≤ q → h q = -1) : ∀ (g p : Nat) (ok : Bool) (q : Nat) (CL : List (Nat × Int × List Int)), y_ls h g p ok q CL → p ≤ n → q ≤ n ∧ (ok = true → (∀ x, x ∈ CL → y_wf x) ∧ 1 ≤ CL.length ∧ CL.length ≤ g ∧ p + (y_cC CL).length ≤ q)
  | 0, _, _, _, _, hL, _ => hL.elim
  | g + 1, p, ok, q, CL, hL, hp => by
    obtain ⟨ok1, q1, v, c, hC, hcs⟩ := hL
    obtain ⟨v1, v2, v3⟩ := y_cl_b hn hp hC
    have wf : ok1 = true → y_wf (y_so h p, v, c) := fun ho => by
      obtain ⟨k1, k2, k3, k4, k5⟩ := v3 ho
      exact ⟨k2, k3, (y_so_b h p).1, k4, k5⟩
    rcases hcs with ⟨z1, z2, z3⟩ | ⟨z1, z2, z3, z4, z5⟩ | ⟨z1, z2, z3, z4, z5⟩ | ⟨z1, z2, -, z3, CL', z4, z5⟩
    · subst z3
      exact ⟨v1, fun e => by rw [z2] at e; cases e⟩
    · subst z4
      refine ⟨v1, fun _ => ?_⟩
      rw [z5]
      refine ⟨fun x hx => ?_, Nat.le_refl _, by rw [List.length_singleton]; omega, ?_⟩
      · rw [List.mem_singleton.1 hx]; exact wf z1
      · have := (v3 z1).1
        rw [y_cC, y_cC, List.append_nil]; exact this
    · subst z5
      exact ⟨v1, fun e => by rw [z4] at e; cases e⟩
    · have l1 : q1 + 1 ≤ n := y_lt hn (show 0 ≤ h q1 by omega)
      obtain ⟨i1, i2⟩ := y_ls_wf hn g (q1 + 1) ok q CL' z4 l1
      refine ⟨i1, fun ho => ?_⟩
      obtain ⟨i3, i4, i5, i6⟩ := i2 ho
      have := (v3 z1).1
      rw [z5]
      refine ⟨fun x hx => ?_, by rw [List.length_cons]; omega, by rw [List.length_cons]; omega, ?_⟩
      · rcases List.mem_cons.1 hx with e | e
        · rw [e]; exact wf z1
        · exact i3 x e
      · rw [y_cC, List.length_append]; show p + (c.length + _) ≤ q; omega
theorem y_hsD : ∀ (c : List Int) (d e : Nat), y_hs d c = some e → ∃ D : Nat → Nat, D 0 = d ∧ D c.length = e ∧ ∀ j, j < c.length → D j ≤ 30 ∧ (c.getD j 0 = -33 → 1 ≤ D j ∧ D (j + 1) = D j) ∧ (c.getD j 0 < 0 → c.getD j 0 ≠ -33 → 2 ≤ D j ∧ D (j + 1) + 1 = D j) ∧ (0 ≤ c.getD j 0 → D (j + 1) = D j + 1)
  | [], d, e, h => by
    rw [y_hs] at h; cases h
    exact ⟨fun _ => d, rfl, rfl, fun j hj => by cases hj⟩
  | t :: r, d, e, h => by
    rw [y_hs] at h
    have mk : ∀ d', y_hs d' r = some e → d ≤ 30 → (t = -33 → 1 ≤ d ∧ d' = d) → (t < 0 → t ≠ -33 → 2 ≤ d ∧ d' + 1 = d) → (0 ≤ t → d' = d + 1) → ∃ D : Nat → Nat, D 0 = d ∧ D (t :: r).length = e ∧ ∀ j, j < (t :: r).length → D j ≤ 30 ∧ ((t :: r).getD j 0 = -33 → 1 ≤ D j ∧ D (j + 1) = D j) ∧ ((t :: r).getD j 0 < 0 → (t :: r).getD j 0 ≠ -33 → 2 ≤ D j ∧ D (j + 1) + 1 = D j) ∧ (0 ≤ (t :: r).getD j 0 → D (j + 1) = D j + 1) := by
      intro d' hd h0 h1 h2 h3
      obtain ⟨D, D0, D1, D2⟩ := y_hsD r d' e hd
      refine ⟨fun j => match j with | 0 => d | j + 1 => D j, rfl, D1, fun j hj => ?_⟩
      cases j with
      | zero =>
        rw [List.getD_cons_zero]
        show d ≤ 30 ∧ (t = -33 → 1 ≤ d ∧ D 0 = d) ∧ (t < 0 → t ≠ -33 → 2 ≤ d ∧ D 0 + 1 = d) ∧ (0 ≤ t → D 0 = d + 1)
        rw [D0]; exact ⟨h0, h1, h2, h3⟩
      | succ j =>
        rw [List.getD_cons_succ]
        rw [List.length_cons] at hj
        exact D2 j (by omega)
    by_cases e1 : 30 < d
    · rw [if_pos e1] at h; cases h
    · rw [if_neg e1] at h
      by_cases e2 : t = -33
      · rw [if_pos e2] at h
        by_cases e3 : d = 0
        · rw [if_pos e3] at h; cases h
        · rw [if_neg e3] at h
          exact mk d h (by omega) (fun _ => ⟨by omega, rfl⟩) (fun _ x => absurd e2 x) (fun x => by omega)
      · rw [if_neg e2] at h
        by_cases e3 : t < 0
        · rw [if_pos e3] at h
          by_cases e4 : d < 2
          · rw [if_pos e4] at h; cases h
          · rw [if_neg e4] at h
            exact mk (d - 1) h (by omega) (fun x => absurd x e2) (fun _ _ => ⟨by omega, by omega⟩) (fun x => by omega)
        · rw [if_neg e3] at h
          exact mk (d + 1) h (by omega) (fun x => absurd x e2) (fun x => absurd x e3) (fun _ => rfl)
theorem cC_x : ∀ (CL : List (Nat × Int × List Int)) (i : Nat) (x : Nat × Int × List Int), CL[i]? = some x → y_cC CL = y_cC (CL.take i) ++ (x.2.2 ++ y_cC (CL.drop (i + 1)))
  | [], i, x, h => by cases h
  | y :: r, 0, x, h => by cases h; rfl
  | y :: r, i + 1, x, h => by
    rw [List.getElem?_cons_succ] at h
    rw [List.take_succ_cons, List.drop_succ_cons, y_cC, y_cC, cC_x r i x h, List.append_assoc]
theorem cC_g {CL : List (Nat × Int × List Int)} {i j : Nat} {x : Nat × Int × List Int} (h : CL[i]? = some x) (hj : j < x.2.2.length) : (y_cC CL).getD ((y_cC (CL.take i)).length + j) 0 = x.2.2.getD j 0 ∧ (y_cC (CL.take i)).length + j < (y_cC CL).length := by
  rw [cC_x CL i x h]
  refine ⟨?_, by rw [List.length_append, List.length_append]; omega⟩
  rw [List.getD_eq_getElem?_getD, List.getElem?_append_right (by omega), show (y_cC (CL.take i)).length + j - (y_cC (CL.take i)).length = j by omega, List.getElem?_append_left hj, ← List.getD_eq_getElem?_getD]
theorem cC_tk : ∀ (CL : List (Nat × Int × List Int)), (∀ x, x ∈ CL → y_wf x) → ∀ t, t ∈ y_cC CL → y_tk t
  | [], _, t, ht => by cases ht
  | x :: r, hw, t, ht => by
    rw [y_cC] at ht
    rcases List.mem_append.1 ht with h | h
    · obtain ⟨-, -, -, w4, w5⟩ := hw x (List.mem_cons_self ..)
      by_cases e : x.1 = 2
      · rw [w4 e] at h; cases h
      · exact (w5 e).1 t h
    · exact cC_tk r (fun y hy => hw y (List.mem_cons_of_mem _ hy)) t h
theorem cF_b : ∀ (CL : List (Nat × Int × List Int)) (a : Int), (∀ x, x ∈ CL → y_wf x) → 0 ≤ a ∧ a ≤ 99 → 0 ≤ y_cF a CL ∧ y_cF a CL ≤ 99
  | [], a, _, ha => ha
  | x :: r, a, hw, ha => by
    rw [y_cF]
    refine cF_b r _ (fun y hy => hw y (List.mem_cons_of_mem _ hy)) ?_
    have := hw x (List.mem_cons_self ..)
    split
    · exact ⟨this.1, this.2.1⟩
    · exact ha
theorem y_tk_b {t : Int} (h : y_tk t) : -200 ≤ t ∧ t ≤ 6000 ∧ -200 ≤ y_cs t ∧ y_cs t ≤ 6000 := by
  have hb : -200 ≤ t ∧ t ≤ 6000 := by
    rcases h with h | h | h | ⟨f, r, d, h⟩ <;> omega
  refine ⟨hb.1, hb.2, ?_⟩
  unfold y_cs
  repeat' split
  all_goals omega
theorem fr2_c {C : j_H} {b : Nat} : ∀ (CL : List (Nat × Int × List Int)) (k : Nat) (a : Int), (∀ x, x ∈ CL → y_wf x) → (∀ (i s : Nat) (v : Int) (c : List Int), CL[i]? = some (s, v, c) → j_I C 88 (b + k + i) = Int32.ofInt (s : Int) ∧ j_I C 89 (b + k + i) = Int32.ofInt v) → j_fr2 C (b + k) CL.length a = y_cF a CL
  | [], k, a, _, _ => rfl
  | (s, v, c) :: r, k, a, hw, h => by
    obtain ⟨h1, h2⟩ := h 0 s v c rfl
    rw [Nat.add_zero] at h1 h2
    obtain ⟨w1, w2, w3, -⟩ := hw _ (List.mem_cons_self ..)
    have w1' : 0 ≤ v := w1
    have w2' : v ≤ 99 := w2
    have w3' : s ≤ 2 := w3
    have t1 : (Int32.ofInt (s : Int)).toInt = (s : Int) := t_of (by omega) (by omega)
    have t2 : (Int32.ofInt v).toInt = v := t_of (by omega) (by omega)
    rw [List.length_cons, j_fr2, h1, h2, t1, t2, y_cF, Nat.add_assoc b k 1, fr2_c r (k + 1) _ (fun y hy => hw y (List.mem_cons_of_mem _ hy)) (fun i s' v' c' hi => by
      have := h (i + 1) s' v' c' (by rw [List.getElem?_cons_succ]; exact hi)
      rw [show b + (k + 1) + i = b + k + (i + 1) by omega]; exact this)]
    by_cases e : s = 2
    · rw [if_pos (by omega), if_pos e]
    · rw [if_neg (by omega), if_neg e]
theorem hw2_c {C : j_H} {b : Nat} : ∀ (CL : List (Nat × Int × List Int)) (k : Nat), (∀ x, x ∈ CL → y_wf x) → (∀ (i s : Nat) (v : Int) (c : List Int), CL[i]? = some (s, v, c) → j_I C 88 (b + k + i) = Int32.ofInt (s : Int) ∧ j_I C 89 (b + k + i) = Int32.ofInt v) → j_hw2 C 1 (b + k) CL.length = y_cT CL
  | [], k, _, _ => rfl
  | (s, v, c) :: r, k, hw, h => by
    obtain ⟨h1, h2⟩ := h 0 s v c rfl
    rw [Nat.add_zero] at h1 h2
    obtain ⟨w1, w2, w3, -⟩ := hw _ (List.mem_cons_self ..)
    have w3' : s ≤ 2 := w3
    have t1 : (Int32.ofInt (s : Int)).toInt = (s : Int) := t_of (by omega) (by omega)
    rw [List.length_cons, j_hw2, h1, t1, y_cT, Nat.add_assoc b k 1, hw2_c r (k + 1) (fun y hy => hw y (List.mem_cons_of_mem _ hy)) (fun i s' v' c' hi => by
      have := h (i + 1) s' v' c' (by rw [List.getElem?_cons_succ]; exact hi)
      rw [show b + (k + 1) + i = b + k + (i + 1) by omega]; exact this)]
    by_cases e : s = 1
    · rw [decide_eq_true (show (s : Int) = 1 by omega), decide_eq_true (show (s, v, c).1 = 1 from e)]
    · rw [decide_eq_false (show ¬ (s : Int) = 1 by omega), decide_eq_false (show ¬ (s, v, c).1 = 1 from e)]
/-- a new house -/
theorem Ho_new {C : j_H} {f : Nat} {CL : List (Nat × Int × List Int)} (hIc : y_Ic C (24 + 6 * f) CL) (hIm : y_Im C f CL) (h87 : j_I C 87 f = Int32.ofInt (CL.length : Int)) (h92 : ∀ j, j < (y_cC CL).length → j_I C 92 (100 * f + j) = Int32.ofInt ((y_cC CL).getD j 0)) (hst : ∀ j, j < (y_cC CL).length → j_I C (28 + 6 * f) j = Int32.ofInt (y_cs ((y_cC CL).getD j 0))) (hw : ∀ x, x ∈ CL → y_wf x) (h1 : 1 ≤ CL.length) (h10 : CL.length ≤ 10) (hC : (y_cC CL).length ≤ 100) (hf : f < 6) : j_Ho C f := by
  obtain ⟨c5, c0, c1, crow⟩ := hIc
  have t87 : (j_I C 87 f).toInt = (CL.length : Int) := by rw [h87]; exact t_of (by omega) (by omega)
  have cn : j_cn2 C f = CL.length := by unfold j_cn2; rw [t87]; rfl
  have hceb := cE_l CL
  have fb := cF_b CL 1 hw (by omega)
  have rows : ∀ (i s : Nat) (v : Int) (c : List Int), CL[i]? = some (s, v, c) → j_I C 88 (10 * f + 0 + i) = Int32.ofInt (s : Int) ∧ j_I C 89 (10 * f + 0 + i) = Int32.ofInt v := fun i s v c hi => ⟨(hIm i s v c hi).1, (hIm i s v c hi).2.1⟩
  have e1 : j_fr2 C (10 * f) CL.length 1 = y_cF 1 CL := fr2_c CL 0 1 hw rows
  have e2 : j_hw2 C 1 (10 * f) CL.length = y_cT CL := hw2_c CL 0 hw rows
  unfold j_Ho
  rw [cn, t87, e1, e2]
  refine ⟨by omega, by omega, by rw [c0]; exact t_of (by omega) (by omega), c1, fun c => y_cE (CL.take c), fun c => (y_cC (CL.take c)).length, rfl, rfl, ?_, ?_, fun i hi => ?_, fun j hj => ?_⟩
  · rw [c5]
    show _ = (y_cE (CL.take CL.length) : Int)
    rw [List.take_length]; exact t_of (by omega) (by omega)
  · show (y_cC (CL.take CL.length)).length ≤ 100
    rw [List.take_length]; exact hC
  · obtain ⟨x, hx⟩ : ∃ x, CL[i]? = some x := ⟨CL[i], List.getElem?_eq_getElem hi⟩
    obtain ⟨s, v, c⟩ := x
    obtain ⟨m1, m2, m3⟩ := hIm i s v c hx
    obtain ⟨w1, w2, w3, w4, w5⟩ := hw _ (List.mem_of_getElem? hx)
    have w1' : 0 ≤ v := w1
    have w2' : v ≤ 99 := w2
    have w3' : s ≤ 2 := w3
    have ts : (Int32.ofInt (s : Int)).toInt = (s : Int) := t_of (by omega) (by omega)
    have tv : (Int32.ofInt v).toInt = v := t_of (by omega) (by omega)
    have pp : (y_cC (CL.take (i + 1))).length = (y_cC (CL.take i)).length + c.length := by rw [y_tks hx, cC_s, List.length_append]
    have ee : y_cE (CL.take (i + 1)) = y_cE (CL.take i) + (if s = 2 then 0 else 1) := by rw [y_tks hx, cE_s]
    have hl : (y_cC (CL.take (i + 1))).length ≤ 100 := by
      have := congrArg List.length (cC_x CL i _ hx)
      rw [List.length_append, List.length_append] at this
      have : (y_cC CL).length = (y_cC (CL.take i)).length + (c.length + (y_cC (CL.drop (i + 1))).length) := this
      omega
    refine ⟨by rw [m2, tv]; exact w1', by rw [m2, tv]; exact w2', by show (y_cC (CL.take i)).length ≤ (y_cC (CL.take (i + 1))).length; omega, ?_⟩
    by_cases e : s = 2
    · refine Or.inl ⟨by rw [m1, ts, e]; rfl, ?_, ?_⟩
      · show y_cE (CL.take (i + 1)) = y_cE (CL.take i)
        rw [ee, if_pos e]; rfl
      · show (y_cC (CL.take (i + 1))).length = (y_cC (CL.take i)).length
        rw [pp, show c = [] from w4 e]; rfl
    · obtain ⟨r1, r2, r3⟩ := crow i s v c hx e
      obtain ⟨m4, m5⟩ := m3 e
      obtain ⟨D, D0, D1, D2⟩ := y_hsD c 0 1 (w5 e).2
      refine Or.inr ⟨by rw [m1, ts]; omega, ?_, ?_, ?_, ?_, ?_, ?_, D, D0, ?_, ?_⟩
      · show y_cE (CL.take (i + 1)) = y_cE (CL.take i) + 1
        rw [ee, if_neg e]
      · rw [m1, ← r1, show 25 + 6 * f = 24 + 6 * f + 1 by omega]
      · rw [m2, ← r2, show 26 + 6 * f = 24 + 6 * f + 2 by omega]
      · rw [show 27 + 6 * f = 24 + 6 * f + 3 by omega]
        show (j_I C (24 + 6 * f + 3) (y_cE (CL.take i))).toInt = ((y_cC (CL.take (i + 1))).length : Int)
        rw [r3]; exact t_of (by omega) (by omega)
      · rw [m4]
        show _ = 100 * (f : Int) + ((y_cC (CL.take i)).length : Int)
        rw [t_of (by omega) (by omega)]; omega
      · rw [m5]
        show _ = 100 * (f : Int) + ((y_cC (CL.take (i + 1))).length : Int)
        rw [t_of (by omega) (by omega)]; omega
      · show D ((y_cC (CL.take (i + 1))).length - (y_cC (CL.take i)).length) = 1
        rw [pp, Nat.add_sub_cancel_left]; exact D1
      · show j_dp C (100 * f + (y_cC (CL.take i)).length) ((y_cC (CL.take (i + 1))).length - (y_cC (CL.take i)).length) D
        rw [pp, Nat.add_sub_cancel_left]
        intro j hj
        obtain ⟨g1, g2⟩ := cC_g hx (show j < c.length from hj)
        have g1' : (y_cC CL).getD ((y_cC (CL.take i)).length + j) 0 = c.getD j 0 := g1
        have tkj : y_tk (c.getD j 0) := by
          rw [List.getD_eq_getElem?_getD, List.getElem?_eq_getElem hj]
          exact (w5 e).1 _ (List.getElem_mem hj)
        have tb := y_tk_b tkj
        have e92 : (j_I C 92 (100 * f + (y_cC (CL.take i)).length + j)).toInt = c.getD j 0 := by
          rw [Nat.add_assoc, h92 _ g2, g1']; exact t_of (by omega) (by omega)
        rw [e92]
        exact D2 j hj
  · have hj' : j < (y_cC (CL.take CL.length)).length := hj
    rw [List.take_length] at hj'
    have tkj : y_tk ((y_cC CL).getD j 0) := by
      rw [List.getD_eq_getElem?_getD, List.getElem?_eq_getElem hj']
      exact cC_tk CL hw _ (List.getElem_mem hj')
    have tb := y_tk_b tkj
    rw [hst j hj', h92 j hj', t_of (by omega) (by omega), t_of (by omega) (by omega)]
    exact y_cs_sg tkj
/-- an old house, where its cells are as they were -/
theorem fr2_mv {C C' : j_H} {lo hi : Nat} (h88 : ∀ k, lo ≤ k → k < hi → j_I C' 88 k = j_I C 88 k) (h89 : ∀ k, lo ≤ k → k < hi → j_I C' 89 k = j_I C 89 k) : ∀ (n c : Nat) (a : Int), lo ≤ c → c + n ≤ hi → j_fr2 C' c n a = j_fr2 C c n a
  | 0, _, _, _, _ => rfl
  | n + 1, c, a, h1, h2 => by rw [j_fr2, j_fr2, h88 c h1 (by omega), h89 c h1 (by omega), fr2_mv h88 h89 n (c + 1) _ (by omega) (by omega)]
theorem hw2_mv {C C' : j_H} {lo hi : Nat} (h88 : ∀ k, lo ≤ k → k < hi → j_I C' 88 k = j_I C 88 k) (w : Int) : ∀ (n c : Nat), lo ≤ c → c + n ≤ hi → j_hw2 C' w c n = j_hw2 C w c n
  | 0, _, _, _ => rfl
  | n + 1, c, h1, h2 => by rw [j_hw2, j_hw2, h88 c h1 (by omega), hw2_mv h88 w n (c + 1) (by omega) (by omega)]
theorem Ho_mv {C C' : j_H} {f : Nat} (hH : ∀ a k, 24 + 6 * f ≤ a → a ≤ 28 + 6 * f → j_I C' a k = j_I C a k) (h87 : j_I C' 87 f = j_I C 87 f) (hr : ∀ b k, 88 ≤ b → b ≤ 91 → 10 * f ≤ k → k < 10 * f + 10 → j_I C' b k = j_I C b k) (h92 : ∀ k, 100 * f ≤ k → k < 100 * f + 100 → j_I C' 92 k = j_I C 92 k) (h : j_Ho C f) : j_Ho C' f := by
  obtain ⟨o1, o2, o3, o4, e, p, o5, o6, o7, o8, o9, o10⟩ := h
  have ec : j_cn2 C' f = j_cn2 C f := by unfold j_cn2; rw [h87]
  have cb : j_cn2 C f ≤ 10 := by unfold j_cn2; omega
  have r88 : ∀ k, 10 * f ≤ k → k < 10 * f + 10 → j_I C' 88 k = j_I C 88 k := fun k => hr 88 k (by omega) (by omega)
  have r89 : ∀ k, 10 * f ≤ k → k < 10 * f + 10 → j_I C' 89 k = j_I C 89 k := fun k => hr 89 k (by omega) (by omega)
  have pm := j_Hc_m o9
  refine ⟨by rw [h87]; exact o1, by rw [h87]; exact o2, by rw [hH _ _ (by omega) (by omega), ec, fr2_mv r88 r89 _ _ _ (Nat.le_refl _) (by omega)]; exact o3, by rw [hH _ _ (by omega) (by omega), ec, hw2_mv r88 _ _ _ (Nat.le_refl _) (by omega)]; exact o4, e, p, o5, o6, by rw [hH _ _ (by omega) (by omega), ec]; exact o7, by rw [ec]; exact o8, fun c hc => ?_, fun j hj => ?_⟩
  · rw [ec] at hc
    have pc := (pm (c + 1) (by omega)).2.1
    obtain ⟨z1, z2, z3, z4⟩ := o9 c hc
    refine ⟨by rw [hr 89 _ (by omega) (by omega) (by omega) (by omega)]; exact z1, by rw [hr 89 _ (by omega) (by omega) (by omega) (by omega)]; exact z2, z3, ?_⟩
    rw [hr 88 _ (by omega) (by omega) (by omega) (by omega), hr 89 _ (by omega) (by omega) (by omega) (by omega), hr 90 _ (by omega) (by omega) (by omega) (by omega), hr 91 _ (by omega) (by omega) (by omega) (by omega), hH (25 + 6 * f) _ (by omega) (by omega), hH (26 + 6 * f) _ (by omega) (by omega), hH (27 + 6 * f) _ (by omega) (by omega)]
    rcases z4 with z4 | ⟨y1, y2, y3, y4, y5, y6, y7, D, y8, y9, y10⟩
    · exact Or.inl z4
    · refine Or.inr ⟨y1, y2, y3, y4, y5, y6, y7, D, y8, y9, fun j hj => ?_⟩
      rw [h92 _ (by omega) (by omega)]
      exact y10 j hj
  · rw [ec] at hj
    rw [hH _ _ (by omega) (by omega), h92 _ (by omega) (by omega)]
    exact o10 j hj
