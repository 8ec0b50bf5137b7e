/-! HOUSES: the reference reads an E, all of it -/
def y_Rb (H : j_H) (b f cl p : Nat) (S : List Int) (o : Int) (c : List Int) (Q : Option Value → j_H → Prop) : Prop := ∀ L c1, (L = [] ∨ L = [38]) → c1 ++ L.map (fun x : Int => -x) = c → y_R H b f cl p (L ++ S) o c1 0 Q
def y_Rf (H : j_H) (b f cl p : Nat) (S : List Int) (o : Int) (c : List Int) (Q : Option Value → j_H → Prop) : Prop := ∀ L c1, (L = [] ∨ L = [38] ∨ L = [124] ∨ L = [38, 124]) → c1 ++ L.map (fun x : Int => -x) = c → y_R H b f cl p (L ++ S) o c1 0 Q
def y_gr (H : j_H) (b f cl m d p : Nat) (ok : Bool) (q : Nat) (c : List Int) (Q : Option Value → j_H → Prop) : Prop := match m with
  | 0 => ∀ (S c0 : List Int), (∀ x r, S = x :: r → x = 40) → S.length ≤ 3 * d → c0.length ≤ p → (ok = true → y_Rf H b f cl q S (d : Int) (c0 ++ c) Q) → (ok = false → y_bad H f cl q Q) → y_R H b f cl p S (d : Int) c0 1 Q
  | 1 => ∀ (S c0 : List Int), (∀ x r, S = x :: r → x = 40 ∨ x = 124) → S.length ≤ 3 * d + 1 → c0.length ≤ p → (ok = true → y_Rb H b f cl q S (d : Int) (c0 ++ c) Q) → (ok = false → y_bad H f cl q Q) → y_R H b f cl p S (d : Int) c0 1 Q
  | 2 => ∀ (S : List Int) (k : Nat) (c0 : List Int), (∀ x r, S = x :: r → ¬ x = 33) → k + S.length ≤ 3 * d + 2 → c0.length + k ≤ p → (ok = true → y_R H b f cl q S ((d : Int) - (k : Int)) (c0 ++ (c ++ List.replicate k (-33))) 0 Q) → (ok = false → y_bad H f cl q Q) → y_R H b f cl p (List.replicate k 33 ++ S) (d : Int) c0 1 Q
  | 3 => ∀ (S c0 : List Int), (∀ x r, S = x :: r → x = 40) → S.length ≤ 3 * d → c0.length ≤ p → (ok = true → y_Rf H b f cl q S (d : Int) (c0 ++ c) Q) → (ok = false → y_bad H f cl q Q) → y_Rf H b f cl p S (d : Int) c0 Q
  | _ => ∀ (S c0 : List Int), (∀ x r, S = x :: r → x = 40 ∨ x = 124) → S.length ≤ 3 * d + 1 → c0.length ≤ p → (ok = true → y_Rb H b f cl q S (d : Int) (c0 ++ c) Q) → (ok = false → y_bad H f cl q Q) → y_Rb H b f cl p S (d : Int) c0 Q
theorem y_Lb {L : List Int} (h : L = [] ∨ L = [38]) : L.length ≤ 1 ∧ (∀ y ∈ L, y = 38) := by
  rcases h with h | h <;> subst h
  · exact ⟨by decide, fun y hy => by cases hy⟩
  · exact ⟨by decide, fun y hy => List.mem_singleton.1 hy⟩
theorem y_Lf {L : List Int} (h : L = [] ∨ L = [38] ∨ L = [124] ∨ L = [38, 124]) : L.length ≤ 2 ∧ (∀ y ∈ L, y = 38 ∨ y = 124) := by
  rcases h with h | h | h | h <;> subst h
  · exact ⟨by decide, fun y hy => by cases hy⟩
  · exact ⟨by decide, fun y hy => Or.inl (List.mem_singleton.1 hy)⟩
  · exact ⟨by decide, fun y hy => Or.inr (List.mem_singleton.1 hy)⟩
  · refine ⟨by decide, fun y hy => ?_⟩
    rcases List.mem_cons.1 hy with h | h
    · exact Or.inl h
    · exact Or.inr (List.mem_singleton.1 h)
theorem y_len {c1 L c : List Int} (h : c1 ++ L.map (fun x : Int => -x) = c) : c1.length + L.length = c.length := by
  rw [← h, List.length_append, List.length_map]
theorem y_ff' {P : Prop} : (true = false → P) := fun h => by cases h
theorem y_ref {n : Nat} {h : Nat → Int} {H : j_H} {b f cl : Nat} (hF : y_Fm H n h) (hf : f < 6) (hcl : cl < 60) {m d p : Nat} {ok : Bool} {q : Nat} {c : List Int} (hP : y_P h m d p ok q c) : ∀ (Q : Option Value → j_H → Prop), p ≤ n → d ≤ 4 → y_gr H b f cl m d p ok q c Q := by
  have hn : n ≤ 100 := hF.2.2.1
  have hE := hF.2.2.2.2.1
  induction hP using y_P_ind with
  | @deep d p h1 h2 =>
    intro Q hp hd S k c0 a1 a2 a3 aT aF
    have e : d = 4 := by omega
    subst e
    exact R_deep hF h1 hp (by omega) (aF rfl)
  | @pf d p q c h1 h2 h3 ih =>
    intro Q hp hd S k c0 a1 a2 a3 aT aF
    have l1 : p + 1 ≤ n := y_Ml hF (by rw [h1]; decide)
    have el : (List.replicate k (33 : Int) ++ S).length = k + S.length := by rw [List.length_append, List.length_replicate]
    refine R_push hF (Or.inl h1) hp ⟨by omega, by omega⟩ (by omega) ?_
    rw [h1]
    exact ih Q l1 (by omega) (40 :: (List.replicate k 33 ++ S)) c0 (fun x r e => by cases e; rfl) (by rw [List.length_cons]; omega) (by omega) y_ff aF
  | @pn d p q c h1 h2 h3 h4 ih =>
    intro Q hp hd S k c0 a1 a2 a3 aT aF
    have l1 : p + 1 ≤ n := y_Ml hF (by rw [h1]; decide)
    have el : (List.replicate k (33 : Int) ++ S).length = k + S.length := by rw [List.length_append, List.length_replicate]
    obtain ⟨k1, k2, k3⟩ := y_pr hE h3
    obtain ⟨k4, -, -, -, -, -, -, -, k5, -⟩ := k3 rfl
    have l2 := k2 l1
    refine R_push hF (Or.inl h1) hp ⟨by omega, by omega⟩ (by omega) ?_
    rw [h1]
    refine ih Q l1 (by omega) (40 :: (List.replicate k 33 ++ S)) c0 (fun x r e => by cases e; rfl) (by rw [List.length_cons]; omega) (by omega) (fun _ L c1 hL hc => ?_) y_ff'
    have x1 := y_Lf hL
    have x2 := y_len hc
    rw [List.length_append] at x2
    exact R_ncl hF hf hcl (k5 rfl).1 (k5 rfl).2 h4 l2 x1.2 (by omega) (by omega) (aF rfl)
  | @pp d p q c h1 h2 h3 h4 ih =>
    intro Q hp hd S k c0 a1 a2 a3 aT aF
    have l1 : p + 1 ≤ n := y_Ml hF (by rw [h1]; decide)
    have el : (List.replicate k (33 : Int) ++ S).length = k + S.length := by rw [List.length_append, List.length_replicate]
    obtain ⟨k1, k2, k3⟩ := y_pr hE h3
    have k4 := (k3 rfl).1
    have l2 := k2 l1
    refine R_push hF (Or.inl h1) hp ⟨by omega, by omega⟩ (by omega) ?_
    rw [h1]
    refine ih Q l1 (by omega) (40 :: (List.replicate k 33 ++ S)) c0 (fun x r e => by cases e; rfl) (by rw [List.length_cons]; omega) (by omega) (fun _ L c1 hL hc => ?_) y_ff'
    have x1 := y_Lf hL
    have x2 := y_len hc
    rw [List.length_append] at x2
    refine R_cl hF hf hcl h4 l2 a1 x1.2 (by omega) (by omega) ?_
    rw [hc, show ((d + 1 : Nat) : Int) - 1 - (k : Int) = (d : Int) - (k : Int) by omega, List.append_assoc]
    exact aT rfl
  | @nf d p q c h1 h2 h3 ih =>
    intro Q hp hd S k c0 a1 a2 a3 aT aF
    have l1 : p + 1 ≤ n := y_Ml hF (by rw [h1]; decide)
    have el : (List.replicate k (33 : Int) ++ S).length = k + S.length := by rw [List.length_append, List.length_replicate]
    refine R_push hF (Or.inr h1) hp ⟨by omega, by omega⟩ (by omega) ?_
    rw [h1]
    exact ih Q l1 (by omega) S (k + 1) c0 a1 (by omega) (by omega) y_ff aF
  | @np d p q c h1 h2 h3 ih =>
    intro Q hp hd S k c0 a1 a2 a3 aT aF
    have l1 : p + 1 ≤ n := y_Ml hF (by rw [h1]; decide)
    have el : (List.replicate k (33 : Int) ++ S).length = k + S.length := by rw [List.length_append, List.length_replicate]
    refine R_push hF (Or.inr h1) hp ⟨by omega, by omega⟩ (by omega) ?_
    rw [h1]
    refine ih Q l1 (by omega) S (k + 1) c0 a1 (by omega) (by omega) (fun _ => ?_) y_ff'
    have := aT rfl
    rw [List.append_assoc] at this
    rw [show ((d + 1 : Nat) : Int) - ((k + 1 : Nat) : Int) = (d : Int) - (k : Int) by omega]
    exact this
  | @t0 d p h1 h2 =>
    intro Q hp hd S k c0 a1 a2 a3 aT aF
    exact R_t0 hF h1 h2 hp (by omega) (aF rfl)
  | @t1 d p h1 h2 h3 =>
    intro Q hp hd S k c0 a1 a2 a3 aT aF
    exact R_t1 hF h1 h2 h3 hp (by omega) (aF rfl)
  | @t2 d p h1 h2 h3 h4 =>
    intro Q hp hd S k c0 a1 a2 a3 aT aF
    exact R_t2 hF h1 h2 h3 h4 hp (by omega) (aF rfl)
  | @t3 d p h1 h2 h3 h4 =>
    intro Q hp hd S k c0 a1 a2 a3 aT aF
    have l1 : p + 1 ≤ n := y_Ml hF (y_li_p h2)
    exact R_t3 hF hf h1 h2 h3 h4 hp a1 (by omega) (by omega) (aT rfl)
  | @b1f d p q c h1 ih =>
    intro Q hp hd S c0 a1 a2 a3 aT aF
    exact ih Q hp hd S 0 c0 (fun x r e => by have := a1 x r e; omega) (by omega) (by omega) y_ff aF
  | @b1 d p q r ok c c' h1 h2 ih ih' =>
    intro Q hp hd S c0 a1 a2 a3 aT aF
    obtain ⟨k1, k2, k3⟩ := y_pr hE h1
    have k4 := (k3 rfl).1
    refine ih Q hp hd S 0 c0 (fun x r e => by have := a1 x r e; omega) (by omega) (by omega) (fun _ => ?_) y_ff'
    have hb : y_Rb H b f cl q S (d : Int) (c0 ++ c) Q := ih' Q (k2 hp) hd S (c0 ++ c) a1 a2 (by rw [List.length_append]; omega) (fun e => by rw [List.append_assoc]; exact aT e) aF
    have := hb [] (c0 ++ c) (Or.inl rfl) (List.append_nil _)
    rw [show (d : Int) - ((0 : Nat) : Int) = (d : Int) by omega, show c ++ List.replicate 0 (-33) = c from List.append_nil c]
    exact this
  | @b4e d p h1 =>
    intro Q hp hd S c0 a1 a2 a3 aT aF
    have := aT rfl
    rw [List.append_nil] at this
    exact this
  | @b4f d p q c h1 h2 ih =>
    intro Q hp hd S c0 a1 a2 a3 aT aF L c1 hL hc
    have l1 : p + 1 ≤ n := y_Ml hF (by rw [h1]; decide)
    have x1 := y_Lb hL
    have x2 := y_len hc
    refine R_op hF hf (Or.inl rfl) h1 hp (fun x r e => ⟨by have := a1 x r e; omega, Or.inr rfl⟩) (fun y hy => Or.inl (x1.2 y hy)) (by omega) (by omega) ?_
    rw [hc]
    exact ih Q l1 hd (38 :: S) 0 c0 (fun x r e => by cases e; decide) (by rw [List.length_cons]; omega) (by omega) y_ff aF
  | @b4 d p q r ok c c' h1 h2 h3 ih ih' =>
    intro Q hp hd S c0 a1 a2 a3 aT aF L c1 hL hc
    have l1 : p + 1 ≤ n := y_Ml hF (by rw [h1]; decide)
    have x1 := y_Lb hL
    have x2 := y_len hc
    obtain ⟨k1, k2, k3⟩ := y_pr hE h2
    have k4 := (k3 rfl).1
    refine R_op hF hf (Or.inl rfl) h1 hp (fun x r e => ⟨by have := a1 x r e; omega, Or.inr rfl⟩) (fun y hy => Or.inl (x1.2 y hy)) (by omega) (by omega) ?_
    rw [hc]
    refine ih Q l1 hd (38 :: S) 0 c0 (fun x r e => by cases e; decide) (by rw [List.length_cons]; omega) (by omega) (fun _ => ?_) y_ff'
    have hb : y_Rb H b f cl q S (d : Int) (c0 ++ c ++ [-38]) Q := ih' Q (k2 l1) hd S (c0 ++ c ++ [-38]) a1 a2 (by rw [List.length_append, List.length_append, List.length_singleton]; omega) (fun e => by rw [List.append_assoc, List.append_assoc]; exact aT e) aF
    have := hb [38] (c0 ++ c) (Or.inr rfl) rfl
    rw [show (d : Int) - ((0 : Nat) : Int) = (d : Int) by omega, show c ++ List.replicate 0 (-33) = c from List.append_nil c]
    exact this
  | @a0f d p q c h1 ih =>
    intro Q hp hd S c0 a1 a2 a3 aT aF
    exact ih Q hp hd S c0 (fun x r e => Or.inl (a1 x r e)) (by omega) a3 y_ff aF
  | @a0 d p q r ok c c' h1 h2 ih ih' =>
    intro Q hp hd S c0 a1 a2 a3 aT aF
    obtain ⟨k1, k2, k3⟩ := y_pr hE h1
    have k4 := (k3 rfl).1
    refine ih Q hp hd S c0 (fun x r e => Or.inl (a1 x r e)) (by omega) a3 (fun _ L c1 hL hc => ?_) y_ff'
    have hb : y_Rf H b f cl q S (d : Int) (c0 ++ c) Q := ih' Q (k2 hp) hd S (c0 ++ c) a1 a2 (by rw [List.length_append]; omega) (fun e => by rw [List.append_assoc]; exact aT e) aF
    exact hb L c1 (hL.elim Or.inl (fun e => Or.inr (Or.inl e))) hc
  | @a3e d p h1 =>
    intro Q hp hd S c0 a1 a2 a3 aT aF
    have := aT rfl
    rw [List.append_nil] at this
    exact this
  | @a3f d p q c h1 h2 ih =>
    intro Q hp hd S c0 a1 a2 a3 aT aF L c1 hL hc
    have l1 : p + 1 ≤ n := y_Ml hF (by rw [h1]; decide)
    have x1 := y_Lf hL
    have x2 := y_len hc
    refine R_op hF hf (Or.inr rfl) h1 hp (fun x r e => by have := a1 x r e; omega) (fun y hy => by have := x1.2 y hy; omega) (by omega) (by omega) ?_
    rw [hc]
    exact ih Q l1 hd (124 :: S) c0 (fun x r e => by cases e; exact Or.inr rfl) (by rw [List.length_cons]; omega) (by omega) y_ff aF
  | @a3 d p q r ok c c' h1 h2 h3 ih ih' =>
    intro Q hp hd S c0 a1 a2 a3 aT aF L c1 hL hc
    have l1 : p + 1 ≤ n := y_Ml hF (by rw [h1]; decide)
    have x1 := y_Lf hL
    have x2 := y_len hc
    obtain ⟨k1, k2, k3⟩ := y_pr hE h2
    have k4 := (k3 rfl).1
    refine R_op hF hf (Or.inr rfl) h1 hp (fun x r e => by have := a1 x r e; omega) (fun y hy => by have := x1.2 y hy; omega) (by omega) (by omega) ?_
    rw [hc]
    refine ih Q l1 hd (124 :: S) c0 (fun x r e => by cases e; exact Or.inr rfl) (by rw [List.length_cons]; omega) (by omega) (fun _ L' c2 hL' hc' => ?_) y_ff'
    have hb : y_Rf H b f cl q S (d : Int) (c0 ++ c ++ [-124]) Q := ih' Q (k2 l1) hd S (c0 ++ c ++ [-124]) a1 a2 (by rw [List.length_append, List.length_append, List.length_singleton]; omega) (fun e => by rw [List.append_assoc, List.append_assoc]; exact aT e) aF
    have := hb (L' ++ [124]) c2 (hL'.elim (fun e => by subst e; exact Or.inr (Or.inr (Or.inl rfl))) (fun e => by subst e; exact Or.inr (Or.inr (Or.inr rfl)))) (by rw [List.map_append, ← List.append_assoc, hc']; rfl)
    rw [List.append_assoc] at this
    exact this
