/-! HOUSES: how far a text goes, as a relation; h p is the sign at p, -1 past the end -/
def y_ix (s : Int) : Int → List Int → Int
  | _, [] => -1
  | i, x :: r => if x = s then i else y_ix s (i + 1) r
/-- which letter, which relation -/
def y_li (s : Int) : Int := y_ix s 0 [103, 107, 118, 104, 110, 115]
def y_re (s : Int) : Int := y_ix s 0 [60, 61, 62]
abbrev y_dg (s : Int) : Prop := 48 ≤ s ∧ s ≤ 57
/-- a number: how many signs, and what it says -/
def y_nl (h : Nat → Int) (p : Nat) : Nat := if y_dg (h p) then (if y_dg (h (p + 1)) then 2 else 1) else 0
def y_nv (h : Nat → Int) (p : Nat) : Int := if y_dg (h (p + 1)) then (h p - 48) * 10 + h (p + 1) - 48 else h p - 48
/-- 0 either, 1 both, 2 factor, 3 either's loop, 4 both's loop -/
def y_K (h : Nat → Int) (P : Nat → Nat → Nat → Bool → Nat → List Int → Prop) : Prop :=
  (∀ (d p : Nat), (h p = 40 ∨ h p = 33) → 4 ≤ d → P 2 d p false p []) ∧
  (∀ (d p q : Nat) (c : List Int), h p = 40 → d < 4 → P 0 (d + 1) (p + 1) false q c → P 2 d p false q c) ∧
  (∀ (d p q : Nat) (c : List Int), h p = 40 → d < 4 → P 0 (d + 1) (p + 1) true q c → ¬ h q = 41 → P 2 d p false q c) ∧
  (∀ (d p q : Nat) (c : List Int), h p = 40 → d < 4 → P 0 (d + 1) (p + 1) true q c → h q = 41 → P 2 d p true (q + 1) c) ∧
  (∀ (d p q : Nat) (c : List Int), h p = 33 → d < 4 → P 2 (d + 1) (p + 1) false q c → P 2 d p false q c) ∧
  (∀ (d p q : Nat) (c : List Int), h p = 33 → d < 4 → P 2 (d + 1) (p + 1) true q c → P 2 d p true q (c ++ [-33])) ∧
  (∀ (d p : Nat), ¬ (h p = 40 ∨ h p = 33) → y_li (h p) < 0 → P 2 d p false p []) ∧
  (∀ (d p : Nat), ¬ (h p = 40 ∨ h p = 33) → 0 ≤ y_li (h p) → y_re (h (p + 1)) < 0 → P 2 d p false (p + 1) []) ∧
  (∀ (d p : Nat), ¬ (h p = 40 ∨ h p = 33) → 0 ≤ y_li (h p) → 0 ≤ y_re (h (p + 1)) → y_nl h (p + 2) = 0 → P 2 d p false (p + 2) []) ∧
  (∀ (d p : Nat), ¬ (h p = 40 ∨ h p = 33) → 0 ≤ y_li (h p) → 0 ≤ y_re (h (p + 1)) → ¬ y_nl h (p + 2) = 0 → P 2 d p true (p + 2 + y_nl h (p + 2)) [1000 * y_li (h p) + 100 * y_re (h (p + 1)) + y_nv h (p + 2)]) ∧
  (∀ (d p q : Nat) (c : List Int), P 2 d p false q c → P 1 d p false q c) ∧
  (∀ (d p q r : Nat) (ok : Bool) (c c' : List Int), P 2 d p true q c → P 4 d q ok r c' → P 1 d p ok r (c ++ c')) ∧
  (∀ (d p : Nat), ¬ h p = 38 → P 4 d p true p []) ∧
  (∀ (d p q : Nat) (c : List Int), h p = 38 → P 2 d (p + 1) false q c → P 4 d p false q c) ∧
  (∀ (d p q r : Nat) (ok : Bool) (c c' : List Int), h p = 38 → P 2 d (p + 1) true q c → P 4 d q ok r c' → P 4 d p ok r (c ++ -38 :: c')) ∧
  (∀ (d p q : Nat) (c : List Int), P 1 d p false q c → P 0 d p false q c) ∧
  (∀ (d p q r : Nat) (ok : Bool) (c c' : List Int), P 1 d p true q c → P 3 d q ok r c' → P 0 d p ok r (c ++ c')) ∧
  (∀ (d p : Nat), ¬ h p = 124 → P 3 d p true p []) ∧
  (∀ (d p q : Nat) (c : List Int), h p = 124 → P 1 d (p + 1) false q c → P 3 d p false q c) ∧
  (∀ (d p q r : Nat) (ok : Bool) (c c' : List Int), h p = 124 → P 1 d (p + 1) true q c → P 3 d q ok r c' → P 3 d p ok r (c ++ -124 :: c'))
def y_P (h : Nat → Int) (m d p : Nat) (ok : Bool) (q : Nat) (c : List Int) : Prop := ∀ P : Nat → Nat → Nat → Bool → Nat → List Int → Prop, y_K h P → P m d p ok q c
theorem y_P.deep {h : Nat → Int} {d p : Nat} (x0 : (h p = 40 ∨ h p = 33)) (x1 : 4 ≤ d) : y_P h 2 d p false p [] := fun P hK => hK.1 _ _ x0 x1
theorem y_P.pf {h : Nat → Int} {d p q : Nat} {c : List Int} (x0 : h p = 40) (x1 : d < 4) (x2 : y_P h 0 (d + 1) (p + 1) false q c) : y_P h 2 d p false q c := fun P hK => hK.2.1 _ _ _ _ x0 x1 (x2 P hK)
theorem y_P.pn {h : Nat → Int} {d p q : Nat} {c : List Int} (x0 : h p = 40) (x1 : d < 4) (x2 : y_P h 0 (d + 1) (p + 1) true q c) (x3 : ¬ h q = 41) : y_P h 2 d p false q c := fun P hK => hK.2.2.1 _ _ _ _ x0 x1 (x2 P hK) x3
theorem y_P.pp {h : Nat → Int} {d p q : Nat} {c : List Int} (x0 : h p = 40) (x1 : d < 4) (x2 : y_P h 0 (d + 1) (p + 1) true q c) (x3 : h q = 41) : y_P h 2 d p true (q + 1) c := fun P hK => hK.2.2.2.1 _ _ _ _ x0 x1 (x2 P hK) x3
theorem y_P.nf {h : Nat → Int} {d p q : Nat} {c : List Int} (x0 : h p = 33) (x1 : d < 4) (x2 : y_P h 2 (d + 1) (p + 1) false q c) : y_P h 2 d p false q c := fun P hK => hK.2.2.2.2.1 _ _ _ _ x0 x1 (x2 P hK)
theorem y_P.np {h : Nat → Int} {d p q : Nat} {c : List Int} (x0 : h p = 33) (x1 : d < 4) (x2 : y_P h 2 (d + 1) (p + 1) true q c) : y_P h 2 d p true q (c ++ [-33]) := fun P hK => hK.2.2.2.2.2.1 _ _ _ _ x0 x1 (x2 P hK)
theorem y_P.t0 {h : Nat → Int} {d p : Nat} (x0 : ¬ (h p = 40 ∨ h p = 33)) (x1 : y_li (h p) < 0) : y_P h 2 d p false p [] := fun P hK => hK.2.2.2.2.2.2.1 _ _ x0 x1
theorem y_P.t1 {h : Nat → Int} {d p : Nat} (x0 : ¬ (h p = 40 ∨ h p = 33)) (x1 : 0 ≤ y_li (h p)) (x2 : y_re (h (p + 1)) < 0) : y_P h 2 d p false (p + 1) [] := fun P hK => hK.2.2.2.2.2.2.2.1 _ _ x0 x1 x2
theorem y_P.t2 {h : Nat → Int} {d p : Nat} (x0 : ¬ (h p = 40 ∨ h p = 33)) (x1 : 0 ≤ y_li (h p)) (x2 : 0 ≤ y_re (h (p + 1))) (x3 : y_nl h (p + 2) = 0) : y_P h 2 d p false (p + 2) [] := fun P hK => hK.2.2.2.2.2.2.2.2.1 _ _ x0 x1 x2 x3
theorem y_P.t3 {h : Nat → Int} {d p : Nat} (x0 : ¬ (h p = 40 ∨ h p = 33)) (x1 : 0 ≤ y_li (h p)) (x2 : 0 ≤ y_re (h (p + 1))) (x3 : ¬ y_nl h (p + 2) = 0) : y_P h 2 d p true (p + 2 + y_nl h (p + 2)) [1000 * y_li (h p) + 100 * y_re (h (p + 1)) + y_nv h (p + 2)] := fun P hK => hK.2.2.2.2.2.2.2.2.2.1 _ _ x0 x1 x2 x3
theorem y_P.b1f {h : Nat → Int} {d p q : Nat} {c : List Int} (x0 : y_P h 2 d p false q c) : y_P h 1 d p false q c := fun P hK => hK.2.2.2.2.2.2.2.2.2.2.1 _ _ _ _ (x0 P hK)
theorem y_P.b1 {h : Nat → Int} {d p q r : Nat} {ok : Bool} {c c' : List Int} (x0 : y_P h 2 d p true q c) (x1 : y_P h 4 d q ok r c') : y_P h 1 d p ok r (c ++ c') := fun P hK => hK.2.2.2.2.2.2.2.2.2.2.2.1 _ _ _ _ _ _ _ (x0 P hK) (x1 P hK)
theorem y_P.b4e {h : Nat → Int} {d p : Nat} (x0 : ¬ h p = 38) : y_P h 4 d p true p [] := fun P hK => hK.2.2.2.2.2.2.2.2.2.2.2.2.1 _ _ x0
theorem y_P.b4f {h : Nat → Int} {d p q : Nat} {c : List Int} (x0 : h p = 38) (x1 : y_P h 2 d (p + 1) false q c) : y_P h 4 d p false q c := fun P hK => hK.2.2.2.2.2.2.2.2.2.2.2.2.2.1 _ _ _ _ x0 (x1 P hK)
theorem y_P.b4 {h : Nat → Int} {d p q r : Nat} {ok : Bool} {c c' : List Int} (x0 : h p = 38) (x1 : y_P h 2 d (p + 1) true q c) (x2 : y_P h 4 d q ok r c') : y_P h 4 d p ok r (c ++ -38 :: c') := fun P hK => hK.2.2.2.2.2.2.2.2.2.2.2.2.2.2.1 _ _ _ _ _ _ _ x0 (x1 P hK) (x2 P hK)
theorem y_P.a0f {h : Nat → Int} {d p q : Nat} {c : List Int} (x0 : y_P h 1 d p false q c) : y_P h 0 d p false q c := fun P hK => hK.2.2.2.2.2.2.2.2.2.2.2.2.2.2.2.1 _ _ _ _ (x0 P hK)
theorem y_P.a0 {h : Nat → Int} {d p q r : Nat} {ok : Bool} {c c' : List Int} (x0 : y_P h 1 d p true q c) (x1 : y_P h 3 d q ok r c') : y_P h 0 d p ok r (c ++ c') := fun P hK => hK.2.2.2.2.2.2.2.2.2.2.2.2.2.2.2.2.1 _ _ _ _ _ _ _ (x0 P hK) (x1 P hK)
theorem y_P.a3e {h : Nat → Int} {d p : Nat} (x0 : ¬ h p = 124) : y_P h 3 d p true p [] := fun P hK => hK.2.2.2.2.2.2.2.2.2.2.2.2.2.2.2.2.2.1 _ _ x0
theorem y_P.a3f {h : Nat → Int} {d p q : Nat} {c : List Int} (x0 : h p = 124) (x1 : y_P h 1 d (p + 1) false q c) : y_P h 3 d p false q c := fun P hK => hK.2.2.2.2.2.2.2.2.2.2.2.2.2.2.2.2.2.2.1 _ _ _ _ x0 (x1 P hK)
theorem y_P.a3 {h : Nat → Int} {d p q r : Nat} {ok : Bool} {c c' : List Int} (x0 : h p = 124) (x1 : y_P h 1 d (p + 1) true q c) (x2 : y_P h 3 d q ok r c') : y_P h 3 d p ok r (c ++ -124 :: c') := fun P hK => hK.2.2.2.2.2.2.2.2.2.2.2.2.2.2.2.2.2.2.2 _ _ _ _ _ _ _ x0 (x1 P hK) (x2 P hK)
theorem y_P_ind {h : Nat → Int} {motive : (m d p : Nat) → (ok : Bool) → (q : Nat) → (c : List Int) → y_P h m d p ok q c → Prop}
  (deep : ∀ {d p : Nat}, (x0 : (h p = 40 ∨ h p = 33)) → (x1 : 4 ≤ d) → motive 2 d p false p [] (y_P.deep x0 x1))
  (pf : ∀ {d p q : Nat} {c : List Int}, (x0 : h p = 40) → (x1 : d < 4) → (x2 : y_P h 0 (d + 1) (p + 1) false q c) → motive 0 (d + 1) (p + 1) false q c x2 → motive 2 d p false q c (y_P.pf x0 x1 x2))
  (pn : ∀ {d p q : Nat} {c : List Int}, (x0 : h p = 40) → (x1 : d < 4) → (x2 : y_P h 0 (d + 1) (p + 1) true q c) → (x3 : ¬ h q = 41) → motive 0 (d + 1) (p + 1) true q c x2 → motive 2 d p false q c (y_P.pn x0 x1 x2 x3))
  (pp : ∀ {d p q : Nat} {c : List Int}, (x0 : h p = 40) → (x1 : d < 4) → (x2 : y_P h 0 (d + 1) (p + 1) true q c) → (x3 : h q = 41) → motive 0 (d + 1) (p + 1) true q c x2 → motive 2 d p true (q + 1) c (y_P.pp x0 x1 x2 x3))
  (nf : ∀ {d p q : Nat} {c : List Int}, (x0 : h p = 33) → (x1 : d < 4) → (x2 : y_P h 2 (d + 1) (p + 1) false q c) → motive 2 (d + 1) (p + 1) false q c x2 → motive 2 d p false q c (y_P.nf x0 x1 x2))
  (np : ∀ {d p q : Nat} {c : List Int}, (x0 : h p = 33) → (x1 : d < 4) → (x2 : y_P h 2 (d + 1) (p + 1) true q c) → motive 2 (d + 1) (p + 1) true q c x2 → motive 2 d p true q (c ++ [-33]) (y_P.np x0 x1 x2))
  (t0 : ∀ {d p : Nat}, (x0 : ¬ (h p = 40 ∨ h p = 33)) → (x1 : y_li (h p) < 0) → motive 2 d p false p [] (y_P.t0 x0 x1))
  (t1 : ∀ {d p : Nat}, (x0 : ¬ (h p = 40 ∨ h p = 33)) → (x1 : 0 ≤ y_li (h p)) → (x2 : y_re (h (p + 1)) < 0) → motive 2 d p false (p + 1) [] (y_P.t1 x0 x1 x2))
  (t2 : ∀ {d p : Nat}, (x0 : ¬ (h p = 40 ∨ h p = 33)) → (x1 : 0 ≤ y_li (h p)) → (x2 : 0 ≤ y_re (h (p + 1))) → (x3 : y_nl h (p + 2) = 0) → motive 2 d p false (p + 2) [] (y_P.t2 x0 x1 x2 x3))
  (t3 : ∀ {d p : Nat}, (x0 : ¬ (h p = 40 ∨ h p = 33)) → (x1 : 0 ≤ y_li (h p)) → (x2 : 0 ≤ y_re (h (p + 1))) → (x3 : ¬ y_nl h (p + 2) = 0) → motive 2 d p true (p + 2 + y_nl h (p + 2)) [1000 * y_li (h p) + 100 * y_re (h (p + 1)) + y_nv h (p + 2)] (y_P.t3 x0 x1 x2 x3))
  (b1f : ∀ {d p q : Nat} {c : List Int}, (x0 : y_P h 2 d p false q c) → motive 2 d p false q c x0 → motive 1 d p false q c (y_P.b1f x0))
  (b1 : ∀ {d p q r : Nat} {ok : Bool} {c c' : List Int}, (x0 : y_P h 2 d p true q c) → (x1 : y_P h 4 d q ok r c') → motive 2 d p true q c x0 → motive 4 d q ok r c' x1 → motive 1 d p ok r (c ++ c') (y_P.b1 x0 x1))
  (b4e : ∀ {d p : Nat}, (x0 : ¬ h p = 38) → motive 4 d p true p [] (y_P.b4e x0))
  (b4f : ∀ {d p q : Nat} {c : List Int}, (x0 : h p = 38) → (x1 : y_P h 2 d (p + 1) false q c) → motive 2 d (p + 1) false q c x1 → motive 4 d p false q c (y_P.b4f x0 x1))
  (b4 : ∀ {d p q r : Nat} {ok : Bool} {c c' : List Int}, (x0 : h p = 38) → (x1 : y_P h 2 d (p + 1) true q c) → (x2 : y_P h 4 d q ok r c') → motive 2 d (p + 1) true q c x1 → motive 4 d q ok r c' x2 → motive 4 d p ok r (c ++ -38 :: c') (y_P.b4 x0 x1 x2))
  (a0f : ∀ {d p q : Nat} {c : List Int}, (x0 : y_P h 1 d p false q c) → motive 1 d p false q c x0 → motive 0 d p false q c (y_P.a0f x0))
  (a0 : ∀ {d p q r : Nat} {ok : Bool} {c c' : List Int}, (x0 : y_P h 1 d p true q c) → (x1 : y_P h 3 d q ok r c') → motive 1 d p true q c x0 → motive 3 d q ok r c' x1 → motive 0 d p ok r (c ++ c') (y_P.a0 x0 x1))
  (a3e : ∀ {d p : Nat}, (x0 : ¬ h p = 124) → motive 3 d p true p [] (y_P.a3e x0))
  (a3f : ∀ {d p q : Nat} {c : List Int}, (x0 : h p = 124) → (x1 : y_P h 1 d (p + 1) false q c) → motive 1 d (p + 1) false q c x1 → motive 3 d p false q c (y_P.a3f x0 x1))
  (a3 : ∀ {d p q r : Nat} {ok : Bool} {c c' : List Int}, (x0 : h p = 124) → (x1 : y_P h 1 d (p + 1) true q c) → (x2 : y_P h 3 d q ok r c') → motive 1 d (p + 1) true q c x1 → motive 3 d q ok r c' x2 → motive 3 d p ok r (c ++ -124 :: c') (y_P.a3 x0 x1 x2))
  {m d p : Nat} {ok : Bool} {q : Nat} {c : List Int} (t : y_P h m d p ok q c) : motive m d p ok q c t := by
  refine (t (fun m d p ok q c => ∃ t : y_P h m d p ok q c, motive m d p ok q c t) ?_).2
  refine ⟨?_, ?_, ?_, ?_, ?_, ?_, ?_, ?_, ?_, ?_, ?_, ?_, ?_, ?_, ?_, ?_, ?_, ?_, ?_, ?_⟩
  · rintro d p x0 x1; exact ⟨y_P.deep x0 x1, deep x0 x1⟩
  · rintro d p q c x0 x1 ⟨x2, i2⟩; exact ⟨y_P.pf x0 x1 x2, pf x0 x1 x2 i2⟩
  · rintro d p q c x0 x1 ⟨x2, i2⟩ x3; exact ⟨y_P.pn x0 x1 x2 x3, pn x0 x1 x2 x3 i2⟩
  · rintro d p q c x0 x1 ⟨x2, i2⟩ x3; exact ⟨y_P.pp x0 x1 x2 x3, pp x0 x1 x2 x3 i2⟩
  · rintro d p q c x0 x1 ⟨x2, i2⟩; exact ⟨y_P.nf x0 x1 x2, nf x0 x1 x2 i2⟩
  · rintro d p q c x0 x1 ⟨x2, i2⟩; exact ⟨y_P.np x0 x1 x2, np x0 x1 x2 i2⟩
  · rintro d p x0 x1; exact ⟨y_P.t0 x0 x1, t0 x0 x1⟩
  · rintro d p x0 x1 x2; exact ⟨y_P.t1 x0 x1 x2, t1 x0 x1 x2⟩
  · rintro d p x0 x1 x2 x3; exact ⟨y_P.t2 x0 x1 x2 x3, t2 x0 x1 x2 x3⟩
  · rintro d p x0 x1 x2 x3; exact ⟨y_P.t3 x0 x1 x2 x3, t3 x0 x1 x2 x3⟩
  · rintro d p q c ⟨x0, i0⟩; exact ⟨y_P.b1f x0, b1f x0 i0⟩
  · rintro d p q r ok c c' ⟨x0, i0⟩ ⟨x1, i1⟩; exact ⟨y_P.b1 x0 x1, b1 x0 x1 i0 i1⟩
  · rintro d p x0; exact ⟨y_P.b4e x0, b4e x0⟩
  · rintro d p q c x0 ⟨x1, i1⟩; exact ⟨y_P.b4f x0 x1, b4f x0 x1 i1⟩
  · rintro d p q r ok c c' x0 ⟨x1, i1⟩ ⟨x2, i2⟩; exact ⟨y_P.b4 x0 x1 x2, b4 x0 x1 x2 i1 i2⟩
  · rintro d p q c ⟨x0, i0⟩; exact ⟨y_P.a0f x0, a0f x0 i0⟩
  · rintro d p q r ok c c' ⟨x0, i0⟩ ⟨x1, i1⟩; exact ⟨y_P.a0 x0 x1, a0 x0 x1 i0 i1⟩
  · rintro d p x0; exact ⟨y_P.a3e x0, a3e x0⟩
  · rintro d p q c x0 ⟨x1, i1⟩; exact ⟨y_P.a3f x0 x1, a3f x0 x1 i1⟩
  · rintro d p q r ok c c' x0 ⟨x1, i1⟩ ⟨x2, i2⟩; exact ⟨y_P.a3 x0 x1 x2, a3 x0 x1 x2 i1 i2⟩
/-- a sign of a code -/
def y_tk (t : Int) : Prop := t = -33 ∨ t = -38 ∨ t = -124 ∨ ∃ f r d : Int, 0 ≤ f ∧ f ≤ 5 ∧ 0 ≤ r ∧ r ≤ 2 ∧ 0 ≤ d ∧ d ≤ 99 ∧ t = 1000 * f + 100 * r + d
/-- how high the pile is behind a code -/
def y_hs : Nat → List Int → Option Nat
  | d, [] => some d
  | d, t :: r => if 30 < d then none else if t = -33 then (if d = 0 then none else y_hs d r) else if t < 0 then (if d < 2 then none else y_hs (d - 1) r) else y_hs (d + 1) r
theorem y_hs_app : ∀ (c c' : List Int) (d e : Nat), y_hs d c = some e → y_hs d (c ++ c') = y_hs e c'
  | [], c', d, e, h => by rw [y_hs] at h; cases h; rfl
  | t :: r, c', d, e, h => by
    rw [y_hs] at h
    rw [List.cons_append, y_hs]
    by_cases h1 : 30 < d
    · rw [if_pos h1] at h; cases h
    · rw [if_neg h1] at h ⊢
      by_cases h2 : t = -33
      · rw [if_pos h2] at h ⊢
        by_cases h3 : d = 0
        · rw [if_pos h3] at h; cases h
        · rw [if_neg h3] at h ⊢; exact y_hs_app r c' d e h
      · rw [if_neg h2] at h ⊢
        by_cases h3 : t < 0
        · rw [if_pos h3] at h ⊢
          by_cases h4 : d < 2
          · rw [if_pos h4] at h; cases h
          · rw [if_neg h4] at h ⊢; exact y_hs_app r c' (d - 1) e h
        · rw [if_neg h3] at h ⊢; exact y_hs_app r c' (d + 1) e h
theorem y_hs_not {d : Nat} {r : List Int} (h : 1 ≤ d) (h' : d ≤ 30) : y_hs d (-33 :: r) = y_hs d r := by
  rw [y_hs, if_neg (by omega), if_pos rfl, if_neg (by omega)]
theorem y_hs_and {d : Nat} {r : List Int} (h : 1 ≤ d) (h' : d + 1 ≤ 30) : y_hs (d + 1) (-38 :: r) = y_hs d r := by
  rw [y_hs, if_neg (by omega), if_neg (by decide), if_pos (by decide), if_neg (by omega)]; rfl
theorem y_hs_or {d : Nat} {r : List Int} (h : 1 ≤ d) (h' : d + 1 ≤ 30) : y_hs (d + 1) (-124 :: r) = y_hs d r := by
  rw [y_hs, if_neg (by omega), if_neg (by decide), if_pos (by decide), if_neg (by omega)]; rfl
theorem y_hs_t {d : Nat} {t : Int} {r : List Int} (h : 0 ≤ t) (h' : d ≤ 30) : y_hs d (t :: r) = y_hs (d + 1) r := by
  rw [y_hs, if_neg (by omega), if_neg (by omega), if_neg (by omega)]
theorem y_li_b (s : Int) : -1 ≤ y_li s ∧ y_li s ≤ 5 := by
  simp only [y_li, y_ix]
  repeat' split
  all_goals decide
theorem y_re_b (s : Int) : -1 ≤ y_re s ∧ y_re s ≤ 2 ∧ (0 ≤ y_re s → 60 ≤ s ∧ s ≤ 62 ∧ y_re s = s - 60) ∧ (60 ≤ s ∧ s ≤ 62 → 0 ≤ y_re s) := by
  simp only [y_re, y_ix]
  repeat' split
  all_goals omega
theorem y_li_p {s : Int} (h : 0 ≤ y_li s) : 0 ≤ s := by
  unfold y_li at h
  simp only [y_ix] at h
  repeat' split at h
  all_goals omega
theorem y_nl_b (h : Nat → Int) (p : Nat) : y_nl h p ≤ 2 := by
  unfold y_nl; repeat' split
  all_goals omega
theorem y_nv_b {h : Nat → Int} {p : Nat} (hl : ¬ y_nl h p = 0) : 0 ≤ y_nv h p ∧ y_nv h p ≤ 99 := by
  unfold y_nl at hl; unfold y_nv
  split at hl
  · rename_i h1
    unfold y_dg at h1
    split
    · rename_i h2; unfold y_dg at h2; omega
    · omega
  · exact absurd rfl hl
theorem y_nl_n {h : Nat → Int} {p n : Nat} (hn : ∀ q, n ≤ q → h q = -1) (hp : p ≤ n) : p + y_nl h p ≤ n := by
  unfold y_nl
  split
  · rename_i h1
    have l1 : p < n := by
      by_cases hh : n ≤ p
      · rw [hn p hh] at h1; unfold y_dg at h1; omega
      · omega
    split
    · rename_i h2
      by_cases hh : n ≤ p + 1
      · rw [hn _ hh] at h2; unfold y_dg at h2; omega
      · omega
    · omega
  · omega
theorem y_lt {h : Nat → Int} {p n : Nat} (hn : ∀ q, n ≤ q → h q = -1) (hp : 0 ≤ h p) : p < n := by
  by_cases hh : n ≤ p
  · rw [hn p hh] at hp; omega
  · omega
/-- what a reading keeps to -/
def y_Q (h : Nat → Int) (n m d p : Nat) (ok : Bool) (q : Nat) (c : List Int) : Prop :=
  p ≤ q ∧ (p ≤ n → q ≤ n) ∧ (ok = true → p + c.length ≤ q ∧ (∀ t, t ∈ c → y_tk t) ∧
    (m = 2 → ∀ D, D + 1 + 2 * (4 - d) ≤ 30 → y_hs D c = some (D + 1)) ∧
    (m = 1 → ∀ D, D + 2 + 2 * (4 - d) ≤ 30 → y_hs D c = some (D + 1)) ∧
    (m = 0 → ∀ D, D + 3 + 2 * (4 - d) ≤ 30 → y_hs D c = some (D + 1)) ∧
    (m = 4 → ∀ D, 1 ≤ D → D + 1 + 2 * (4 - d) ≤ 30 → y_hs D c = some D) ∧
    (m = 3 → ∀ D, 1 ≤ D → D + 2 + 2 * (4 - d) ≤ 30 → y_hs D c = some D) ∧
    (m = 1 ∨ m = 4 → ¬ h q = 38) ∧ (m = 0 → ¬ h q = 38 ∧ ¬ h q = 124) ∧ (m = 3 → ¬ h q = 124 ∧ (¬ h p = 38 → ¬ h q = 38)))
theorem y_tk_app {c c' : List Int} (h : ∀ t, t ∈ c → y_tk t) (h' : ∀ t, t ∈ c' → y_tk t) : ∀ t, t ∈ c ++ c' → y_tk t := by
  intro t ht
  rcases List.mem_append.1 ht with h1 | h1
  · exact h t h1
  · exact h' t h1
theorem y_tk_cons {x : Int} {c' : List Int} (h : y_tk x) (h' : ∀ t, t ∈ c' → y_tk t) : ∀ t, t ∈ x :: c' → y_tk t := by
  intro t ht
  rcases List.mem_cons.1 ht with h1 | h1
  · rw [h1]; exact h
  · exact h' t h1
theorem y_tk_nil : ∀ t, t ∈ ([] : List Int) → y_tk t := fun t ht => by cases ht
theorem y_ff {P : Prop} : (false = true → P) := fun h => by cases h
theorem y_pr {h : Nat → Int} {n : Nat} (hn : ∀ q, n ≤ q → h q = -1) {m d p : Nat} {ok : Bool} {q : Nat} {c : List Int} (hP : y_P h m d p ok q c) : y_Q h n m d p ok q c := by
  induction hP using y_P_ind with
  | deep _ _ => exact ⟨Nat.le_refl _, id, y_ff⟩
  | pf h1 _ _ ih =>
    have := y_lt hn (by rw [h1]; decide)
    obtain ⟨i1, i2, -⟩ := ih
    exact ⟨by omega, fun hp => i2 (by omega), y_ff⟩
  | pn h1 _ _ _ ih =>
    have := y_lt hn (by rw [h1]; decide)
    obtain ⟨i1, i2, -⟩ := ih
    exact ⟨by omega, fun hp => i2 (by omega), y_ff⟩
  | pp h1 hd _ h2 ih =>
    have := y_lt hn (by rw [h1]; decide)
    have := y_lt hn (by rw [h2]; decide)
    obtain ⟨i1, i2, i3⟩ := ih
    obtain ⟨j1, j2, -, -, j3, -⟩ := i3 rfl
    refine ⟨by omega, fun hp => by omega, fun _ => ⟨by omega, j2, fun _ D hD => j3 rfl D (by omega), ?_, ?_, ?_, ?_, ?_, ?_, ?_⟩⟩ <;> intro hm <;> omega
  | nf h1 _ _ ih =>
    have := y_lt hn (by rw [h1]; decide)
    obtain ⟨i1, i2, -⟩ := ih
    exact ⟨by omega, fun hp => i2 (by omega), y_ff⟩
  | np h1 hd _ ih =>
    have := y_lt hn (by rw [h1]; decide)
    obtain ⟨i1, i2, i3⟩ := ih
    obtain ⟨j1, j2, j3, -⟩ := i3 rfl
    refine ⟨by omega, fun hp => i2 (by omega), fun _ => ⟨by rw [List.length_append, List.length_singleton]; omega, y_tk_app j2 (y_tk_cons (Or.inl rfl) y_tk_nil), fun _ D hD => ?_, ?_, ?_, ?_, ?_, ?_, ?_, ?_⟩⟩
    · rw [y_hs_app _ _ _ _ (j3 rfl D (by omega)), y_hs_not (by omega) (by omega)]; rfl
    all_goals (intro hm; omega)
  | t0 _ _ => exact ⟨Nat.le_refl _, id, y_ff⟩
  | t1 _ h1 _ =>
    have := y_lt hn (y_li_p h1)
    exact ⟨by omega, fun hp => by omega, y_ff⟩
  | t2 _ h1 h2 _ =>
    have := y_lt hn (y_li_p h1)
    have := y_lt hn (Int.le_trans (by decide) ((y_re_b _).2.2.1 h2).1)
    exact ⟨by omega, fun hp => by omega, y_ff⟩
  | @t3 d p _ h1 h2 h3 =>
    have := y_lt hn (y_li_p h1)
    have l2 := y_lt hn (Int.le_trans (by decide) ((y_re_b _).2.2.1 h2).1)
    have l3 := y_nl_n hn (show _ + 2 ≤ n from l2)
    have l4 := y_nv_b h3
    have l5 := y_li_b (h p)
    have l6 := y_re_b (h (p + 1))
    refine ⟨by omega, fun hp => l3, fun _ => ⟨by rw [List.length_singleton]; omega, y_tk_cons (Or.inr (Or.inr (Or.inr ⟨_, _, _, h1, l5.2, h2, l6.2.1, l4.1, l4.2, rfl⟩))) y_tk_nil, fun _ D hD => ?_, ?_, ?_, ?_, ?_, ?_, ?_, ?_⟩⟩
    · rw [y_hs_t (by omega) (by omega)]; rfl
    all_goals (intro hm; omega)
  | b1f _ ih =>
    obtain ⟨i1, i2, -⟩ := ih
    exact ⟨i1, i2, y_ff⟩
  | b1 _ _ ih ih' =>
    obtain ⟨i1, i2, i3⟩ := ih
    obtain ⟨j1, j2, j3, -⟩ := i3 rfl
    obtain ⟨k1, k2, k3⟩ := ih'
    refine ⟨by omega, fun hp => k2 (i2 hp), fun hok => ?_⟩
    obtain ⟨l1, l2, -, -, -, l3, -, l4, -⟩ := k3 hok
    refine ⟨by rw [List.length_append]; omega, y_tk_app j2 l2, ?_, fun _ D hD => ?_, ?_, ?_, ?_, fun _ => l4 (Or.inr rfl), ?_, ?_⟩
    case refine_2 => rw [y_hs_app _ _ _ _ (j3 rfl D (by omega)), l3 rfl (D + 1) (by omega) (by omega)]
    all_goals (intro hm; omega)
  | b4e h1 =>
    refine ⟨Nat.le_refl _, id, fun _ => ⟨Nat.le_refl _, y_tk_nil, ?_, ?_, ?_, fun _ D _ _ => rfl, ?_, fun _ => h1, ?_, ?_⟩⟩ <;> intro hm <;> omega
  | b4f h1 _ ih =>
    have := y_lt hn (by rw [h1]; decide)
    obtain ⟨i1, i2, -⟩ := ih
    exact ⟨by omega, fun hp => i2 (by omega), y_ff⟩
  | b4 h1 _ _ ih ih' =>
    have := y_lt hn (by rw [h1]; decide)
    obtain ⟨i1, i2, i3⟩ := ih
    obtain ⟨j1, j2, j3, -⟩ := i3 rfl
    obtain ⟨k1, k2, k3⟩ := ih'
    refine ⟨by omega, fun hp => k2 (i2 (by omega)), fun hok => ?_⟩
    obtain ⟨l1, l2, -, -, -, l3, -, l4, -⟩ := k3 hok
    refine ⟨by rw [List.length_append, List.length_cons]; omega, y_tk_app j2 (y_tk_cons (Or.inr (Or.inl rfl)) l2), ?_, ?_, ?_, fun _ D h1D hD => ?_, ?_, fun _ => l4 (Or.inr rfl), ?_, ?_⟩
    case refine_4 => rw [y_hs_app _ _ _ _ (j3 rfl D (by omega)), y_hs_and h1D (by omega), l3 rfl D h1D (by omega)]
    all_goals (intro hm; omega)
  | a0f _ ih =>
    obtain ⟨i1, i2, -⟩ := ih
    exact ⟨i1, i2, y_ff⟩
  | a0 _ _ ih ih' =>
    obtain ⟨i1, i2, i3⟩ := ih
    obtain ⟨j1, j2, -, j3, -, -, -, j4, -⟩ := i3 rfl
    obtain ⟨k1, k2, k3⟩ := ih'
    refine ⟨by omega, fun hp => k2 (i2 hp), fun hok => ?_⟩
    obtain ⟨l1, l2, -, -, -, -, l3, -, -, l4⟩ := k3 hok
    refine ⟨by rw [List.length_append]; omega, y_tk_app j2 l2, ?_, ?_, fun _ D hD => ?_, ?_, ?_, ?_, fun _ => ⟨(l4 rfl).2 (j4 (Or.inl rfl)), (l4 rfl).1⟩, ?_⟩
    case refine_3 => rw [y_hs_app _ _ _ _ (j3 rfl D (by omega)), l3 rfl (D + 1) (by omega) (by omega)]
    all_goals (intro hm; omega)
  | a3e h1 =>
    refine ⟨Nat.le_refl _, id, fun _ => ⟨Nat.le_refl _, y_tk_nil, ?_, ?_, ?_, ?_, fun _ D _ _ => rfl, ?_, ?_, fun _ => ⟨h1, id⟩⟩⟩ <;> intro hm <;> omega
  | a3f h1 _ ih =>
    have := y_lt hn (by rw [h1]; decide)
    obtain ⟨i1, i2, -⟩ := ih
    exact ⟨by omega, fun hp => i2 (by omega), y_ff⟩
  | a3 h1 _ _ ih ih' =>
    have := y_lt hn (by rw [h1]; decide)
    obtain ⟨i1, i2, i3⟩ := ih
    obtain ⟨j1, j2, -, j3, -, -, -, j4, -⟩ := i3 rfl
    obtain ⟨k1, k2, k3⟩ := ih'
    refine ⟨by omega, fun hp => k2 (i2 (by omega)), fun hok => ?_⟩
    obtain ⟨l1, l2, -, -, -, -, l3, -, -, l4⟩ := k3 hok
    refine ⟨by rw [List.length_append, List.length_cons]; omega, y_tk_app j2 (y_tk_cons (Or.inr (Or.inr (Or.inl rfl))) l2), ?_, ?_, ?_, ?_, fun _ D h1D hD => ?_, ?_, ?_, fun _ => ⟨(l4 rfl).1, fun _ => (l4 rfl).2 (j4 (Or.inl rfl))⟩⟩
    case refine_5 => rw [y_hs_app _ _ _ _ (j3 rfl D (by omega)), y_hs_or h1D (by omega), l3 rfl D h1D (by omega)]
    all_goals (intro hm; omega)
/-- every text goes on somehow -/
theorem y_tot {h : Nat → Int} {n : Nat} (hn : ∀ q, n ≤ q → h q = -1) : ∀ (N p : Nat), n - p ≤ N → ∀ m d, m ≤ 4 → ∃ ok q c, y_P h m d p ok q c := by
  intro N
  induction N with
  | zero =>
    intro p hp
    have e : h p = -1 := hn p (by omega)
    have f2 : ∀ d, y_P h 2 d p false p [] := fun d => y_P.t0 (by rw [e]; omega) (by rw [e]; decide)
    intro m d hm
    match m, hm with
    | 0, _ => exact ⟨_, _, _, y_P.a0f (y_P.b1f (f2 d))⟩
    | 1, _ => exact ⟨_, _, _, y_P.b1f (f2 d)⟩
    | 2, _ => exact ⟨_, _, _, f2 d⟩
    | 3, _ => exact ⟨_, _, _, y_P.a3e (by rw [e]; decide)⟩
    | 4, _ => exact ⟨_, _, _, y_P.b4e (by rw [e]; decide)⟩
  | succ N ih =>
    intro p hp
    by_cases hnp : n ≤ p
    · exact ih p (by omega)
    have up : ∀ q, p + 1 ≤ q → ∀ m d, m ≤ 4 → ∃ ok r c, y_P h m d q ok r c := fun q hq => ih q (by omega)
    have f2 : ∀ d, ∃ ok q c, y_P h 2 d p ok q c := by
      intro d
      by_cases h1 : h p = 40 ∨ h p = 33
      · by_cases h2 : d < 4
        · rcases h1 with h1 | h1
          · obtain ⟨ok, q, c, h3⟩ := up (p + 1) (Nat.le_refl _) 0 (d + 1) (by decide)
            cases ok with
            | false => exact ⟨_, _, _, y_P.pf h1 h2 h3⟩
            | true =>
              by_cases h4 : h q = 41
              · exact ⟨_, _, _, y_P.pp h1 h2 h3 h4⟩
              · exact ⟨_, _, _, y_P.pn h1 h2 h3 h4⟩
          · obtain ⟨ok, q, c, h3⟩ := up (p + 1) (Nat.le_refl _) 2 (d + 1) (by decide)
            cases ok with
            | false => exact ⟨_, _, _, y_P.nf h1 h2 h3⟩
            | true => exact ⟨_, _, _, y_P.np h1 h2 h3⟩
        · exact ⟨_, _, _, y_P.deep h1 (by omega)⟩
      · by_cases h2 : y_li (h p) < 0
        · exact ⟨_, _, _, y_P.t0 h1 h2⟩
        · by_cases h3 : y_re (h (p + 1)) < 0
          · exact ⟨_, _, _, y_P.t1 h1 (by omega) h3⟩
          · by_cases h4 : y_nl h (p + 2) = 0
            · exact ⟨_, _, _, y_P.t2 h1 (by omega) (by omega) h4⟩
            · exact ⟨_, _, _, y_P.t3 h1 (by omega) (by omega) h4⟩
    have f4 : ∀ d, ∃ ok q c, y_P h 4 d p ok q c := by
      intro d
      by_cases h1 : h p = 38
      · obtain ⟨ok, q, c, h3⟩ := up (p + 1) (Nat.le_refl _) 2 d (by decide)
        cases ok with
        | false => exact ⟨_, _, _, y_P.b4f h1 h3⟩
        | true =>
          obtain ⟨ok', r, c', h4⟩ := up q (y_pr hn h3).1 4 d (by decide)
          exact ⟨_, _, _, y_P.b4 h1 h3 h4⟩
      · exact ⟨_, _, _, y_P.b4e h1⟩
    have f1 : ∀ d, ∃ ok q c, y_P h 1 d p ok q c := by
      intro d
      obtain ⟨ok, q, c, h3⟩ := f2 d
      cases ok with
      | false => exact ⟨_, _, _, y_P.b1f h3⟩
      | true =>
        have hq := (y_pr hn h3).1
        by_cases he : q = p
        · subst he
          obtain ⟨ok', r, c', h4⟩ := f4 d
          exact ⟨_, _, _, y_P.b1 h3 h4⟩
        · obtain ⟨ok', r, c', h4⟩ := up q (by omega) 4 d (by decide)
          exact ⟨_, _, _, y_P.b1 h3 h4⟩
    have f3 : ∀ d, ∃ ok q c, y_P h 3 d p ok q c := by
      intro d
      by_cases h1 : h p = 124
      · obtain ⟨ok, q, c, h3⟩ := up (p + 1) (Nat.le_refl _) 1 d (by decide)
        cases ok with
        | false => exact ⟨_, _, _, y_P.a3f h1 h3⟩
        | true =>
          obtain ⟨ok', r, c', h4⟩ := up q (y_pr hn h3).1 3 d (by decide)
          exact ⟨_, _, _, y_P.a3 h1 h3 h4⟩
      · exact ⟨_, _, _, y_P.a3e h1⟩
    have f0 : ∀ d, ∃ ok q c, y_P h 0 d p ok q c := by
      intro d
      obtain ⟨ok, q, c, h3⟩ := f1 d
      cases ok with
      | false => exact ⟨_, _, _, y_P.a0f h3⟩
      | true =>
        have hq := (y_pr hn h3).1
        by_cases he : q = p
        · subst he
          obtain ⟨ok', r, c', h4⟩ := f3 d
          exact ⟨_, _, _, y_P.a0 h3 h4⟩
        · obtain ⟨ok', r, c', h4⟩ := up q (by omega) 3 d (by decide)
          exact ⟨_, _, _, y_P.a0 h3 h4⟩
    intro m d hm
    match m, hm with
    | 0, _ => exact f0 d
    | 1, _ => exact f1 d
    | 2, _ => exact f2 d
    | 3, _ => exact f3 d
    | 4, _ => exact f4 d
