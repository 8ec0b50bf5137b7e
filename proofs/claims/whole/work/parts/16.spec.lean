/-! WHAT IS ANSWERED, over the core's cells of the reference -/
def j_n (C : j_H) : Int := (j_I C 81 0).toInt
def j_kd (C : j_H) (g : Int) : Int := (j_I C 82 g.toNat).toInt
/-- the last far of so many clauses from c on -/
def j_fr2 (C : j_H) : Nat → Nat → Int → Int
  | _, 0, a => a
  | c, n + 1, a => j_fr2 C (c + 1) n (if (j_I C 88 c).toInt = 2 then (j_I C 89 c).toInt else a)
def j_the (C : j_H) : Int := (j_I C 81 9).toInt
def j_cn2 (C : j_H) (f : Nat) : Nat := (j_I C 87 f).toInt.toNat
def j_far (C : j_H) : Int := if j_the C < 0 then 1 else j_fr2 C (10 * (j_the C).toNat) (j_cn2 C (j_the C).toNat) 1
def j_go (C : j_H) (g : Int) (s : Bool) : Int := if s then (g + j_far C) % j_n C else (g - j_far C) % j_n C
/-- how many ones, of a number under 4096 -/
def j_pop (z : Int) : Int := z % 2 + z / 2 % 2 + z / 4 % 2 + z / 8 % 2 + z / 16 % 2 + z / 32 % 2 + z / 64 % 2 + z / 128 % 2 + z / 256 % 2 + z / 512 % 2 + z / 1024 % 2 + z / 2048 % 2
/-- what a test asks for: its place, a seat, an hour, the facts -/
def j_fo (C : j_H) (g h F : Int) (i : Int) : Int := if i = 0 then g else if i = 1 then j_kd C g else if i = 2 then (j_I C 83 g.toNat).toInt else if i = 3 then h % 12 else if i = 4 then j_pop (j_I C 84 g.toNat).toInt else j_pop F
/-- one step of an E on a pile -/
def j_ep (C : j_H) (g h F : Int) (t : Int) (l : List Bool) : List Bool :=
  if t = -33 then (match l with | x :: r => (!x) :: r | [] => [])
  else if t = -38 then (match l with | x :: y :: r => (y && x) :: r | r => r)
  else if t < 0 then (match l with | x :: y :: r => (y || x) :: r | r => r)
  else (if t / 100 % 10 = 0 then decide (j_fo C g h F (t / 1000) < t % 100) else if t / 100 % 10 = 1 then decide (j_fo C g h F (t / 1000) = t % 100) else decide (t % 100 < j_fo C g h F (t / 1000))) :: l
def j_el (C : j_H) (g h F : Int) : Nat → Nat → List Bool → List Bool
  | _, 0, l => l
  | k, n + 1, l => j_el C g h F (k + 1) n (j_ep C g h F (j_I C 92 k).toInt l)
/-- whether a clause's E holds -/
def j_ho (C : j_H) (c : Nat) (g h F : Int) : Bool := (j_el C g h F (j_I C 90 c).toInt.toNat ((j_I C 91 c).toInt.toNat - (j_I C 90 c).toInt.toNat) []).headD false
def j_su (C : j_H) (w : Int) (g h F : Int) : Nat → Nat → Int → Int
  | _, 0, a => a
  | c, n + 1, a => j_su C w g h F (c + 1) n (if (j_I C 88 c).toInt = w ∧ j_ho C c g h F = true then a + (j_I C 89 c).toInt else a)
def j_hw2 (C : j_H) (w : Int) : Nat → Nat → Bool
  | _, 0 => false
  | c, n + 1 => decide ((j_I C 88 c).toInt = w) || j_hw2 C w (c + 1) n
def j_sum (C : j_H) (w : Int) (g h F : Int) (d : Int) : Int := if j_the C < 0 then d else if j_hw2 C w (10 * (j_the C).toNat) (j_cn2 C (j_the C).toNat) = true then j_su C w g h F (10 * (j_the C).toNat) (j_cn2 C (j_the C).toNat) 0 else d
def j_li (C : j_H) (g h F : Int) : Int := if 5 + j_sum C 0 g h F 0 > 10 then 10 else 5 + j_sum C 0 g h F 0
def j_wo (C : j_H) (g h F : Int) : Int := j_sum C 1 g h F 1
def j_sly (C : j_H) (g h F : Int) : Bool := decide ((j_I C 84 g.toNat).toInt.toNat.testBit (h % 8).toNat = true ∧ F.toNat.testBit (h % 8).toNat = true)
def j_sa (C : j_H) (g h F : Int) : Bool :=
  if j_kd C g = 1 then false
  else if j_kd C g = 2 then j_sly C g h F
  else if j_kd C g = 3 then decide (j_kd C ((g + 1) % j_n C) = 0 ∨ j_kd C ((g + 1) % j_n C) = 3 ∨ j_kd C ((g + 1) % j_n C) = 6)
  else if j_kd C g = 4 then decide (j_kd C ((g - 1) % j_n C) = 4)
  else if j_kd C g = 5 then (if j_wo C g h F > 5 then !(j_sly C g h F) else j_sly C g h F)
  else if j_kd C g = 6 then decide ((j_I C 85 (8 * g + h % 8).toNat).toInt = 1)
  else true
-- the invariant
def j_gc (k : Int) : Nat := if k = 0 then 2 else if k = 1 then 4 else if k = 2 then 6 else if k = 3 then 5 else if k = 4 then 7 else if k = 5 then 1 else 9
/-- a guest's object is what the reference's rows say of seat g -/
def j_Gr (C : j_H) (r g aK aV aN : Nat) : Prop := 115 ≤ r ∧ r < C.1.length ∧ j_cls C r = j_gc (j_I C aK g).toInt ∧ j_I C r 0 = j_I C aK g ∧ (j_I C r 1).toInt = (g : Int) ∧ j_I C r 2 = j_I C aV g ∧ j_I C r 3 = j_I C aN g ∧ (j_I C r 4).toInt = j_pop (j_I C aN g).toInt ∧ 0 ≤ (j_I C aK g).toInt ∧ (j_I C aK g).toInt ≤ 6 ∧ 0 ≤ (j_I C aV g).toInt ∧ (j_I C aV g).toInt ≤ 9 ∧ 0 ≤ (j_I C aN g).toInt ∧ (j_I C aN g).toInt ≤ 255
/-- an evening and the reference's cells of it -/
def j_Es (C : j_H) (e sg sf ss sh sm sb : Nat) : Prop := j_I C e 4 = j_I C 81 sg ∧ j_I C e 5 = j_I C 81 sf ∧ j_I C e 6 = j_I C 81 ss ∧ j_I C e 7 = j_I C 81 sh ∧ j_I C e 8 = j_I C 81 sm ∧ j_I C e 9 = j_I C 81 sb
def j_Er (C : j_H) (sg sf ss sh sm sb : Nat) : Prop := 0 ≤ (j_I C 81 sg).toInt ∧ (j_I C 81 sg).toInt ≤ 7 ∧ 0 ≤ (j_I C 81 sf).toInt ∧ (j_I C 81 sf).toInt ≤ 255 ∧ 0 ≤ (j_I C 81 ss).toInt ∧ ((j_I C 81 ss).toInt < (j_I C 81 sg).toInt ∨ ((j_I C 81 sg).toInt = 0 ∧ (j_I C 81 ss).toInt = 0)) ∧ 0 ≤ (j_I C 81 sh).toInt ∧ (j_I C 81 sh).toInt ≤ 9999 ∧ 0 ≤ (j_I C 81 sm).toInt ∧ (j_I C 81 sm).toInt ≤ 12 ∧ 0 ≤ (j_I C 81 sb).toInt ∧ (j_I C 81 sb).toInt ≤ 12
def j_Et (C : j_H) (e st : Nat) : Prop := ((j_I C 81 st).toInt = -1 ∧ j_R C e 10 = none) ∨ (0 ≤ (j_I C 81 st).toInt ∧ (j_I C 81 st).toInt < (j_I C 81 8).toInt ∧ j_R C e 10 = some (24 + 6 * (j_I C 81 st).toInt.toNat))
def j_Eg (C : j_H) (e sg aK aV aN : Nat) : Prop := (∀ g : Nat, (g : Int) < (j_I C 81 sg).toInt → ∃ r, j_R C (e + 1) g = some r ∧ j_Gr C r g aK aV aN) ∧ ∀ g, ¬ j_R C (e + 1) g = some 11 ∧ ∀ r, j_R C (e + 1) g = some r → 115 ≤ r ∧ [1, 2, 4, 5, 6, 7, 9].contains (j_cls C r) = true
def j_Ew (C : j_H) (e aR : Nat) : Prop := ∀ g : Nat, g < 7 → 0 ≤ (j_I C (e + 2) g).toInt ∧ (j_I C (e + 2) g).toInt ≤ 255 ∧ ∀ p : Nat, p < 8 → (j_I C aR (8 * g + p)).toInt = if (j_I C (e + 2) g).toInt.toNat.testBit p = true then 1 else 0
def j_Eb (C : j_H) (e aW aB sg sm sb : Nat) : Prop := ∀ k : Nat, k < 12 → j_I C (e + 3) k = j_I C aW k ∧ j_I C (e + 4) k = j_I C aB k ∧ ((k : Int) < (j_I C 81 sm).toInt → 0 ≤ (j_I C aW k).toInt ∧ (j_I C aW k).toInt < (j_I C 81 sg).toInt) ∧ ((k : Int) < (j_I C 81 sb).toInt → (j_I C aB k).toInt = 0 ∨ (j_I C aB k).toInt = 1)
def j_Ev (C : j_H) (e sg sf ss sh sm sb st aK aV aN aR aW aB : Nat) : Prop := j_Es C e sg sf ss sh sm sb ∧ j_Er C sg sf ss sh sm sb ∧ j_Et C e st ∧ j_Eg C e sg aK aV aN ∧ j_Ew C e aR ∧ j_Eb C e aW aB sg sm sb
/-- a step of the class and a sign of the reference -/
def j_sg (s t : Int) : Prop := (t = -33 ∧ s = -1) ∨ (t = -38 ∧ s = -2) ∨ (t = -124 ∧ s = -3) ∨ ∃ f r d : Int, 0 ≤ f ∧ f ≤ 5 ∧ 0 ≤ r ∧ r ≤ 2 ∧ 0 ≤ d ∧ d ≤ 99 ∧ t = 1000 * f + 100 * r + d ∧ s = 300 * f + 100 * r + d
/-- how high the pile is along a code -/
def j_dp (C : j_H) (k n : Nat) (D : Nat → Nat) : Prop := ∀ j, j < n → D j ≤ 30 ∧ ((j_I C 92 (k + j)).toInt = -33 → 1 ≤ D j ∧ D (j + 1) = D j) ∧ ((j_I C 92 (k + j)).toInt < 0 → (j_I C 92 (k + j)).toInt ≠ -33 → 2 ≤ D j ∧ D (j + 1) + 1 = D j) ∧ (0 ≤ (j_I C 92 (k + j)).toInt → D (j + 1) = D j + 1)
/-- house f of the class and the reference's clauses of it: of so many clauses, e to keep and p steps -/
def j_Hc (C : j_H) (f : Nat) (e p : Nat → Nat) (c : Nat) : Prop :=
  0 ≤ (j_I C 89 (10 * f + c)).toInt ∧ (j_I C 89 (10 * f + c)).toInt ≤ 99 ∧ p c ≤ p (c + 1) ∧
  ((j_I C 88 (10 * f + c)).toInt = 2 ∧ e (c + 1) = e c ∧ p (c + 1) = p c ∨
  ((j_I C 88 (10 * f + c)).toInt = 0 ∨ (j_I C 88 (10 * f + c)).toInt = 1) ∧ e (c + 1) = e c + 1 ∧ j_I C (25 + 6 * f) (e c) = j_I C 88 (10 * f + c) ∧ j_I C (26 + 6 * f) (e c) = j_I C 89 (10 * f + c) ∧ (j_I C (27 + 6 * f) (e c)).toInt = (p (c + 1) : Int) ∧ (j_I C 90 (10 * f + c)).toInt = 100 * (f : Int) + (p c : Int) ∧ (j_I C 91 (10 * f + c)).toInt = 100 * (f : Int) + (p (c + 1) : Int) ∧ ∃ D : Nat → Nat, D 0 = 0 ∧ D (p (c + 1) - p c) = 1 ∧ j_dp C (100 * f + p c) (p (c + 1) - p c) D)
def j_Ho (C : j_H) (f : Nat) : Prop := 1 ≤ (j_I C 87 f).toInt ∧ (j_I C 87 f).toInt ≤ 10 ∧ (j_I C (24 + 6 * f) 0).toInt = j_fr2 C (10 * f) (j_cn2 C f) 1 ∧ (j_I C (24 + 6 * f) 1 = j_bz (j_hw2 C 1 (10 * f) (j_cn2 C f) = true)) ∧
  ∃ e p : Nat → Nat, e 0 = 0 ∧ p 0 = 0 ∧ (j_I C (24 + 6 * f) 5).toInt = (e (j_cn2 C f) : Int) ∧ p (j_cn2 C f) ≤ 100 ∧ (∀ c, c < j_cn2 C f → j_Hc C f e p c) ∧ ∀ j, j < p (j_cn2 C f) → j_sg (j_I C (28 + 6 * f) j).toInt (j_I C 92 (100 * f + j)).toInt
def j_Hs (C : j_H) : Prop := j_I C 12 4 = j_I C 81 8 ∧ 0 ≤ (j_I C 81 8).toInt ∧ (j_I C 81 8).toInt ≤ 6 ∧ ∀ f : Nat, (f : Int) < (j_I C 81 8).toInt → j_Ho C f
def j_Tx (C : j_H) : Prop := j_I C 12 6 = j_I C 81 10 ∧ 0 ≤ (j_I C 81 10).toInt ∧ (j_I C 81 10).toInt ≤ 100 ∧ ∀ k : Nat, k < 100 → j_I C 60 k = j_I C 86 k ∧ 0 ≤ (j_I C 86 k).toInt ∧ (j_I C 86 k).toInt ≤ 127
def j_Ta (C : j_H) : Prop := ∀ t : Nat, t < 6 → j_I C (62 + 2 * t) 1 = j_I C 111 t ∧ -1 ≤ (j_I C 111 t).toInt ∧ (j_I C 111 t).toInt ≤ 4 ∧ j_I C (62 + 2 * t) 2 = j_I C 112 t ∧ 0 ≤ (j_I C 112 t).toInt ∧ (j_I C 112 t).toInt ≤ 60 ∧ ((j_I C 111 t).toInt < 0 → (j_I C 112 t).toInt = 0) ∧ ∀ k : Nat, k < 60 → j_L C (63 + 2 * t) k = j_L C 113 (60 * t + k)
def j_Tr (C : j_H) : Prop := j_I C 74 1 = j_I C 81 52 ∧ 0 ≤ (j_I C 81 52).toInt ∧ (j_I C 81 52).toInt ≤ 60 ∧ ∀ k : Nat, k < 20 → j_I C 75 k = j_I C 110 k
def j_now (C : j_H) : Prop := j_Ev C 13 0 1 2 3 27 36 9 82 83 84 85 97 103
def j_kep (C : j_H) : Prop := j_Ev C 18 40 41 42 43 44 45 39 104 105 106 107 108 109
/-- the bytes of the strings -/
def j_ws (s : Nat) : List Int := if s = 0 then [108, 105, 101, 115] else if s = 1 then [119, 111, 114, 116, 104] else if s = 2 then [102, 97, 114] else if s = 3 then [103, 107, 118, 104, 110, 115] else [60, 61, 62]
def j_St (C : j_H) : Prop := ∀ s : Nat, s < 5 → j_R C s 0 = some (s + 5) ∧ (j_I C s 1).toInt = 0 ∧ ∀ i : Nat, i < (j_ws s).length → (j_I C (s + 5) i).toInt = (j_ws s).getD i 0
/-- class and reference say the same -/
def j_In (C : j_H) : Prop := j_Wd C ∧ j_now C ∧ j_kep C ∧ (j_I C 12 2 = j_I C 81 38 ∧ ((j_I C 81 38).toInt = 0 ∨ (j_I C 81 38).toInt = 1)) ∧ j_Hs C ∧ j_Tx C ∧ j_Ta C ∧ j_Tr C ∧ (∀ k, k < 12 → (j_I C 94 k).toInt = ([108, 105, 101, 115, 119, 111, 114, 116, 104, 102, 97, 114].getD k 0 : Int)) ∧ j_St C
