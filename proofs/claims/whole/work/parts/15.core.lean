/-! THE CELLS BEHIND BOTH CONSTRUCTORS, printed by wip/whole/gen15.py -/
def j_S0 : List (Option j_Sh) := [some (.inl 14), some (.inl 14), some (.inl 14), some (.inl 14), some (.inl 14), some (.inr (9, 4)), some (.inr (9, 5)), some (.inr (9, 3)), some (.inr (9, 6)), some (.inr (9, 3)), none, some (.inr (7, 0)), some (.inl 11), some (.inl 0), some (.inr (4, 7)), some (.inr (0, 7)), some (.inr (0, 12)), some (.inr (0, 12)), some (.inl 0), some (.inr (4, 7)), some (.inr (0, 7)), some (.inr (0, 12)), some (.inr (0, 12)), some (.inr (5, 6)), some (.inl 3), some (.inr (0, 10)), some (.inr (0, 10)), some (.inr (0, 10)), some (.inr (0, 100)), some (.inr (0, 6)), some (.inl 3), some (.inr (0, 10)), some (.inr (0, 10)), some (.inr (0, 10)), some (.inr (0, 100)), some (.inr (0, 6)), some (.inl 3), some (.inr (0, 10)), some (.inr (0, 10)), some (.inr (0, 10)), some (.inr (0, 100)), some (.inr (0, 6)), some (.inl 3), some (.inr (0, 10)), some (.inr (0, 10)), some (.inr (0, 10)), some (.inr (0, 100)), some (.inr (0, 6)), some (.inl 3), some (.inr (0, 10)), some (.inr (0, 10)), some (.inr (0, 10)), some (.inr (0, 100)), some (.inr (0, 6)), some (.inl 3), some (.inr (0, 10)), some (.inr (0, 10)), some (.inr (0, 10)), some (.inr (0, 100)), some (.inr (0, 6)), some (.inr (2, 100)), some (.inr (6, 6)), some (.inl 8), some (.inr (1, 60)), some (.inl 8), some (.inr (1, 60)), some (.inl 8), some (.inr (1, 60)), some (.inl 8), some (.inr (1, 60)), some (.inl 8), some (.inr (1, 60)), some (.inl 8), some (.inr (1, 60)), some (.inl 10), some (.inr (0, 20)), some (.inr (0, 12)), some (.inr (1, 7)), some (.inr (1, 7)), some (.inr (0, 7)), some (.inr (0, 7)), some (.inl 12), some (.inr (0, 7)), some (.inr (0, 7)), some (.inr (0, 7)), some (.inr (0, 56)), some (.inr (0, 100)), some (.inr (0, 6)), some (.inr (0, 60)), some (.inr (0, 60)), some (.inr (0, 60)), some (.inr (0, 60)), some (.inr (0, 600)), some (.inr (0, 101)), some (.inr (0, 12)), some (.inr (3, 100)), some (.inr (0, 7)), some (.inr (0, 12)), some (.inr (0, 13)), some (.inr (0, 7)), some (.inr (0, 7)), some (.inr (1, 7)), some (.inr (1, 7)), some (.inr (0, 12)), some (.inr (0, 7)), some (.inr (0, 7)), some (.inr (0, 7)), some (.inr (0, 56)), some (.inr (0, 12)), some (.inr (0, 12)), some (.inr (0, 20)), some (.inr (0, 6)), some (.inr (0, 6)), some (.inr (1, 360)), some (.inr (1, 60))]
def j_FR : List (Nat × Nat × Nat) := [(13, 0, 14), (13, 1, 15), (13, 2, 16), (13, 3, 17), (18, 0, 19), (18, 1, 20), (18, 2, 21), (18, 3, 22), (12, 0, 13), (12, 1, 18), (12, 3, 23), (23, 0, 24), (24, 2, 25), (24, 3, 26), (24, 4, 27), (24, 6, 28), (24, 8, 29), (23, 1, 30), (30, 2, 31), (30, 3, 32), (30, 4, 33), (30, 6, 34), (30, 8, 35), (23, 2, 36), (36, 2, 37), (36, 3, 38), (36, 4, 39), (36, 6, 40), (36, 8, 41), (23, 3, 42), (42, 2, 43), (42, 3, 44), (42, 4, 45), (42, 6, 46), (42, 8, 47), (23, 4, 48), (48, 2, 49), (48, 3, 50), (48, 4, 51), (48, 6, 52), (48, 8, 53), (23, 5, 54), (54, 2, 55), (54, 3, 56), (54, 4, 57), (54, 6, 58), (54, 8, 59), (12, 5, 60), (12, 7, 61), (61, 0, 62), (62, 0, 63), (61, 1, 64), (64, 0, 65), (61, 2, 66), (66, 0, 67), (61, 3, 68), (68, 0, 69), (61, 4, 70), (70, 0, 71), (61, 5, 72), (72, 0, 73), (12, 8, 74), (74, 0, 75), (12, 9, 76), (12, 10, 77), (12, 11, 78), (12, 12, 79), (12, 13, 80), (81, 4, 82), (81, 5, 83), (81, 6, 84), (81, 7, 85), (81, 13, 86), (81, 14, 87), (81, 15, 88), (81, 16, 89), (81, 17, 90), (81, 18, 91), (81, 19, 92), (81, 20, 93), (81, 24, 94), (81, 25, 95), (81, 26, 96), (81, 28, 97), (81, 29, 98), (81, 30, 99), (81, 31, 100), (81, 32, 101), (81, 33, 102), (81, 37, 103), (81, 46, 104), (81, 47, 105), (81, 48, 106), (81, 49, 107), (81, 50, 108), (81, 51, 109), (81, 53, 110), (81, 54, 111), (81, 55, 112), (81, 56, 113), (81, 57, 114)]
/-- the cells that no call hands on -/
def j_scr (a k : Nat) : Bool := match a with
  | 29 => true
  | 35 => true
  | 41 => true
  | 47 => true
  | 53 => true
  | 59 => true
  | 76 => true
  | 77 => true
  | 78 => true
  | 79 => true
  | 80 => true
  | 93 => true
  | 95 => true
  | 96 => true
  | 98 => true
  | 99 => true
  | 100 => true
  | 101 => true
  | 102 => true
  | 114 => true
  | 81 => match k with
    | 11 => true
    | 12 => true
    | 21 => true
    | 22 => true
    | 23 => true
    | 34 => true
    | 35 => true
    | _ => false
  | 24 => match k with
    | 9 => true
    | 10 => true
    | 11 => true
    | _ => false
  | 30 => match k with
    | 9 => true
    | 10 => true
    | 11 => true
    | _ => false
  | 36 => match k with
    | 9 => true
    | 10 => true
    | 11 => true
    | _ => false
  | 42 => match k with
    | 9 => true
    | 10 => true
    | 11 => true
    | _ => false
  | 48 => match k with
    | 9 => true
    | 10 => true
    | 11 => true
    | _ => false
  | 54 => match k with
    | 9 => true
    | 10 => true
    | 11 => true
    | _ => false
  | _ => false
def j_mk {α : Type} (z : α) (f : Nat → Nat → α) : Nat → Nat → α := fun a k => if j_scr a k = true then z else f a k
def j_co (H : j_H) : j_H := (H.1, j_mk 0 H.2.1, j_mk 0 H.2.2.1, j_mk none H.2.2.2)
def j_Wd (C : j_H) : Prop := (∀ (a : Nat) (x : j_Sh), j_S0[a]? = some (some x) → C.1[a]? = some x) ∧ (∀ p ∈ j_FR, C.2.2.2 p.1 p.2.1 = some p.2.2) ∧ 115 ≤ C.1.length
theorem j_Wd_sh {C : j_H} {a : Nat} {x : j_Sh} (h : j_Wd C) (hx : j_S0[a]? = some (some x)) : j_sh C a = some x := h.1 a x hx
theorem j_Wd_cls {C : j_H} {a c : Nat} (h : j_Wd C) (hx : j_S0[a]? = some (some (.inl c))) : j_cls C a = c := by
  unfold j_cls; rw [j_Wd_sh h hx]
theorem j_Wd_tp {C : j_H} {a t n : Nat} (h : j_Wd C) (hx : j_S0[a]? = some (some (.inr (t, n)))) : j_tp C a = t := by
  unfold j_tp; rw [j_Wd_sh h hx]
theorem j_Wd_ln {C : j_H} {a t n : Nat} (h : j_Wd C) (hx : j_S0[a]? = some (some (.inr (t, n)))) : j_ln C a = n := by
  unfold j_ln; rw [j_Wd_sh h hx]
theorem j_Wd_R {C : j_H} {a k r i : Nat} (h : j_Wd C) (hx : j_FR[i]? = some (a, k, r)) : j_R C a k = some r := h.2.1 (a, k, r) (List.mem_of_getElem? hx)
theorem w_c12 {C : j_H} (h : j_Wd C) : j_cls C 12 = 11 := j_Wd_cls h rfl
theorem w_c13 {C : j_H} (h : j_Wd C) : j_cls C 13 = 0 := j_Wd_cls h rfl
theorem w_t14 {C : j_H} (h : j_Wd C) : j_tp C 14 = 4 := j_Wd_tp h rfl
theorem w_n14 {C : j_H} (h : j_Wd C) : j_ln C 14 = 7 := j_Wd_ln h rfl
theorem w_t15 {C : j_H} (h : j_Wd C) : j_tp C 15 = 0 := j_Wd_tp h rfl
theorem w_n15 {C : j_H} (h : j_Wd C) : j_ln C 15 = 7 := j_Wd_ln h rfl
theorem w_t16 {C : j_H} (h : j_Wd C) : j_tp C 16 = 0 := j_Wd_tp h rfl
theorem w_n16 {C : j_H} (h : j_Wd C) : j_ln C 16 = 12 := j_Wd_ln h rfl
theorem w_t17 {C : j_H} (h : j_Wd C) : j_tp C 17 = 0 := j_Wd_tp h rfl
theorem w_n17 {C : j_H} (h : j_Wd C) : j_ln C 17 = 12 := j_Wd_ln h rfl
theorem w_c18 {C : j_H} (h : j_Wd C) : j_cls C 18 = 0 := j_Wd_cls h rfl
theorem w_t19 {C : j_H} (h : j_Wd C) : j_tp C 19 = 4 := j_Wd_tp h rfl
theorem w_n19 {C : j_H} (h : j_Wd C) : j_ln C 19 = 7 := j_Wd_ln h rfl
theorem w_t20 {C : j_H} (h : j_Wd C) : j_tp C 20 = 0 := j_Wd_tp h rfl
theorem w_n20 {C : j_H} (h : j_Wd C) : j_ln C 20 = 7 := j_Wd_ln h rfl
theorem w_t21 {C : j_H} (h : j_Wd C) : j_tp C 21 = 0 := j_Wd_tp h rfl
theorem w_n21 {C : j_H} (h : j_Wd C) : j_ln C 21 = 12 := j_Wd_ln h rfl
theorem w_t22 {C : j_H} (h : j_Wd C) : j_tp C 22 = 0 := j_Wd_tp h rfl
theorem w_n22 {C : j_H} (h : j_Wd C) : j_ln C 22 = 12 := j_Wd_ln h rfl
theorem w_t23 {C : j_H} (h : j_Wd C) : j_tp C 23 = 5 := j_Wd_tp h rfl
theorem w_n23 {C : j_H} (h : j_Wd C) : j_ln C 23 = 6 := j_Wd_ln h rfl
theorem w_c24 {C : j_H} (h : j_Wd C) : j_cls C 24 = 3 := j_Wd_cls h rfl
theorem w_t25 {C : j_H} (h : j_Wd C) : j_tp C 25 = 0 := j_Wd_tp h rfl
theorem w_n25 {C : j_H} (h : j_Wd C) : j_ln C 25 = 10 := j_Wd_ln h rfl
theorem w_t26 {C : j_H} (h : j_Wd C) : j_tp C 26 = 0 := j_Wd_tp h rfl
theorem w_n26 {C : j_H} (h : j_Wd C) : j_ln C 26 = 10 := j_Wd_ln h rfl
theorem w_t27 {C : j_H} (h : j_Wd C) : j_tp C 27 = 0 := j_Wd_tp h rfl
theorem w_n27 {C : j_H} (h : j_Wd C) : j_ln C 27 = 10 := j_Wd_ln h rfl
theorem w_t28 {C : j_H} (h : j_Wd C) : j_tp C 28 = 0 := j_Wd_tp h rfl
theorem w_n28 {C : j_H} (h : j_Wd C) : j_ln C 28 = 100 := j_Wd_ln h rfl
theorem w_t29 {C : j_H} (h : j_Wd C) : j_tp C 29 = 0 := j_Wd_tp h rfl
theorem w_n29 {C : j_H} (h : j_Wd C) : j_ln C 29 = 6 := j_Wd_ln h rfl
theorem w_c30 {C : j_H} (h : j_Wd C) : j_cls C 30 = 3 := j_Wd_cls h rfl
theorem w_t31 {C : j_H} (h : j_Wd C) : j_tp C 31 = 0 := j_Wd_tp h rfl
theorem w_n31 {C : j_H} (h : j_Wd C) : j_ln C 31 = 10 := j_Wd_ln h rfl
theorem w_t32 {C : j_H} (h : j_Wd C) : j_tp C 32 = 0 := j_Wd_tp h rfl
theorem w_n32 {C : j_H} (h : j_Wd C) : j_ln C 32 = 10 := j_Wd_ln h rfl
theorem w_t33 {C : j_H} (h : j_Wd C) : j_tp C 33 = 0 := j_Wd_tp h rfl
theorem w_n33 {C : j_H} (h : j_Wd C) : j_ln C 33 = 10 := j_Wd_ln h rfl
theorem w_t34 {C : j_H} (h : j_Wd C) : j_tp C 34 = 0 := j_Wd_tp h rfl
theorem w_n34 {C : j_H} (h : j_Wd C) : j_ln C 34 = 100 := j_Wd_ln h rfl
theorem w_t35 {C : j_H} (h : j_Wd C) : j_tp C 35 = 0 := j_Wd_tp h rfl
theorem w_n35 {C : j_H} (h : j_Wd C) : j_ln C 35 = 6 := j_Wd_ln h rfl
theorem w_c36 {C : j_H} (h : j_Wd C) : j_cls C 36 = 3 := j_Wd_cls h rfl
theorem w_t37 {C : j_H} (h : j_Wd C) : j_tp C 37 = 0 := j_Wd_tp h rfl
theorem w_n37 {C : j_H} (h : j_Wd C) : j_ln C 37 = 10 := j_Wd_ln h rfl
theorem w_t38 {C : j_H} (h : j_Wd C) : j_tp C 38 = 0 := j_Wd_tp h rfl
theorem w_n38 {C : j_H} (h : j_Wd C) : j_ln C 38 = 10 := j_Wd_ln h rfl
theorem w_t39 {C : j_H} (h : j_Wd C) : j_tp C 39 = 0 := j_Wd_tp h rfl
theorem w_n39 {C : j_H} (h : j_Wd C) : j_ln C 39 = 10 := j_Wd_ln h rfl
theorem w_t40 {C : j_H} (h : j_Wd C) : j_tp C 40 = 0 := j_Wd_tp h rfl
theorem w_n40 {C : j_H} (h : j_Wd C) : j_ln C 40 = 100 := j_Wd_ln h rfl
theorem w_t41 {C : j_H} (h : j_Wd C) : j_tp C 41 = 0 := j_Wd_tp h rfl
theorem w_n41 {C : j_H} (h : j_Wd C) : j_ln C 41 = 6 := j_Wd_ln h rfl
theorem w_c42 {C : j_H} (h : j_Wd C) : j_cls C 42 = 3 := j_Wd_cls h rfl
theorem w_t43 {C : j_H} (h : j_Wd C) : j_tp C 43 = 0 := j_Wd_tp h rfl
theorem w_n43 {C : j_H} (h : j_Wd C) : j_ln C 43 = 10 := j_Wd_ln h rfl
theorem w_t44 {C : j_H} (h : j_Wd C) : j_tp C 44 = 0 := j_Wd_tp h rfl
theorem w_n44 {C : j_H} (h : j_Wd C) : j_ln C 44 = 10 := j_Wd_ln h rfl
theorem w_t45 {C : j_H} (h : j_Wd C) : j_tp C 45 = 0 := j_Wd_tp h rfl
theorem w_n45 {C : j_H} (h : j_Wd C) : j_ln C 45 = 10 := j_Wd_ln h rfl
theorem w_t46 {C : j_H} (h : j_Wd C) : j_tp C 46 = 0 := j_Wd_tp h rfl
theorem w_n46 {C : j_H} (h : j_Wd C) : j_ln C 46 = 100 := j_Wd_ln h rfl
theorem w_t47 {C : j_H} (h : j_Wd C) : j_tp C 47 = 0 := j_Wd_tp h rfl
theorem w_n47 {C : j_H} (h : j_Wd C) : j_ln C 47 = 6 := j_Wd_ln h rfl
theorem w_c48 {C : j_H} (h : j_Wd C) : j_cls C 48 = 3 := j_Wd_cls h rfl
theorem w_t49 {C : j_H} (h : j_Wd C) : j_tp C 49 = 0 := j_Wd_tp h rfl
theorem w_n49 {C : j_H} (h : j_Wd C) : j_ln C 49 = 10 := j_Wd_ln h rfl
theorem w_t50 {C : j_H} (h : j_Wd C) : j_tp C 50 = 0 := j_Wd_tp h rfl
theorem w_n50 {C : j_H} (h : j_Wd C) : j_ln C 50 = 10 := j_Wd_ln h rfl
theorem w_t51 {C : j_H} (h : j_Wd C) : j_tp C 51 = 0 := j_Wd_tp h rfl
theorem w_n51 {C : j_H} (h : j_Wd C) : j_ln C 51 = 10 := j_Wd_ln h rfl
theorem w_t52 {C : j_H} (h : j_Wd C) : j_tp C 52 = 0 := j_Wd_tp h rfl
theorem w_n52 {C : j_H} (h : j_Wd C) : j_ln C 52 = 100 := j_Wd_ln h rfl
theorem w_t53 {C : j_H} (h : j_Wd C) : j_tp C 53 = 0 := j_Wd_tp h rfl
theorem w_n53 {C : j_H} (h : j_Wd C) : j_ln C 53 = 6 := j_Wd_ln h rfl
theorem w_c54 {C : j_H} (h : j_Wd C) : j_cls C 54 = 3 := j_Wd_cls h rfl
theorem w_t55 {C : j_H} (h : j_Wd C) : j_tp C 55 = 0 := j_Wd_tp h rfl
theorem w_n55 {C : j_H} (h : j_Wd C) : j_ln C 55 = 10 := j_Wd_ln h rfl
theorem w_t56 {C : j_H} (h : j_Wd C) : j_tp C 56 = 0 := j_Wd_tp h rfl
theorem w_n56 {C : j_H} (h : j_Wd C) : j_ln C 56 = 10 := j_Wd_ln h rfl
theorem w_t57 {C : j_H} (h : j_Wd C) : j_tp C 57 = 0 := j_Wd_tp h rfl
theorem w_n57 {C : j_H} (h : j_Wd C) : j_ln C 57 = 10 := j_Wd_ln h rfl
theorem w_t58 {C : j_H} (h : j_Wd C) : j_tp C 58 = 0 := j_Wd_tp h rfl
theorem w_n58 {C : j_H} (h : j_Wd C) : j_ln C 58 = 100 := j_Wd_ln h rfl
theorem w_t59 {C : j_H} (h : j_Wd C) : j_tp C 59 = 0 := j_Wd_tp h rfl
theorem w_n59 {C : j_H} (h : j_Wd C) : j_ln C 59 = 6 := j_Wd_ln h rfl
theorem w_t60 {C : j_H} (h : j_Wd C) : j_tp C 60 = 2 := j_Wd_tp h rfl
theorem w_n60 {C : j_H} (h : j_Wd C) : j_ln C 60 = 100 := j_Wd_ln h rfl
theorem w_t61 {C : j_H} (h : j_Wd C) : j_tp C 61 = 6 := j_Wd_tp h rfl
theorem w_n61 {C : j_H} (h : j_Wd C) : j_ln C 61 = 6 := j_Wd_ln h rfl
theorem w_c62 {C : j_H} (h : j_Wd C) : j_cls C 62 = 8 := j_Wd_cls h rfl
theorem w_t63 {C : j_H} (h : j_Wd C) : j_tp C 63 = 1 := j_Wd_tp h rfl
theorem w_n63 {C : j_H} (h : j_Wd C) : j_ln C 63 = 60 := j_Wd_ln h rfl
theorem w_c64 {C : j_H} (h : j_Wd C) : j_cls C 64 = 8 := j_Wd_cls h rfl
theorem w_t65 {C : j_H} (h : j_Wd C) : j_tp C 65 = 1 := j_Wd_tp h rfl
theorem w_n65 {C : j_H} (h : j_Wd C) : j_ln C 65 = 60 := j_Wd_ln h rfl
theorem w_c66 {C : j_H} (h : j_Wd C) : j_cls C 66 = 8 := j_Wd_cls h rfl
theorem w_t67 {C : j_H} (h : j_Wd C) : j_tp C 67 = 1 := j_Wd_tp h rfl
theorem w_n67 {C : j_H} (h : j_Wd C) : j_ln C 67 = 60 := j_Wd_ln h rfl
theorem w_c68 {C : j_H} (h : j_Wd C) : j_cls C 68 = 8 := j_Wd_cls h rfl
theorem w_t69 {C : j_H} (h : j_Wd C) : j_tp C 69 = 1 := j_Wd_tp h rfl
theorem w_n69 {C : j_H} (h : j_Wd C) : j_ln C 69 = 60 := j_Wd_ln h rfl
theorem w_c70 {C : j_H} (h : j_Wd C) : j_cls C 70 = 8 := j_Wd_cls h rfl
theorem w_t71 {C : j_H} (h : j_Wd C) : j_tp C 71 = 1 := j_Wd_tp h rfl
theorem w_n71 {C : j_H} (h : j_Wd C) : j_ln C 71 = 60 := j_Wd_ln h rfl
theorem w_c72 {C : j_H} (h : j_Wd C) : j_cls C 72 = 8 := j_Wd_cls h rfl
theorem w_t73 {C : j_H} (h : j_Wd C) : j_tp C 73 = 1 := j_Wd_tp h rfl
theorem w_n73 {C : j_H} (h : j_Wd C) : j_ln C 73 = 60 := j_Wd_ln h rfl
theorem w_c74 {C : j_H} (h : j_Wd C) : j_cls C 74 = 10 := j_Wd_cls h rfl
theorem w_t75 {C : j_H} (h : j_Wd C) : j_tp C 75 = 0 := j_Wd_tp h rfl
theorem w_n75 {C : j_H} (h : j_Wd C) : j_ln C 75 = 20 := j_Wd_ln h rfl
theorem w_t76 {C : j_H} (h : j_Wd C) : j_tp C 76 = 0 := j_Wd_tp h rfl
theorem w_n76 {C : j_H} (h : j_Wd C) : j_ln C 76 = 12 := j_Wd_ln h rfl
theorem w_t77 {C : j_H} (h : j_Wd C) : j_tp C 77 = 1 := j_Wd_tp h rfl
theorem w_n77 {C : j_H} (h : j_Wd C) : j_ln C 77 = 7 := j_Wd_ln h rfl
theorem w_t78 {C : j_H} (h : j_Wd C) : j_tp C 78 = 1 := j_Wd_tp h rfl
theorem w_n78 {C : j_H} (h : j_Wd C) : j_ln C 78 = 7 := j_Wd_ln h rfl
theorem w_t79 {C : j_H} (h : j_Wd C) : j_tp C 79 = 0 := j_Wd_tp h rfl
theorem w_n79 {C : j_H} (h : j_Wd C) : j_ln C 79 = 7 := j_Wd_ln h rfl
theorem w_t80 {C : j_H} (h : j_Wd C) : j_tp C 80 = 0 := j_Wd_tp h rfl
theorem w_n80 {C : j_H} (h : j_Wd C) : j_ln C 80 = 7 := j_Wd_ln h rfl
theorem w_c81 {C : j_H} (h : j_Wd C) : j_cls C 81 = 12 := j_Wd_cls h rfl
theorem w_t82 {C : j_H} (h : j_Wd C) : j_tp C 82 = 0 := j_Wd_tp h rfl
theorem w_n82 {C : j_H} (h : j_Wd C) : j_ln C 82 = 7 := j_Wd_ln h rfl
theorem w_t83 {C : j_H} (h : j_Wd C) : j_tp C 83 = 0 := j_Wd_tp h rfl
theorem w_n83 {C : j_H} (h : j_Wd C) : j_ln C 83 = 7 := j_Wd_ln h rfl
theorem w_t84 {C : j_H} (h : j_Wd C) : j_tp C 84 = 0 := j_Wd_tp h rfl
theorem w_n84 {C : j_H} (h : j_Wd C) : j_ln C 84 = 7 := j_Wd_ln h rfl
theorem w_t85 {C : j_H} (h : j_Wd C) : j_tp C 85 = 0 := j_Wd_tp h rfl
theorem w_n85 {C : j_H} (h : j_Wd C) : j_ln C 85 = 56 := j_Wd_ln h rfl
theorem w_t86 {C : j_H} (h : j_Wd C) : j_tp C 86 = 0 := j_Wd_tp h rfl
theorem w_n86 {C : j_H} (h : j_Wd C) : j_ln C 86 = 100 := j_Wd_ln h rfl
theorem w_t87 {C : j_H} (h : j_Wd C) : j_tp C 87 = 0 := j_Wd_tp h rfl
theorem w_n87 {C : j_H} (h : j_Wd C) : j_ln C 87 = 6 := j_Wd_ln h rfl
theorem w_t88 {C : j_H} (h : j_Wd C) : j_tp C 88 = 0 := j_Wd_tp h rfl
theorem w_n88 {C : j_H} (h : j_Wd C) : j_ln C 88 = 60 := j_Wd_ln h rfl
theorem w_t89 {C : j_H} (h : j_Wd C) : j_tp C 89 = 0 := j_Wd_tp h rfl
theorem w_n89 {C : j_H} (h : j_Wd C) : j_ln C 89 = 60 := j_Wd_ln h rfl
theorem w_t90 {C : j_H} (h : j_Wd C) : j_tp C 90 = 0 := j_Wd_tp h rfl
theorem w_n90 {C : j_H} (h : j_Wd C) : j_ln C 90 = 60 := j_Wd_ln h rfl
theorem w_t91 {C : j_H} (h : j_Wd C) : j_tp C 91 = 0 := j_Wd_tp h rfl
theorem w_n91 {C : j_H} (h : j_Wd C) : j_ln C 91 = 60 := j_Wd_ln h rfl
theorem w_t92 {C : j_H} (h : j_Wd C) : j_tp C 92 = 0 := j_Wd_tp h rfl
theorem w_n92 {C : j_H} (h : j_Wd C) : j_ln C 92 = 600 := j_Wd_ln h rfl
theorem w_t93 {C : j_H} (h : j_Wd C) : j_tp C 93 = 0 := j_Wd_tp h rfl
theorem w_n93 {C : j_H} (h : j_Wd C) : j_ln C 93 = 101 := j_Wd_ln h rfl
theorem w_t94 {C : j_H} (h : j_Wd C) : j_tp C 94 = 0 := j_Wd_tp h rfl
theorem w_n94 {C : j_H} (h : j_Wd C) : j_ln C 94 = 12 := j_Wd_ln h rfl
theorem w_t95 {C : j_H} (h : j_Wd C) : j_tp C 95 = 3 := j_Wd_tp h rfl
theorem w_n95 {C : j_H} (h : j_Wd C) : j_ln C 95 = 100 := j_Wd_ln h rfl
theorem w_t96 {C : j_H} (h : j_Wd C) : j_tp C 96 = 0 := j_Wd_tp h rfl
theorem w_n96 {C : j_H} (h : j_Wd C) : j_ln C 96 = 7 := j_Wd_ln h rfl
theorem w_t97 {C : j_H} (h : j_Wd C) : j_tp C 97 = 0 := j_Wd_tp h rfl
theorem w_n97 {C : j_H} (h : j_Wd C) : j_ln C 97 = 12 := j_Wd_ln h rfl
theorem w_t98 {C : j_H} (h : j_Wd C) : j_tp C 98 = 0 := j_Wd_tp h rfl
theorem w_n98 {C : j_H} (h : j_Wd C) : j_ln C 98 = 13 := j_Wd_ln h rfl
theorem w_t99 {C : j_H} (h : j_Wd C) : j_tp C 99 = 0 := j_Wd_tp h rfl
theorem w_n99 {C : j_H} (h : j_Wd C) : j_ln C 99 = 7 := j_Wd_ln h rfl
theorem w_t100 {C : j_H} (h : j_Wd C) : j_tp C 100 = 0 := j_Wd_tp h rfl
theorem w_n100 {C : j_H} (h : j_Wd C) : j_ln C 100 = 7 := j_Wd_ln h rfl
theorem w_t101 {C : j_H} (h : j_Wd C) : j_tp C 101 = 1 := j_Wd_tp h rfl
theorem w_n101 {C : j_H} (h : j_Wd C) : j_ln C 101 = 7 := j_Wd_ln h rfl
theorem w_t102 {C : j_H} (h : j_Wd C) : j_tp C 102 = 1 := j_Wd_tp h rfl
theorem w_n102 {C : j_H} (h : j_Wd C) : j_ln C 102 = 7 := j_Wd_ln h rfl
theorem w_t103 {C : j_H} (h : j_Wd C) : j_tp C 103 = 0 := j_Wd_tp h rfl
theorem w_n103 {C : j_H} (h : j_Wd C) : j_ln C 103 = 12 := j_Wd_ln h rfl
theorem w_t104 {C : j_H} (h : j_Wd C) : j_tp C 104 = 0 := j_Wd_tp h rfl
theorem w_n104 {C : j_H} (h : j_Wd C) : j_ln C 104 = 7 := j_Wd_ln h rfl
theorem w_t105 {C : j_H} (h : j_Wd C) : j_tp C 105 = 0 := j_Wd_tp h rfl
theorem w_n105 {C : j_H} (h : j_Wd C) : j_ln C 105 = 7 := j_Wd_ln h rfl
theorem w_t106 {C : j_H} (h : j_Wd C) : j_tp C 106 = 0 := j_Wd_tp h rfl
theorem w_n106 {C : j_H} (h : j_Wd C) : j_ln C 106 = 7 := j_Wd_ln h rfl
theorem w_t107 {C : j_H} (h : j_Wd C) : j_tp C 107 = 0 := j_Wd_tp h rfl
theorem w_n107 {C : j_H} (h : j_Wd C) : j_ln C 107 = 56 := j_Wd_ln h rfl
theorem w_t108 {C : j_H} (h : j_Wd C) : j_tp C 108 = 0 := j_Wd_tp h rfl
theorem w_n108 {C : j_H} (h : j_Wd C) : j_ln C 108 = 12 := j_Wd_ln h rfl
theorem w_t109 {C : j_H} (h : j_Wd C) : j_tp C 109 = 0 := j_Wd_tp h rfl
theorem w_n109 {C : j_H} (h : j_Wd C) : j_ln C 109 = 12 := j_Wd_ln h rfl
theorem w_t110 {C : j_H} (h : j_Wd C) : j_tp C 110 = 0 := j_Wd_tp h rfl
theorem w_n110 {C : j_H} (h : j_Wd C) : j_ln C 110 = 20 := j_Wd_ln h rfl
theorem w_t111 {C : j_H} (h : j_Wd C) : j_tp C 111 = 0 := j_Wd_tp h rfl
theorem w_n111 {C : j_H} (h : j_Wd C) : j_ln C 111 = 6 := j_Wd_ln h rfl
theorem w_t112 {C : j_H} (h : j_Wd C) : j_tp C 112 = 0 := j_Wd_tp h rfl
theorem w_n112 {C : j_H} (h : j_Wd C) : j_ln C 112 = 6 := j_Wd_ln h rfl
theorem w_t113 {C : j_H} (h : j_Wd C) : j_tp C 113 = 1 := j_Wd_tp h rfl
theorem w_n113 {C : j_H} (h : j_Wd C) : j_ln C 113 = 360 := j_Wd_ln h rfl
theorem w_t114 {C : j_H} (h : j_Wd C) : j_tp C 114 = 1 := j_Wd_tp h rfl
theorem w_n114 {C : j_H} (h : j_Wd C) : j_ln C 114 = 60 := j_Wd_ln h rfl
theorem w_r13_0 {C : j_H} (h : j_Wd C) : j_R C 13 0 = some 14 := j_Wd_R (i := 0) h rfl
theorem w_r13_1 {C : j_H} (h : j_Wd C) : j_R C 13 1 = some 15 := j_Wd_R (i := 1) h rfl
theorem w_r13_2 {C : j_H} (h : j_Wd C) : j_R C 13 2 = some 16 := j_Wd_R (i := 2) h rfl
theorem w_r13_3 {C : j_H} (h : j_Wd C) : j_R C 13 3 = some 17 := j_Wd_R (i := 3) h rfl
theorem w_r18_0 {C : j_H} (h : j_Wd C) : j_R C 18 0 = some 19 := j_Wd_R (i := 4) h rfl
theorem w_r18_1 {C : j_H} (h : j_Wd C) : j_R C 18 1 = some 20 := j_Wd_R (i := 5) h rfl
theorem w_r18_2 {C : j_H} (h : j_Wd C) : j_R C 18 2 = some 21 := j_Wd_R (i := 6) h rfl
theorem w_r18_3 {C : j_H} (h : j_Wd C) : j_R C 18 3 = some 22 := j_Wd_R (i := 7) h rfl
theorem w_r12_0 {C : j_H} (h : j_Wd C) : j_R C 12 0 = some 13 := j_Wd_R (i := 8) h rfl
theorem w_r12_1 {C : j_H} (h : j_Wd C) : j_R C 12 1 = some 18 := j_Wd_R (i := 9) h rfl
theorem w_r12_3 {C : j_H} (h : j_Wd C) : j_R C 12 3 = some 23 := j_Wd_R (i := 10) h rfl
theorem w_r23_0 {C : j_H} (h : j_Wd C) : j_R C 23 0 = some 24 := j_Wd_R (i := 11) h rfl
theorem w_r24_2 {C : j_H} (h : j_Wd C) : j_R C 24 2 = some 25 := j_Wd_R (i := 12) h rfl
theorem w_r24_3 {C : j_H} (h : j_Wd C) : j_R C 24 3 = some 26 := j_Wd_R (i := 13) h rfl
theorem w_r24_4 {C : j_H} (h : j_Wd C) : j_R C 24 4 = some 27 := j_Wd_R (i := 14) h rfl
theorem w_r24_6 {C : j_H} (h : j_Wd C) : j_R C 24 6 = some 28 := j_Wd_R (i := 15) h rfl
theorem w_r24_8 {C : j_H} (h : j_Wd C) : j_R C 24 8 = some 29 := j_Wd_R (i := 16) h rfl
theorem w_r23_1 {C : j_H} (h : j_Wd C) : j_R C 23 1 = some 30 := j_Wd_R (i := 17) h rfl
theorem w_r30_2 {C : j_H} (h : j_Wd C) : j_R C 30 2 = some 31 := j_Wd_R (i := 18) h rfl
theorem w_r30_3 {C : j_H} (h : j_Wd C) : j_R C 30 3 = some 32 := j_Wd_R (i := 19) h rfl
theorem w_r30_4 {C : j_H} (h : j_Wd C) : j_R C 30 4 = some 33 := j_Wd_R (i := 20) h rfl
theorem w_r30_6 {C : j_H} (h : j_Wd C) : j_R C 30 6 = some 34 := j_Wd_R (i := 21) h rfl
theorem w_r30_8 {C : j_H} (h : j_Wd C) : j_R C 30 8 = some 35 := j_Wd_R (i := 22) h rfl
theorem w_r23_2 {C : j_H} (h : j_Wd C) : j_R C 23 2 = some 36 := j_Wd_R (i := 23) h rfl
theorem w_r36_2 {C : j_H} (h : j_Wd C) : j_R C 36 2 = some 37 := j_Wd_R (i := 24) h rfl
theorem w_r36_3 {C : j_H} (h : j_Wd C) : j_R C 36 3 = some 38 := j_Wd_R (i := 25) h rfl
theorem w_r36_4 {C : j_H} (h : j_Wd C) : j_R C 36 4 = some 39 := j_Wd_R (i := 26) h rfl
theorem w_r36_6 {C : j_H} (h : j_Wd C) : j_R C 36 6 = some 40 := j_Wd_R (i := 27) h rfl
theorem w_r36_8 {C : j_H} (h : j_Wd C) : j_R C 36 8 = some 41 := j_Wd_R (i := 28) h rfl
theorem w_r23_3 {C : j_H} (h : j_Wd C) : j_R C 23 3 = some 42 := j_Wd_R (i := 29) h rfl
theorem w_r42_2 {C : j_H} (h : j_Wd C) : j_R C 42 2 = some 43 := j_Wd_R (i := 30) h rfl
theorem w_r42_3 {C : j_H} (h : j_Wd C) : j_R C 42 3 = some 44 := j_Wd_R (i := 31) h rfl
theorem w_r42_4 {C : j_H} (h : j_Wd C) : j_R C 42 4 = some 45 := j_Wd_R (i := 32) h rfl
theorem w_r42_6 {C : j_H} (h : j_Wd C) : j_R C 42 6 = some 46 := j_Wd_R (i := 33) h rfl
theorem w_r42_8 {C : j_H} (h : j_Wd C) : j_R C 42 8 = some 47 := j_Wd_R (i := 34) h rfl
theorem w_r23_4 {C : j_H} (h : j_Wd C) : j_R C 23 4 = some 48 := j_Wd_R (i := 35) h rfl
theorem w_r48_2 {C : j_H} (h : j_Wd C) : j_R C 48 2 = some 49 := j_Wd_R (i := 36) h rfl
theorem w_r48_3 {C : j_H} (h : j_Wd C) : j_R C 48 3 = some 50 := j_Wd_R (i := 37) h rfl
theorem w_r48_4 {C : j_H} (h : j_Wd C) : j_R C 48 4 = some 51 := j_Wd_R (i := 38) h rfl
theorem w_r48_6 {C : j_H} (h : j_Wd C) : j_R C 48 6 = some 52 := j_Wd_R (i := 39) h rfl
theorem w_r48_8 {C : j_H} (h : j_Wd C) : j_R C 48 8 = some 53 := j_Wd_R (i := 40) h rfl
theorem w_r23_5 {C : j_H} (h : j_Wd C) : j_R C 23 5 = some 54 := j_Wd_R (i := 41) h rfl
theorem w_r54_2 {C : j_H} (h : j_Wd C) : j_R C 54 2 = some 55 := j_Wd_R (i := 42) h rfl
theorem w_r54_3 {C : j_H} (h : j_Wd C) : j_R C 54 3 = some 56 := j_Wd_R (i := 43) h rfl
theorem w_r54_4 {C : j_H} (h : j_Wd C) : j_R C 54 4 = some 57 := j_Wd_R (i := 44) h rfl
theorem w_r54_6 {C : j_H} (h : j_Wd C) : j_R C 54 6 = some 58 := j_Wd_R (i := 45) h rfl
theorem w_r54_8 {C : j_H} (h : j_Wd C) : j_R C 54 8 = some 59 := j_Wd_R (i := 46) h rfl
theorem w_r12_5 {C : j_H} (h : j_Wd C) : j_R C 12 5 = some 60 := j_Wd_R (i := 47) h rfl
theorem w_r12_7 {C : j_H} (h : j_Wd C) : j_R C 12 7 = some 61 := j_Wd_R (i := 48) h rfl
theorem w_r61_0 {C : j_H} (h : j_Wd C) : j_R C 61 0 = some 62 := j_Wd_R (i := 49) h rfl
theorem w_r62_0 {C : j_H} (h : j_Wd C) : j_R C 62 0 = some 63 := j_Wd_R (i := 50) h rfl
theorem w_r61_1 {C : j_H} (h : j_Wd C) : j_R C 61 1 = some 64 := j_Wd_R (i := 51) h rfl
theorem w_r64_0 {C : j_H} (h : j_Wd C) : j_R C 64 0 = some 65 := j_Wd_R (i := 52) h rfl
theorem w_r61_2 {C : j_H} (h : j_Wd C) : j_R C 61 2 = some 66 := j_Wd_R (i := 53) h rfl
theorem w_r66_0 {C : j_H} (h : j_Wd C) : j_R C 66 0 = some 67 := j_Wd_R (i := 54) h rfl
theorem w_r61_3 {C : j_H} (h : j_Wd C) : j_R C 61 3 = some 68 := j_Wd_R (i := 55) h rfl
theorem w_r68_0 {C : j_H} (h : j_Wd C) : j_R C 68 0 = some 69 := j_Wd_R (i := 56) h rfl
theorem w_r61_4 {C : j_H} (h : j_Wd C) : j_R C 61 4 = some 70 := j_Wd_R (i := 57) h rfl
theorem w_r70_0 {C : j_H} (h : j_Wd C) : j_R C 70 0 = some 71 := j_Wd_R (i := 58) h rfl
theorem w_r61_5 {C : j_H} (h : j_Wd C) : j_R C 61 5 = some 72 := j_Wd_R (i := 59) h rfl
theorem w_r72_0 {C : j_H} (h : j_Wd C) : j_R C 72 0 = some 73 := j_Wd_R (i := 60) h rfl
theorem w_r12_8 {C : j_H} (h : j_Wd C) : j_R C 12 8 = some 74 := j_Wd_R (i := 61) h rfl
theorem w_r74_0 {C : j_H} (h : j_Wd C) : j_R C 74 0 = some 75 := j_Wd_R (i := 62) h rfl
theorem w_r12_9 {C : j_H} (h : j_Wd C) : j_R C 12 9 = some 76 := j_Wd_R (i := 63) h rfl
theorem w_r12_10 {C : j_H} (h : j_Wd C) : j_R C 12 10 = some 77 := j_Wd_R (i := 64) h rfl
theorem w_r12_11 {C : j_H} (h : j_Wd C) : j_R C 12 11 = some 78 := j_Wd_R (i := 65) h rfl
theorem w_r12_12 {C : j_H} (h : j_Wd C) : j_R C 12 12 = some 79 := j_Wd_R (i := 66) h rfl
theorem w_r12_13 {C : j_H} (h : j_Wd C) : j_R C 12 13 = some 80 := j_Wd_R (i := 67) h rfl
theorem w_r81_4 {C : j_H} (h : j_Wd C) : j_R C 81 4 = some 82 := j_Wd_R (i := 68) h rfl
theorem w_r81_5 {C : j_H} (h : j_Wd C) : j_R C 81 5 = some 83 := j_Wd_R (i := 69) h rfl
theorem w_r81_6 {C : j_H} (h : j_Wd C) : j_R C 81 6 = some 84 := j_Wd_R (i := 70) h rfl
theorem w_r81_7 {C : j_H} (h : j_Wd C) : j_R C 81 7 = some 85 := j_Wd_R (i := 71) h rfl
theorem w_r81_13 {C : j_H} (h : j_Wd C) : j_R C 81 13 = some 86 := j_Wd_R (i := 72) h rfl
theorem w_r81_14 {C : j_H} (h : j_Wd C) : j_R C 81 14 = some 87 := j_Wd_R (i := 73) h rfl
theorem w_r81_15 {C : j_H} (h : j_Wd C) : j_R C 81 15 = some 88 := j_Wd_R (i := 74) h rfl
theorem w_r81_16 {C : j_H} (h : j_Wd C) : j_R C 81 16 = some 89 := j_Wd_R (i := 75) h rfl
theorem w_r81_17 {C : j_H} (h : j_Wd C) : j_R C 81 17 = some 90 := j_Wd_R (i := 76) h rfl
theorem w_r81_18 {C : j_H} (h : j_Wd C) : j_R C 81 18 = some 91 := j_Wd_R (i := 77) h rfl
theorem w_r81_19 {C : j_H} (h : j_Wd C) : j_R C 81 19 = some 92 := j_Wd_R (i := 78) h rfl
theorem w_r81_20 {C : j_H} (h : j_Wd C) : j_R C 81 20 = some 93 := j_Wd_R (i := 79) h rfl
theorem w_r81_24 {C : j_H} (h : j_Wd C) : j_R C 81 24 = some 94 := j_Wd_R (i := 80) h rfl
theorem w_r81_25 {C : j_H} (h : j_Wd C) : j_R C 81 25 = some 95 := j_Wd_R (i := 81) h rfl
theorem w_r81_26 {C : j_H} (h : j_Wd C) : j_R C 81 26 = some 96 := j_Wd_R (i := 82) h rfl
theorem w_r81_28 {C : j_H} (h : j_Wd C) : j_R C 81 28 = some 97 := j_Wd_R (i := 83) h rfl
theorem w_r81_29 {C : j_H} (h : j_Wd C) : j_R C 81 29 = some 98 := j_Wd_R (i := 84) h rfl
theorem w_r81_30 {C : j_H} (h : j_Wd C) : j_R C 81 30 = some 99 := j_Wd_R (i := 85) h rfl
theorem w_r81_31 {C : j_H} (h : j_Wd C) : j_R C 81 31 = some 100 := j_Wd_R (i := 86) h rfl
theorem w_r81_32 {C : j_H} (h : j_Wd C) : j_R C 81 32 = some 101 := j_Wd_R (i := 87) h rfl
theorem w_r81_33 {C : j_H} (h : j_Wd C) : j_R C 81 33 = some 102 := j_Wd_R (i := 88) h rfl
theorem w_r81_37 {C : j_H} (h : j_Wd C) : j_R C 81 37 = some 103 := j_Wd_R (i := 89) h rfl
theorem w_r81_46 {C : j_H} (h : j_Wd C) : j_R C 81 46 = some 104 := j_Wd_R (i := 90) h rfl
theorem w_r81_47 {C : j_H} (h : j_Wd C) : j_R C 81 47 = some 105 := j_Wd_R (i := 91) h rfl
theorem w_r81_48 {C : j_H} (h : j_Wd C) : j_R C 81 48 = some 106 := j_Wd_R (i := 92) h rfl
theorem w_r81_49 {C : j_H} (h : j_Wd C) : j_R C 81 49 = some 107 := j_Wd_R (i := 93) h rfl
theorem w_r81_50 {C : j_H} (h : j_Wd C) : j_R C 81 50 = some 108 := j_Wd_R (i := 94) h rfl
theorem w_r81_51 {C : j_H} (h : j_Wd C) : j_R C 81 51 = some 109 := j_Wd_R (i := 95) h rfl
theorem w_r81_53 {C : j_H} (h : j_Wd C) : j_R C 81 53 = some 110 := j_Wd_R (i := 96) h rfl
theorem w_r81_54 {C : j_H} (h : j_Wd C) : j_R C 81 54 = some 111 := j_Wd_R (i := 97) h rfl
theorem w_r81_55 {C : j_H} (h : j_Wd C) : j_R C 81 55 = some 112 := j_Wd_R (i := 98) h rfl
theorem w_r81_56 {C : j_H} (h : j_Wd C) : j_R C 81 56 = some 113 := j_Wd_R (i := 99) h rfl
theorem w_r81_57 {C : j_H} (h : j_Wd C) : j_R C 81 57 = some 114 := j_Wd_R (i := 100) h rfl
-- values
theorem v_rs (a : Nat) : va_rf (some a) = .ref a := Eq.trans rfl rfl
theorem v_rn : va_rf none = .null := Eq.trans rfl rfl
theorem v_pa (a : Nat) : j_pa (.ref a) = a := Eq.trans rfl rfl
theorem v_vc (H : j_H) (a : Nat) : j_vc H (.ref a) = j_cls H a := Eq.trans rfl rfl
theorem v_vt (H : j_H) (a : Nat) : j_vt H (.ref a) = j_tp H a := Eq.trans rfl rfl
theorem v_vl (H : j_H) (a : Nat) : j_vl H (.ref a) = j_ln H a := Eq.trans rfl rfl
theorem v_ir (a : Nat) : j_isr (.ref a) = true := Eq.trans rfl rfl
theorem v_in : j_isr .null = true := Eq.trans rfl rfl
theorem v_po (a : Nat) : j_po (.ref a) = some a := Eq.trans rfl rfl
theorem v_pn : j_po .null = none := Eq.trans rfl rfl
theorem v_re (a c : Nat) : (Value.ref a = Value.ref c) = (a = c) := propext ⟨fun h => by cases h; rfl, fun h => by rw [h]⟩
theorem v_rN (a : Nat) : (Value.ref a = Value.null) = False := propext ⟨fun h => (by cases h), False.elim⟩
theorem v_Nr (a : Nat) : (Value.null = Value.ref a) = False := propext ⟨fun h => (by cases h), False.elim⟩
theorem v_fe (o : Option Nat) (c : Nat) : (va_rf o = Value.ref c) = (o = some c) := by
  cases o with
  | none => exact propext ⟨fun h => (by cases (show Value.null = Value.ref c from h)), fun h => (by cases h)⟩
  | some a => exact (v_re a c).trans (propext ⟨fun h => by rw [h], fun h => Option.some.inj h⟩)
theorem v_fN (o : Option Nat) : (va_rf o = Value.null) = (o = none) := by
  cases o with
  | none => exact propext ⟨fun _ => rfl, fun _ => rfl⟩
  | some a => exact propext ⟨fun h => (by cases (show Value.ref a = Value.null from h)), fun h => (by cases h)⟩
theorem v_c1i (x : Int32) : j_c1 (.int x) = true := Eq.trans rfl rfl
theorem v_c1r (a : Nat) : j_c1 (.ref a) = true := Eq.trans rfl rfl
theorem v_c1n : j_c1 .null = true := Eq.trans rfl rfl
theorem v_c1u : j_c1 j_u = true := Eq.trans rfl rfl
theorem v_c1f (o : Option Nat) : j_c1 (va_rf o) = true := by cases o <;> rfl
theorem n_N11 : ¬ (Value.null = Value.ref 11) := fun h => by cases h
theorem n_R11 {a : Nat} (h : Nat.beq a 11 = false) : ¬ (Value.ref a = Value.ref 11) := fun h' => by cases h'; cases h
theorem v_if (o : Option Nat) : j_isr (va_rf o) = true := j_isr_rf o
-- reading what was written
theorem h_II (H : j_H) (a k c l : Nat) (v : Int32) : j_I (j_sI H a k v) c l = if c = a ∧ l = k then v else j_I H c l := Eq.trans rfl rfl
theorem h_LL (H : j_H) (a k c l : Nat) (v : Int64) : j_L (j_sL H a k v) c l = if c = a ∧ l = k then v else j_L H c l := Eq.trans rfl rfl
theorem h_RR (H : j_H) (a k c l : Nat) (v : Option Nat) : j_R (j_sR H a k v) c l = if c = a ∧ l = k then v else j_R H c l := Eq.trans rfl rfl
theorem h_IL (H : j_H) (a k c l : Nat) (v : Int64) : j_I (j_sL H a k v) c l = j_I H c l := Eq.trans rfl rfl
theorem h_IR (H : j_H) (a k c l : Nat) (v : Option Nat) : j_I (j_sR H a k v) c l = j_I H c l := Eq.trans rfl rfl
theorem h_LI (H : j_H) (a k c l : Nat) (v : Int32) : j_L (j_sI H a k v) c l = j_L H c l := Eq.trans rfl rfl
theorem h_LR (H : j_H) (a k c l : Nat) (v : Option Nat) : j_L (j_sR H a k v) c l = j_L H c l := Eq.trans rfl rfl
theorem h_RI (H : j_H) (a k c l : Nat) (v : Int32) : j_R (j_sI H a k v) c l = j_R H c l := Eq.trans rfl rfl
theorem h_RL (H : j_H) (a k c l : Nat) (v : Int64) : j_R (j_sL H a k v) c l = j_R H c l := Eq.trans rfl rfl
theorem h_Ic (H : j_H) (a i c j n d l : Nat) : j_I (j_cI H a i c j n) d l = if d = c ∧ (j ≤ l ∧ l < j + n) then j_I H a (i + (l - j)) else j_I H d l := Eq.trans rfl rfl
theorem h_Lc (H : j_H) (a i c j n d l : Nat) : j_L (j_cI H a i c j n) d l = j_L H d l := Eq.trans rfl rfl
theorem h_Rc (H : j_H) (a i c j n d l : Nat) : j_R (j_cI H a i c j n) d l = j_R H d l := Eq.trans rfl rfl
theorem h_Id (H : j_H) (a i c j n d l : Nat) : j_I (j_cL H a i c j n) d l = j_I H d l := Eq.trans rfl rfl
theorem h_Ld (H : j_H) (a i c j n d l : Nat) : j_L (j_cL H a i c j n) d l = if d = c ∧ (j ≤ l ∧ l < j + n) then j_L H a (i + (l - j)) else j_L H d l := Eq.trans rfl rfl
theorem h_Rd (H : j_H) (a i c j n d l : Nat) : j_R (j_cL H a i c j n) d l = j_R H d l := rfl
theorem h_cls_sI (H : j_H) (a k c : Nat) (v : Int32) : j_cls (j_sI H a k v) c = j_cls H c := Eq.trans rfl rfl
theorem h_cls_sL (H : j_H) (a k c : Nat) (v : Int64) : j_cls (j_sL H a k v) c = j_cls H c := Eq.trans rfl rfl
theorem h_cls_sR (H : j_H) (a k c : Nat) (v : Option Nat) : j_cls (j_sR H a k v) c = j_cls H c := Eq.trans rfl rfl
theorem h_cls_cI (H : j_H) (a i c j n d : Nat) : j_cls (j_cI H a i c j n) d = j_cls H d := Eq.trans rfl rfl
theorem h_cls_cL (H : j_H) (a i c j n d : Nat) : j_cls (j_cL H a i c j n) d = j_cls H d := Eq.trans rfl rfl
theorem h_tp_sI (H : j_H) (a k c : Nat) (v : Int32) : j_tp (j_sI H a k v) c = j_tp H c := Eq.trans rfl rfl
theorem h_tp_sL (H : j_H) (a k c : Nat) (v : Int64) : j_tp (j_sL H a k v) c = j_tp H c := Eq.trans rfl rfl
theorem h_tp_sR (H : j_H) (a k c : Nat) (v : Option Nat) : j_tp (j_sR H a k v) c = j_tp H c := Eq.trans rfl rfl
theorem h_tp_cI (H : j_H) (a i c j n d : Nat) : j_tp (j_cI H a i c j n) d = j_tp H d := Eq.trans rfl rfl
theorem h_tp_cL (H : j_H) (a i c j n d : Nat) : j_tp (j_cL H a i c j n) d = j_tp H d := Eq.trans rfl rfl
theorem h_ln_sI (H : j_H) (a k c : Nat) (v : Int32) : j_ln (j_sI H a k v) c = j_ln H c := Eq.trans rfl rfl
theorem h_ln_sL (H : j_H) (a k c : Nat) (v : Int64) : j_ln (j_sL H a k v) c = j_ln H c := Eq.trans rfl rfl
theorem h_ln_sR (H : j_H) (a k c : Nat) (v : Option Nat) : j_ln (j_sR H a k v) c = j_ln H c := Eq.trans rfl rfl
theorem h_ln_cI (H : j_H) (a i c j n d : Nat) : j_ln (j_cI H a i c j n) d = j_ln H d := Eq.trans rfl rfl
theorem h_ln_cL (H : j_H) (a i c j n d : Nat) : j_ln (j_cL H a i c j n) d = j_ln H d := Eq.trans rfl rfl
-- the core
theorem j_mk_up {α : Type} (z : α) (f : Nat → Nat → α) (a k : Nat) (v : α) (h : j_scr a k = true) : j_mk z (j_up f a k v) = j_mk z f := by
  funext b j
  unfold j_mk j_up
  by_cases hs : j_scr b j = true
  · rw [if_pos hs, if_pos hs]
  · rw [if_neg hs, if_neg hs, if_neg]
    rintro ⟨rfl, rfl⟩
    exact hs h
theorem j_mk_up' {α : Type} (z : α) (f : Nat → Nat → α) (a k : Nat) (v : α) (h : j_scr a k = false) : j_mk z (j_up f a k v) = j_up (j_mk z f) a k v := by
  funext b j
  unfold j_mk j_up
  show (if j_scr b j = true then z else if b = a ∧ j = k then v else f b j) = (if b = a ∧ j = k then v else (if j_scr b j = true then z else f b j))
  by_cases hs : j_scr b j = true
  · rw [if_pos hs, if_pos hs, if_neg]
    rintro ⟨rfl, rfl⟩
    rw [h] at hs; cases hs
  · rw [if_neg hs, if_neg hs]
theorem c_sI {H : j_H} {a k : Nat} {v : Int32} (h : j_scr a k = true) : j_co (j_sI H a k v) = j_co H := by
  unfold j_co j_sI; rw [j_mk_up _ _ _ _ _ h]
theorem c_sL {H : j_H} {a k : Nat} {v : Int64} (h : j_scr a k = true) : j_co (j_sL H a k v) = j_co H := by
  unfold j_co j_sL; rw [j_mk_up _ _ _ _ _ h]
theorem c_sR {H : j_H} {a k : Nat} {v : Option Nat} (h : j_scr a k = true) : j_co (j_sR H a k v) = j_co H := by
  unfold j_co j_sR; rw [j_mk_up _ _ _ _ _ h]
theorem c_sI' {H : j_H} {a k : Nat} {v : Int32} (h : j_scr a k = false) : j_co (j_sI H a k v) = j_sI (j_co H) a k v := by
  unfold j_co j_sI; rw [j_mk_up' _ _ _ _ _ h]
theorem c_sL' {H : j_H} {a k : Nat} {v : Int64} (h : j_scr a k = false) : j_co (j_sL H a k v) = j_sL (j_co H) a k v := by
  unfold j_co j_sL; rw [j_mk_up' _ _ _ _ _ h]
theorem c_sR' {H : j_H} {a k : Nat} {v : Option Nat} (h : j_scr a k = false) : j_co (j_sR H a k v) = j_sR (j_co H) a k v := by
  unfold j_co j_sR; rw [j_mk_up' _ _ _ _ _ h]
theorem j_mk_cp {α : Type} (z : α) (f : Nat → Nat → α) (a i c j n : Nat) (h : ∀ k, j_scr c k = true) : j_mk z (j_cp f a i c j n) = j_mk z f := by
  funext b l
  unfold j_mk j_cp
  by_cases hs : j_scr b l = true
  · rw [if_pos hs, if_pos hs]
  · rw [if_neg hs, if_neg hs, if_neg]
    rintro ⟨rfl, -⟩
    exact hs (h l)
theorem c_cI {H : j_H} {a i c j n : Nat} (h : ∀ k, j_scr c k = true) : j_co (j_cI H a i c j n) = j_co H := by
  unfold j_co j_cI; rw [j_mk_cp _ _ _ _ _ _ _ h]
theorem c_cL {H : j_H} {a i c j n : Nat} (h : ∀ k, j_scr c k = true) : j_co (j_cL H a i c j n) = j_co H := by
  unfold j_co j_cL; rw [j_mk_cp _ _ _ _ _ _ _ h]
theorem rd_I {H C : j_H} {a k : Nat} (hC : j_co H = C) (h : j_scr a k = false) : j_I H a k = j_I C a k := by
  subst hC
  change _ = (if j_scr a k = true then 0 else H.2.1 a k)
  rw [h]; rfl
theorem rd_L {H C : j_H} {a k : Nat} (hC : j_co H = C) (h : j_scr a k = false) : j_L H a k = j_L C a k := by
  subst hC
  change _ = (if j_scr a k = true then 0 else H.2.2.1 a k)
  rw [h]; rfl
theorem rd_R {H C : j_H} {a k : Nat} (hC : j_co H = C) (h : j_scr a k = false) : j_R H a k = j_R C a k := by
  subst hC
  change _ = (if j_scr a k = true then none else H.2.2.2 a k)
  rw [h]; rfl
theorem rd_cls {H C : j_H} {a : Nat} (hC : j_co H = C) : j_cls H a = j_cls C a := by subst hC; rfl
theorem rd_tp {H C : j_H} {a : Nat} (hC : j_co H = C) : j_tp H a = j_tp C a := by subst hC; rfl
theorem rd_ln {H C : j_H} {a : Nat} (hC : j_co H = C) : j_ln H a = j_ln C a := by subst hC; rfl
-- the heap behind a call
noncomputable def j_af (b M : Nat) (l : List Value) (H : j_H) : j_H := (@Classical.epsilon (Option Value × j_H) ⟨(none, H)⟩ (fun r => j_ev b M 0 l [] H r)).2
theorem j_ev_det {b M pc : Nat} {l s : List Value} {H : j_H} {r1 r2 : Option Value × j_H} (h1 : j_ev b M pc l s H r1) (h2 : j_ev b M pc l s H r2) : r1 = r2 := by
  obtain ⟨n1, h1⟩ := h1
  obtain ⟨n2, h2⟩ := h2
  exact j_rf_det h1 h2
theorem j_af_ev {b M : Nat} {l : List Value} {H H1 : j_H} {v : Option Value} (h : j_ev b M 0 l [] H (v, H1)) : j_af b M l H = H1 := by
  have he : ∃ r, j_ev b M 0 l [] H r := ⟨_, h⟩
  have := j_ev_det (Classical.epsilon_spec he) h
  exact congrArg Prod.snd this
def j_C (b M : Nat) (l : List Value) (H : j_H) (r : Option Value) (C : j_H) : Prop := j_wp b M 0 l [] H (fun v H1 => v = r ∧ j_co H1 = C)
theorem j_C.eq {b M : Nat} {l : List Value} {H C : j_H} {r : Option Value} {Q : Option Value → j_H → Prop} (h : j_C b M l H r C) : j_wp b M 0 l [] H Q = Q r (j_af b M l H) := by
  obtain ⟨v, H1, he, rfl, -⟩ := h
  rw [j_af_ev he]
  refine propext ⟨?_, fun hq => ⟨_, _, he, hq⟩⟩
  rintro ⟨v2, H2, he2, hq⟩
  have := j_ev_det he he2
  cases this
  exact hq
theorem j_C.co {b M : Nat} {l : List Value} {H C : j_H} {r : Option Value} (h : j_C b M l H r C) : j_co (j_af b M l H) = C := by
  obtain ⟨v, H1, he, -, hc⟩ := h
  rw [j_af_ev he, hc]
theorem a_I {b M a k : Nat} {l : List Value} {H : j_H} (hs : j_scr a k = false) : j_I (j_af b M l H) a k = j_I (j_co (j_af b M l H)) a k := rd_I rfl hs
theorem a_L {b M a k : Nat} {l : List Value} {H : j_H} (hs : j_scr a k = false) : j_L (j_af b M l H) a k = j_L (j_co (j_af b M l H)) a k := rd_L rfl hs
theorem a_R {b M a k : Nat} {l : List Value} {H : j_H} (hs : j_scr a k = false) : j_R (j_af b M l H) a k = j_R (j_co (j_af b M l H)) a k := rd_R rfl hs
theorem a_cls {b M a : Nat} {l : List Value} {H : j_H} : j_cls (j_af b M l H) a = j_cls (j_co (j_af b M l H)) a := rfl
theorem a_tp {b M a : Nat} {l : List Value} {H : j_H} : j_tp (j_af b M l H) a = j_tp (j_co (j_af b M l H)) a := rfl
theorem a_ln {b M a : Nat} {l : List Value} {H : j_H} : j_ln (j_af b M l H) a = j_ln (j_co (j_af b M l H)) a := rfl
-- the world under writes
def j_fr (a k : Nat) : Bool := j_FR.any fun p => Nat.beq p.1 a && Nat.beq p.2.1 k
theorem j_Wd_I (H : j_H) (a k : Nat) (v : Int32) : j_Wd (j_sI H a k v) = j_Wd H := rfl
theorem j_Wd_L (H : j_H) (a k : Nat) (v : Int64) : j_Wd (j_sL H a k v) = j_Wd H := rfl
theorem j_Wd_sR {H : j_H} {a k : Nat} {v : Option Nat} (h : j_fr a k = false) (hw : j_Wd H) : j_Wd (j_sR H a k v) := by
  refine ⟨hw.1, fun p hp => ?_, hw.2.2⟩
  change (if p.1 = a ∧ p.2.1 = k then v else H.2.2.2 p.1 p.2.1) = _
  rw [if_neg]
  · exact hw.2.1 p hp
  · rintro ⟨rfl, rfl⟩
    have : j_fr p.1 p.2.1 = true := List.any_eq_true.mpr ⟨p, hp, by rw [Nat.beq_refl, Nat.beq_refl]; rfl⟩
    rw [h] at this; cases this
-- numbers
theorem t_of {z : Int} (h0 : -2147483648 ≤ z) (h1 : z ≤ 2147483647) : (Int32.ofInt z).toInt = z := Int32.toInt_ofInt_of_le h0 (by omega)
theorem t_add {x y : Int32} (h0 : -2147483648 ≤ x.toInt + y.toInt) (h1 : x.toInt + y.toInt ≤ 2147483647) : (x + y).toInt = x.toInt + y.toInt := by
  rw [Int32.toInt_add]; exact Int.bmod_eq_of_le (by omega) (by omega)
theorem t_sub {x y : Int32} (h0 : -2147483648 ≤ x.toInt - y.toInt) (h1 : x.toInt - y.toInt ≤ 2147483647) : (x - y).toInt = x.toInt - y.toInt := by
  rw [Int32.toInt_sub]; exact Int.bmod_eq_of_le (by omega) (by omega)
theorem t_mul {x y : Int32} (h0 : -2147483648 ≤ x.toInt * y.toInt) (h1 : x.toInt * y.toInt ≤ 2147483647) : (x * y).toInt = x.toInt * y.toInt := by
  rw [Int32.toInt_mul]; exact Int.bmod_eq_of_le (by omega) (by omega)
theorem t_neg {x : Int32} (h0 : -2147483648 < x.toInt) : (-x).toInt = -x.toInt := by
  have : x.toInt ≤ 2147483647 := x.toInt_le
  rw [Int32.toInt_neg]; exact Int.bmod_eq_of_le (by omega) (by omega)
theorem t_addc {x : Int32} {c : Int} (h0 : -2147483648 ≤ c) (h1 : c ≤ 2147483647) (h2 : -2147483648 ≤ x.toInt + c) (h3 : x.toInt + c ≤ 2147483647) : (x + Int32.ofInt c).toInt = x.toInt + c := by
  have := t_of h0 h1
  rw [t_add (by omega) (by omega), this]
theorem t_subc {x : Int32} {c : Int} (h0 : -2147483648 ≤ c) (h1 : c ≤ 2147483647) (h2 : -2147483648 ≤ x.toInt - c) (h3 : x.toInt - c ≤ 2147483647) : (x - Int32.ofInt c).toInt = x.toInt - c := by
  have := t_of h0 h1
  rw [t_sub (by omega) (by omega), this]
theorem t_mulc {x : Int32} {c : Int} (h0 : -2147483648 ≤ c) (h1 : c ≤ 2147483647) (h2 : -2147483648 ≤ c * x.toInt) (h3 : c * x.toInt ≤ 2147483647) : (Int32.ofInt c * x).toInt = c * x.toInt := by
  have := t_of h0 h1
  rw [t_mul (by rw [this]; exact h2) (by rw [this]; exact h3), this]
def j_bz (c : Prop) [Decidable c] : Int32 := if c then Int32.ofInt 1 else Int32.ofInt 0
theorem n_bz {c : Prop} [Decidable c] : (j_bz c).toInt = 0 ∨ (j_bz c).toInt = 1 := by
  unfold j_bz; split
  · exact Or.inr rfl
  · exact Or.inl rfl
theorem t_bz0 (c : Prop) [Decidable c] : ((j_bz c).toInt = 0) = ¬ c := by
  unfold j_bz; split
  · rename_i h; exact propext ⟨fun h' => absurd h' (by decide), fun h' => absurd h h'⟩
  · rename_i h; exact propext ⟨fun _ => h, fun _ => rfl⟩
theorem t_bz1 (c : Prop) [Decidable c] : ((j_bz c).toInt = 1) = c := by
  unfold j_bz; split
  · rename_i h; exact propext ⟨fun _ => h, fun _ => rfl⟩
  · rename_i h; exact propext ⟨fun h' => absurd h' (by decide), fun h' => absurd h' h⟩
theorem t_ix {x : Int32} {n : Nat} (h : x.toInt = (n : Int)) : j_ix x = n := by unfold j_ix; rw [h]; rfl
theorem t_lo (x : Int32) : -2147483648 ≤ x.toInt := x.le_toInt
theorem t_hi (x : Int32) : x.toInt ≤ 2147483647 := by have := x.toInt_le; exact this
theorem t_un (x : Int32) : Int32.ofInt x.toInt = x := Int32.ofInt_toInt x
theorem t_addo (a c : Int) : Int32.ofInt a + Int32.ofInt c = Int32.ofInt (a + c) := (Int32.ofInt_add a c).symm
theorem t_subo (a c : Int) : Int32.ofInt a - Int32.ofInt c = Int32.ofInt (a - c) := (Int32.ofInt_sub a c).symm
theorem t_mulo (a c : Int) : Int32.ofInt a * Int32.ofInt c = Int32.ofInt (a * c) := (Int32.ofInt_mul a c).symm

