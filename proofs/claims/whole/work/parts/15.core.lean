/-! THE CELLS BEHIND BOTH CONSTRUCTORS, printed by wip/whole/gen15.py -/
def j_S0 : List (Option j_Sh) := [some (.inl 14), some (.inl 14), some (.inl 14), some (.inl 14), some (.inl 14), some (.inr (9, 4)), some (.inr (9, 5)), some (.inr (9, 3)), some (.inr (9, 6)), some (.inr (9, 3)), none, some (.inr (7, 0)), some (.inl 11), some (.inl 0), some (.inr (4, 7)), some (.inr (0, 7)), some (.inr (0, 12)), some (.inr (0, 12)), some (.inl 0), some (.inr (4, 7)), some (.inr (0, 7)), some (.inr (0, 12)), some (.inr (0, 12)), some (.inr (5, 6)), some (.inl 3), some (.inr (0, 10)), some (.inr (0, 10)), some (.inr (0, 10)), some (.inr (0, 100)), some (.inr (0, 6)), some (.inl 3), some (.inr (0, 10)), some (.inr (0, 10)), some (.inr (0, 10)), some (.inr (0, 100)), some (.inr (0, 6)), some (.inl 3), some (.inr (0, 10)), some (.inr (0, 10)), some (.inr (0, 10)), some (.inr (0, 100)), some (.inr (0, 6)), some (.inl 3), some (.inr (0, 10)), some (.inr (0, 10)), some (.inr (0, 10)), some (.inr (0, 100)), some (.inr (0, 6)), some (.inl 3), some (.inr (0, 10)), some (.inr (0, 10)), some (.inr (0, 10)), some (.inr (0, 100)), some (.inr (0, 6)), some (.inl 3), some (.inr (0, 10)), some (.inr (0, 10)), some (.inr (0, 10)), some (.inr (0, 100)), some (.inr (0, 6)), some (.inr (2, 100)), some (.inr (6, 6)), some (.inl 8), some (.inr (1, 60)), some (.inl 8), some (.inr (1, 60)), some (.inl 8), some (.inr (1, 60)), some (.inl 8), some (.inr (1, 60)), some (.inl 8), some (.inr (1, 60)), some (.inl 8), some (.inr (1, 60)), some (.inl 10), some (.inr (0, 20)), some (.inr (0, 12)), some (.inr (1, 7)), some (.inr (1, 7)), some (.inr (0, 7)), some (.inr (0, 7)), some (.inl 12), some (.inr (0, 7)), some (.inr (0, 7)), some (.inr (0, 7)), some (.inr (0, 56)), some (.inr (0, 100)), some (.inr (0, 6)), some (.inr (0, 60)), some (.inr (0, 60)), some (.inr (0, 60)), some (.inr (0, 60)), some (.inr (0, 600)), some (.inr (0, 101)), some (.inr (0, 12)), some (.inr (3, 100)), some (.inr (0, 7)), some (.inr (0, 12)), some (.inr (0, 13)), some (.inr (0, 7)), some (.inr (0, 7)), some (.inr (1, 7)), some (.inr (1, 7)), some (.inr (0, 12)), some (.inr (0, 7)), some (.inr (0, 7)), some (.inr (0, 7)), some (.inr (0, 56)), some (.inr (0, 12)), some (.inr (0, 12)), some (.inr (0, 20)), some (.inr (0, 6)), some (.inr (0, 6)), some (.inr (1, 360)), some (.inr (1, 60))]
def j_FR : List (Nat × Nat × Nat) := [(13, 0, 14), (13, 1, 15), (13, 2, 16), (13, 3, 17), (18, 0, 19), (18, 1, 20), (18, 2, 21), (18, 3, 22), (12, 0, 13), (12, 1, 18), (12, 3, 23), (23, 0, 24), (24, 2, 25), (24, 3, 26), (24, 4, 27), (24, 6, 28), (24, 8, 29), (23, 1, 30), (30, 2, 31), (30, 3, 32), (30, 4, 33), (30, 6, 34), (30, 8, 35), (23, 2, 36), (36, 2, 37), (36, 3, 38), (36, 4, 39), (36, 6, 40), (36, 8, 41), (23, 3, 42), (42, 2, 43), (42, 3, 44), (42, 4, 45), (42, 6, 46), (42, 8, 47), (23, 4, 48), (48, 2, 49), (48, 3, 50), (48, 4, 51), (48, 6, 52), (48, 8, 53), (23, 5, 54), (54, 2, 55), (54, 3, 56), (54, 4, 57), (54, 6, 58), (54, 8, 59), (12, 5, 60), (12, 7, 61), (61, 0, 62), (62, 0, 63), (61, 1, 64), (64, 0, 65), (61, 2, 66), (66, 0, 67), (61, 3, 68), (68, 0, 69), (61, 4, 70), (70, 0, 71), (61, 5, 72), (72, 0, 73), (12, 8, 74), (74, 0, 75), (12, 9, 76), (12, 10, 77), (12, 11, 78), (12, 12, 79), (12, 13, 80), (81, 4, 82), (81, 5, 83), (81, 6, 84), (81, 7, 85), (81, 13, 86), (81, 14, 87), (81, 15, 88), (81, 16, 89), (81, 17, 90), (81, 18, 91), (81, 19, 92), (81, 20, 93), (81, 24, 94), (81, 25, 95), (81, 26, 96), (81, 28, 97), (81, 29, 98), (81, 30, 99), (81, 31, 100), (81, 32, 101), (81, 33, 102), (81, 37, 103), (81, 46, 104), (81, 47, 105), (81, 48, 106), (81, 49, 107), (81, 50, 108), (81, 51, 109), (81, 53, 110), (81, 54, 111), (81, 55, 112), (81, 56, 113), (81, 57, 114)]
/-- the cells that no call hands on -/
def j_scr (a k : Nat) : Bool := match a with
  | 29 => true
  | 35 => true
  | 41 => true
  | 47 => true
  | 53 => true
  | 59 => true
  | 76 => true
  | 77 => true
  | 78 => true
  | 79 => true
  | 80 => true
  | 93 => true
  | 95 => true
  | 96 => true
  | 98 => true
  | 99 => true
  | 100 => true
  | 101 => true
  | 102 => true
  | 114 => true
  | 81 => match k with
    | 11 => true
    | 12 => true
    | 21 => true
    | 22 => true
    | 23 => true
    | 34 => true
    | 35 => true
    | _ => false
  | 24 => match k with
    | 9 => true
    | 10 => true
    | 11 => true
    | _ => false
  | 30 => match k with
    | 9 => true
    | 10 => true
    | 11 => true
    | _ => false
  | 36 => match k with
    | 9 => true
    | 10 => true
    | 11 => true
    | _ => false
  | 42 => match k with
    | 9 => true
    | 10 => true
    | 11 => true
    | _ => false
  | 48 => match k with
    | 9 => true
    | 10 => true
    | 11 => true
    | _ => false
  | 54 => match k with
    | 9 => true
    | 10 => true
    | 11 => true
    | _ => false
  | _ => false
def j_mk {α : Type} (z : α) (f : Nat → Nat → α) : Nat → Nat → α := fun a k => if j_scr a k = true then z else f a k
def j_co (H : j_H) : j_H := (H.1, j_mk 0 H.2.1, j_mk 0 H.2.2.1, j_mk none H.2.2.2)
def j_Wd (C : j_H) : Prop := (∀ (a : Nat) (x : j_Sh), j_S0[a]? = some (some x) → C.1[a]? = some x) ∧ (∀ p ∈ j_FR, C.2.2.2 p.1 p.2.1 = some p.2.2) ∧ 115 ≤ C.1.length
theorem j_Wd_sh {H : j_H} {a : Nat} {x : j_Sh} (h : j_Wd (j_co H)) (hx : j_S0[a]? = some (some x)) : j_sh H a = some x := h.1 a x hx
theorem j_Wd_cls {H : j_H} {a c : Nat} (h : j_Wd (j_co H)) (hx : j_S0[a]? = some (some (.inl c))) : j_cls H a = c := by
  unfold j_cls; rw [j_Wd_sh h hx]
theorem j_Wd_tp {H : j_H} {a t n : Nat} (h : j_Wd (j_co H)) (hx : j_S0[a]? = some (some (.inr (t, n)))) : j_tp H a = t := by
  unfold j_tp; rw [j_Wd_sh h hx]
theorem j_Wd_ln {H : j_H} {a t n : Nat} (h : j_Wd (j_co H)) (hx : j_S0[a]? = some (some (.inr (t, n)))) : j_ln H a = n := by
  unfold j_ln; rw [j_Wd_sh h hx]
theorem j_Wd_R {H : j_H} {a k r i : Nat} (h : j_Wd (j_co H)) (hx : j_FR[i]? = some (a, k, r)) (hs : j_scr a k = false) : j_R H a k = some r := by
  have := h.2.1 (a, k, r) (List.mem_of_getElem? hx)
  change (if j_scr a k = true then none else H.2.2.2 a k) = some r at this
  rw [if_neg (by rw [hs]; exact Bool.noConfusion)] at this
  exact this
theorem w_c12 {H : j_H} (h : j_Wd (j_co H)) : j_cls H 12 = 11 := j_Wd_cls h rfl
theorem w_c13 {H : j_H} (h : j_Wd (j_co H)) : j_cls H 13 = 0 := j_Wd_cls h rfl
theorem w_t14 {H : j_H} (h : j_Wd (j_co H)) : j_tp H 14 = 4 := j_Wd_tp h rfl
theorem w_n14 {H : j_H} (h : j_Wd (j_co H)) : j_ln H 14 = 7 := j_Wd_ln h rfl
theorem w_t15 {H : j_H} (h : j_Wd (j_co H)) : j_tp H 15 = 0 := j_Wd_tp h rfl
theorem w_n15 {H : j_H} (h : j_Wd (j_co H)) : j_ln H 15 = 7 := j_Wd_ln h rfl
theorem w_t16 {H : j_H} (h : j_Wd (j_co H)) : j_tp H 16 = 0 := j_Wd_tp h rfl
theorem w_n16 {H : j_H} (h : j_Wd (j_co H)) : j_ln H 16 = 12 := j_Wd_ln h rfl
theorem w_t17 {H : j_H} (h : j_Wd (j_co H)) : j_tp H 17 = 0 := j_Wd_tp h rfl
theorem w_n17 {H : j_H} (h : j_Wd (j_co H)) : j_ln H 17 = 12 := j_Wd_ln h rfl
theorem w_c18 {H : j_H} (h : j_Wd (j_co H)) : j_cls H 18 = 0 := j_Wd_cls h rfl
theorem w_t19 {H : j_H} (h : j_Wd (j_co H)) : j_tp H 19 = 4 := j_Wd_tp h rfl
theorem w_n19 {H : j_H} (h : j_Wd (j_co H)) : j_ln H 19 = 7 := j_Wd_ln h rfl
theorem w_t20 {H : j_H} (h : j_Wd (j_co H)) : j_tp H 20 = 0 := j_Wd_tp h rfl
theorem w_n20 {H : j_H} (h : j_Wd (j_co H)) : j_ln H 20 = 7 := j_Wd_ln h rfl
theorem w_t21 {H : j_H} (h : j_Wd (j_co H)) : j_tp H 21 = 0 := j_Wd_tp h rfl
theorem w_n21 {H : j_H} (h : j_Wd (j_co H)) : j_ln H 21 = 12 := j_Wd_ln h rfl
theorem w_t22 {H : j_H} (h : j_Wd (j_co H)) : j_tp H 22 = 0 := j_Wd_tp h rfl
theorem w_n22 {H : j_H} (h : j_Wd (j_co H)) : j_ln H 22 = 12 := j_Wd_ln h rfl
theorem w_t23 {H : j_H} (h : j_Wd (j_co H)) : j_tp H 23 = 5 := j_Wd_tp h rfl
theorem w_n23 {H : j_H} (h : j_Wd (j_co H)) : j_ln H 23 = 6 := j_Wd_ln h rfl
theorem w_c24 {H : j_H} (h : j_Wd (j_co H)) : j_cls H 24 = 3 := j_Wd_cls h rfl
theorem w_t25 {H : j_H} (h : j_Wd (j_co H)) : j_tp H 25 = 0 := j_Wd_tp h rfl
theorem w_n25 {H : j_H} (h : j_Wd (j_co H)) : j_ln H 25 = 10 := j_Wd_ln h rfl
theorem w_t26 {H : j_H} (h : j_Wd (j_co H)) : j_tp H 26 = 0 := j_Wd_tp h rfl
theorem w_n26 {H : j_H} (h : j_Wd (j_co H)) : j_ln H 26 = 10 := j_Wd_ln h rfl
theorem w_t27 {H : j_H} (h : j_Wd (j_co H)) : j_tp H 27 = 0 := j_Wd_tp h rfl
theorem w_n27 {H : j_H} (h : j_Wd (j_co H)) : j_ln H 27 = 10 := j_Wd_ln h rfl
theorem w_t28 {H : j_H} (h : j_Wd (j_co H)) : j_tp H 28 = 0 := j_Wd_tp h rfl
theorem w_n28 {H : j_H} (h : j_Wd (j_co H)) : j_ln H 28 = 100 := j_Wd_ln h rfl
theorem w_t29 {H : j_H} (h : j_Wd (j_co H)) : j_tp H 29 = 0 := j_Wd_tp h rfl
theorem w_n29 {H : j_H} (h : j_Wd (j_co H)) : j_ln H 29 = 6 := j_Wd_ln h rfl
theorem w_c30 {H : j_H} (h : j_Wd (j_co H)) : j_cls H 30 = 3 := j_Wd_cls h rfl
theorem w_t31 {H : j_H} (h : j_Wd (j_co H)) : j_tp H 31 = 0 := j_Wd_tp h rfl
theorem w_n31 {H : j_H} (h : j_Wd (j_co H)) : j_ln H 31 = 10 := j_Wd_ln h rfl
theorem w_t32 {H : j_H} (h : j_Wd (j_co H)) : j_tp H 32 = 0 := j_Wd_tp h rfl
theorem w_n32 {H : j_H} (h : j_Wd (j_co H)) : j_ln H 32 = 10 := j_Wd_ln h rfl
theorem w_t33 {H : j_H} (h : j_Wd (j_co H)) : j_tp H 33 = 0 := j_Wd_tp h rfl
theorem w_n33 {H : j_H} (h : j_Wd (j_co H)) : j_ln H 33 = 10 := j_Wd_ln h rfl
theorem w_t34 {H : j_H} (h : j_Wd (j_co H)) : j_tp H 34 = 0 := j_Wd_tp h rfl
theorem w_n34 {H : j_H} (h : j_Wd (j_co H)) : j_ln H 34 = 100 := j_Wd_ln h rfl
theorem w_t35 {H : j_H} (h : j_Wd (j_co H)) : j_tp H 35 = 0 := j_Wd_tp h rfl
theorem w_n35 {H : j_H} (h : j_Wd (j_co H)) : j_ln H 35 = 6 := j_Wd_ln h rfl
theorem w_c36 {H : j_H} (h : j_Wd (j_co H)) : j_cls H 36 = 3 := j_Wd_cls h rfl
theorem w_t37 {H : j_H} (h : j_Wd (j_co H)) : j_tp H 37 = 0 := j_Wd_tp h rfl
theorem w_n37 {H : j_H} (h : j_Wd (j_co H)) : j_ln H 37 = 10 := j_Wd_ln h rfl
theorem w_t38 {H : j_H} (h : j_Wd (j_co H)) : j_tp H 38 = 0 := j_Wd_tp h rfl
theorem w_n38 {H : j_H} (h : j_Wd (j_co H)) : j_ln H 38 = 10 := j_Wd_ln h rfl
theorem w_t39 {H : j_H} (h : j_Wd (j_co H)) : j_tp H 39 = 0 := j_Wd_tp h rfl
theorem w_n39 {H : j_H} (h : j_Wd (j_co H)) : j_ln H 39 = 10 := j_Wd_ln h rfl
theorem w_t40 {H : j_H} (h : j_Wd (j_co H)) : j_tp H 40 = 0 := j_Wd_tp h rfl
theorem w_n40 {H : j_H} (h : j_Wd (j_co H)) : j_ln H 40 = 100 := j_Wd_ln h rfl
theorem w_t41 {H : j_H} (h : j_Wd (j_co H)) : j_tp H 41 = 0 := j_Wd_tp h rfl
theorem w_n41 {H : j_H} (h : j_Wd (j_co H)) : j_ln H 41 = 6 := j_Wd_ln h rfl
theorem w_c42 {H : j_H} (h : j_Wd (j_co H)) : j_cls H 42 = 3 := j_Wd_cls h rfl
theorem w_t43 {H : j_H} (h : j_Wd (j_co H)) : j_tp H 43 = 0 := j_Wd_tp h rfl
theorem w_n43 {H : j_H} (h : j_Wd (j_co H)) : j_ln H 43 = 10 := j_Wd_ln h rfl
theorem w_t44 {H : j_H} (h : j_Wd (j_co H)) : j_tp H 44 = 0 := j_Wd_tp h rfl
theorem w_n44 {H : j_H} (h : j_Wd (j_co H)) : j_ln H 44 = 10 := j_Wd_ln h rfl
theorem w_t45 {H : j_H} (h : j_Wd (j_co H)) : j_tp H 45 = 0 := j_Wd_tp h rfl
theorem w_n45 {H : j_H} (h : j_Wd (j_co H)) : j_ln H 45 = 10 := j_Wd_ln h rfl
theorem w_t46 {H : j_H} (h : j_Wd (j_co H)) : j_tp H 46 = 0 := j_Wd_tp h rfl
theorem w_n46 {H : j_H} (h : j_Wd (j_co H)) : j_ln H 46 = 100 := j_Wd_ln h rfl
theorem w_t47 {H : j_H} (h : j_Wd (j_co H)) : j_tp H 47 = 0 := j_Wd_tp h rfl
theorem w_n47 {H : j_H} (h : j_Wd (j_co H)) : j_ln H 47 = 6 := j_Wd_ln h rfl
theorem w_c48 {H : j_H} (h : j_Wd (j_co H)) : j_cls H 48 = 3 := j_Wd_cls h rfl
theorem w_t49 {H : j_H} (h : j_Wd (j_co H)) : j_tp H 49 = 0 := j_Wd_tp h rfl
theorem w_n49 {H : j_H} (h : j_Wd (j_co H)) : j_ln H 49 = 10 := j_Wd_ln h rfl
theorem w_t50 {H : j_H} (h : j_Wd (j_co H)) : j_tp H 50 = 0 := j_Wd_tp h rfl
theorem w_n50 {H : j_H} (h : j_Wd (j_co H)) : j_ln H 50 = 10 := j_Wd_ln h rfl
theorem w_t51 {H : j_H} (h : j_Wd (j_co H)) : j_tp H 51 = 0 := j_Wd_tp h rfl
theorem w_n51 {H : j_H} (h : j_Wd (j_co H)) : j_ln H 51 = 10 := j_Wd_ln h rfl
theorem w_t52 {H : j_H} (h : j_Wd (j_co H)) : j_tp H 52 = 0 := j_Wd_tp h rfl
theorem w_n52 {H : j_H} (h : j_Wd (j_co H)) : j_ln H 52 = 100 := j_Wd_ln h rfl
theorem w_t53 {H : j_H} (h : j_Wd (j_co H)) : j_tp H 53 = 0 := j_Wd_tp h rfl
theorem w_n53 {H : j_H} (h : j_Wd (j_co H)) : j_ln H 53 = 6 := j_Wd_ln h rfl
theorem w_c54 {H : j_H} (h : j_Wd (j_co H)) : j_cls H 54 = 3 := j_Wd_cls h rfl
theorem w_t55 {H : j_H} (h : j_Wd (j_co H)) : j_tp H 55 = 0 := j_Wd_tp h rfl
theorem w_n55 {H : j_H} (h : j_Wd (j_co H)) : j_ln H 55 = 10 := j_Wd_ln h rfl
theorem w_t56 {H : j_H} (h : j_Wd (j_co H)) : j_tp H 56 = 0 := j_Wd_tp h rfl
theorem w_n56 {H : j_H} (h : j_Wd (j_co H)) : j_ln H 56 = 10 := j_Wd_ln h rfl
theorem w_t57 {H : j_H} (h : j_Wd (j_co H)) : j_tp H 57 = 0 := j_Wd_tp h rfl
theorem w_n57 {H : j_H} (h : j_Wd (j_co H)) : j_ln H 57 = 10 := j_Wd_ln h rfl
theorem w_t58 {H : j_H} (h : j_Wd (j_co H)) : j_tp H 58 = 0 := j_Wd_tp h rfl
theorem w_n58 {H : j_H} (h : j_Wd (j_co H)) : j_ln H 58 = 100 := j_Wd_ln h rfl
theorem w_t59 {H : j_H} (h : j_Wd (j_co H)) : j_tp H 59 = 0 := j_Wd_tp h rfl
theorem w_n59 {H : j_H} (h : j_Wd (j_co H)) : j_ln H 59 = 6 := j_Wd_ln h rfl
theorem w_t60 {H : j_H} (h : j_Wd (j_co H)) : j_tp H 60 = 2 := j_Wd_tp h rfl
theorem w_n60 {H : j_H} (h : j_Wd (j_co H)) : j_ln H 60 = 100 := j_Wd_ln h rfl
theorem w_t61 {H : j_H} (h : j_Wd (j_co H)) : j_tp H 61 = 6 := j_Wd_tp h rfl
theorem w_n61 {H : j_H} (h : j_Wd (j_co H)) : j_ln H 61 = 6 := j_Wd_ln h rfl
theorem w_c62 {H : j_H} (h : j_Wd (j_co H)) : j_cls H 62 = 8 := j_Wd_cls h rfl
theorem w_t63 {H : j_H} (h : j_Wd (j_co H)) : j_tp H 63 = 1 := j_Wd_tp h rfl
theorem w_n63 {H : j_H} (h : j_Wd (j_co H)) : j_ln H 63 = 60 := j_Wd_ln h rfl
theorem w_c64 {H : j_H} (h : j_Wd (j_co H)) : j_cls H 64 = 8 := j_Wd_cls h rfl
theorem w_t65 {H : j_H} (h : j_Wd (j_co H)) : j_tp H 65 = 1 := j_Wd_tp h rfl
theorem w_n65 {H : j_H} (h : j_Wd (j_co H)) : j_ln H 65 = 60 := j_Wd_ln h rfl
theorem w_c66 {H : j_H} (h : j_Wd (j_co H)) : j_cls H 66 = 8 := j_Wd_cls h rfl
theorem w_t67 {H : j_H} (h : j_Wd (j_co H)) : j_tp H 67 = 1 := j_Wd_tp h rfl
theorem w_n67 {H : j_H} (h : j_Wd (j_co H)) : j_ln H 67 = 60 := j_Wd_ln h rfl
theorem w_c68 {H : j_H} (h : j_Wd (j_co H)) : j_cls H 68 = 8 := j_Wd_cls h rfl
theorem w_t69 {H : j_H} (h : j_Wd (j_co H)) : j_tp H 69 = 1 := j_Wd_tp h rfl
theorem w_n69 {H : j_H} (h : j_Wd (j_co H)) : j_ln H 69 = 60 := j_Wd_ln h rfl
theorem w_c70 {H : j_H} (h : j_Wd (j_co H)) : j_cls H 70 = 8 := j_Wd_cls h rfl
theorem w_t71 {H : j_H} (h : j_Wd (j_co H)) : j_tp H 71 = 1 := j_Wd_tp h rfl
theorem w_n71 {H : j_H} (h : j_Wd (j_co H)) : j_ln H 71 = 60 := j_Wd_ln h rfl
theorem w_c72 {H : j_H} (h : j_Wd (j_co H)) : j_cls H 72 = 8 := j_Wd_cls h rfl
theorem w_t73 {H : j_H} (h : j_Wd (j_co H)) : j_tp H 73 = 1 := j_Wd_tp h rfl
theorem w_n73 {H : j_H} (h : j_Wd (j_co H)) : j_ln H 73 = 60 := j_Wd_ln h rfl
theorem w_c74 {H : j_H} (h : j_Wd (j_co H)) : j_cls H 74 = 10 := j_Wd_cls h rfl
theorem w_t75 {H : j_H} (h : j_Wd (j_co H)) : j_tp H 75 = 0 := j_Wd_tp h rfl
theorem w_n75 {H : j_H} (h : j_Wd (j_co H)) : j_ln H 75 = 20 := j_Wd_ln h rfl
theorem w_t76 {H : j_H} (h : j_Wd (j_co H)) : j_tp H 76 = 0 := j_Wd_tp h rfl
theorem w_n76 {H : j_H} (h : j_Wd (j_co H)) : j_ln H 76 = 12 := j_Wd_ln h rfl
theorem w_t77 {H : j_H} (h : j_Wd (j_co H)) : j_tp H 77 = 1 := j_Wd_tp h rfl
theorem w_n77 {H : j_H} (h : j_Wd (j_co H)) : j_ln H 77 = 7 := j_Wd_ln h rfl
theorem w_t78 {H : j_H} (h : j_Wd (j_co H)) : j_tp H 78 = 1 := j_Wd_tp h rfl
theorem w_n78 {H : j_H} (h : j_Wd (j_co H)) : j_ln H 78 = 7 := j_Wd_ln h rfl
theorem w_t79 {H : j_H} (h : j_Wd (j_co H)) : j_tp H 79 = 0 := j_Wd_tp h rfl
theorem w_n79 {H : j_H} (h : j_Wd (j_co H)) : j_ln H 79 = 7 := j_Wd_ln h rfl
theorem w_t80 {H : j_H} (h : j_Wd (j_co H)) : j_tp H 80 = 0 := j_Wd_tp h rfl
theorem w_n80 {H : j_H} (h : j_Wd (j_co H)) : j_ln H 80 = 7 := j_Wd_ln h rfl
theorem w_c81 {H : j_H} (h : j_Wd (j_co H)) : j_cls H 81 = 12 := j_Wd_cls h rfl
theorem w_t82 {H : j_H} (h : j_Wd (j_co H)) : j_tp H 82 = 0 := j_Wd_tp h rfl
theorem w_n82 {H : j_H} (h : j_Wd (j_co H)) : j_ln H 82 = 7 := j_Wd_ln h rfl
theorem w_t83 {H : j_H} (h : j_Wd (j_co H)) : j_tp H 83 = 0 := j_Wd_tp h rfl
theorem w_n83 {H : j_H} (h : j_Wd (j_co H)) : j_ln H 83 = 7 := j_Wd_ln h rfl
theorem w_t84 {H : j_H} (h : j_Wd (j_co H)) : j_tp H 84 = 0 := j_Wd_tp h rfl
theorem w_n84 {H : j_H} (h : j_Wd (j_co H)) : j_ln H 84 = 7 := j_Wd_ln h rfl
theorem w_t85 {H : j_H} (h : j_Wd (j_co H)) : j_tp H 85 = 0 := j_Wd_tp h rfl
theorem w_n85 {H : j_H} (h : j_Wd (j_co H)) : j_ln H 85 = 56 := j_Wd_ln h rfl
theorem w_t86 {H : j_H} (h : j_Wd (j_co H)) : j_tp H 86 = 0 := j_Wd_tp h rfl
theorem w_n86 {H : j_H} (h : j_Wd (j_co H)) : j_ln H 86 = 100 := j_Wd_ln h rfl
theorem w_t87 {H : j_H} (h : j_Wd (j_co H)) : j_tp H 87 = 0 := j_Wd_tp h rfl
theorem w_n87 {H : j_H} (h : j_Wd (j_co H)) : j_ln H 87 = 6 := j_Wd_ln h rfl
theorem w_t88 {H : j_H} (h : j_Wd (j_co H)) : j_tp H 88 = 0 := j_Wd_tp h rfl
theorem w_n88 {H : j_H} (h : j_Wd (j_co H)) : j_ln H 88 = 60 := j_Wd_ln h rfl
theorem w_t89 {H : j_H} (h : j_Wd (j_co H)) : j_tp H 89 = 0 := j_Wd_tp h rfl
theorem w_n89 {H : j_H} (h : j_Wd (j_co H)) : j_ln H 89 = 60 := j_Wd_ln h rfl
theorem w_t90 {H : j_H} (h : j_Wd (j_co H)) : j_tp H 90 = 0 := j_Wd_tp h rfl
theorem w_n90 {H : j_H} (h : j_Wd (j_co H)) : j_ln H 90 = 60 := j_Wd_ln h rfl
theorem w_t91 {H : j_H} (h : j_Wd (j_co H)) : j_tp H 91 = 0 := j_Wd_tp h rfl
theorem w_n91 {H : j_H} (h : j_Wd (j_co H)) : j_ln H 91 = 60 := j_Wd_ln h rfl
theorem w_t92 {H : j_H} (h : j_Wd (j_co H)) : j_tp H 92 = 0 := j_Wd_tp h rfl
theorem w_n92 {H : j_H} (h : j_Wd (j_co H)) : j_ln H 92 = 600 := j_Wd_ln h rfl
theorem w_t93 {H : j_H} (h : j_Wd (j_co H)) : j_tp H 93 = 0 := j_Wd_tp h rfl
theorem w_n93 {H : j_H} (h : j_Wd (j_co H)) : j_ln H 93 = 101 := j_Wd_ln h rfl
theorem w_t94 {H : j_H} (h : j_Wd (j_co H)) : j_tp H 94 = 0 := j_Wd_tp h rfl
theorem w_n94 {H : j_H} (h : j_Wd (j_co H)) : j_ln H 94 = 12 := j_Wd_ln h rfl
theorem w_t95 {H : j_H} (h : j_Wd (j_co H)) : j_tp H 95 = 3 := j_Wd_tp h rfl
theorem w_n95 {H : j_H} (h : j_Wd (j_co H)) : j_ln H 95 = 100 := j_Wd_ln h rfl
theorem w_t96 {H : j_H} (h : j_Wd (j_co H)) : j_tp H 96 = 0 := j_Wd_tp h rfl
theorem w_n96 {H : j_H} (h : j_Wd (j_co H)) : j_ln H 96 = 7 := j_Wd_ln h rfl
theorem w_t97 {H : j_H} (h : j_Wd (j_co H)) : j_tp H 97 = 0 := j_Wd_tp h rfl
theorem w_n97 {H : j_H} (h : j_Wd (j_co H)) : j_ln H 97 = 12 := j_Wd_ln h rfl
theorem w_t98 {H : j_H} (h : j_Wd (j_co H)) : j_tp H 98 = 0 := j_Wd_tp h rfl
theorem w_n98 {H : j_H} (h : j_Wd (j_co H)) : j_ln H 98 = 13 := j_Wd_ln h rfl
theorem w_t99 {H : j_H} (h : j_Wd (j_co H)) : j_tp H 99 = 0 := j_Wd_tp h rfl
theorem w_n99 {H : j_H} (h : j_Wd (j_co H)) : j_ln H 99 = 7 := j_Wd_ln h rfl
theorem w_t100 {H : j_H} (h : j_Wd (j_co H)) : j_tp H 100 = 0 := j_Wd_tp h rfl
theorem w_n100 {H : j_H} (h : j_Wd (j_co H)) : j_ln H 100 = 7 := j_Wd_ln h rfl
theorem w_t101 {H : j_H} (h : j_Wd (j_co H)) : j_tp H 101 = 1 := j_Wd_tp h rfl
theorem w_n101 {H : j_H} (h : j_Wd (j_co H)) : j_ln H 101 = 7 := j_Wd_ln h rfl
theorem w_t102 {H : j_H} (h : j_Wd (j_co H)) : j_tp H 102 = 1 := j_Wd_tp h rfl
theorem w_n102 {H : j_H} (h : j_Wd (j_co H)) : j_ln H 102 = 7 := j_Wd_ln h rfl
theorem w_t103 {H : j_H} (h : j_Wd (j_co H)) : j_tp H 103 = 0 := j_Wd_tp h rfl
theorem w_n103 {H : j_H} (h : j_Wd (j_co H)) : j_ln H 103 = 12 := j_Wd_ln h rfl
theorem w_t104 {H : j_H} (h : j_Wd (j_co H)) : j_tp H 104 = 0 := j_Wd_tp h rfl
theorem w_n104 {H : j_H} (h : j_Wd (j_co H)) : j_ln H 104 = 7 := j_Wd_ln h rfl
theorem w_t105 {H : j_H} (h : j_Wd (j_co H)) : j_tp H 105 = 0 := j_Wd_tp h rfl
theorem w_n105 {H : j_H} (h : j_Wd (j_co H)) : j_ln H 105 = 7 := j_Wd_ln h rfl
theorem w_t106 {H : j_H} (h : j_Wd (j_co H)) : j_tp H 106 = 0 := j_Wd_tp h rfl
theorem w_n106 {H : j_H} (h : j_Wd (j_co H)) : j_ln H 106 = 7 := j_Wd_ln h rfl
theorem w_t107 {H : j_H} (h : j_Wd (j_co H)) : j_tp H 107 = 0 := j_Wd_tp h rfl
theorem w_n107 {H : j_H} (h : j_Wd (j_co H)) : j_ln H 107 = 56 := j_Wd_ln h rfl
theorem w_t108 {H : j_H} (h : j_Wd (j_co H)) : j_tp H 108 = 0 := j_Wd_tp h rfl
theorem w_n108 {H : j_H} (h : j_Wd (j_co H)) : j_ln H 108 = 12 := j_Wd_ln h rfl
theorem w_t109 {H : j_H} (h : j_Wd (j_co H)) : j_tp H 109 = 0 := j_Wd_tp h rfl
theorem w_n109 {H : j_H} (h : j_Wd (j_co H)) : j_ln H 109 = 12 := j_Wd_ln h rfl
theorem w_t110 {H : j_H} (h : j_Wd (j_co H)) : j_tp H 110 = 0 := j_Wd_tp h rfl
theorem w_n110 {H : j_H} (h : j_Wd (j_co H)) : j_ln H 110 = 20 := j_Wd_ln h rfl
theorem w_t111 {H : j_H} (h : j_Wd (j_co H)) : j_tp H 111 = 0 := j_Wd_tp h rfl
theorem w_n111 {H : j_H} (h : j_Wd (j_co H)) : j_ln H 111 = 6 := j_Wd_ln h rfl
theorem w_t112 {H : j_H} (h : j_Wd (j_co H)) : j_tp H 112 = 0 := j_Wd_tp h rfl
theorem w_n112 {H : j_H} (h : j_Wd (j_co H)) : j_ln H 112 = 6 := j_Wd_ln h rfl
theorem w_t113 {H : j_H} (h : j_Wd (j_co H)) : j_tp H 113 = 1 := j_Wd_tp h rfl
theorem w_n113 {H : j_H} (h : j_Wd (j_co H)) : j_ln H 113 = 360 := j_Wd_ln h rfl
theorem w_t114 {H : j_H} (h : j_Wd (j_co H)) : j_tp H 114 = 1 := j_Wd_tp h rfl
theorem w_n114 {H : j_H} (h : j_Wd (j_co H)) : j_ln H 114 = 60 := j_Wd_ln h rfl
theorem w_r13_0 {H : j_H} (h : j_Wd (j_co H)) : j_R H 13 0 = some 14 := j_Wd_R (i := 0) h rfl rfl
theorem w_r13_1 {H : j_H} (h : j_Wd (j_co H)) : j_R H 13 1 = some 15 := j_Wd_R (i := 1) h rfl rfl
theorem w_r13_2 {H : j_H} (h : j_Wd (j_co H)) : j_R H 13 2 = some 16 := j_Wd_R (i := 2) h rfl rfl
theorem w_r13_3 {H : j_H} (h : j_Wd (j_co H)) : j_R H 13 3 = some 17 := j_Wd_R (i := 3) h rfl rfl
theorem w_r18_0 {H : j_H} (h : j_Wd (j_co H)) : j_R H 18 0 = some 19 := j_Wd_R (i := 4) h rfl rfl
theorem w_r18_1 {H : j_H} (h : j_Wd (j_co H)) : j_R H 18 1 = some 20 := j_Wd_R (i := 5) h rfl rfl
theorem w_r18_2 {H : j_H} (h : j_Wd (j_co H)) : j_R H 18 2 = some 21 := j_Wd_R (i := 6) h rfl rfl
theorem w_r18_3 {H : j_H} (h : j_Wd (j_co H)) : j_R H 18 3 = some 22 := j_Wd_R (i := 7) h rfl rfl
theorem w_r12_0 {H : j_H} (h : j_Wd (j_co H)) : j_R H 12 0 = some 13 := j_Wd_R (i := 8) h rfl rfl
theorem w_r12_1 {H : j_H} (h : j_Wd (j_co H)) : j_R H 12 1 = some 18 := j_Wd_R (i := 9) h rfl rfl
theorem w_r12_3 {H : j_H} (h : j_Wd (j_co H)) : j_R H 12 3 = some 23 := j_Wd_R (i := 10) h rfl rfl
theorem w_r23_0 {H : j_H} (h : j_Wd (j_co H)) : j_R H 23 0 = some 24 := j_Wd_R (i := 11) h rfl rfl
theorem w_r24_2 {H : j_H} (h : j_Wd (j_co H)) : j_R H 24 2 = some 25 := j_Wd_R (i := 12) h rfl rfl
theorem w_r24_3 {H : j_H} (h : j_Wd (j_co H)) : j_R H 24 3 = some 26 := j_Wd_R (i := 13) h rfl rfl
theorem w_r24_4 {H : j_H} (h : j_Wd (j_co H)) : j_R H 24 4 = some 27 := j_Wd_R (i := 14) h rfl rfl
theorem w_r24_6 {H : j_H} (h : j_Wd (j_co H)) : j_R H 24 6 = some 28 := j_Wd_R (i := 15) h rfl rfl
theorem w_r24_8 {H : j_H} (h : j_Wd (j_co H)) : j_R H 24 8 = some 29 := j_Wd_R (i := 16) h rfl rfl
theorem w_r23_1 {H : j_H} (h : j_Wd (j_co H)) : j_R H 23 1 = some 30 := j_Wd_R (i := 17) h rfl rfl
theorem w_r30_2 {H : j_H} (h : j_Wd (j_co H)) : j_R H 30 2 = some 31 := j_Wd_R (i := 18) h rfl rfl
theorem w_r30_3 {H : j_H} (h : j_Wd (j_co H)) : j_R H 30 3 = some 32 := j_Wd_R (i := 19) h rfl rfl
theorem w_r30_4 {H : j_H} (h : j_Wd (j_co H)) : j_R H 30 4 = some 33 := j_Wd_R (i := 20) h rfl rfl
theorem w_r30_6 {H : j_H} (h : j_Wd (j_co H)) : j_R H 30 6 = some 34 := j_Wd_R (i := 21) h rfl rfl
theorem w_r30_8 {H : j_H} (h : j_Wd (j_co H)) : j_R H 30 8 = some 35 := j_Wd_R (i := 22) h rfl rfl
theorem w_r23_2 {H : j_H} (h : j_Wd (j_co H)) : j_R H 23 2 = some 36 := j_Wd_R (i := 23) h rfl rfl
theorem w_r36_2 {H : j_H} (h : j_Wd (j_co H)) : j_R H 36 2 = some 37 := j_Wd_R (i := 24) h rfl rfl
theorem w_r36_3 {H : j_H} (h : j_Wd (j_co H)) : j_R H 36 3 = some 38 := j_Wd_R (i := 25) h rfl rfl
theorem w_r36_4 {H : j_H} (h : j_Wd (j_co H)) : j_R H 36 4 = some 39 := j_Wd_R (i := 26) h rfl rfl
theorem w_r36_6 {H : j_H} (h : j_Wd (j_co H)) : j_R H 36 6 = some 40 := j_Wd_R (i := 27) h rfl rfl
theorem w_r36_8 {H : j_H} (h : j_Wd (j_co H)) : j_R H 36 8 = some 41 := j_Wd_R (i := 28) h rfl rfl
theorem w_r23_3 {H : j_H} (h : j_Wd (j_co H)) : j_R H 23 3 = some 42 := j_Wd_R (i := 29) h rfl rfl
theorem w_r42_2 {H : j_H} (h : j_Wd (j_co H)) : j_R H 42 2 = some 43 := j_Wd_R (i := 30) h rfl rfl
theorem w_r42_3 {H : j_H} (h : j_Wd (j_co H)) : j_R H 42 3 = some 44 := j_Wd_R (i := 31) h rfl rfl
theorem w_r42_4 {H : j_H} (h : j_Wd (j_co H)) : j_R H 42 4 = some 45 := j_Wd_R (i := 32) h rfl rfl
theorem w_r42_6 {H : j_H} (h : j_Wd (j_co H)) : j_R H 42 6 = some 46 := j_Wd_R (i := 33) h rfl rfl
theorem w_r42_8 {H : j_H} (h : j_Wd (j_co H)) : j_R H 42 8 = some 47 := j_Wd_R (i := 34) h rfl rfl
theorem w_r23_4 {H : j_H} (h : j_Wd (j_co H)) : j_R H 23 4 = some 48 := j_Wd_R (i := 35) h rfl rfl
theorem w_r48_2 {H : j_H} (h : j_Wd (j_co H)) : j_R H 48 2 = some 49 := j_Wd_R (i := 36) h rfl rfl
theorem w_r48_3 {H : j_H} (h : j_Wd (j_co H)) : j_R H 48 3 = some 50 := j_Wd_R (i := 37) h rfl rfl
theorem w_r48_4 {H : j_H} (h : j_Wd (j_co H)) : j_R H 48 4 = some 51 := j_Wd_R (i := 38) h rfl rfl
theorem w_r48_6 {H : j_H} (h : j_Wd (j_co H)) : j_R H 48 6 = some 52 := j_Wd_R (i := 39) h rfl rfl
theorem w_r48_8 {H : j_H} (h : j_Wd (j_co H)) : j_R H 48 8 = some 53 := j_Wd_R (i := 40) h rfl rfl
theorem w_r23_5 {H : j_H} (h : j_Wd (j_co H)) : j_R H 23 5 = some 54 := j_Wd_R (i := 41) h rfl rfl
theorem w_r54_2 {H : j_H} (h : j_Wd (j_co H)) : j_R H 54 2 = some 55 := j_Wd_R (i := 42) h rfl rfl
theorem w_r54_3 {H : j_H} (h : j_Wd (j_co H)) : j_R H 54 3 = some 56 := j_Wd_R (i := 43) h rfl rfl
theorem w_r54_4 {H : j_H} (h : j_Wd (j_co H)) : j_R H 54 4 = some 57 := j_Wd_R (i := 44) h rfl rfl
theorem w_r54_6 {H : j_H} (h : j_Wd (j_co H)) : j_R H 54 6 = some 58 := j_Wd_R (i := 45) h rfl rfl
theorem w_r54_8 {H : j_H} (h : j_Wd (j_co H)) : j_R H 54 8 = some 59 := j_Wd_R (i := 46) h rfl rfl
theorem w_r12_5 {H : j_H} (h : j_Wd (j_co H)) : j_R H 12 5 = some 60 := j_Wd_R (i := 47) h rfl rfl
theorem w_r12_7 {H : j_H} (h : j_Wd (j_co H)) : j_R H 12 7 = some 61 := j_Wd_R (i := 48) h rfl rfl
theorem w_r61_0 {H : j_H} (h : j_Wd (j_co H)) : j_R H 61 0 = some 62 := j_Wd_R (i := 49) h rfl rfl
theorem w_r62_0 {H : j_H} (h : j_Wd (j_co H)) : j_R H 62 0 = some 63 := j_Wd_R (i := 50) h rfl rfl
theorem w_r61_1 {H : j_H} (h : j_Wd (j_co H)) : j_R H 61 1 = some 64 := j_Wd_R (i := 51) h rfl rfl
theorem w_r64_0 {H : j_H} (h : j_Wd (j_co H)) : j_R H 64 0 = some 65 := j_Wd_R (i := 52) h rfl rfl
theorem w_r61_2 {H : j_H} (h : j_Wd (j_co H)) : j_R H 61 2 = some 66 := j_Wd_R (i := 53) h rfl rfl
theorem w_r66_0 {H : j_H} (h : j_Wd (j_co H)) : j_R H 66 0 = some 67 := j_Wd_R (i := 54) h rfl rfl
theorem w_r61_3 {H : j_H} (h : j_Wd (j_co H)) : j_R H 61 3 = some 68 := j_Wd_R (i := 55) h rfl rfl
theorem w_r68_0 {H : j_H} (h : j_Wd (j_co H)) : j_R H 68 0 = some 69 := j_Wd_R (i := 56) h rfl rfl
theorem w_r61_4 {H : j_H} (h : j_Wd (j_co H)) : j_R H 61 4 = some 70 := j_Wd_R (i := 57) h rfl rfl
theorem w_r70_0 {H : j_H} (h : j_Wd (j_co H)) : j_R H 70 0 = some 71 := j_Wd_R (i := 58) h rfl rfl
theorem w_r61_5 {H : j_H} (h : j_Wd (j_co H)) : j_R H 61 5 = some 72 := j_Wd_R (i := 59) h rfl rfl
theorem w_r72_0 {H : j_H} (h : j_Wd (j_co H)) : j_R H 72 0 = some 73 := j_Wd_R (i := 60) h rfl rfl
theorem w_r12_8 {H : j_H} (h : j_Wd (j_co H)) : j_R H 12 8 = some 74 := j_Wd_R (i := 61) h rfl rfl
theorem w_r74_0 {H : j_H} (h : j_Wd (j_co H)) : j_R H 74 0 = some 75 := j_Wd_R (i := 62) h rfl rfl
theorem w_r12_9 {H : j_H} (h : j_Wd (j_co H)) : j_R H 12 9 = some 76 := j_Wd_R (i := 63) h rfl rfl
theorem w_r12_10 {H : j_H} (h : j_Wd (j_co H)) : j_R H 12 10 = some 77 := j_Wd_R (i := 64) h rfl rfl
theorem w_r12_11 {H : j_H} (h : j_Wd (j_co H)) : j_R H 12 11 = some 78 := j_Wd_R (i := 65) h rfl rfl
theorem w_r12_12 {H : j_H} (h : j_Wd (j_co H)) : j_R H 12 12 = some 79 := j_Wd_R (i := 66) h rfl rfl
theorem w_r12_13 {H : j_H} (h : j_Wd (j_co H)) : j_R H 12 13 = some 80 := j_Wd_R (i := 67) h rfl rfl
theorem w_r81_4 {H : j_H} (h : j_Wd (j_co H)) : j_R H 81 4 = some 82 := j_Wd_R (i := 68) h rfl rfl
theorem w_r81_5 {H : j_H} (h : j_Wd (j_co H)) : j_R H 81 5 = some 83 := j_Wd_R (i := 69) h rfl rfl
theorem w_r81_6 {H : j_H} (h : j_Wd (j_co H)) : j_R H 81 6 = some 84 := j_Wd_R (i := 70) h rfl rfl
theorem w_r81_7 {H : j_H} (h : j_Wd (j_co H)) : j_R H 81 7 = some 85 := j_Wd_R (i := 71) h rfl rfl
theorem w_r81_13 {H : j_H} (h : j_Wd (j_co H)) : j_R H 81 13 = some 86 := j_Wd_R (i := 72) h rfl rfl
theorem w_r81_14 {H : j_H} (h : j_Wd (j_co H)) : j_R H 81 14 = some 87 := j_Wd_R (i := 73) h rfl rfl
theorem w_r81_15 {H : j_H} (h : j_Wd (j_co H)) : j_R H 81 15 = some 88 := j_Wd_R (i := 74) h rfl rfl
theorem w_r81_16 {H : j_H} (h : j_Wd (j_co H)) : j_R H 81 16 = some 89 := j_Wd_R (i := 75) h rfl rfl
theorem w_r81_17 {H : j_H} (h : j_Wd (j_co H)) : j_R H 81 17 = some 90 := j_Wd_R (i := 76) h rfl rfl
theorem w_r81_18 {H : j_H} (h : j_Wd (j_co H)) : j_R H 81 18 = some 91 := j_Wd_R (i := 77) h rfl rfl
theorem w_r81_19 {H : j_H} (h : j_Wd (j_co H)) : j_R H 81 19 = some 92 := j_Wd_R (i := 78) h rfl rfl
theorem w_r81_20 {H : j_H} (h : j_Wd (j_co H)) : j_R H 81 20 = some 93 := j_Wd_R (i := 79) h rfl rfl
theorem w_r81_24 {H : j_H} (h : j_Wd (j_co H)) : j_R H 81 24 = some 94 := j_Wd_R (i := 80) h rfl rfl
theorem w_r81_25 {H : j_H} (h : j_Wd (j_co H)) : j_R H 81 25 = some 95 := j_Wd_R (i := 81) h rfl rfl
theorem w_r81_26 {H : j_H} (h : j_Wd (j_co H)) : j_R H 81 26 = some 96 := j_Wd_R (i := 82) h rfl rfl
theorem w_r81_28 {H : j_H} (h : j_Wd (j_co H)) : j_R H 81 28 = some 97 := j_Wd_R (i := 83) h rfl rfl
theorem w_r81_29 {H : j_H} (h : j_Wd (j_co H)) : j_R H 81 29 = some 98 := j_Wd_R (i := 84) h rfl rfl
theorem w_r81_30 {H : j_H} (h : j_Wd (j_co H)) : j_R H 81 30 = some 99 := j_Wd_R (i := 85) h rfl rfl
theorem w_r81_31 {H : j_H} (h : j_Wd (j_co H)) : j_R H 81 31 = some 100 := j_Wd_R (i := 86) h rfl rfl
theorem w_r81_32 {H : j_H} (h : j_Wd (j_co H)) : j_R H 81 32 = some 101 := j_Wd_R (i := 87) h rfl rfl
theorem w_r81_33 {H : j_H} (h : j_Wd (j_co H)) : j_R H 81 33 = some 102 := j_Wd_R (i := 88) h rfl rfl
theorem w_r81_37 {H : j_H} (h : j_Wd (j_co H)) : j_R H 81 37 = some 103 := j_Wd_R (i := 89) h rfl rfl
theorem w_r81_46 {H : j_H} (h : j_Wd (j_co H)) : j_R H 81 46 = some 104 := j_Wd_R (i := 90) h rfl rfl
theorem w_r81_47 {H : j_H} (h : j_Wd (j_co H)) : j_R H 81 47 = some 105 := j_Wd_R (i := 91) h rfl rfl
theorem w_r81_48 {H : j_H} (h : j_Wd (j_co H)) : j_R H 81 48 = some 106 := j_Wd_R (i := 92) h rfl rfl
theorem w_r81_49 {H : j_H} (h : j_Wd (j_co H)) : j_R H 81 49 = some 107 := j_Wd_R (i := 93) h rfl rfl
theorem w_r81_50 {H : j_H} (h : j_Wd (j_co H)) : j_R H 81 50 = some 108 := j_Wd_R (i := 94) h rfl rfl
theorem w_r81_51 {H : j_H} (h : j_Wd (j_co H)) : j_R H 81 51 = some 109 := j_Wd_R (i := 95) h rfl rfl
theorem w_r81_53 {H : j_H} (h : j_Wd (j_co H)) : j_R H 81 53 = some 110 := j_Wd_R (i := 96) h rfl rfl
theorem w_r81_54 {H : j_H} (h : j_Wd (j_co H)) : j_R H 81 54 = some 111 := j_Wd_R (i := 97) h rfl rfl
theorem w_r81_55 {H : j_H} (h : j_Wd (j_co H)) : j_R H 81 55 = some 112 := j_Wd_R (i := 98) h rfl rfl
theorem w_r81_56 {H : j_H} (h : j_Wd (j_co H)) : j_R H 81 56 = some 113 := j_Wd_R (i := 99) h rfl rfl
theorem w_r81_57 {H : j_H} (h : j_Wd (j_co H)) : j_R H 81 57 = some 114 := j_Wd_R (i := 100) h rfl rfl
-- values
theorem v_rs (a : Nat) : va_rf (some a) = .ref a := rfl
theorem v_rn : va_rf none = .null := rfl
theorem v_pa (a : Nat) : j_pa (.ref a) = a := rfl
theorem v_vc (H : j_H) (a : Nat) : j_vc H (.ref a) = j_cls H a := rfl
theorem v_vt (H : j_H) (a : Nat) : j_vt H (.ref a) = j_tp H a := rfl
theorem v_vl (H : j_H) (a : Nat) : j_vl H (.ref a) = j_ln H a := rfl
theorem v_ir (a : Nat) : j_isr (.ref a) = true := rfl
theorem v_in : j_isr .null = true := rfl
theorem v_po (a : Nat) : j_po (.ref a) = some a := rfl
theorem v_pn : j_po .null = none := rfl
theorem v_re (a c : Nat) : (Value.ref a = Value.ref c) = (a = c) := propext ⟨fun h => by cases h; rfl, fun h => by rw [h]⟩
theorem v_rN (a : Nat) : (Value.ref a = Value.null) = False := propext ⟨fun h => (by cases h), False.elim⟩
theorem v_Nr (a : Nat) : (Value.null = Value.ref a) = False := propext ⟨fun h => (by cases h), False.elim⟩
theorem v_fe (o : Option Nat) (c : Nat) : (va_rf o = Value.ref c) = (o = some c) := by
  cases o with
  | none => exact propext ⟨fun h => (by cases (show Value.null = Value.ref c from h)), fun h => (by cases h)⟩
  | some a => exact (v_re a c).trans (propext ⟨fun h => by rw [h], fun h => Option.some.inj h⟩)
theorem v_fN (o : Option Nat) : (va_rf o = Value.null) = (o = none) := by
  cases o with
  | none => exact propext ⟨fun _ => rfl, fun _ => rfl⟩
  | some a => exact propext ⟨fun h => (by cases (show Value.ref a = Value.null from h)), fun h => (by cases h)⟩
theorem v_c1i (x : Int32) : j_c1 (.int x) = true := rfl
theorem v_c1r (a : Nat) : j_c1 (.ref a) = true := rfl
theorem v_c1n : j_c1 .null = true := rfl
theorem v_c1u : j_c1 j_u = true := rfl
theorem v_c1f (o : Option Nat) : j_c1 (va_rf o) = true := by cases o <;> rfl
-- reading what was written
theorem h_II (H : j_H) (a k c l : Nat) (v : Int32) : j_I (j_sI H a k v) c l = if c = a ∧ l = k then v else j_I H c l := rfl
theorem h_LL (H : j_H) (a k c l : Nat) (v : Int64) : j_L (j_sL H a k v) c l = if c = a ∧ l = k then v else j_L H c l := rfl
theorem h_RR (H : j_H) (a k c l : Nat) (v : Option Nat) : j_R (j_sR H a k v) c l = if c = a ∧ l = k then v else j_R H c l := rfl
theorem h_IL (H : j_H) (a k c l : Nat) (v : Int64) : j_I (j_sL H a k v) c l = j_I H c l := rfl
theorem h_IR (H : j_H) (a k c l : Nat) (v : Option Nat) : j_I (j_sR H a k v) c l = j_I H c l := rfl
theorem h_LI (H : j_H) (a k c l : Nat) (v : Int32) : j_L (j_sI H a k v) c l = j_L H c l := rfl
theorem h_LR (H : j_H) (a k c l : Nat) (v : Option Nat) : j_L (j_sR H a k v) c l = j_L H c l := rfl
theorem h_RI (H : j_H) (a k c l : Nat) (v : Int32) : j_R (j_sI H a k v) c l = j_R H c l := rfl
theorem h_RL (H : j_H) (a k c l : Nat) (v : Int64) : j_R (j_sL H a k v) c l = j_R H c l := rfl
theorem h_Ic (H : j_H) (a i c j n d l : Nat) : j_I (j_cI H a i c j n) d l = if d = c ∧ (j ≤ l ∧ l < j + n) then j_I H a (i + (l - j)) else j_I H d l := rfl
theorem h_Lc (H : j_H) (a i c j n d l : Nat) : j_L (j_cI H a i c j n) d l = j_L H d l := rfl
theorem h_Rc (H : j_H) (a i c j n d l : Nat) : j_R (j_cI H a i c j n) d l = j_R H d l := rfl
theorem h_Id (H : j_H) (a i c j n d l : Nat) : j_I (j_cL H a i c j n) d l = j_I H d l := rfl
theorem h_Ld (H : j_H) (a i c j n d l : Nat) : j_L (j_cL H a i c j n) d l = if d = c ∧ (j ≤ l ∧ l < j + n) then j_L H a (i + (l - j)) else j_L H d l := rfl
theorem h_Rd (H : j_H) (a i c j n d l : Nat) : j_R (j_cL H a i c j n) d l = j_R H d l := rfl
theorem h_cls_sI (H : j_H) (a k c : Nat) (v : Int32) : j_cls (j_sI H a k v) c = j_cls H c := rfl
theorem h_cls_sL (H : j_H) (a k c : Nat) (v : Int64) : j_cls (j_sL H a k v) c = j_cls H c := rfl
theorem h_cls_sR (H : j_H) (a k c : Nat) (v : Option Nat) : j_cls (j_sR H a k v) c = j_cls H c := rfl
theorem h_cls_cI (H : j_H) (a i c j n d : Nat) : j_cls (j_cI H a i c j n) d = j_cls H d := rfl
theorem h_cls_cL (H : j_H) (a i c j n d : Nat) : j_cls (j_cL H a i c j n) d = j_cls H d := rfl
theorem h_tp_sI (H : j_H) (a k c : Nat) (v : Int32) : j_tp (j_sI H a k v) c = j_tp H c := rfl
theorem h_tp_sL (H : j_H) (a k c : Nat) (v : Int64) : j_tp (j_sL H a k v) c = j_tp H c := rfl
theorem h_tp_sR (H : j_H) (a k c : Nat) (v : Option Nat) : j_tp (j_sR H a k v) c = j_tp H c := rfl
theorem h_tp_cI (H : j_H) (a i c j n d : Nat) : j_tp (j_cI H a i c j n) d = j_tp H d := rfl
theorem h_tp_cL (H : j_H) (a i c j n d : Nat) : j_tp (j_cL H a i c j n) d = j_tp H d := rfl
theorem h_ln_sI (H : j_H) (a k c : Nat) (v : Int32) : j_ln (j_sI H a k v) c = j_ln H c := rfl
theorem h_ln_sL (H : j_H) (a k c : Nat) (v : Int64) : j_ln (j_sL H a k v) c = j_ln H c := rfl
theorem h_ln_sR (H : j_H) (a k c : Nat) (v : Option Nat) : j_ln (j_sR H a k v) c = j_ln H c := rfl
theorem h_ln_cI (H : j_H) (a i c j n d : Nat) : j_ln (j_cI H a i c j n) d = j_ln H d := rfl
theorem h_ln_cL (H : j_H) (a i c j n d : Nat) : j_ln (j_cL H a i c j n) d = j_ln H d := rfl
-- the core
theorem j_mk_up {α : Type} (z : α) (f : Nat → Nat → α) (a k : Nat) (v : α) (h : j_scr a k = true) : j_mk z (j_up f a k v) = j_mk z f := by
  funext b j
  unfold j_mk j_up
  by_cases hs : j_scr b j = true
  · rw [if_pos hs, if_pos hs]
  · rw [if_neg hs, if_neg hs, if_neg]
    rintro ⟨rfl, rfl⟩
    exact hs h
theorem j_mk_up' {α : Type} (z : α) (f : Nat → Nat → α) (a k : Nat) (v : α) (h : j_scr a k = false) : j_mk z (j_up f a k v) = j_up (j_mk z f) a k v := by
  funext b j
  unfold j_mk j_up
  show (if j_scr b j = true then z else if b = a ∧ j = k then v else f b j) = (if b = a ∧ j = k then v else (if j_scr b j = true then z else f b j))
  by_cases hs : j_scr b j = true
  · rw [if_pos hs, if_pos hs, if_neg]
    rintro ⟨rfl, rfl⟩
    rw [h] at hs; cases hs
  · rw [if_neg hs, if_neg hs]
theorem c_sI {H : j_H} {a k : Nat} {v : Int32} (h : j_scr a k = true) : j_co (j_sI H a k v) = j_co H := by
  unfold j_co j_sI; rw [j_mk_up _ _ _ _ _ h]
theorem c_sL {H : j_H} {a k : Nat} {v : Int64} (h : j_scr a k = true) : j_co (j_sL H a k v) = j_co H := by
  unfold j_co j_sL; rw [j_mk_up _ _ _ _ _ h]
theorem c_sR {H : j_H} {a k : Nat} {v : Option Nat} (h : j_scr a k = true) : j_co (j_sR H a k v) = j_co H := by
  unfold j_co j_sR; rw [j_mk_up _ _ _ _ _ h]
theorem c_sI' {H : j_H} {a k : Nat} {v : Int32} (h : j_scr a k = false) : j_co (j_sI H a k v) = j_sI (j_co H) a k v := by
  unfold j_co j_sI; rw [j_mk_up' _ _ _ _ _ h]
theorem c_sL' {H : j_H} {a k : Nat} {v : Int64} (h : j_scr a k = false) : j_co (j_sL H a k v) = j_sL (j_co H) a k v := by
  unfold j_co j_sL; rw [j_mk_up' _ _ _ _ _ h]
theorem c_sR' {H : j_H} {a k : Nat} {v : Option Nat} (h : j_scr a k = false) : j_co (j_sR H a k v) = j_sR (j_co H) a k v := by
  unfold j_co j_sR; rw [j_mk_up' _ _ _ _ _ h]
theorem j_mk_cp {α : Type} (z : α) (f : Nat → Nat → α) (a i c j n : Nat) (h : ∀ k, j_scr c k = true) : j_mk z (j_cp f a i c j n) = j_mk z f := by
  funext b l
  unfold j_mk j_cp
  by_cases hs : j_scr b l = true
  · rw [if_pos hs, if_pos hs]
  · rw [if_neg hs, if_neg hs, if_neg]
    rintro ⟨rfl, -⟩
    exact hs (h l)
theorem c_cI {H : j_H} {a i c j n : Nat} (h : ∀ k, j_scr c k = true) : j_co (j_cI H a i c j n) = j_co H := by
  unfold j_co j_cI; rw [j_mk_cp _ _ _ _ _ _ _ h]
theorem c_cL {H : j_H} {a i c j n : Nat} (h : ∀ k, j_scr c k = true) : j_co (j_cL H a i c j n) = j_co H := by
  unfold j_co j_cL; rw [j_mk_cp _ _ _ _ _ _ _ h]
theorem rd_I {H C : j_H} {a k : Nat} (hC : j_co H = C) (h : j_scr a k = false) : j_I H a k = j_I C a k := by
  subst hC
  change _ = (if j_scr a k = true then 0 else H.2.1 a k)
  rw [h]; rfl
theorem rd_L {H C : j_H} {a k : Nat} (hC : j_co H = C) (h : j_scr a k = false) : j_L H a k = j_L C a k := by
  subst hC
  change _ = (if j_scr a k = true then 0 else H.2.2.1 a k)
  rw [h]; rfl
theorem rd_R {H C : j_H} {a k : Nat} (hC : j_co H = C) (h : j_scr a k = false) : j_R H a k = j_R C a k := by
  subst hC
  change _ = (if j_scr a k = true then none else H.2.2.2 a k)
  rw [h]; rfl
theorem rd_cls {H C : j_H} {a : Nat} (hC : j_co H = C) : j_cls H a = j_cls C a := by subst hC; rfl
theorem rd_tp {H C : j_H} {a : Nat} (hC : j_co H = C) : j_tp H a = j_tp C a := by subst hC; rfl
theorem rd_ln {H C : j_H} {a : Nat} (hC : j_co H = C) : j_ln H a = j_ln C a := by subst hC; rfl
-- the heap behind a call
noncomputable def j_af (b M : Nat) (l : List Value) (H : j_H) : j_H := (@Classical.epsilon (Option Value × j_H) ⟨(none, H)⟩ (fun r => j_ev b M 0 l [] H r)).2
theorem j_ev_det {b M pc : Nat} {l s : List Value} {H : j_H} {r1 r2 : Option Value × j_H} (h1 : j_ev b M pc l s H r1) (h2 : j_ev b M pc l s H r2) : r1 = r2 := by
  obtain ⟨n1, h1⟩ := h1
  obtain ⟨n2, h2⟩ := h2
  exact j_rf_det h1 h2
theorem j_af_ev {b M : Nat} {l : List Value} {H H1 : j_H} {v : Option Value} (h : j_ev b M 0 l [] H (v, H1)) : j_af b M l H = H1 := by
  have he : ∃ r, j_ev b M 0 l [] H r := ⟨_, h⟩
  have := j_ev_det (Classical.epsilon_spec he) h
  exact congrArg Prod.snd this
def j_C (b M : Nat) (l : List Value) (H : j_H) (r : Option Value) (C : j_H) : Prop := j_wp b M 0 l [] H (fun v H1 => v = r ∧ j_co H1 = C)
theorem j_C.eq {b M : Nat} {l : List Value} {H C : j_H} {r : Option Value} {Q : Option Value → j_H → Prop} (h : j_C b M l H r C) : j_wp b M 0 l [] H Q = Q r (j_af b M l H) := by
  obtain ⟨v, H1, he, rfl, -⟩ := h
  rw [j_af_ev he]
  refine propext ⟨?_, fun hq => ⟨_, _, he, hq⟩⟩
  rintro ⟨v2, H2, he2, hq⟩
  have := j_ev_det he he2
  cases this
  exact hq
theorem j_C.co {b M : Nat} {l : List Value} {H C : j_H} {r : Option Value} (h : j_C b M l H r C) : j_co (j_af b M l H) = C := by
  obtain ⟨v, H1, he, -, hc⟩ := h
  rw [j_af_ev he, hc]
theorem a_I {b M a k : Nat} {l : List Value} {H C : j_H} (h : j_co (j_af b M l H) = C) (hs : j_scr a k = false) : j_I (j_af b M l H) a k = j_I C a k := rd_I h hs
-- numbers
theorem t_of {z : Int} (h0 : -2147483648 ≤ z) (h1 : z ≤ 2147483647) : (Int32.ofInt z).toInt = z := Int32.toInt_ofInt_of_le h0 (by omega)
theorem t_add {x y : Int32} (h0 : -2147483648 ≤ x.toInt + y.toInt) (h1 : x.toInt + y.toInt ≤ 2147483647) : (x + y).toInt = x.toInt + y.toInt := by
  rw [Int32.toInt_add]; exact Int.bmod_eq_of_le (by omega) (by omega)
theorem t_sub {x y : Int32} (h0 : -2147483648 ≤ x.toInt - y.toInt) (h1 : x.toInt - y.toInt ≤ 2147483647) : (x - y).toInt = x.toInt - y.toInt := by
  rw [Int32.toInt_sub]; exact Int.bmod_eq_of_le (by omega) (by omega)
theorem t_mul {x y : Int32} (h0 : -2147483648 ≤ x.toInt * y.toInt) (h1 : x.toInt * y.toInt ≤ 2147483647) : (x * y).toInt = x.toInt * y.toInt := by
  rw [Int32.toInt_mul]; exact Int.bmod_eq_of_le (by omega) (by omega)
theorem t_neg {x : Int32} (h0 : -2147483648 < x.toInt) : (-x).toInt = -x.toInt := by
  have : x.toInt ≤ 2147483647 := x.toInt_le
  rw [Int32.toInt_neg]; exact Int.bmod_eq_of_le (by omega) (by omega)
theorem t_ix {x : Int32} {n : Nat} (h : x.toInt = (n : Int)) : j_ix x = n := by unfold j_ix; rw [h]; rfl
theorem t_lo (x : Int32) : -2147483648 ≤ x.toInt := x.le_toInt
theorem t_hi (x : Int32) : x.toInt ≤ 2147483647 := by have := x.toInt_le; exact this
theorem t_un (x : Int32) : Int32.ofInt x.toInt = x := Int32.ofInt_toInt x
theorem t_addo (a c : Int) : Int32.ofInt a + Int32.ofInt c = Int32.ofInt (a + c) := (Int32.ofInt_add a c).symm
theorem t_subo (a c : Int) : Int32.ofInt a - Int32.ofInt c = Int32.ofInt (a - c) := (Int32.ofInt_sub a c).symm
theorem t_mulo (a c : Int) : Int32.ofInt a * Int32.ofInt c = Int32.ofInt (a * c) := (Int32.ofInt_mul a c).symm

