/-! CALLS THAT ASK: odds, mean: the vectors -/
def j_W7 (H : j_H) (a : Nat) (v : Int → Int) : Prop := ∀ t : Nat, t < 7 → j_L H a t = Int64.ofInt (v t)
/-- what one seat gives to another in a saying -/
def j_oo (C : j_H) (F h : Int) (v : Int → Int) (t s : Int) : Int := if s < j_n C then (if j_go C s false = t then v s * j_li C s h F else 0) + (if j_go C s true = t then v s * (10 - j_li C s h F) else 0) else 0
def j_ov (C : j_H) (F h : Int) (v : Int → Int) (t : Int) : Int := j_sm (j_oo C F h v t) 7
def j_cv (C : j_H) : Nat → Int → Int
  | 0 => fun t => if t = j_se C then 1 else 0
  | k + 1 => j_ov C (j_fa C) (j_ho2 C + k) (j_cv C k)
def j_lw (C : j_H) (F h : Int) (v : Int → Int) : Int := j_sm (fun s => if s < j_n C then v s * j_wo C s h F else 0) 7
def j_mn (C : j_H) : Nat → Int
  | 0 => 0
  | k + 1 => 10 * j_mn C k + j_lw C (j_fa C) (j_ho2 C + k) (j_cv C k)
theorem j_li_b {C : j_H} (hI : j_Im C) (g h F : Int) : 0 ≤ j_li C g h F ∧ j_li C g h F ≤ 10 := by
  have := j_sum_b hI (w := 0) (g := g) (h := h) (F := F) (d := 0) (by omega) (by omega)
  unfold j_li
  split <;> omega
theorem j_wo_b {C : j_H} (hI : j_Im C) (g h F : Int) : 0 ≤ j_wo C g h F ∧ j_wo C g h F ≤ 990 := j_sum_b hI (by omega) (by omega)
/-- all that is there in a vector -/
theorem j_oo_sum {C : j_H} (hI : j_Im C) (hn : 0 < j_n C) {F h : Int} {v : Int → Int} (hv : ∀ t, 0 ≤ v t) (s : Int) : j_sm (fun t => j_oo C F h v t s) 7 ≤ 10 * v s := by
  have hn7 := hI.2.1.2.1
  have hn' : j_n C = (j_I C 81 0).toInt := rfl
  have q1 := j_go_b (C := C) (g := s) (s := false) hn
  have q2 := j_go_b (C := C) (g := s) (s := true) hn
  have h0 := hv s
  by_cases hs : s < j_n C
  · have e : j_sm (fun t => j_oo C F h v t s) 7 = j_sm (fun t => (if j_go C s false = t then v s * j_li C s h F else 0) + (if j_go C s true = t then v s * (10 - j_li C s h F) else 0)) 7 := by
      apply sm_congr
      intro t _ _
      unfold j_oo
      rw [if_pos hs]
    rw [e, sm_add, sm_pt _ (fun _ => v s * j_li C s h F) 7 q1.1 (by omega), sm_pt _ (fun _ => v s * (10 - j_li C s h F)) 7 q2.1 (by omega), ← Int.mul_add, Int.mul_comm]
    exact Int.le_of_eq (by congr 1; omega)
  · have e : j_sm (fun t => j_oo C F h v t s) 7 = j_sm (fun _ => 0) 7 := by
      apply sm_congr
      intro t _ _
      unfold j_oo
      rw [if_neg hs]
    rw [e, sm_zero]; omega
theorem j_oo_nn {C : j_H} (hI : j_Im C) {F h : Int} {v : Int → Int} (hv : ∀ t, 0 ≤ v t) (t s : Int) : 0 ≤ j_oo C F h v t s := by
  have b := j_li_b hI s h F
  have h1 := Int.mul_nonneg (hv s) b.1
  have h2 := Int.mul_nonneg (hv s) (show 0 ≤ 10 - j_li C s h F by omega)
  unfold j_oo
  (repeat' split) <;> omega
theorem j_cv_b {C : j_H} (hI : j_Im C) (hn : 0 < j_n C) : ∀ (k : Nat), (∀ t, 0 ≤ j_cv C k t) ∧ j_sm (j_cv C k) 7 ≤ 10 ^ k
  | 0 => by
    refine ⟨fun t => by unfold j_cv; split <;> omega, ?_⟩
    have e : j_sm (j_cv C 0) 7 = j_sm (fun t => if j_se C = t then (fun _ => 1) t else 0) 7 := by
      apply sm_congr
      intro t _ _
      unfold j_cv
      by_cases h : t = j_se C
      · rw [if_pos h, if_pos h.symm]
      · rw [if_neg h, if_neg (fun h' => h h'.symm)]
    have hn7 := hI.2.1.2.1
    have hn' : j_n C = (j_I C 81 0).toInt := rfl
    obtain ⟨z1, z2, z3, -⟩ := j_seb hI.2.1 hn
    rw [e, sm_pt _ (fun _ => 1) 7 z1 (by omega)]
    decide
  | k + 1 => by
    obtain ⟨i1, i2⟩ := j_cv_b hI hn k
    refine ⟨fun t => sm_nn 7 (fun i _ _ => j_oo_nn hI i1 t i), ?_⟩
    have e : j_sm (j_cv C (k + 1)) 7 = j_sm (fun s => j_sm (fun t => j_oo C (j_fa C) (j_ho2 C + k) (j_cv C k) t s) 7) 7 := sm_swap (fun s t => j_oo C (j_fa C) (j_ho2 C + k) (j_cv C k) t s) 7 7
    have h1 : j_sm (fun s => j_sm (fun t => j_oo C (j_fa C) (j_ho2 C + k) (j_cv C k) t s) 7) 7 ≤ j_sm (fun s => 10 * j_cv C k s) 7 := sm_le 7 (fun s _ _ => j_oo_sum hI hn i1 s)
    rw [sm_mul] at h1
    rw [e, Int.pow_succ]
    omega
theorem j_cv_t {C : j_H} (hI : j_Im C) (hn : 0 < j_n C) (k : Nat) {t : Int} (h0 : 0 ≤ t) (h1 : t < 7) : 0 ≤ j_cv C k t ∧ j_cv C k t ≤ 10 ^ k := by
  obtain ⟨i1, i2⟩ := j_cv_b hI hn k
  have := sm_term 7 (fun i _ _ => i1 i) t h0 h1
  exact ⟨i1 t, by omega⟩
theorem j_lw_b {C : j_H} (hI : j_Im C) {F h : Int} {v : Int → Int} (hv : ∀ t, 0 ≤ v t) : 0 ≤ j_lw C F h v ∧ j_lw C F h v ≤ 990 * j_sm v 7 := by
  refine ⟨sm_nn 7 (fun s _ _ => ?_), ?_⟩
  · have b := j_wo_b hI s h F
    have := Int.mul_nonneg (hv s) b.1
    split <;> omega
  · have h1 : j_lw C F h v ≤ j_sm (fun s => 990 * v s) 7 := sm_le 7 (fun s _ _ => by
      have b := j_wo_b hI s h F
      have h0 := hv s
      have := Int.mul_le_mul_of_nonneg_left b.2 h0
      split <;> omega)
    rw [sm_mul] at h1
    exact h1
theorem j_mn_b {C : j_H} (hI : j_Im C) (hn : 0 < j_n C) : ∀ (k : Nat), 0 ≤ j_mn C k ∧ j_mn C k ≤ 990 * k * 10 ^ k
  | 0 => by rw [j_mn]; omega
  | k + 1 => by
    obtain ⟨i1, i2⟩ := j_mn_b hI hn k
    obtain ⟨c1, c2⟩ := j_cv_b hI hn k
    obtain ⟨l1, l2⟩ := j_lw_b hI (F := j_fa C) (h := j_ho2 C + k) c1
    rw [j_mn]
    refine ⟨by omega, ?_⟩
    have e : (990 : Int) * ((k + 1 : Nat) : Int) * 10 ^ (k + 1) = 10 * (990 * k * 10 ^ k) + 9900 * 10 ^ k := by
      rw [Int.pow_succ, Int.natCast_add, Int.mul_add, Int.add_mul]
      simp only [Int.natCast_one, Int.mul_one]
      rw [← Int.mul_assoc (990 * (k : Int)) (10 ^ k) 10, ← Int.mul_assoc 990 (10 ^ k) 10]
      omega
    rw [e]
    omega
