/-! SUMS, ROWS OF SAYINGS, GREATEST DIVISORS: nothing of the machine -/
def j_sm (f : Int → Int) : Nat → Int
  | 0 => 0
  | n + 1 => j_sm f n + f n
theorem sm_congr {f g : Int → Int} : ∀ (n : Nat), (∀ i : Int, 0 ≤ i → i < n → f i = g i) → j_sm f n = j_sm g n
  | 0, _ => rfl
  | n + 1, h => by
    rw [j_sm, j_sm, sm_congr n (fun i h0 h1 => h i h0 (by omega)), h n (by omega) (by omega)]
theorem sm_add (f g : Int → Int) : ∀ (n : Nat), j_sm (fun i => f i + g i) n = j_sm f n + j_sm g n
  | 0 => rfl
  | n + 1 => by rw [j_sm, j_sm, j_sm, sm_add f g n]; omega
theorem sm_mul (c : Int) (f : Int → Int) : ∀ (n : Nat), j_sm (fun i => c * f i) n = c * j_sm f n
  | 0 => by rw [j_sm, j_sm, Int.mul_zero]
  | n + 1 => by rw [j_sm, j_sm, sm_mul c f n, Int.mul_add]
theorem sm_zero : ∀ (n : Nat), j_sm (fun _ => 0) n = 0
  | 0 => rfl
  | n + 1 => by rw [j_sm, sm_zero n]; rfl
theorem sm_swap (f : Int → Int → Int) : ∀ (n m : Nat), j_sm (fun t => j_sm (fun s => f s t) m) n = j_sm (fun s => j_sm (fun t => f s t) n) m
  | 0, m => by
    rw [j_sm]
    exact (sm_zero m).symm
  | n + 1, m => by
    rw [j_sm, sm_swap f n m, ← sm_add]
    rfl
theorem sm_pt0 (x : Int) (c : Int → Int) : ∀ (n : Nat), ¬ (0 ≤ x ∧ x < n) → j_sm (fun t => if x = t then c t else 0) n = 0
  | 0, _ => rfl
  | n + 1, h => by
    rw [j_sm, sm_pt0 x c n (by omega), if_neg (by omega)]; rfl
theorem sm_pt (x : Int) (c : Int → Int) : ∀ (n : Nat), 0 ≤ x → x < n → j_sm (fun t => if x = t then c t else 0) n = c x
  | 0, h0, h1 => absurd h1 (by omega)
  | n + 1, h0, h1 => by
    rw [j_sm]
    by_cases h : x = n
    · rw [sm_pt0 x c n (by omega), if_pos h, h]; omega
    · rw [sm_pt x c n h0 (by omega), if_neg h]; omega
theorem sm_nn {f : Int → Int} : ∀ (n : Nat), (∀ i : Int, 0 ≤ i → i < n → 0 ≤ f i) → 0 ≤ j_sm f n
  | 0, _ => Int.le_refl _
  | n + 1, h => by
    have h1 := sm_nn n (fun i h0 h1 => h i h0 (by omega))
    have h2 := h n (by omega) (by omega)
    rw [j_sm]; omega
theorem sm_le {f g : Int → Int} : ∀ (n : Nat), (∀ i : Int, 0 ≤ i → i < n → f i ≤ g i) → j_sm f n ≤ j_sm g n
  | 0, _ => Int.le_refl _
  | n + 1, h => by
    have h1 := sm_le n (fun i h0 h1 => h i h0 (by omega))
    have h2 := h n (by omega) (by omega)
    rw [j_sm, j_sm]; omega
theorem sm_term {f : Int → Int} : ∀ (n : Nat), (∀ i : Int, 0 ≤ i → i < n → 0 ≤ f i) → ∀ i : Int, 0 ≤ i → i < n → f i ≤ j_sm f n
  | 0, _, i, h0, h1 => absurd h1 (by omega)
  | n + 1, h, i, h0, h1 => by
    have h2 := h n (by omega) (by omega)
    have h3 := sm_nn n (fun i h0 h1 => h i h0 (by omega))
    rw [j_sm]
    by_cases e : i = n
    · subst e; omega
    · have := sm_term n (fun i h0 h1 => h i h0 (by omega)) i h0 (by omega)
      omega
theorem sm_two (f : Int → Int) : ∀ (n : Nat), j_sm f (2 * n) = j_sm (fun i => f (2 * i) + f (2 * i + 1)) n
  | 0 => rfl
  | n + 1 => by
    rw [show 2 * (n + 1) = 2 * n + 1 + 1 by omega, j_sm, j_sm, sm_two f n, j_sm]
    rw [show ((2 * n : Nat) : Int) = 2 * (n : Int) by omega, show ((2 * n + 1 : Nat) : Int) = 2 * (n : Int) + 1 by omega]
    omega
-- rows of sayings that keep away from one
def j_cnt (gs : Int → Bool → Int) (g : Int) : Nat → Int → Int
  | 0, s => if s = g then 0 else 1
  | n + 1, s => if s = g then 0 else j_cnt gs g n (gs s false) + j_cnt gs g n (gs s true)
def j_kok (gs : Int → Bool → Int) (g : Int) : Nat → Nat → Int → Bool
  | 0, _, s => decide (¬ s = g)
  | n + 1, r, s => decide (¬ s = g) && j_kok gs g n (r / 2) (gs s (decide (r % 2 = 1)))
theorem j_cnt_g {gs : Int → Bool → Int} {g : Int} : ∀ (n : Nat), j_cnt gs g n g = 0
  | 0 => by rw [j_cnt, if_pos rfl]
  | n + 1 => by rw [j_cnt, if_pos rfl]
theorem j_cnt_ok {gs : Int → Bool → Int} {g : Int} : ∀ (n : Nat) (s : Int), j_sm (fun r => if j_kok gs g n r.toNat s = true then 1 else 0) (2 ^ n) = j_cnt gs g n s
  | 0, s => by
    rw [j_cnt]
    change 0 + (if j_kok gs g 0 0 s = true then (1 : Int) else 0) = _
    rw [j_kok]
    by_cases h : s = g
    · rw [if_pos h, if_neg (by rw [decide_eq_true_eq]; exact fun h' => h' h)]; rfl
    · rw [if_neg h, if_pos (by rw [decide_eq_true_eq]; exact h)]; rfl
  | n + 1, s => by
    rw [Nat.pow_succ, Nat.mul_comm, sm_two, j_cnt]
    by_cases h : s = g
    · rw [if_pos h]
      refine Eq.trans (sm_congr _ ?_) (sm_zero (2 ^ n))
      intro i _ _
      rw [j_kok, j_kok, decide_eq_false (by exact fun h' => h' h), Bool.false_and, Bool.false_and]; rfl
    · rw [if_neg h, ← j_cnt_ok n, ← j_cnt_ok n, ← sm_add]
      apply sm_congr
      intro i h0 _
      have e1 : (2 * i).toNat / 2 = i.toNat := by omega
      have e2 : (2 * i + 1).toNat / 2 = i.toNat := by omega
      have e3 : decide ((2 * i).toNat % 2 = 1) = false := decide_eq_false (by omega)
      have e4 : decide ((2 * i + 1).toNat % 2 = 1) = true := decide_eq_true (by omega)
      rw [j_kok, j_kok, decide_eq_true h, Bool.true_and, Bool.true_and, e1, e2, e3, e4]
/-- one saying more: by where it is, so many rows -/
def j_spr (gs : Int → Bool → Int) (g : Int) (v : Int → Int) (t : Int) : Int := if t = g then 0 else j_sm (fun s => (if gs s false = t then v s else 0) + (if gs s true = t then v s else 0)) 7
theorem j_spr_inv {gs : Int → Bool → Int} {g : Int} {v : Int → Int} (hg : ∀ s b, 0 ≤ gs s b ∧ gs s b < 7) (hv : v g = 0) (m : Nat) : j_sm (fun t => j_spr gs g v t * j_cnt gs g m t) 7 = j_sm (fun s => v s * j_cnt gs g (m + 1) s) 7 := by
  have e1 : j_sm (fun t => j_spr gs g v t * j_cnt gs g m t) 7 = j_sm (fun t => j_sm (fun s => (if gs s false = t then v s * j_cnt gs g m t else 0) + (if gs s true = t then v s * j_cnt gs g m t else 0)) 7) 7 := by
    apply sm_congr
    intro t _ _
    unfold j_spr
    by_cases h : t = g
    · rw [if_pos h, h, j_cnt_g, Int.mul_zero]
      refine (Eq.trans (sm_congr _ ?_) (sm_zero 7)).symm
      intro s _ _
      by_cases h1 : gs s false = g <;> by_cases h2 : gs s true = g <;> simp [h1, h2]
    · rw [if_neg h, Int.mul_comm, ← sm_mul]
      apply sm_congr
      intro s _ _
      rw [Int.mul_add]
      congr 1
      · by_cases h1 : gs s false = t <;> simp [h1, Int.mul_comm]
      · by_cases h1 : gs s true = t <;> simp [h1, Int.mul_comm]
  rw [e1, sm_swap]
  apply sm_congr
  intro s _ _
  rw [sm_add, sm_pt _ (fun t => v s * j_cnt gs g m t) 7 (hg s false).1 (hg s false).2, sm_pt _ (fun t => v s * j_cnt gs g m t) 7 (hg s true).1 (hg s true).2, j_cnt]
  by_cases h : s = g
  · rw [h, hv]; simp
  · rw [if_neg h, Int.mul_add]
def j_sprn (gs : Int → Bool → Int) (g : Int) (v : Int → Int) : Nat → Int → Int
  | 0 => v
  | n + 1 => j_sprn gs g (j_spr gs g v) n
theorem j_sprn_g {gs : Int → Bool → Int} {g : Int} : ∀ (n : Nat) (v : Int → Int), v g = 0 → j_sprn gs g v n g = 0
  | 0, _, h => h
  | n + 1, v, _ => j_sprn_g n _ (by unfold j_spr; rw [if_pos rfl])
theorem j_sprn_all {gs : Int → Bool → Int} {g : Int} (hg : ∀ s b, 0 ≤ gs s b ∧ gs s b < 7) : ∀ (n : Nat) (v : Int → Int), v g = 0 → j_sm (j_sprn gs g v n) 7 = j_sm (fun s => v s * j_cnt gs g n s) 7
  | 0, v, hv => by
    apply sm_congr
    intro s _ _
    rw [j_sprn, j_cnt]
    by_cases h : s = g
    · rw [h, hv]; simp
    · rw [if_neg h, Int.mul_one]
  | n + 1, v, hv => by
    rw [j_sprn, j_sprn_all hg n _ (by unfold j_spr; rw [if_pos rfl]), j_spr_inv hg hv]
theorem j_keeps_eq {gs : Int → Bool → Int} {g s0 : Int} (hg : ∀ s b, 0 ≤ gs s b ∧ gs s b < 7) (h0 : 0 ≤ s0) (h1 : s0 < 7) (n : Nat) : j_sm (j_sprn gs g (fun s => if s0 = s then (if s0 = g then 0 else 1) else 0) n) 7 = j_cnt gs g n s0 := by
  rw [j_sprn_all hg n _ (by by_cases h : s0 = g <;> simp [h])]
  have : j_sm (fun s => (if s0 = s then (if s0 = g then 0 else 1) else 0) * j_cnt gs g n s) 7 = j_sm (fun s => if s0 = s then (if s0 = g then 0 else 1) * j_cnt gs g n s else 0) 7 := by
    apply sm_congr
    intro s _ _
    split <;> simp
  rw [this, sm_pt s0 (fun s => (if s0 = g then 0 else 1) * j_cnt gs g n s) 7 h0 h1]
  by_cases h : s0 = g
  · rw [if_pos h, h, j_cnt_g]; rfl
  · rw [if_neg h, Int.one_mul]
-- the fewest sayings
def j_ri (n f before : Nat) : Nat → Nat → Nat → Nat
  | 0, _, r => r
  | m + 1, s, r => j_ri n f before m (s + 1) (if before.testBit s = true then r ||| (1 <<< ((s + n - f) % n) ||| 1 <<< ((s + f) % n)) else r)
def j_ro (n f b : Nat) : Nat → Nat → Nat → Option Nat
  | 0, _, _ => none
  | m + 1, k, r => if r.testBit b = true then some k else j_ro n f b m (k + 1) (j_ri n f r n 0 r)
def j_rr (n f b : Nat) : Nat → Nat → Nat → Nat → Option Nat
  | 0, _, _, _ => none
  | m + 1, k, x, y => if x = b ∨ y = b then some k else j_rr n f b m (k + 1) ((x + f) % n) ((y + n - f) % n)
theorem j_soon : ∀ n : Fin 8, ∀ f : Fin n.val, ∀ a : Fin n.val, ∀ b : Fin n.val, j_ro n.val f.val b.val 7 0 (1 <<< a.val) = j_rr n.val f.val b.val 8 0 a.val a.val := by decide +kernel
-- what is best
def j_bv (C : j_H) (F g : Int) (mo : Bool) : Nat → Int → Int → Int
  | 0, _, _ => 0
  | m + 1, h, s => if s = g then j_wo C g h F + (if (decide (j_bv C F g mo m (h + 1) (j_go C g true) > j_bv C F g mo m (h + 1) (j_go C g false)) == mo) = true then j_bv C F g mo m (h + 1) (j_go C g true) else j_bv C F g mo m (h + 1) (j_go C g false)) else j_bv C F g mo m (h + 1) (j_mv C F s h)
theorem j_bv_b {C : j_H} (hI : j_Im C) {F g : Int} {mo : Bool} : ∀ (m : Nat) (h s : Int), 0 ≤ j_bv C F g mo m h s ∧ j_bv C F g mo m h s ≤ 990 * m
  | 0, _, _ => by rw [j_bv]; omega
  | m + 1, h, s => by
    have h1 := j_bv_b hI (F := F) (g := g) (mo := mo) m (h + 1) (j_go C g true)
    have h2 := j_bv_b hI (F := F) (g := g) (mo := mo) m (h + 1) (j_go C g false)
    have h3 := j_bv_b hI (F := F) (g := g) (mo := mo) m (h + 1) (j_mv C F s h)
    have h4 : 0 ≤ j_wo C g h F ∧ j_wo C g h F ≤ 990 := j_sum_b hI (by omega) (by omega)
    rw [j_bv]
    split
    · split <;> omega
    · omega
/-- behind how many sayings, under so many, one has it first -/
def j_fst (C : j_H) (F g : Int) : Nat → Int → Int → Int → Int
  | 0, _, _, _ => -5
  | m + 1, h, s, k => if s = g then k else j_fst C F g m (h + 1) (j_mv C F s h) (k + 1)
theorem j_bv_never {C : j_H} {F g : Int} {mo : Bool} : ∀ (m : Nat) (h s k : Int), 0 ≤ k → j_fst C F g m h s k = -5 → j_bv C F g mo m h s = 0
  | 0, _, _, _, _, _ => rfl
  | m + 1, h, s, k, hk, e => by
    rw [j_fst] at e
    by_cases hs : s = g
    · rw [if_pos hs] at e; omega
    · rw [if_neg hs] at e
      rw [j_bv, if_neg hs]
      exact j_bv_never m _ _ _ (by omega) e
theorem j_fst_b {C : j_H} {F g : Int} : ∀ (m : Nat) (h s k : Int), j_fst C F g m h s k = -5 ∨ (k ≤ j_fst C F g m h s k ∧ j_fst C F g m h s k < k + m)
  | 0, _, _, _ => Or.inl rfl
  | m + 1, h, s, k => by
    rw [j_fst]
    by_cases hs : s = g
    · rw [if_pos hs]; exact Or.inr (by omega)
    · rw [if_neg hs]
      rcases j_fst_b m (h + 1) (j_mv C F s h) (k + 1) with e | e
      · exact Or.inl e
      · exact Or.inr (by omega)
theorem j_bv_first {C : j_H} {F g : Int} {mo : Bool} : ∀ (m : Nat) (h s k : Int), ¬ j_fst C F g m h s k = -5 → 0 ≤ k → j_bv C F g mo m h s = j_bv C F g mo (m - (j_fst C F g m h s k - k).toNat) (h + (j_fst C F g m h s k - k)) g
  | 0, _, _, _, e, _ => absurd rfl e
  | m + 1, h, s, k, e, hk => by
    rw [j_fst] at e ⊢
    by_cases hs : s = g
    · rw [if_pos hs, hs, Int.sub_self]
      rw [Int.add_zero]; rfl
    · rw [if_neg hs] at e ⊢
      rcases j_fst_b (C := C) (F := F) (g := g) m (h + 1) (j_mv C F s h) (k + 1) with e' | e'
      · exact absurd e' e
      · have ih := j_bv_first (mo := mo) m (h + 1) (j_mv C F s h) (k + 1) e (by omega)
        rw [j_bv, if_neg hs, ih]
        congr 1 <;> omega
-- greatest divisors
theorem j_gcd_low (a b : Nat) (hb : 0 < b) : 10 * a / Nat.gcd (10 * a) (10 * b) = a / Nat.gcd a b ∧ 10 * b / Nat.gcd (10 * a) (10 * b) = b / Nat.gcd a b := by
  rw [Nat.gcd_mul_left]
  exact ⟨Nat.mul_div_mul_left _ _ (by omega), Nat.mul_div_mul_left _ _ (by omega)⟩
/-- Euclid's steps -/
def j_eu : Nat → Nat → Nat → Nat
  | 0, a, _ => a
  | n + 1, a, b => if b = 0 then a else j_eu n b (a % b)
theorem j_eu_ok : ∀ (m k a b : Nat), b < 2 ^ m → 2 * m ≤ k → j_eu k a b = Nat.gcd a b
  | 0, k, a, b, hb, hk => by
    have : b = 0 := by omega
    subst this
    rw [Nat.gcd_zero_right]
    cases k <;> rfl
  | m + 1, k, a, b, hb, hk => by
    obtain ⟨k', rfl⟩ : ∃ k', k = k' + 1 + 1 := ⟨k - 2, by omega⟩
    rw [j_eu]
    by_cases h0 : b = 0
    · rw [if_pos h0, h0, Nat.gcd_zero_right]
    · rw [if_neg h0, j_eu]
      have h1 := Nat.mod_lt a (Nat.pos_of_ne_zero h0)
      have hg : Nat.gcd a b = Nat.gcd b (a % b) := by rw [Nat.gcd_comm a b, Nat.gcd_rec b a, Nat.gcd_comm]
      by_cases h2 : a % b = 0
      · rw [if_pos h2, hg, h2, Nat.gcd_zero_right]
      · rw [if_neg h2, hg]
        have h3 := Nat.mod_lt b (Nat.pos_of_ne_zero h2)
        have h4 : b % (a % b) < 2 ^ m := by
          rw [Nat.pow_succ] at hb
          by_cases h5 : a % b < 2 ^ m
          · omega
          · have : b % (a % b) = (b - a % b) % (a % b) := Nat.mod_eq_sub_mod (Nat.le_of_lt h1)
            have h6 := Nat.mod_le (b - a % b) (a % b)
            omega
        rw [j_eu_ok m k' _ _ h4 (by omega), Nat.gcd_comm b (a % b), Nat.gcd_rec (a % b) b, Nat.gcd_comm]
