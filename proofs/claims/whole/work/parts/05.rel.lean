/-! THE PURE MACHINE AND THE MACHINE: what a pure heap says of a heap -/
def j_flat : List (Nat × List Nat) := j_wls.flatten
def j_W : List Cond := j_flat.map (fun e => j_w e.2) ++ j_cl.map (fun y => j_w [5, y])
def j_hw (p : Nat) (w : List Nat) : Bool := match j_wls[p / 12]? with
  | some l => match l[p % 12]? with
    | some e => e.2 == w
    | none => false
  | none => false
theorem j_W_in : ∀ w ∈ j_W, w ∈ lw_tbl ∧ goodWord w = true := by
  intro w hw
  rcases List.mem_append.mp hw with h | h
  · obtain ⟨e, he, rfl⟩ := List.mem_map.mp h
    obtain ⟨l, hl, hel⟩ := List.mem_flatten.mp he
    exact j_wls_ok l hl e hel
  · obtain ⟨y, hy, rfl⟩ := List.mem_map.mp h
    exact ⟨j_cl_ok y hy, rfl⟩
theorem j_hw_in {p : Nat} {w : List Nat} (h : j_hw p w = true) : j_w w ∈ j_W := by
  unfold j_hw at h
  split at h
  · rename_i l hl
    split at h
    · rename_i e he
      have h1 : e.2 = w := by simpa using h
      refine List.mem_append_left _ (List.mem_map.mpr ⟨e, List.mem_flatten.mpr ⟨l, List.mem_of_getElem? hl, List.mem_of_getElem? he⟩, by rw [h1]⟩)
    · cases h
  · cases h
theorem j_code_in {y : Nat} (h : j_cl.contains y = true) : Cond.code (j_ym y) (j_by y) (j_ml y) (j_rt y) ∈ j_W :=
  List.mem_append_right _ (List.mem_map.mpr ⟨y, by simpa using h, rfl⟩)
theorem j_W_good : GoodIn j_W j_W := fun w h => ⟨h, good_of_word (j_W_in w h).2⟩
def j_T (c : Nat) : u_T := fun k => match j_fq c k with
  | some (dc, n, d, f, _) => (j_cs dc, j_fs n, j_es d, f)
  | none => ("", "", "", false)
def j_tyf (c k : Nat) : FieldType := (parseFieldDescriptor (j_T c k).2.2.1).getD .int
def j_tyc (t : Nat) (ty : FieldType) : Bool := if t = 0 then decide (ty = .int) else if t = 1 then decide (ty = .long) else if t = 3 then decide (ty = .boolean) else if t = 2 then ty.isReference else false
theorem j_tyf_ok : ∀ c, c < 13 → ∀ k, k < j_nf c → parseFieldDescriptor (j_T c k).2.2.1 = some (j_tyf c k) := by decide +kernel
theorem j_tyf_tc : ∀ c, c < 13 → ∀ k, k < j_nf c → j_tyc (j_ft c k) (j_tyf c k) = true := by decide +kernel
theorem j_nm_ok : ∀ c, c < 13 → ∀ a, a < j_nf c → ∀ b, b < j_nf c → a ≠ b → (j_T c a).2.1 ≠ (j_T c b).2.1 := by decide +kernel
def j_mem (w : List Nat) : Bool := j_wls.any fun l => l.any fun e => e.2 == w
theorem j_mem_in {w : List Nat} (h : j_mem w = true) : j_w w ∈ j_W := by
  unfold j_mem at h
  obtain ⟨l, hl, h2⟩ := List.any_eq_true.mp h
  obtain ⟨e, he, h3⟩ := List.any_eq_true.mp h2
  have h1 : e.2 = w := by simpa using h3
  exact List.mem_append_left _ (List.mem_map.mpr ⟨e, List.mem_flatten.mpr ⟨l, hl, he⟩, by rw [h1]⟩)
def j_layw (c k : Nat) : List Nat := match j_fq c k with
  | some (dc, n, d, f, _) => [if f then 7 else 6, c, dc, n, d]
  | none => []
theorem j_lay_ok : ∀ c, c < 13 → ∀ k, k < j_nf c → j_mem (j_layw c k) = true := by decide +kernel
theorem j_fq_of {c k : Nat} (h : k < j_nf c) : ∃ q, j_fq c k = some q := by
  unfold j_nf at h
  exact ⟨_, List.getElem?_eq_getElem h⟩
theorem j_fq_lt {c k : Nat} {q : Nat × Nat × Nat × Bool × Nat} (h : j_fq c k = some q) : k < j_nf c := (List.getElem?_eq_some_iff.mp h).1
theorem j_ws_in {c : Nat} (hc : c < 13) : ∀ w ∈ u_ws (j_cs c) (j_T c) (j_nf c), w ∈ j_W := by
  intro w hw
  unfold u_ws at hw
  obtain ⟨k, hk, rfl⟩ := List.mem_map.mp hw
  have hk : k < j_nf c := List.mem_range.mp hk
  have h := j_mem_in (j_lay_ok c hc k hk)
  obtain ⟨⟨dc, n, d, f, t⟩, hq⟩ := j_fq_of hk
  have e : u_lay (j_cs c) (j_T c) k = j_w (j_layw c k) := by
    unfold u_lay j_T j_layw
    rw [hq]
    cases f <;> rfl
  rw [e]; exact h
-- the strings
def j_si (i : Nat) : Nat := [83, 85, 87, 111, 117].getD i 0
def j_stx (i : Nat) : String := ["lies", "worth", "far", "gkvhns", "<=>"].getD i ""
def j_sby : List (List Int32) := [[108, 105, 101, 115], [119, 111, 114, 116, 104], [102, 97, 114], [103, 107, 118, 104, 110, 115], [60, 61, 62]]
def j_sln : List Nat := [4, 5, 3, 6, 3]
def j_aty (t : Nat) : FieldType := match t with
  | 0 => .int
  | 1 => .long
  | 2 => .byte
  | 3 => .boolean
  | 4 => .object "HatGoes$Guest"
  | 5 => .object "HatGoes$House"
  | _ => .object "HatGoes$Tape"
/-- what doesn't change: the heap at the start, where the constants and the script lie, the formatter, the classes, the array classes, the script -/
abbrev j_E : Type := Heap × (Nat → Nat) × Value × (Nat → ClassId) × (Nat → Nat → Nat) × (Nat → ClassId) × Nat × (Nat → Int32)
def j_dC (E : j_E) : Nat → ClassId := E.2.2.2.1
def j_dI (E : j_E) : Nat → Nat → Nat := E.2.2.2.2.1
def j_cA (E : j_E) : Nat → ClassId := E.2.2.2.2.2.1
def j_ad (E : j_E) (a : Nat) : Nat := if a < 12 then E.2.1 a else E.1.size + (a - 12)
def j_tr (E : j_E) : Value → Value
  | .ref a => if a = 11 then E.2.2.1 else .ref (j_ad E a)
  | v => v
def j_A (E : j_E) : Nat → Prop := fun q => E.1.size ≤ q
def j_nc : List (Nat × Nat) := [1, 2, 4, 5, 6, 7, 9].flatMap fun g => [1, 4, 5, 6, 7, 9].flatMap fun c => if j_wx.any (fun e => e.2 == [15, g, c]) || g == c then [] else [(g, c)]
def j_cx : List (Nat × Nat) := j_wx.filterMap fun e => match e.2 with
  | [15, g, c] => some (g, c)
  | _ => none
def j_K (E : j_E) (U : State) : Prop :=
  (∀ c, c < 13 → u_Kn U (j_cs c) (j_T c) (j_nf c) (j_dC E c) (j_dI E c)) ∧
  (∀ t, t < 7 → ArrOfT U (j_cA E t) (j_aty t) ∧ va_RA U (j_cA E t) (j_aty t)) ∧
  (∀ i, i < 5 → vk_R "HatGoes$House" (j_si i) (j_stx i) (E.2.1 i) U) ∧
  vk_S 5 j_sln j_sby E.2.1 (fun i => E.2.1 (5 + i)) (j_A E) U E.1 ∧
  va_X (E.2.1 10) E.2.2.2.2.2.2.1 E.2.2.2.2.2.2.2 U E.1 ∧
  va_Z "java/lang/String" "COMPACT_STRINGS" "Z" (.int 1) (j_A E) U E.1 ∧
  va_Z "jdk/internal/util/Preconditions" "SIOOBE_FORMATTER" "Ljava/util/function/BiFunction;" E.2.2.1 (j_A E) U E.1 ∧
  (∀ c ∈ [2, 3, 8], va_AO (j_cs c) U) ∧ (∀ q ∈ j_cx, va_Nw (.castable (j_cs q.1) (j_cs q.2)) U) ∧ (∀ q ∈ j_nc, va_Nc (j_cs q.1) (j_cs q.2) U) ∧
  (∀ i, i < 11 → E.2.1 i < E.1.size) ∧ (E.2.2.1 = .null ∨ ∃ a, E.2.2.1 = .ref a)
theorem j_K.warm {E : j_E} {s U : State} (hW : s.WarmedH U.vm) (h : j_K E s) : j_K E U := by
  obtain ⟨h1, h2, h3, h4, h5, h6, h7, h8, h9, h10, h11⟩ := h
  have hvm := hW.alike
  exact ⟨fun c hc => u_Kn_moved hvm (h1 c hc), fun t ht => ⟨arrOfT_moved hvm (h2 t ht).1, (h2 t ht).2.moved hvm⟩, fun i hi => (h3 i hi).warm hW, h4.moved hvm, h5.moved hvm, h6.moved hvm, h7.moved hvm, fun c hc => (h8 c hc).moved hvm, fun q hq => va_Nw.warmC hW (h9 q hq), fun q hq => (h10 q hq).moved hvm, h11⟩
/-- a cell -/
def j_cell (E : j_E) (H : j_H) (a : Nat) (x : j_Sh) (Hp : Heap) : Prop := match x with
  | .inl c => c < 13 ∧ t_OB (j_ad E a) (j_dC E c) (j_nf c) (j_dI E c) Hp (fun k => j_tr E (j_fv (j_ft c k) H a k))
  | .inr q => q.1 < 7 ∧ Hp[j_ad E a]? = some (arrV (j_cA E q.1) q.2 (fun k => j_tr E (j_av q.1 H a k)))
/-- the cells that were there before -/
def j_old (E : j_E) (H : j_H) : Prop :=
  (∀ i, i < 5 → j_sh H i = some (.inl 14) ∧ j_R H i 0 = some (5 + i) ∧ j_I H i 1 = 0 ∧ j_sh H (5 + i) = some (.inr (9, j_sln.getD i 0)) ∧ ∀ k, k < j_sln.getD i 0 → j_I H (5 + i) k = (j_sby.getD i []).getD k 0) ∧
  j_sh H 10 = some (.inr (8, E.2.2.2.2.2.2.1)) ∧ (∀ k, k < E.2.2.2.2.2.2.1 → j_I H 10 k = E.2.2.2.2.2.2.2 k) ∧ j_sh H 11 = some (.inr (7, 0))
def j_Rel (E : j_E) (H : j_H) (Hp : Heap) : Prop :=
  Hp.size + 12 = E.1.size + H.1.length ∧ (∀ q, q < E.1.size → Hp[q]? = E.1[q]?) ∧ j_old E H ∧ ∀ a x, 12 ≤ a → j_sh H a = some x → j_cell E H a x Hp
def j_szs (x : j_Sh) : Nat := match x with
  | .inl c => j_nf c
  | .inr q => q.2
def j_sz (H : j_H) : Nat := (H.1.map j_szs).sum
def j_lv (E : j_E) : Nat → List Value → List (Nat × Value)
  | _, [] => []
  | i, v :: l => if j_kn v then (i, j_tr E v) :: j_lv E (i + 1) l else j_lv E (i + 1) l
theorem j_lv_mem {E : j_E} : ∀ (l : List Value) (i : Nat) (q : Nat × Value), q ∈ j_lv E i l ↔ ∃ (j : Nat) (v : Value), l[j]? = some v ∧ j_kn v = true ∧ q = (i + j, j_tr E v)
  | [], i, q => by simp [j_lv]
  | v :: l, i, q => by
    have ih := j_lv_mem (E := E) l (i + 1) q
    have key : (∃ (j : Nat) (w : Value), (v :: l)[j]? = some w ∧ j_kn w = true ∧ q = (i + j, j_tr E w)) ↔ (j_kn v = true ∧ q = (i, j_tr E v)) ∨ ∃ (j : Nat) (w : Value), l[j]? = some w ∧ j_kn w = true ∧ q = (i + 1 + j, j_tr E w) := by
      constructor
      · rintro ⟨j, w, h1, h2, h3⟩
        cases j with
        | zero =>
          rw [List.getElem?_cons_zero] at h1
          cases h1
          exact Or.inl ⟨h2, h3⟩
        | succ j =>
          rw [List.getElem?_cons_succ] at h1
          exact Or.inr ⟨j, w, h1, h2, by rw [h3]; congr 1; omega⟩
      · rintro (⟨h1, h2⟩ | ⟨j, w, h1, h2, h3⟩)
        · exact ⟨0, v, rfl, h1, h2⟩
        · exact ⟨j + 1, w, h1, h2, by rw [h3]; congr 1; omega⟩
    rw [key, ← ih, j_lv]
    by_cases hv : j_kn v = true
    · rw [if_pos hv]
      simp [hv]
    · rw [if_neg hv]
      simp [hv]
theorem j_lv_get {E : j_E} {ls : Array Slot} {nL : Nat} {loc : List Value} (h : lv_has ls nL (j_lv E 0 loc)) {k : Nat} {v : Value} (hk : loc[k]? = some v) (hv : j_kn v = true) : ls[k]? = some (.val (j_tr E v)) :=
  h.2.2 (k, j_tr E v) ((j_lv_mem loc 0 _).mpr ⟨k, v, hk, hv, by rw [Nat.zero_add]⟩)
theorem j_tr_cat {E : j_E} (hf : E.2.2.1 = .null ∨ ∃ a, E.2.2.1 = .ref a) (v : Value) : (j_tr E v).category = v.category := by
  cases v with
  | ref a =>
    show (if a = 11 then E.2.2.1 else Value.ref (j_ad E a)).category = 1
    by_cases h : a = 11
    · rw [if_pos h]
      rcases hf with h | ⟨a, h⟩ <;> rw [h] <;> rfl
    · rw [if_neg h]
      rfl
  | _ => rfl
theorem j_c1_cat (v : Value) : j_c1 v = true ↔ v.category = 1 := by cases v <;> simp [j_c1, Value.category]
theorem j_kn_u : j_kn j_u = false := rfl
theorem lv_has.mono {ls : Array Slot} {nL : Nat} {l l' : List (Nat × Value)} (h : lv_has ls nL l) (hs : ∀ q ∈ l', q ∈ l) : lv_has ls nL l' := ⟨h.1, h.2.1, fun q hq => h.2.2 q (hs q hq)⟩
theorem j_st_get {loc : List Value} {i : Nat} {v w : Value} {j : Nat} (h : (j_st loc i v)[j]? = some w) (hw : j_kn w = true) : (j = i ∧ w = v) ∨ (j ≠ i ∧ loc[j]? = some w ∧ ¬ (j + 1 = i ∧ w.category = 2)) := by
  unfold j_st at h
  cases i with
  | zero =>
    dsimp only at h
    by_cases hj : j = 0
    · subst hj
      rw [List.getElem?_set] at h
      simp at h
      exact Or.inl ⟨rfl, h.2.symm⟩
    · rw [List.getElem?_set_ne (Ne.symm hj)] at h
      exact Or.inr ⟨hj, h, by omega⟩
  | succ k =>
    dsimp only at h
    split at h
    · rename_i hc
      by_cases hj : j = k + 1
      · subst hj
        rw [List.getElem?_set] at h
        simp at h
        exact Or.inl ⟨rfl, h.2.symm⟩
      · rw [List.getElem?_set_ne (Ne.symm hj)] at h
        refine Or.inr ⟨hj, h, fun ⟨h1, h2⟩ => ?_⟩
        have : j = k := by omega
        subst this
        rw [List.getD_eq_getElem?_getD, h] at hc
        have := (j_c1_cat w).mp hc
        omega
    · by_cases hj : j = k + 1
      · subst hj
        rw [List.getElem?_set] at h
        simp at h
        exact Or.inl ⟨rfl, h.2.symm⟩
      · rw [List.getElem?_set_ne (Ne.symm hj)] at h
        by_cases hk : j = k
        · subst hk
          rw [List.getElem?_set] at h
          simp at h
          rw [← h.2] at hw
          cases hw
        · rw [List.getElem?_set_ne (Ne.symm hk)] at h
          exact Or.inr ⟨hj, h, by omega⟩
theorem j_lv_st {E : j_E} (hf : E.2.2.1 = .null ∨ ∃ a, E.2.2.1 = .ref a) {ls : Array Slot} {nL : Nat} {loc : List Value} {i : Nat} {v : Value} (h : lv_has ls nL ((i, j_tr E v) :: (j_lv E 0 loc).filter (fun q => !(q.1 == i) && !(q.1 + 1 == i && q.2.category == 2)))) : lv_has ls nL (j_lv E 0 (j_st loc i v)) := by
  refine h.mono fun q hq => ?_
  obtain ⟨j, w, h1, h2, rfl⟩ := (j_lv_mem _ _ _).mp hq
  rw [Nat.zero_add]
  rcases j_st_get h1 h2 with ⟨rfl, rfl⟩ | ⟨g1, g2, g3⟩
  · exact List.mem_cons_self
  · refine List.mem_cons_of_mem _ (List.mem_filter.mpr ⟨(j_lv_mem _ _ _).mpr ⟨j, w, g2, h2, by rw [Nat.zero_add]⟩, ?_⟩)
    simp only [Bool.and_eq_true, Bool.not_eq_true', beq_eq_false_iff_ne, ne_eq, Bool.and_eq_false_iff]
    refine ⟨g1, ?_⟩
    rw [j_tr_cat hf]
    by_cases e : j + 1 = i
    · exact Or.inr fun e2 => g3 ⟨e, e2⟩
    · exact Or.inl e
theorem j_lv_st2 {E : j_E} (hf : E.2.2.1 = .null ∨ ∃ a, E.2.2.1 = .ref a) {ls : Array Slot} {nL : Nat} {loc : List Value} {i : Nat} {v : Value} (h : lv_has ls nL ((i, j_tr E v) :: (j_lv E 0 loc).filter (fun q => !(q.1 == i) && (!(q.1 == i + 1) && !(q.1 + 1 == i && q.2.category == 2))))) : lv_has ls nL (j_lv E 0 (j_st2 loc i v)) := by
  refine h.mono fun q hq => ?_
  obtain ⟨j, w, h1, h2, rfl⟩ := (j_lv_mem _ _ _).mp hq
  rw [Nat.zero_add]
  unfold j_st2 at h1
  have hj1 : j ≠ i + 1 := by
    rintro rfl
    rw [List.getElem?_set] at h1
    simp at h1
    rw [← h1.2] at h2
    cases h2
  rw [List.getElem?_set_ne (Ne.symm hj1)] at h1
  rcases j_st_get h1 h2 with ⟨rfl, rfl⟩ | ⟨g1, g2, g3⟩
  · exact List.mem_cons_self
  · refine List.mem_cons_of_mem _ (List.mem_filter.mpr ⟨(j_lv_mem _ _ _).mpr ⟨j, w, g2, h2, by rw [Nat.zero_add]⟩, ?_⟩)
    simp only [Bool.and_eq_true, Bool.not_eq_true', beq_eq_false_iff_ne, ne_eq, Bool.and_eq_false_iff]
    refine ⟨g1, hj1, ?_⟩
    rw [j_tr_cat hf]
    by_cases e : j + 1 = i
    · exact Or.inr fun e2 => g3 ⟨e, e2⟩
    · exact Or.inl e
theorem j_st_len (loc : List Value) (i : Nat) (v : Value) : (j_st loc i v).length = loc.length := by
  unfold j_st
  cases i with
  | zero => simp
  | succ k => dsimp only; split <;> simp
