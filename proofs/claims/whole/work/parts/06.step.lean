/-! A STEP: an instruction that is no call and no return -/
def j_npl : List Nat := [0, 1, 1, 1, 2, 1, 0, 1, 2, 1, 3, 2, 3, 4, 3, 2, 4, 3, 2, 2, 2, 0, 2, 4, 2, 0, 1, 1, 1, 0, 0, 1, 1, 1, 1, 2, 4, 3, 2, 4, 3, 2, 4, 3, 2, 4, 3, 2, 2, 0, 2, 0, 1, 2, 1, 2, 1, 4, 3, 2, 2, 0, 0, 1, 1, 0, 3, 2, 2, 1, 3, 1, 0, 1, 0, 2, 1, 2, 2, 1, 1, 2, 3, 3, 1, 3, 2, 1, 0, 2, 0, 0, 3, 1, 2, 1, 3, 3, 2, 5, 1, 3, 3, 3, 4, 2, 2, 1, 1, 2, 4, 3, 2, 1, 2, 0, 1, 1, 3, 2, 0, 3, 2, 1, 1, 3, 2, 1, 3, 1, 0, 1, 2, 0, 0, 1, 0, 1, 1, 0, 1, 1, 1, 1, 0, 0, 0, 0, 3, 3, 4, 2, 2, 2, 1, 2, 2, 2, 2, 1, 0, 2, 1, 2, 2, 1, 1, 2, 4, 4, 3, 3, 1, 2, 3, 1, 3, 2, 1, 0, 2, 0, 0, 1, 2, 2, 2, 2, 2, 2, 2, 3, 1, 2, 1, 1, 3, 2, 3, 2, 5, 1, 2, 2, 0, 1, 0, 0, 2, 2, 2, 2, 3, 1, 0, 2, 2, 2, 2, 5]
def j_np (y : Nat) : Nat := j_npl.getD y 0
def j_ilen (i : Instr) (len : Nat) : Nat := match i with
  | .bipush _ => 2
  | .iload _ => 2
  | .lload _ => 2
  | .aload _ => 2
  | .istore _ => 2
  | .lstore _ => 2
  | .astore _ => 2
  | .ldc _ => 2
  | .newarray _ => 2
  | .sipush _ => 3
  | .ldc_w _ => 3
  | .ldc2_w _ => 3
  | .iinc _ _ => 3
  | .ifCond _ _ => 3
  | .if_icmp _ _ => 3
  | .ifnull _ => 3
  | .ifnonnull _ => 3
  | .goto _ => 3
  | .getfield _ => 3
  | .putfield _ => 3
  | .getstatic _ => 3
  | .new _ => 3
  | .anewarray _ => 3
  | .instanceof _ => 3
  | .invokestatic _ => 3
  | .invokespecial _ => 3
  | .invokevirtual _ => 3
  | .tableswitch _ _ _ _ => len
  | .lookupswitch _ _ => len
  | _ => 1
def j_okt (pc : Nat) (off : Int) : Bool := decide (0 ≤ (pc : Int) + off)
theorem j_okt_tg {pc : Nat} {off : Int} (h : j_okt pc off = true) : (pc : Int) + off = (j_tg pc off : Int) := by
  have h1 : 0 ≤ (pc : Int) + off := of_decide_eq_true h
  unfold j_tg
  omega
def j_inl (q : Nat × Nat) : Bool := j_cx.contains q
def j_nin (q : Nat × Nat) : Bool := j_nc.contains q
def j_okio (c : Nat) : List Nat → Bool
  | s :: r :: _ :: l => decide (s < 13) && ((r == 1 && s == c) || (r == 2 && j_inl (s, c)) || (r == 0 && j_nin (s, c))) && j_okio c l
  | _ => true
def j_okpr (c : Nat) : List Nat → Bool
  | s :: _ :: l => decide (s < 13) && (s == c || j_inl (s, c)) && j_okpr c l
  | _ => true
def j_arc (t : Nat) : Nat := if t = 4 then 2 else if t = 5 then 3 else 8
def j_ycl : List Nat := [0, 0, 0, 0, 0, 0, 0, 0, 0, 0, 0, 0, 0, 1, 1, 1, 2, 2, 2, 2, 2, 3, 3, 3, 3, 3, 3, 3, 3, 3, 3, 3, 3, 3, 3, 3, 4, 4, 4, 5, 5, 5, 6, 6, 6, 7, 7, 7, 7, 8, 8, 8, 8, 8, 8, 8, 8, 9, 9, 9, 9, 10, 10, 10, 10, 11, 11, 11, 11, 11, 11, 11, 11, 11, 11, 11, 11, 11, 11, 11, 11, 11, 11, 11, 11, 11, 11, 11, 11, 11, 11, 11, 11, 11, 11, 11, 11, 11, 11, 11, 11, 11, 11, 11, 11, 11, 11, 11, 11, 11, 11, 11, 11, 11, 11, 11, 11, 11, 11, 11, 12, 12, 12, 12, 12, 12, 12, 12, 12, 12, 12, 12, 12, 12, 12, 12, 12, 12, 12, 12, 12, 12, 12, 12, 12, 12, 12, 12, 12, 12, 12, 12, 12, 12, 12, 12, 12, 12, 12, 12, 12, 12, 12, 12, 12, 12, 12, 12, 12, 12, 12, 12, 12, 12, 12, 12, 12, 12, 12, 12, 12, 12, 12, 12, 12, 12, 12, 12, 12, 12, 12, 12, 12, 12, 12, 12, 12, 12, 12, 12, 12, 17, 18, 18, 14, 14, 14, 14, 14, 15, 19, 19, 16, 13, 21, 6, 5, 4, 5, 20]
def j_yc (y : Nat) : Nat := j_ycl.getD y 99
def j_oi : Nat := 214
def j_ac : Nat := 219
def j_okd (x : Nat) : List Nat → Bool
  | s :: y :: w4 :: w5 :: w6 :: _ :: l => decide (s < 13) && (j_hw w4 [3, s, x, y] && (j_hw w5 [2, y] && (j_hw w6 [4, j_yc y] && (j_cl.contains y && (j_np y == j_np x && j_okd x l)))))
  | _ => true
/-- a call's row -/
def j_okc (M op i : Nat) (aux : List Nat) : Bool := match aux with
  | 0 :: n :: y :: w1 :: w2 :: w3 :: _ => op == 0 && (n == j_np y && (j_cl.contains y && (j_hw w1 [1, j_ow M, i, y] && (j_hw w2 [13, y] && j_hw w3 [4, j_yc y]))))
  | 1 :: n :: y :: w1 :: w2 :: w3 :: _ => op == 1 && (n == j_np y + 1 && (j_cl.contains y && (j_hw w1 [1, j_ow M, i, y] && (j_hw w2 [2, y] && (j_hw w3 [4, j_yc y] && (decide (j_rt y = none) && decide ((j_ym y).name = "<init>")))))))
  | 2 :: n :: y :: w1 :: w2 :: w3 :: w4 :: _ :: k :: _ => op == 2 && (n == j_np y + 1 && (j_cl.contains y && (j_hw w1 [1, j_ow M, i, y] && (j_hw w2 [2, y] && (j_hw w3 [3, k, y, y] && (j_hw w4 [4, k] && (k == j_yc y && (decide (k < 13) || k == 14))))))))
  | 3 :: n :: x :: o :: w1 :: w2 :: w3 :: _ :: l => op == 2 && (n == j_np x + 1 && (j_cl.contains o && (j_hw w1 [1, j_ow M, i, x] && (j_hw w2 [14, x, o] && (j_hw w3 [2, o] && (decide ((j_ym o).name = (j_ym x).name) && (decide ((j_ym o).desc = (j_ym x).desc) && j_okd x l)))))))
  | 4 :: n :: y :: x :: w1 :: w2 :: w3 :: w4 :: w5 :: _ :: fl :: w6 :: al => op == 1 && (n == j_np y + 1 && (j_cl.contains y && (j_hw w1 [1, j_ow M, i, x] && (j_hw w2 [14, x, y] && (j_hw w3 [20, j_ow M, j_yc x] && (j_hw w4 [2, y] && (j_hw w5 [4, j_yc y] && (decide ((j_ym y).name = (j_ym x).name) && (decide ((j_ym y).desc = (j_ym x).desc) && (decide (¬ (j_ym y).name = "<init>") && ((if fl = 0 then j_yc x == j_yc y else j_hw w6 [20, j_yc x, j_yc y]) && (decide (j_yc x < 13) && al.all fun q => decide (q < 13)))))))))))))
  | [5, _, w1, w2, w3] => op == 1 && (j_hw w1 [1, j_ow M, i, j_oi] && (j_hw w2 [2, j_oi] && j_hw w3 [18, j_oi]))
  | [6, _, y, w1, w2, w3, w4, _] => op == 0 && (y == j_ac && (j_hw w1 [1, j_ow M, i, y] && (j_hw w2 [19, y] && (j_hw w3 [13, y] && j_hw w4 [4, 20]))))
  | [] => true
  | _ => false
/-- what a row's numbers must be, by the words of the tables -/
def j_okr (M : Nat) (r : j_row) : Bool := r.2.2.1 == j_ilen r.2.1 r.2.2.1 && match r.2.1 with
  | .bipush c => decide (-128 ≤ c) && decide (c ≤ 127)
  | .sipush c => decide (-32768 ≤ c) && decide (c ≤ 32767)
  | .ldc i => match r.2.2.2 with
    | [0, w, s, v] => j_hw w [16, j_ow M, i, s, v]
    | [1, k] => decide (k < 5) && (j_ow M == 3 && j_si k == i)
    | _ => true
  | .ldc_w i => match r.2.2.2 with
    | [0, w, s, v] => j_hw w [16, j_ow M, i, s, v]
    | _ => true
  | .ldc2_w i => match r.2.2.2 with
    | [w, s, v] => j_hw w [17, j_ow M, i, s, v]
    | _ => true
  | .ifCond _ off => j_okt r.1 off
  | .if_icmp _ off => j_okt r.1 off
  | .ifnull off => j_okt r.1 off
  | .ifnonnull off => j_okt r.1 off
  | .goto off => j_okt r.1 off
  | .tableswitch dflt lo hi offs => j_okt r.1 dflt && (decide ((offs.size : Int) = hi - lo + 1) && offs.toList.all (j_okt r.1))
  | .lookupswitch dflt ps => j_okt r.1 dflt && (ps.toList.all (fun q => j_okt r.1 q.2) && (ps.toList.zip (ps.toList.drop 1)).all (fun (a, next) => a.1 < next.1))
  | .getfield i => match r.2.2.2 with
    | w :: cr :: t :: k :: ws :: al => if al = [14] then cr == 14 && ((k == 0 && t == 2 && j_hw w [0, j_ow M, i, 14, 87, 5]) || (k == 1 && t == 0 && j_hw w [0, j_ow M, i, 14, 89, 13])) else
      al.all fun c => decide (c < 13) && match j_fq c k with
        | some (dc, n, d, _, tc) => j_hw w [0, j_ow M, i, cr, n, d] && (dc == cr || j_hw ws [8, cr, dc, n, d]) && ((t == tc) || (t == 0 && tc == 3))
        | none => false
    | _ => true
  | .putfield i => match r.2.2.2 with
    | w :: cr :: t :: k :: ws :: fin :: al => al.all fun c => decide (c < 13) && match j_fq c k with
        | some (dc, n, d, f, tc) => j_hw w [0, j_ow M, i, cr, n, d] && (dc == cr || j_hw ws [8, cr, dc, n, d]) && (t == tc) && (if f then fin == 1 && (dc == j_ow M && decide ((j_ym M).name = "<init>")) else fin == 0)
        | none => false
    | _ => true
  | .getstatic i => match r.2.2.2 with
    | [w, 0] => j_hw w [0, j_ow M, i, 14, 88, 4]
    | [w, 1] => j_hw w [0, j_ow M, i, 16, 90, 14]
    | _ => true
  | .new i => match r.2.2.2 with
    | [w1, w2, w3, c] => decide (c < 13) && (j_hw w1 [9, j_ow M, i, c] && (j_hw w2 [10, c, j_nf c] && j_hw w3 [4, c]))
    | _ => true
  | .newarray a => match r.2.2.2 with
    | [w, t] => decide (t < 4) && (j_hw w [11, t] && decide (j_pt t = newarray.typeOf a))
    | _ => true
  | .anewarray i => match r.2.2.2 with
    | [w, _, c, t] => decide (4 ≤ t) && (decide (t < 7) && (c == j_arc t && j_hw w [9, j_ow M, i, c]))
    | _ => true
  | .aaload => r.2.2.2.all fun t => decide (4 ≤ t) && decide (t < 7)
  | .aastore => match r.2.2.2 with
    | t :: c :: l => decide (4 ≤ t) && (decide (t < 7) && (c == j_arc t && j_okpr c l))
    | _ => true
  | .instanceof i => match r.2.2.2 with
    | w :: c :: l => decide (c < 13) && (j_hw w [9, j_ow M, i, c] && j_okio c l)
    | _ => true
  | .invokestatic i => j_okc M 0 i r.2.2.2
  | .invokespecial i => j_okc M 1 i r.2.2.2
  | .invokevirtual i => j_okc M 2 i r.2.2.2
  | _ => true
theorem j_idFV : j_fs 87 = "value" ∧ j_es 5 = "[B" ∧ j_fs 89 = "coder" ∧ j_es 13 = "B" ∧ j_fs 88 = "COMPACT_STRINGS" ∧ j_es 4 = "Z" ∧ j_fs 90 = "SIOOBE_FORMATTER" ∧ j_es 14 = "Ljava/util/function/BiFunction;" ∧ j_cs 14 = "java/lang/String" ∧ j_cs 16 = "jdk/internal/util/Preconditions" ∧ j_cs 3 = "HatGoes$House" := ⟨rfl, rfl, rfl, rfl, rfl, rfl, rfl, rfl, rfl, rfl, rfl⟩
theorem j_tr_ref {E : j_E} {a : Nat} (h : ¬ a = 11) : j_tr E (.ref a) = .ref (j_ad E a) := if_neg h
theorem j_tr_rn {E : j_E} (hf : E.2.2.1 = .null ∨ ∃ a, E.2.2.1 = .ref a) (a : Nat) : j_tr E (.ref a) = .null ∨ ∃ z, j_tr E (.ref a) = .ref z := by
  by_cases h : a = 11
  · rw [show j_tr E (.ref a) = E.2.2.1 from if_pos h]; exact hf
  · exact Or.inr ⟨_, j_tr_ref h⟩
theorem j_b8 {c : Int} (h : (decide (-128 ≤ c) && decide (c ≤ 127)) = true) : (Int8.ofInt c).toInt32 = Int32.ofInt c := by
  simp only [Bool.and_eq_true, decide_eq_true_eq] at h
  apply Int32.toInt_inj.mp
  rw [Int8.toInt_toInt32, Int8.toInt_ofInt_of_le (by omega) (by omega), Int32.toInt_ofInt_of_le (by omega) (by omega)]
theorem j_b16 {c : Int} (h : (decide (-32768 ≤ c) && decide (c ≤ 32767)) = true) : (Int16.ofInt c).toInt32 = Int32.ofInt c := by
  simp only [Bool.and_eq_true, decide_eq_true_eq] at h
  apply Int32.toInt_inj.mp
  rw [Int16.toInt_toInt32, Int16.toInt_ofInt_of_le (by omega) (by omega), Int32.toInt_ofInt_of_le (by omega) (by omega)]
theorem j_lc (v : Fin 2) : Int64.ofNat (v : Nat) = Int64.ofInt ((v : Nat) : Int) := by
  match v with
  | 0 => rfl
  | 1 => rfl
theorem j_lv_iinc {E : j_E} (hf : E.2.2.1 = .null ∨ ∃ a, E.2.2.1 = .ref a) {ls ls1 : Array Slot} {nL : Nat} {loc : List Value} {i : Nat} {x y : Int32} (hl : lv_has ls nL (j_lv E 0 loc)) (hv : loc[i]? = some (.int x)) (h : lv_has ls1 nL ((i, .int y) :: (j_lv E 0 loc).filter (fun q => !(q.1 == i) && !(q.1 + 1 == i && q.2.category == 2)))) : lv_has ls1 nL (j_lv E 0 (loc.set i (.int y))) := by
  refine h.mono fun q hq => ?_
  obtain ⟨j, w, h1, h2, rfl⟩ := (j_lv_mem _ _ _).mp hq
  rw [Nat.zero_add]
  by_cases hj : j = i
  · subst hj
    rw [List.getElem?_set] at h1
    simp at h1
    rw [← h1.2]
    exact List.mem_cons_self
  · rw [List.getElem?_set_ne (Ne.symm hj)] at h1
    refine List.mem_cons_of_mem _ (List.mem_filter.mpr ⟨(j_lv_mem _ _ _).mpr ⟨j, w, h1, h2, by rw [Nat.zero_add]⟩, ?_⟩)
    simp only [Bool.and_eq_true, Bool.not_eq_true', beq_eq_false_iff_ne, ne_eq, Bool.and_eq_false_iff]
    refine ⟨hj, ?_⟩
    by_cases e : j + 1 = i
    · refine Or.inr fun e2 => ?_
      have g1 := hl.2.1.1 j (j_tr E w) (j_lv_get hl h1 h2) e2
      rw [e, j_lv_get hl hv rfl] at g1
      cases g1
    · exact Or.inl e
section JHEAP
variable {E : j_E}
theorem j_old_lt {H : j_H} (h : j_old E H) {a : Nat} (ha : a < 12) : (a < 5 ∧ j_sh H a = some (.inl 14)) ∨ (∃ i, i < 5 ∧ a = 5 + i ∧ j_sh H a = some (.inr (9, j_sln.getD i 0))) ∨ (a = 10 ∧ j_sh H a = some (.inr (8, E.2.2.2.2.2.2.1))) ∨ (a = 11 ∧ j_sh H a = some (.inr (7, 0))) := by
  obtain ⟨h1, h2, -, h4⟩ := h
  by_cases h5 : a < 5
  · exact Or.inl ⟨h5, (h1 a h5).1⟩
  · by_cases h10 : a < 10
    · refine Or.inr (Or.inl ⟨a - 5, by omega, by omega, ?_⟩)
      have := (h1 (a - 5) (by omega)).2.2.2.1
      rwa [show 5 + (a - 5) = a by omega] at this
    · by_cases e : a = 10
      · subst e
        exact Or.inr (Or.inr (Or.inl ⟨rfl, h2⟩))
      · have e : a = 11 := by omega
        subst e
        exact Or.inr (Or.inr (Or.inr ⟨rfl, h4⟩))
theorem j_ge_obj {H : j_H} (h : j_old E H) {a k : Nat} (hs : j_sh H a = some (.inl k)) (hk : k < 13) : 12 ≤ a := by
  refine Nat.not_lt.mp fun ha => ?_
  rcases j_old_lt h ha with ⟨-, q⟩ | ⟨i, -, -, q⟩ | ⟨-, q⟩ | ⟨-, q⟩ <;> rw [hs] at q <;> cases q
  omega
theorem j_ge_arr {H : j_H} (h : j_old E H) {a : Nat} {q : Nat × Nat} (hs : j_sh H a = some (.inr q)) (hk : q.1 < 7) : 12 ≤ a := by
  refine Nat.not_lt.mp fun ha => ?_
  rcases j_old_lt h ha with ⟨-, z⟩ | ⟨i, -, -, z⟩ | ⟨-, z⟩ | ⟨-, z⟩ <;> rw [hs] at z <;> cases z <;> omega
theorem j_ad_ge {a : Nat} (h : 12 ≤ a) : j_ad E a = E.1.size + (a - 12) := if_neg (Nat.not_lt.mpr h)
theorem j_ad_lt {a : Nat} (h : a < 12) : j_ad E a = E.2.1 a := if_pos h
theorem j_ad_ne {a b : Nat} (ha : 12 ≤ a) (hb : 12 ≤ b) (h : b ≠ a) : j_ad E b ≠ j_ad E a := by
  rw [j_ad_ge ha, j_ad_ge hb]; omega
theorem j_fv_same {H H' : j_H} {b : Nat} (hv : ∀ k, j_I H' b k = j_I H b k ∧ j_L H' b k = j_L H b k ∧ j_R H' b k = j_R H b k) (t k : Nat) : j_fv t H' b k = j_fv t H b k := by
  unfold j_fv; rw [(hv k).1, (hv k).2.1, (hv k).2.2]
theorem j_av_same {H H' : j_H} {b : Nat} (hv : ∀ k, j_I H' b k = j_I H b k ∧ j_L H' b k = j_L H b k ∧ j_R H' b k = j_R H b k) (t k : Nat) : j_av t H' b k = j_av t H b k := by
  unfold j_av; rw [(hv k).1, (hv k).2.1, (hv k).2.2]
theorem j_cell.same {H H' : j_H} {Hp Hp' : Heap} {b : Nat} {x : j_Sh} (h : j_cell E H b x Hp) (hv : ∀ k, j_I H' b k = j_I H b k ∧ j_L H' b k = j_L H b k ∧ j_R H' b k = j_R H b k) (hp : Hp'[j_ad E b]? = Hp[j_ad E b]?) : j_cell E H' b x Hp' := by
  cases x with
  | inl k =>
    obtain ⟨h1, h2⟩ := h
    exact ⟨h1, (h2.kept hp).to fun j _ => by rw [j_fv_same hv]⟩
  | inr q =>
    obtain ⟨h1, h2⟩ := h
    refine ⟨h1, ?_⟩
    rw [hp, h2]
    congr 2
    funext j
    rw [j_av_same hv]
theorem j_old.same {H H' : j_H} (h : j_old E H) (hs : ∀ a, a < 12 → j_sh H' a = j_sh H a) (hv : ∀ b k, b < 12 → j_I H' b k = j_I H b k ∧ j_L H' b k = j_L H b k ∧ j_R H' b k = j_R H b k) : j_old E H' := by
  obtain ⟨h1, h2, h3, h4⟩ := h
  refine ⟨fun i hi => ?_, by rw [hs 10 (by omega)]; exact h2, fun k hk => by rw [(hv 10 k (by omega)).1]; exact h3 k hk, by rw [hs 11 (by omega)]; exact h4⟩
  obtain ⟨g1, g2, g3, g4, g5⟩ := h1 i hi
  exact ⟨by rw [hs i (by omega)]; exact g1, by rw [(hv i 0 (by omega)).2.2]; exact g2, by rw [(hv i 1 (by omega)).1]; exact g3, by rw [hs (5 + i) (by omega)]; exact g4, fun k hk => by rw [(hv (5 + i) k (by omega)).1]; exact g5 k hk⟩
theorem j_Rel.upd {H H' : j_H} {Hp Hp' : Heap} {a : Nat} (h : j_Rel E H Hp) (ha : 12 ≤ a) (hs : H'.1 = H.1) (hv : ∀ b k, b ≠ a → j_I H' b k = j_I H b k ∧ j_L H' b k = j_L H b k ∧ j_R H' b k = j_R H b k)
    (e1 : Hp'.size = Hp.size) (e2 : ∀ q : Nat, q ≠ j_ad E a → Hp'[q]? = Hp[q]?) (hc : ∀ x, j_sh H a = some x → j_cell E H a x Hp → j_cell E H' a x Hp') : j_Rel E H' Hp' := by
  obtain ⟨h1, h2, h3, h4⟩ := h
  have hsh : ∀ b, j_sh H' b = j_sh H b := fun b => by unfold j_sh; rw [hs]
  refine ⟨by rw [e1, hs]; exact h1, fun q hq => ?_, h3.same (fun b _ => hsh b) (fun b k hb => hv b k (by omega)), fun b x hb hx => ?_⟩
  · rw [e2 q (by rw [j_ad_ge ha]; omega)]; exact h2 q hq
  · rw [hsh] at hx
    by_cases e : b = a
    · subst e
      exact hc x hx (h4 b x hb hx)
    · exact (h4 b x hb hx).same (fun k => hv b k e) (e2 _ (j_ad_ne ha hb e))
theorem j_Rel.lt {H : j_H} {Hp : Heap} (h : j_Rel E H Hp) {a : Nat} {x : j_Sh} (hx : j_sh H a = some x) : a < H.1.length := (List.getElem?_eq_some_iff.mp hx).1
theorem j_in {i : Int32} {n : Nat} (h : j_ib i n = true) : ¬ (i < 0 ∨ n ≤ i.toNatClampNeg) ∧ i.toNatClampNeg = j_ix i ∧ j_ix i < n := by
  unfold j_ib at h
  simp only [Bool.and_eq_true, decide_eq_true_eq] at h
  have e : i.toNatClampNeg = j_ix i := rfl
  have h3 : j_ix i < n := by unfold j_ix; omega
  refine ⟨?_, e, h3⟩
  rintro (q | q)
  · have := Int32.lt_iff_toInt_lt.mp q
    simp at this
    omega
  · rw [e] at q; omega
theorem j_ia_of {ts : List Nat} {H : j_H} {a : Nat} (h : j_ia ts H a = true) : ∃ t n, j_sh H a = some (.inr (t, n)) ∧ t ∈ ts ∧ j_ln H a = n := by
  unfold j_ia at h
  split at h
  · rename_i q hq
    refine ⟨q.1, q.2, hq, by simpa using h, ?_⟩
    unfold j_ln; rw [hq]
  · cases h
theorem j_oc_of {al : List Nat} {H : j_H} {a : Nat} (h : j_oc al H a = true) : ∃ k, j_sh H a = some (.inl k) ∧ k ∈ al := by
  unfold j_oc at h
  split at h
  · rename_i q hq
    exact ⟨q, hq, by simpa using h⟩
  · cases h
theorem j_up_ne {α : Type} {f : Nat → Nat → α} {a k b j : Nat} {v : α} (h : b ≠ a) : j_up f a k v b j = f b j := if_neg fun q => h q.1
theorem j_up_nk {α : Type} {f : Nat → Nat → α} {a k j : Nat} {v : α} (h : j ≠ k) : j_up f a k v a j = f a j := if_neg fun q => h q.2
theorem j_up_eq {α : Type} {f : Nat → Nat → α} {a k : Nat} {v : α} : j_up f a k v a k = v := if_pos ⟨rfl, rfl⟩
theorem j_tr_rf {r : Option Nat} (h : ∀ a, r = some a → a ≠ 11) : j_tr E (va_rf r) = va_rf (r.map (j_ad E)) := by
  cases r with
  | none => rfl
  | some a => exact j_tr_ref (h a rfl)
end JHEAP
section JHELP
theorem j_lk_eq (dflt x : Int) : ∀ l : List (Int × Int), Op.lookupswitch.offset l dflt x = j_lk dflt x l
  | [] => by rw [Op.lookupswitch.offset_nil]; rfl
  | (a, o) :: r => by
    rw [Op.lookupswitch.offset_cons, j_lk, j_lk_eq dflt x r]
    by_cases h : x = a
    · subst h; simp
    · rw [if_neg h, if_neg (fun q => h q.symm)]
theorem j_lk_ok {pc : Nat} {dflt : Int} (h1 : j_okt pc dflt = true) : ∀ (l : List (Int × Int)), l.all (fun q => j_okt pc q.2) = true → ∀ x, j_okt pc (j_lk dflt x l) = true
  | [], _, _ => h1
  | (a, o) :: r, h, x => by
    rw [List.all_cons, Bool.and_eq_true] at h
    rw [j_lk]
    split
    · exact h.1
    · exact j_lk_ok h1 r h.2 x
theorem j_narZ {x : Int32} (h : x = 0 ∨ x = 1) : narrow .boolean (.int x) = .int x := by rcases h with rfl | rfl <;> rfl
theorem j_put_len {t : Nat} {H H1 : j_H} {a k : Nat} {v : Value} (h : j_put t H a k v = some H1) : H1.1 = H.1 := by
  unfold j_put at h
  split at h
  · split at h
    · cases h; rfl
    · split at h
      · split at h
        · cases h; rfl
        · cases h
      · cases h
  · split at h
    · cases h; rfl
    · cases h
  · split at h
    · cases h; rfl
    · cases h
  · split at h
    · cases h; rfl
    · cases h
  · cases h
theorem j_put_sz {t : Nat} {H H1 : j_H} {a k : Nat} {v : Value} (h : j_put t H a k v = some H1) : j_sz H1 = j_sz H := by
  unfold j_sz; rw [j_put_len h]
theorem j_nw_len (H : j_H) (x : j_Sh) : (j_nw H x).1.length = H.1.length + 1 := by simp [j_nw]
theorem j_nw_sz (H : j_H) (x : j_Sh) : j_sz (j_nw H x) = j_sz H + j_szs x := by simp [j_nw, j_sz]
theorem j_pr_ok {c k : Nat} : ∀ l : List Nat, j_okpr c l = true → j_pr k l = true → k < 13 ∧ (k = c ∨ (k, c) ∈ j_cx)
  | [], _, h => by simp [j_pr] at h
  | [_], _, h => by simp [j_pr] at h
  | s :: _ :: l, h1, h2 => by
    rw [j_okpr] at h1
    rw [j_pr] at h2
    simp only [Bool.and_eq_true, Bool.or_eq_true, decide_eq_true_eq, beq_iff_eq] at h1 h2
    rcases h2 with h2 | h2
    · subst h2
      refine ⟨h1.1.1, ?_⟩
      rcases h1.1.2 with h | h
      · exact Or.inl h
      · exact Or.inr (by simpa [j_inl] using h)
    · exact j_pr_ok l h1.2 h2
theorem j_io_ok {c k : Nat} {b : Bool} : ∀ l : List Nat, j_okio c l = true → j_io k l = some b → k < 13 ∧ ((b = true ∧ (k = c ∨ (k, c) ∈ j_cx)) ∨ (b = false ∧ (k, c) ∈ j_nc))
  | [], _, h => by simp [j_io] at h
  | [_], _, h => by simp [j_io] at h
  | [_, _], _, h => by simp [j_io] at h
  | s :: r :: _ :: l, h1, h2 => by
    rw [j_okio] at h1
    rw [j_io] at h2
    simp only [Bool.and_eq_true, Bool.or_eq_true, decide_eq_true_eq, beq_iff_eq] at h1
    obtain ⟨⟨h1, h3⟩, h4⟩ := h1
    split at h2
    · rename_i e
      subst e
      cases h2
      refine ⟨h1, ?_⟩
      rcases h3 with (⟨rfl, rfl⟩ | ⟨rfl, h3⟩) | ⟨rfl, h3⟩
      · exact Or.inl ⟨rfl, Or.inl rfl⟩
      · exact Or.inl ⟨rfl, Or.inr (by simpa [j_inl] using h3)⟩
      · exact Or.inr ⟨rfl, by simpa [j_nin] using h3⟩
    · exact j_io_ok l h4 h2
theorem j_aty_ref {t : Nat} (h1 : 4 ≤ t) (h2 : t < 7) : ∃ C, j_aty t = .object C := by
  rcases (show t = 4 ∨ t = 5 ∨ t = 6 by omega) with rfl | rfl | rfl <;> exact ⟨_, rfl⟩
theorem j_aty_arc {t : Nat} (h1 : 4 ≤ t) (h2 : t < 7) : j_aty t = .object (j_cs (j_arc t)) := by
  rcases (show t = 4 ∨ t = 5 ∨ t = 6 by omega) with rfl | rfl | rfl <;> rfl
theorem j_avI {t : Nat} (h : ¬ (t = 1 ∨ t = 4 ∨ t = 5 ∨ t = 6)) {H : j_H} {a i k : Nat} {x : Int32} : j_av t (j_sI H a i x) a k = if k = i then .int x else j_av t H a k := by
  have h1 : ¬ t = 1 := by omega
  have h2 : ¬ (t = 4 ∨ t = 5 ∨ t = 6) := by omega
  unfold j_av
  simp only [if_neg h1, if_neg h2]
  by_cases e : k = i
  · subst e
    rw [if_pos rfl]
    exact congrArg Value.int j_up_eq
  · rw [if_neg e]
    exact congrArg Value.int (j_up_nk e)
theorem j_avL {H : j_H} {a i k : Nat} {x : Int64} : j_av 1 (j_sL H a i x) a k = if k = i then .long x else j_av 1 H a k := by
  unfold j_av
  rw [if_pos rfl, if_pos rfl]
  by_cases e : k = i
  · subst e
    rw [if_pos rfl]
    exact congrArg Value.long j_up_eq
  · rw [if_neg e]
    exact congrArg Value.long (j_up_nk e)
theorem j_avR {t : Nat} (h : t = 4 ∨ t = 5 ∨ t = 6) {H : j_H} {a i k : Nat} {r : Option Nat} : j_av t (j_sR H a i r) a k = if k = i then va_rf r else j_av t H a k := by
  have h1 : ¬ t = 1 := by omega
  unfold j_av
  simp only [if_neg h1, if_pos h]
  by_cases e : k = i
  · subst e
    rw [if_pos rfl]
    exact congrArg va_rf j_up_eq
  · rw [if_neg e]
    exact congrArg va_rf (j_up_nk e)
variable {E : j_E}
theorem j_locs {locs : List Loc} (h : ∀ q ∈ locs, E.1.size ≤ q.base) {a i : Nat} (ha : 12 ≤ a) : ∀ q ∈ locs ++ [⟨j_ad E a, i⟩], E.1.size ≤ q.base := by
  intro q hq
  rcases List.mem_append.mp hq with hq | hq
  · exact h q hq
  · rw [List.mem_singleton] at hq
    subst hq
    show E.1.size ≤ j_ad E a
    rw [j_ad_ge ha]
    omega
theorem j_arrOf {H : j_H} {Hp : Heap} {a t n : Nat} (hR : j_Rel E H Hp) (hq : j_sh H a = some (.inr (t, n))) (ht : t < 7) : 12 ≤ a ∧ Hp[j_ad E a]? = some (arrV (j_cA E t) n (fun k => j_tr E (j_av t H a k))) := by
  have ha := j_ge_arr hR.2.2.1 hq ht
  exact ⟨ha, (hR.2.2.2 a _ ha hq).2⟩
theorem j_Rel.arr {H H' : j_H} {Hp Hp' : Heap} {a t n : Nat} (hR : j_Rel E H Hp) (hq : j_sh H a = some (.inr (t, n))) (ht : t < 7) (i : Nat) (v : Value)
    (hv : ∀ b k, b ≠ a → j_I H' b k = j_I H b k ∧ j_L H' b k = j_L H b k ∧ j_R H' b k = j_R H b k) (hs : H'.1 = H.1)
    (e : Hp'[j_ad E a]? = some (arrV (j_cA E t) n (updV (fun k => j_tr E (j_av t H a k)) i (j_tr E v)))) (z : Hp'.size = Hp.size) (oq : ∀ q, q ≠ j_ad E a → Hp'[q]? = Hp[q]?)
    (hn : ∀ k, j_av t H' a k = if k = i then v else j_av t H a k) : j_Rel E H' Hp' := by
  refine hR.upd (j_ge_arr hR.2.2.1 hq ht) hs hv z oq fun x hx _ => ?_
  rw [hq] at hx
  cases hx
  refine ⟨ht, ?_⟩
  rw [e]
  congr 2
  funext k
  rw [hn]
  unfold updV
  by_cases ek : k = i
  · rw [if_pos ek, if_pos ek]
  · rw [if_neg ek, if_neg ek]
theorem j_Rel.nw {H : j_H} {Hp Hp' : Heap} (hR : j_Rel E H Hp) (x : j_Sh) (z : Hp'.size = Hp.size + 1) (oq : ∀ q, q < Hp.size → Hp'[q]? = Hp[q]?) (hc : j_ad E H.1.length = Hp.size → j_cell E (j_nw H x) H.1.length x Hp') : j_Rel E (j_nw H x) Hp' := by
  obtain ⟨h1, h2, h3, h4⟩ := hR
  have h12 : 12 ≤ H.1.length := by
    have := (List.getElem?_eq_some_iff.mp h3.2.2.2).1
    omega
  have had : j_ad E H.1.length = Hp.size := by rw [j_ad_ge h12]; omega
  have hv : ∀ b k, b ≠ H.1.length → j_I (j_nw H x) b k = j_I H b k ∧ j_L (j_nw H x) b k = j_L H b k ∧ j_R (j_nw H x) b k = j_R H b k := fun b k hb => ⟨if_neg hb, if_neg hb, if_neg hb⟩
  have hsh : ∀ b, b < H.1.length → j_sh (j_nw H x) b = j_sh H b := fun b hb => List.getElem?_append_left hb
  refine ⟨by rw [z, j_nw_len]; omega, fun q hq => by rw [oq q (by omega)]; exact h2 q hq, h3.same (fun a ha => hsh a (by omega)) (fun b k hb => hv b k (by omega)), fun a y ha hy => ?_⟩
  have hlt : a < (j_nw H x).1.length := (List.getElem?_eq_some_iff.mp hy).1
  rw [j_nw_len] at hlt
  by_cases e : a = H.1.length
  · subst e
    have : j_sh (j_nw H x) H.1.length = some x := by
      show (H.1 ++ [x])[H.1.length]? = some x
      simp
    rw [this] at hy
    cases hy
    exact hc had
  · rw [hsh a (by omega)] at hy
    refine (h4 a y ha hy).same (fun k => hv a k e) (oq _ ?_)
    rw [j_ad_ge ha]
    omega
variable {p : Program} {l : Launch} {e : Env} {R : Room} {s : State} {m : MethodId} {args : Array Value} {below : List Frame} {meth : Method} {c : Code} {Q : State → Prop} {M pc : Nat} {Hp : Heap} {ls : Array Slot} {locs : List Loc} {cells slots : Nat} {H : j_H} {st : List Value}
theorem j_getS {i w cr t kf a : Nat} (hx : p.tables.exec = Jvm.exec) (hb : c.code = j_by M) (hown : s.vm.findClass (j_cs (j_ow M)) = some m.cls) (hts : ∀ w ∈ j_W, w.before args s = true) (hK : j_K E s)
    (hd : decode (j_by M) pc = .ok (.getfield i, 3)) (hok : (cr == 14 && (kf == 0 && t == 2 && j_hw w [0, j_ow M, i, 14, 87, 5] || kf == 1 && t == 0 && j_hw w [0, j_ow M, i, 14, 89, 13])) = true) (hR : j_Rel E H Hp) (hq : j_sh H a = some (.inl 14))
    (k : W p l e R s m args below meth c Hp locs cells slots Q (F0 m (pc + 3) ls (j_tr E (j_fv t H a kf) :: st.map (j_tr E)))) : W p l e R s m args below meth c Hp locs cells slots Q (F0 m pc ls (.ref (j_ad E a) :: st.map (j_tr E))) := by
  obtain ⟨i1, i2, i3, i4, i5, i6, i7, i8, i9, i10, -⟩ := j_idFV
  have ha : a < 5 := by
    by_cases h12 : a < 12
    · rcases j_old_lt hR.2.2.1 h12 with ⟨h, -⟩ | ⟨j, -, -, q⟩ | ⟨-, q⟩ | ⟨-, q⟩
      · exact h
      all_goals rw [hq] at q; cases q
    · have := (hR.2.2.2 a _ (by omega) hq).1
      omega
  obtain ⟨-, hr0, hi1, -⟩ := hR.2.2.1.1 a ha
  obtain ⟨-, v1, v2, -⟩ := hK.2.2.2.1.1 a ha
  have hbound := hK.2.2.2.2.2.2.2.2.2.2.1
  rw [j_ad_lt (by omega)]
  simp only [Bool.and_eq_true, Bool.or_eq_true, beq_iff_eq] at hok
  obtain ⟨-, ⟨⟨rfl, rfl⟩, g⟩ | ⟨⟨rfl, rfl⟩, g⟩⟩ := hok
  · have hw := hts _ (j_hw_in g)
    simp only [j_w, i1, i2, i9] at hw
    obtain ⟨cf, kk, fi, f, cell, h1, h2, h3, h4, h5, -⟩ := v2
    rw [show j_fv 2 H a 0 = .ref (5 + a) by unfold j_fv; rw [if_neg (by omega), if_pos rfl, hr0]; rfl, j_tr_ref (by omega), j_ad_lt (by omega)] at k
    exact W.getf hx hb hown hw h1 h2 (by rw [hR.2.1 _ (hbound a (by omega))]; exact h3) h4 h5 rfl rfl hd k
  · have hw := hts _ (j_hw_in g)
    simp only [j_w, i3, i4, i9] at hw
    obtain ⟨cf, kk, fi, f, cell, h1, h2, h3, h4, h5, -⟩ := v1
    rw [show j_fv 0 H a 1 = .int 0 by unfold j_fv; rw [if_neg (by omega), if_neg (by omega), hi1]] at k
    exact W.getf hx hb hown hw h1 h2 (by rw [hR.2.1 _ (hbound a (by omega))]; exact h3) h4 h5 rfl rfl hd k
theorem j_Tq {q kf dc n d tc : Nat} {f : Bool} (hfq : j_fq q kf = some (dc, n, d, f, tc)) : j_T q kf = (j_cs dc, j_fs n, j_es d, f) := by unfold j_T; rw [hfq]
theorem j_same {dc cr n d ws : Nat} (hts : ∀ w ∈ j_W, w.before args s = true) (g2 : (dc == cr || j_hw ws [8, cr, dc, n, d]) = true) (x : ClassId × Class × Nat × Field) (h : s.fieldFound? (j_cs dc) (j_fs n) (j_es d) = some x) : s.fieldFound? (j_cs cr) (j_fs n) (j_es d) = some x := by
  rcases (Bool.or_eq_true _ _).mp g2 with q | q
  · have q : dc = cr := by simpa using q
    subst q
    exact h
  · exact u_same (args := args) (hts _ (j_hw_in q)) x h
theorem j_getO {i w cr t kf a q dc n d tc ws : Nat} {f : Bool} (hx : p.tables.exec = Jvm.exec) (hb : c.code = j_by M) (hown : s.vm.findClass (j_cs (j_ow M)) = some m.cls) (hts : ∀ w ∈ j_W, w.before args s = true) (hK : j_K E s)
    (hd : decode (j_by M) pc = .ok (.getfield i, 3)) (hR : j_Rel E H Hp) (hq : j_sh H a = some (.inl q)) (hq13 : q < 13) (hfq : j_fq q kf = some (dc, n, d, f, tc)) (g1 : j_hw w [0, j_ow M, i, cr, n, d] = true) (g2 : (dc == cr || j_hw ws [8, cr, dc, n, d]) = true) (g3 : (t == tc || t == 0 && tc == 3) = true)
    (k : W p l e R s m args below meth c Hp locs cells slots Q (F0 m (pc + 3) ls (j_tr E (j_fv t H a kf) :: st.map (j_tr E)))) : W p l e R s m args below meth c Hp locs cells slots Q (F0 m pc ls (.ref (j_ad E a) :: st.map (j_tr E))) := by
  have ha := j_ge_obj hR.2.2.1 hq hq13
  obtain ⟨-, cell, q1, q2, q3, q4⟩ := hR.2.2.2 a _ ha hq
  have hk := j_fq_lt hfq
  obtain ⟨hS, hfc, kC, hkC, hkind⟩ := hK.1 q hq13
  obtain ⟨cf, kf', fi, fd, hi, hsl⟩ := hS kf hk
  have hst := (u_facts (args := args) hfc hkC (u_lays hts (j_ws_in hq13) hk) hi).1
  have hT := j_Tq hfq
  rw [hT] at hi
  have e : j_fv t H a kf = j_fv (j_ft q kf) H a kf := by
    have e1 : j_ft q kf = tc := by unfold j_ft; rw [hfq]
    rw [e1]
    simp only [Bool.or_eq_true, Bool.and_eq_true, beq_iff_eq] at g3
    rcases g3 with rfl | ⟨rfl, rfl⟩
    · rfl
    · rfl
  rw [e] at k
  exact W.getf hx hb hown (hts _ (j_hw_in g1)) (j_same hts g2 _ hi) hst q1 (by rw [q3]; exact fun h => by cases h) (by rw [hsl]; exact q4 kf hk) rfl rfl hd k
theorem j_put_val {t : Nat} {H1 : j_H} {a kf : Nat} {v : Value} {ty : FieldType} (hf : E.2.2.1 = .null ∨ ∃ a, E.2.2.1 = .ref a) (hty : j_tyc t ty = true) (hput : j_put t H a kf v = some H1) :
    narrow ty (j_tr E v) = j_tr E v ∧ fits ty (j_tr E v) = true ∧ (∀ b k, b ≠ a → j_I H1 b k = j_I H b k ∧ j_L H1 b k = j_L H b k ∧ j_R H1 b k = j_R H b k) ∧ j_fv t H1 a kf = v ∧ ∀ (k' t' : Nat), k' ≠ kf → j_fv t' H1 a k' = j_fv t' H a k' := by
  have hrefty : t = 2 → (∃ C, ty = .object C) ∨ ∃ C, ty = .array C := by
    rintro rfl
    unfold j_tyc at hty
    rw [if_neg (by omega), if_neg (by omega), if_neg (by omega), if_pos rfl] at hty
    cases ty <;> first | exact Or.inl ⟨_, rfl⟩ | exact Or.inr ⟨_, rfl⟩ | (exact absurd hty (by decide))
  have hnr : t = 2 → ∀ u, (u = .null ∨ ∃ z, u = .ref z) → narrow ty u = u ∧ fits ty u = true := by
    intro ht u hu
    rcases hrefty ht with ⟨C, rfl⟩ | ⟨C, rfl⟩ <;> rcases hu with rfl | ⟨z, rfl⟩ <;> exact ⟨rfl, rfl⟩
  unfold j_put at hput
  split at hput
  · rename_i x
    split at hput
    · rename_i ht
      subst ht
      cases hput
      have : ty = .int := by simpa [j_tyc] using hty
      subst this
      exact ⟨rfl, rfl, fun b k hb => ⟨j_up_ne hb, rfl, rfl⟩, congrArg Value.int j_up_eq, fun k' t' hk => by
        unfold j_fv
        split
        · rfl
        · split
          · rfl
          · exact congrArg Value.int (j_up_nk hk)⟩
    · split at hput
      · rename_i ht
        subst ht
        split at hput
        · rename_i h01
          cases hput
          have : ty = .boolean := by simpa [j_tyc] using hty
          subst this
          refine ⟨j_narZ h01, by rcases h01 with rfl | rfl <;> rfl, fun b k hb => ⟨j_up_ne hb, rfl, rfl⟩, congrArg Value.int j_up_eq, fun k' t' hk => ?_⟩
          unfold j_fv
          split
          · rfl
          · split
            · rfl
            · exact congrArg Value.int (j_up_nk hk)
        · cases hput
      · cases hput
  · rename_i x
    split at hput
    · rename_i ht
      subst ht
      cases hput
      have : ty = .long := by simpa [j_tyc] using hty
      subst this
      exact ⟨rfl, rfl, fun b k hb => ⟨rfl, j_up_ne hb, rfl⟩, congrArg Value.long j_up_eq, fun k' t' hk => by
        unfold j_fv
        split
        · exact congrArg Value.long (j_up_nk hk)
        · rfl⟩
    · cases hput
  · rename_i x
    split at hput
    · rename_i ht
      subst ht
      cases hput
      have hz : j_tr E (.ref x) = .null ∨ ∃ z, j_tr E (.ref x) = .ref z := by
        by_cases h11 : x = 11
        · have : j_tr E (.ref x) = E.2.2.1 := if_pos h11
          rw [this]; exact hf
        · exact Or.inr ⟨_, j_tr_ref h11⟩
      exact ⟨(hnr rfl _ hz).1, (hnr rfl _ hz).2, fun b k hb => ⟨rfl, rfl, j_up_ne hb⟩, congrArg va_rf j_up_eq, fun k' t' hk => by
        unfold j_fv
        split
        · rfl
        · split
          · exact congrArg va_rf (j_up_nk hk)
          · rfl⟩
    · cases hput
  · split at hput
    · rename_i ht
      subst ht
      cases hput
      exact ⟨(hnr rfl _ (Or.inl rfl)).1, (hnr rfl _ (Or.inl rfl)).2, fun b k hb => ⟨rfl, rfl, j_up_ne hb⟩, congrArg va_rf j_up_eq, fun k' t' hk => by
        unfold j_fv
        split
        · rfl
        · split
          · exact congrArg va_rf (j_up_nk hk)
          · rfl⟩
    · cases hput
  · cases hput
theorem j_putO {i w cr t kf a q dc n d ws fin : Nat} {f : Bool} {v : Value} {H1 : j_H} (hx : p.tables.exec = Jvm.exec) (hb : c.code = j_by M) (hf : E.2.2.1 = .null ∨ ∃ a, E.2.2.1 = .ref a) (hown : s.vm.findClass (j_cs (j_ow M)) = some m.cls) (hts : ∀ w ∈ j_W, w.before args s = true) (hK : j_K E s) (hname : meth.name = (j_ym M).name)
    (hd : decode (j_by M) pc = .ok (.putfield i, 3)) (hR : j_Rel E H Hp) (hq : j_sh H a = some (.inl q)) (hq13 : q < 13) (hfq : j_fq q kf = some (dc, n, d, f, t)) (g1 : j_hw w [0, j_ow M, i, cr, n, d] = true) (g2 : (dc == cr || j_hw ws [8, cr, dc, n, d]) = true)
    (g4 : (if f = true then fin == 1 && (dc == j_ow M && decide ((j_ym M).name = "<init>")) else fin == 0) = true) (hput : j_put t H a kf v = some H1)
    (k : ∀ (Hp1 : Heap) (locs1 : List Loc), j_Rel E H1 Hp1 → (∀ q ∈ locs1, E.1.size ≤ q.base) → W p l e R s m args below meth c Hp1 locs1 cells slots Q (F0 m (pc + 3) ls (st.map (j_tr E)))) (hlo : ∀ q ∈ locs, E.1.size ≤ q.base) : W p l e R s m args below meth c Hp locs cells slots Q (F0 m pc ls (j_tr E v :: .ref (j_ad E a) :: st.map (j_tr E))) := by
  have ha := j_ge_obj hR.2.2.1 hq hq13
  obtain ⟨-, cell, q1, q2, q3, q4⟩ := hR.2.2.2 a _ ha hq
  have hk := j_fq_lt hfq
  have hap : ∀ x y, x < j_nf q → y < j_nf q → x ≠ y → j_dI E q x ≠ j_dI E q y := by
    intro x y hx hy hne
    obtain ⟨hS, -⟩ := hK.1 q hq13
    obtain ⟨_, _, _, fa, hia, ea⟩ := hS x hx
    obtain ⟨_, _, _, fb, hib, eb⟩ := hS y hy
    rw [← ea, ← eb]
    refine u_apart (args := args) (u_lays hts (j_ws_in hq13) hx) (u_lays hts (j_ws_in hq13) hy) hia hib ?_
    rw [(State.fieldFound?_type hia (j_tyf_ok q hq13 x hx)).1, (State.fieldFound?_type hib (j_tyf_ok q hq13 y hy)).1]
    exact j_nm_ok q hq13 x hx y hy hne
  obtain ⟨hS, hfc, kC, hkC, hkind⟩ := hK.1 q hq13
  obtain ⟨cf, kf', fi, fd, hi, hsl⟩ := hS kf hk
  have hlay := hts _ (j_ws_in hq13 _ (u_in_lay hk))
  have hst := (u_facts (args := args) hfc hkC (u_lays hts (j_ws_in hq13) hk) hi).1
  have hT := j_Tq hfq
  have htc : j_ft q kf = t := by unfold j_ft; rw [hfq]
  have hdesc := j_tyf_ok q hq13 kf hk
  obtain ⟨v1, v2, v3, v4, v5⟩ := j_put_val hf (by rw [← htc]; exact j_tyf_tc q hq13 kf hk) hput
  have fin_ : ∀ (H' : Heap), H'[j_ad E a]? = some (cell.setSlot fd.slot (j_tr E v)) → H'.size = Hp.size → (∀ z, z ≠ j_ad E a → H'[z]? = Hp[z]?) → j_Rel E H1 H' := by
    intro H' e1 e2 e3
    refine hR.upd ha (j_put_len hput) v3 e2 e3 fun x hx' _ => ?_
    rw [hq] at hx'
    cases hx'
    refine ⟨hq13, _, e1, q2, q3, fun j hj => ?_⟩
    have := t_set q4 hap hk (j_tr E v) j hj
    rw [← hsl] at this
    rw [this]
    unfold updV
    by_cases ej : j = kf
    · subst ej
      rw [if_pos rfl]
      show some _ = some (j_tr E (j_fv (j_ft q j) H1 a j))
      rw [htc, v4]
    · rw [if_neg ej]
      show some (j_tr E (j_fv (j_ft q j) H a j)) = some (j_tr E (j_fv (j_ft q j) H1 a j))
      rw [v5 j _ ej]
  unfold u_lay at hlay
  rw [hT] at hi hlay hdesc
  by_cases hfin : f = true
  · subst hfin
    rw [if_pos rfl] at hlay g4
    simp only [Bool.and_eq_true, beq_iff_eq, decide_eq_true_eq] at g4
    obtain ⟨-, hdown, hinit⟩ := g4
    have hcf : m.cls = cf := by
      obtain ⟨_, _, c', _, _, _, -, -, hf', -, -, -, hown2, -⟩ := Cond.laysFinal_spec hlay
      have e1 : c' = cf := by have := hi.symm.trans hf'; simp at this; exact this.1.symm
      dsimp only at hown2
      rw [hdown] at hown2
      rw [← e1]; exact Option.some.inj (hown.symm.trans hown2)
    have h6 := u_fits hfc hkC hkind (Or.inr hlay) hi hdesc v1 v2
    exact W.putFinK hx hb hown (hts _ (j_hw_in g1)) (j_same hts g2 _ hi) hst hcf (by rw [hname]; exact hinit) (by rw [q2]; exact h6) q1 q3 (by rw [hsl]; exact k2_hasslot (q4 kf hk)) rfl rfl hd fun H' e1 e2 e3 => k H' _ (fin_ H' e1 e2 e3) (j_locs hlo ha)
  · have hfin : f = false := by cases f <;> simp_all
    subst hfin
    rw [if_neg (fun z => Bool.noConfusion z)] at hlay
    have h6 := u_store hfc hkC hkind hlay hi hdesc v1 v2
    exact W.putK hx hb (f := fd) ⟨hown, hts _ (j_hw_in g1), ⟨_, _, _, j_same hts g2 _ hi⟩, hst⟩ (by rw [q2]; exact h6) q1 q3 (by rw [hsl]; exact k2_hasslot (q4 kf hk)) rfl rfl hd fun H' e1 e2 e3 => k H' _ (fin_ H' e1 e2 e3) (j_locs hlo ha)
theorem j_ofNat (n : Nat) : Int32.ofInt (n : Int) = Int32.ofNat n := by
  first | rfl | simp
theorem j_lenO {a t n : Nat} (hx : p.tables.exec = Jvm.exec) (hb : c.code = j_by M) (hK : j_K E s) (hd : decode (j_by M) pc = .ok (.arraylength, 1)) (hR : j_Rel E H Hp) (hq : j_sh H a = some (.inr (t, n))) (h7 : ¬ t = 7)
    (k : W p l e R s m args below meth c Hp locs cells slots Q (F0 m (pc + 1) ls (.int (Int32.ofInt (n : Int)) :: st.map (j_tr E)))) : W p l e R s m args below meth c Hp locs cells slots Q (F0 m pc ls ((.ref a :: st).map (j_tr E))) := by
  have hbound := hK.2.2.2.2.2.2.2.2.2.2.1
  rw [j_ofNat] at k
  by_cases h12 : a < 12
  · rcases j_old_lt hR.2.2.1 h12 with ⟨h, z⟩ | ⟨j, hj, rfl, z⟩ | ⟨rfl, z⟩ | ⟨h, z⟩
    · rw [hq] at z; cases z
    · rw [hq] at z
      cases z
      obtain ⟨-, -, -, cell, h1, h2, h3, h4, h5, h6, -⟩ := hK.2.2.2.1.1 j hj
      rw [List.map_cons, j_tr_ref (by omega), j_ad_lt (by omega)]
      exact W.alen hx hb (by rw [hR.2.1 _ (hbound (5 + j) (by omega))]; exact h1) h2 h5 rfl rfl hd k
    · rw [hq] at z
      cases z
      obtain ⟨scr, h1, h2, h3, h4, h5⟩ := hK.2.2.2.2.1
      rw [List.map_cons, j_tr_ref (by omega), j_ad_lt (by omega)]
      exact W.alen hx hb (by rw [hR.2.1 _ (hbound 10 (by omega))]; exact h1) h2 (by rw [h4]) rfl rfl hd k
    · rw [hq] at z
      cases z
      omega
  · obtain ⟨ht, hcell⟩ := hR.2.2.2 a _ (by omega) hq
    rw [List.map_cons, j_tr_ref (by omega)]
    exact W.alen hx hb hcell ((hK.2.1 t ht).1 n _) (by rw [arrV_size]) rfl rfl hd k
theorem j_iald {a t n : Nat} {ix : Int32} (hx : p.tables.exec = Jvm.exec) (hb : c.code = j_by M) (hK : j_K E s) (hd : decode (j_by M) pc = .ok (.iaload, 1)) (hR : j_Rel E H Hp) (hq : j_sh H a = some (.inr (t, n))) (ht : t = 0 ∨ t = 8) (hib : j_ib ix n = true)
    (k : W p l e R s m args below meth c Hp locs cells slots Q (F0 m (pc + 1) ls (.int (j_I H a (j_ix ix)) :: st.map (j_tr E)))) : W p l e R s m args below meth c Hp locs cells slots Q (F0 m pc ls ((.int ix :: .ref a :: st).map (j_tr E))) := by
  have hbound := hK.2.2.2.2.2.2.2.2.2.2.1
  obtain ⟨b1, b2, b3⟩ := j_in hib
  by_cases h12 : a < 12
  · rcases j_old_lt hR.2.2.1 h12 with ⟨h, z⟩ | ⟨j, hj, rfl, z⟩ | ⟨rfl, z⟩ | ⟨h, z⟩
    · rw [hq] at z; cases z
    · rw [hq] at z; cases z; omega
    · rw [hq] at z
      cases z
      obtain ⟨scr, h1, h2, h3, h4, h5⟩ := hK.2.2.2.2.1
      rw [List.map_cons, List.map_cons, j_tr_ref (by omega), j_ad_lt (by omega)]
      rw [hR.2.2.1.2.2.1 _ b3] at k
      exact W.iald hx hb (by rw [hR.2.1 _ (hbound 10 (by omega))]; exact h1) h2 h3 (by rw [h4]; exact b1) (h5 _ b3) rfl rfl hd k
    · rw [hq] at z; cases z; omega
  · obtain ⟨ht7, hcell⟩ := hR.2.2.2 a _ (by omega) hq
    obtain rfl : t = 0 := by dsimp only at ht7; omega
    rw [List.map_cons, List.map_cons, j_tr_ref (by omega)]
    exact W.iald hx hb hcell ((hK.2.1 0 (by omega)).1 n _) (fun q => by cases q) (by rw [arrV_size]; exact b1) (arrV_read _ _ b3) rfl rfl hd k
theorem j_lald {a n : Nat} {ix : Int32} (hx : p.tables.exec = Jvm.exec) (hb : c.code = j_by M) (hK : j_K E s) (hd : decode (j_by M) pc = .ok (.laload, 1)) (hR : j_Rel E H Hp) (hq : j_sh H a = some (.inr (1, n))) (hib : j_ib ix n = true)
    (k : W p l e R s m args below meth c Hp locs cells slots Q (F0 m (pc + 1) ls (.long (j_L H a (j_ix ix)) :: st.map (j_tr E)))) : W p l e R s m args below meth c Hp locs cells slots Q (F0 m pc ls ((.int ix :: .ref a :: st).map (j_tr E))) := by
  obtain ⟨b1, b2, b3⟩ := j_in hib
  obtain ⟨ha, hcell⟩ := j_arrOf hR hq (by omega)
  rw [List.map_cons, List.map_cons, j_tr_ref (by omega)]
  exact W.lald hx hb hcell ((hK.2.1 1 (by omega)).1 n _) (fun q => by cases q) (by rw [arrV_size]; exact b1) (arrV_read _ _ b3) rfl rfl hd k
theorem j_bald {a t n : Nat} {ix : Int32} (hx : p.tables.exec = Jvm.exec) (hb : c.code = j_by M) (hK : j_K E s) (hd : decode (j_by M) pc = .ok (.baload, 1)) (hR : j_Rel E H Hp) (hq : j_sh H a = some (.inr (t, n))) (ht : t = 2 ∨ t = 3 ∨ t = 9) (hib : j_ib ix n = true)
    (k : W p l e R s m args below meth c Hp locs cells slots Q (F0 m (pc + 1) ls (.int (j_I H a (j_ix ix)) :: st.map (j_tr E)))) : W p l e R s m args below meth c Hp locs cells slots Q (F0 m pc ls ((.int ix :: .ref a :: st).map (j_tr E))) := by
  have hbound := hK.2.2.2.2.2.2.2.2.2.2.1
  obtain ⟨b1, b2, b3⟩ := j_in hib
  by_cases h12 : a < 12
  · rcases j_old_lt hR.2.2.1 h12 with ⟨h, z⟩ | ⟨j, hj, rfl, z⟩ | ⟨rfl, z⟩ | ⟨h, z⟩
    · rw [hq] at z; cases z
    · rw [hq] at z
      cases z
      obtain ⟨-, -, -, cell, h1, h2, h3, h4, h5, h6, -⟩ := hK.2.2.2.1.1 j hj
      rw [List.map_cons, List.map_cons, j_tr_ref (by omega), j_ad_lt (by omega)]
      rw [(hR.2.2.1.1 j hj).2.2.2.2 _ b3] at k
      exact W.bald hx hb (by rw [hR.2.1 _ (hbound (5 + j) (by omega))]; exact h1) h2 h3 (fun q => b1 (q.imp_right fun z => Nat.le_trans h4 z)) (h6 _ b3) rfl rfl hd k
    · rw [hq] at z; cases z; omega
    · rw [hq] at z; cases z; omega
  · obtain ⟨ht7, hcell⟩ := hR.2.2.2 a _ (by omega) hq
    rw [List.map_cons, List.map_cons, j_tr_ref (by omega)]
    rcases ht with rfl | rfl | rfl
    · exact W.bald hx hb hcell ((hK.2.1 2 (by omega)).1 n _) (fun q => by cases q) (by rw [arrV_size]; exact b1) (arrV_read _ _ b3) rfl rfl hd k
    · exact W.zald hx hb hcell ((hK.2.1 3 (by omega)).1 n _) (fun q => by cases q) (by rw [arrV_size]; exact b1) (arrV_read _ _ b3) rfl rfl hd k
    · dsimp only at ht7; omega
theorem j_aald {a t n : Nat} {ix : Int32} (hx : p.tables.exec = Jvm.exec) (hb : c.code = j_by M) (hK : j_K E s) (hd : decode (j_by M) pc = .ok (.aaload, 1)) (hR : j_Rel E H Hp) (hq : j_sh H a = some (.inr (t, n))) (h1 : 4 ≤ t) (h2 : t < 7) (hib : j_ib ix n = true)
    (k : W p l e R s m args below meth c Hp locs cells slots Q (F0 m (pc + 1) ls (j_tr E (va_rf (j_R H a (j_ix ix))) :: st.map (j_tr E)))) : W p l e R s m args below meth c Hp locs cells slots Q (F0 m pc ls ((.int ix :: .ref a :: st).map (j_tr E))) := by
  obtain ⟨b1, b2, b3⟩ := j_in hib
  obtain ⟨ha, hcell⟩ := j_arrOf hR hq h2
  rw [List.map_cons, List.map_cons, j_tr_ref (by omega)]
  obtain ⟨C0, hC0⟩ := j_aty_ref h1 h2
  have hA := (hK.2.1 t h2).1 n (fun k => j_tr E (j_av t H a k))
  rw [hC0] at hA
  refine W.aald hx hb hcell hA rfl (fun q => by cases q) (by rw [arrV_size]; exact b1) (arrV_read _ _ b3) rfl rfl hd ?_
  rw [show j_tr E (j_av t H a ix.toNatClampNeg) = j_tr E (va_rf (j_R H a (j_ix ix))) by unfold j_av; rw [if_neg (by omega), if_pos (by omega)]; rfl]
  exact k
theorem j_asg {k q : Nat} (hK : j_K E s) (hk : k < 13) (h : k = q ∨ (k, q) ∈ j_cx) {comp : ClassId} (hq : s.vm.findClass (j_cs q) = some comp) : s.vm.assignable (j_dC E k) comp = true := by
  have hcls := (hK.1 k hk).2
  rcases h with rfl | h
  · have : comp = j_dC E k := Option.some.inj (hq.symm.trans hcls.1)
    rw [this]; exact va_assign hcls
  · exact vb_asgC (hK.2.2.2.2.2.2.2.2.1 (k, q) h) comp _ hq hcls.1
theorem j_aast {a t n v kv : Nat} {ix : Int32} (hx : p.tables.exec = Jvm.exec) (hb : c.code = j_by M) (hK : j_K E s) (hd : decode (j_by M) pc = .ok (.aastore, 1)) (hR : j_Rel E H Hp) (hq : j_sh H a = some (.inr (t, n))) (h1 : 4 ≤ t) (h2 : t < 7) (hib : j_ib ix n = true) (hv : j_sh H v = some (.inl kv)) (hkv : kv < 13 ∧ (kv = j_arc t ∨ (kv, j_arc t) ∈ j_cx))
    (k : ∀ (Hp1 : Heap) (locs1 : List Loc), j_Rel E (j_sR H a (j_ix ix) (some v)) Hp1 → (∀ q ∈ locs1, E.1.size ≤ q.base) → W p l e R s m args below meth c Hp1 locs1 cells slots Q (F0 m (pc + 1) ls (st.map (j_tr E)))) (hlo : ∀ q ∈ locs, E.1.size ≤ q.base) : W p l e R s m args below meth c Hp locs cells slots Q (F0 m pc ls ((.ref v :: .int ix :: .ref a :: st).map (j_tr E))) := by
  obtain ⟨b1, b2, b3⟩ := j_in hib
  obtain ⟨ha, hcell⟩ := j_arrOf hR hq h2
  have hva := j_ge_obj hR.2.2.1 hv hkv.1
  obtain ⟨-, cell, q1, q2, q3, -⟩ := hR.2.2.2 v _ hva hv
  rw [List.map_cons, List.map_cons, List.map_cons, j_tr_ref (show ¬ a = 11 by omega), j_tr_ref (show ¬ v = 11 by omega)]
  have hAt := (hK.2.1 t h2).2
  rw [j_aty_arc h1 h2] at hAt
  obtain ⟨kA, comp, k1, k2, k3, -⟩ := hAt
  obtain ⟨kC, hkC, -⟩ := (hK.1 kv hkv.1).2.2
  obtain ⟨kE, hkE, -⟩ := Vm.findClass_spec k3
  refine W.aast hx hb hcell (fun q h => by cases h) (fun h => by cases h) k1 k2 rfl hkE ⟨fun q => b1 (Or.inl q), by rw [arrV_size]; exact b3⟩ q1 (fun q h => by rw [q3] at h; cases h) (by rw [q2]; exact hkC) (by rw [q2]; exact j_asg hK hkv.1 hkv.2 k3) rfl rfl hd fun H1 e z oq => ?_
  refine k _ _ (j_Rel.arr hR hq h2 (j_ix ix) (.ref v) (fun b kk hb => ⟨rfl, rfl, j_up_ne hb⟩) rfl (by rw [e, arrV_store, j_tr_ref (show ¬ v = 11 by omega)]; rfl) z oq (fun kk => ?_)) (j_locs hlo ha)
  exact j_avR (r := some v) (by omega)
theorem j_newO {i w1 w2 w3 c0 : Nat} (hx : p.tables.exec = Jvm.exec) (hb : c.code = j_by M) (hown : s.vm.findClass (j_cs (j_ow M)) = some m.cls) (hts : ∀ w ∈ j_W, w.before args s = true) (hK : j_K E s) (hd : decode (j_by M) pc = .ok (.new i, 3)) (hR : j_Rel E H Hp)
    (o1 : c0 < 13) (o2 : j_hw w1 [9, j_ow M, i, c0] = true) (o3 : j_hw w2 [10, c0, j_nf c0] = true) (o4 : j_hw w3 [4, c0] = true) (r1 : cells + 1 ≤ R.cells) (r2 : slots + j_nf c0 ≤ R.slots)
    (k : ∀ (Hp1 : Heap), j_Rel E (j_nw H (.inl c0)) Hp1 → W p l e R s m args below meth c Hp1 locs (cells + 1) (slots + j_nf c0) Q (F0 m (pc + 3) ls ((.ref H.1.length :: st).map (j_tr E)))) : W p l e R s m args below meth c Hp locs cells slots Q (F0 m pc ls (st.map (j_tr E))) := by
  have hKn := hK.1 c0 o1
  have h12 : 12 ≤ H.1.length := by
    have := (List.getElem?_eq_some_iff.mp hR.2.2.1.2.2.2).1
    omega
  have hz := hR.1
  have had : j_ad E H.1.length = Hp.size := by rw [j_ad_ge h12]; omega
  refine W.newcK hx hb hown (hts _ (j_hw_in o2)) (hts _ (j_hw_in o3)) (hts _ (j_hw_in o4)) rfl hd r1 r2 hKn.2.1 rfl fun H1 kC hkC e1 z1 q1 => ?_
  have k := k H1 (hR.nw (.inl c0) z1 q1 fun had => ⟨o1, by
    rw [had]
    refine (u_born (j_tyf c0) hts (j_ws_in o1) hKn hkC e1 (j_tyf_ok c0 o1)).to fun j hj => ?_
    have ht := j_tyf_tc c0 o1 j hj
    have ei : j_I (j_nw H (.inl c0)) H.1.length j = 0 := if_pos rfl
    have el : j_L (j_nw H (.inl c0)) H.1.length j = 0 := if_pos rfl
    have er : j_R (j_nw H (.inl c0)) H.1.length j = none := if_pos rfl
    unfold j_fv
    rw [ei, el, er]
    revert ht
    generalize j_ft c0 j = t
    generalize j_tyf c0 j = ty
    intro ht
    unfold j_tyc at ht
    split at ht
    · rename_i h0; subst h0; rw [of_decide_eq_true ht]; rfl
    · split at ht
      · rename_i h0; subst h0; rw [of_decide_eq_true ht]; rfl
      · split at ht
        · rename_i h0; subst h0; rw [of_decide_eq_true ht]; rfl
        · split at ht
          · rename_i h0
            subst h0
            cases ty <;> first | rfl | (exact absurd ht (by decide))
          · cases ht⟩)
  rw [List.map_cons, j_tr_ref (by omega), had] at k
  exact k
theorem j_newA {w t : Nat} {at0 : ArrayType} {n : Int32} (hx : p.tables.exec = Jvm.exec) (hb : c.code = j_by M) (hts : ∀ w ∈ j_W, w.before args s = true) (hK : j_K E s) (hd : decode (j_by M) pc = .ok (.newarray at0, 2)) (hR : j_Rel E H Hp)
    (o1 : t < 4) (o2 : j_hw w [11, t] = true) (o3 : j_pt t = newarray.typeOf at0) (hn : 0 ≤ n.toInt ∧ n.toInt ≤ 1000) (r1 : cells + 1 ≤ R.cells) (r2 : slots + j_ix n ≤ R.slots)
    (k : ∀ (Hp1 : Heap), j_Rel E (j_nw H (.inr (t, j_ix n))) Hp1 → W p l e R s m args below meth c Hp1 locs (cells + 1) (slots + j_ix n) Q (F0 m (pc + 2) ls ((.ref H.1.length :: st).map (j_tr E)))) : W p l e R s m args below meth c Hp locs cells slots Q (F0 m pc ls ((.int n :: st).map (j_tr E))) := by
  have h12 : 12 ≤ H.1.length := by
    have := (List.getElem?_eq_some_iff.mp hR.2.2.1.2.2.2).1
    omega
  have hz := hR.1
  have had : j_ad E H.1.length = Hp.size := by rw [j_ad_ge h12]; omega
  have hw : (Cond.arrayClass (newarray.typeOf at0)).before args s = true := by rw [← o3]; exact hts _ (j_hw_in o2)
  have hnn : ¬ n < 0 := fun q => by
    have := Int32.lt_iff_toInt_lt.mp q
    simp at this
    omega
  have hcb : componentBytes (newarray.typeOf at0) ≤ 8 := by cases at0 <;> decide
  have hix : j_ix n ≤ 1000 := by unfold j_ix; omega
  refine va_newaK hx hb hw rfl hd rfl hnn (N := j_ix n) rfl (Nat.le_trans (Nat.mul_le_mul hix hcb) (by decide)) r1 r2 rfl fun H1 cA' e1 z1 q1 hAr hNm => ?_
  have hcA : cA' = j_cA E t := by
    have h2 := (hK.2.1 t (by omega)).2
    rw [← o3] at hNm
    rcases (show t = 0 ∨ t = 1 ∨ t = 2 ∨ t = 3 by omega) with rfl | rfl | rfl | rfl <;> exact Option.some.inj (hNm.symm.trans h2)
  subst hcA
  have k := k H1 (hR.nw (.inr (t, j_ix n)) z1 q1 fun had => ⟨by show t < 7; omega, by
    rw [had, e1]
    congr 2
    funext j
    rw [← o3]
    have ei : j_I (j_nw H (.inr (t, j_ix n))) H.1.length j = 0 := if_pos rfl
    have el : j_L (j_nw H (.inr (t, j_ix n))) H.1.length j = 0 := if_pos rfl
    show _ = j_tr E (j_av t _ _ _)
    unfold j_av
    rw [ei, el]
    rcases (show t = 0 ∨ t = 1 ∨ t = 2 ∨ t = 3 by omega) with rfl | rfl | rfl | rfl <;> rfl⟩)
  rw [List.map_cons, j_tr_ref (by omega), had] at k
  exact k
theorem j_newR {i w t : Nat} {n : Int32} (hx : p.tables.exec = Jvm.exec) (hb : c.code = j_by M) (hown : s.vm.findClass (j_cs (j_ow M)) = some m.cls) (hts : ∀ w ∈ j_W, w.before args s = true) (hK : j_K E s) (hd : decode (j_by M) pc = .ok (.anewarray i, 3)) (hR : j_Rel E H Hp)
    (o1 : 4 ≤ t) (o2 : t < 7) (o3 : j_hw w [9, j_ow M, i, j_arc t] = true) (hn : 0 ≤ n.toInt ∧ n.toInt ≤ 1000) (r1 : cells + 1 ≤ R.cells) (r2 : slots + j_ix n ≤ R.slots)
    (k : ∀ (Hp1 : Heap), j_Rel E (j_nw H (.inr (t, j_ix n))) Hp1 → W p l e R s m args below meth c Hp1 locs (cells + 1) (slots + j_ix n) Q (F0 m (pc + 3) ls ((.ref H.1.length :: st).map (j_tr E)))) : W p l e R s m args below meth c Hp locs cells slots Q (F0 m pc ls ((.int n :: st).map (j_tr E))) := by
  have h12 : 12 ≤ H.1.length := by
    have := (List.getElem?_eq_some_iff.mp hR.2.2.1.2.2.2).1
    omega
  have hz := hR.1
  have had : j_ad E H.1.length = Hp.size := by rw [j_ad_ge h12]; omega
  have hnn : ¬ n < 0 := fun q => by
    have := Int32.lt_iff_toInt_lt.mp q
    simp at this
    omega
  have hix : j_ix n ≤ 1000 := by unfold j_ix; omega
  have hA := (hK.2.1 t o2).2
  rw [j_aty_arc o1 o2] at hA
  obtain ⟨kA0, comp0, k1, k2, k3, k4⟩ := hA
  have hao := va_AO.use (A := args) (hK.2.2.2.2.2.2.2.1 (j_arc t) (by rcases (show t = 4 ∨ t = 5 ∨ t = 6 by omega) with rfl | rfl | rfl <;> decide))
  refine W.anew hx hb hown (hts _ (j_hw_in o3)) hao rfl hd rfl hnn (by show j_ix n * 4 ≤ _; omega) r1 r2 fun cA' kA comp f1 f2 f3 f4 => ?_
  have hcA : cA' = j_cA E t := Option.some.inj (f1.symm.trans k4)
  subst hcA
  rw [arrV_new]
  have k := k (Hp.push (arrV (j_cA E t) n.toNatClampNeg (fun _ => .null))) (hR.nw (.inr (t, j_ix n)) (by simp) (fun q hq => by rw [Array.getElem?_push, if_neg (Nat.ne_of_lt hq)]) fun had => ⟨o2, by
    rw [had, Array.getElem?_push_size]
    have er : ∀ j, j_R (j_nw H (.inr (t, j_ix n))) H.1.length j = none := fun j => if_pos rfl
    show some (arrV _ (j_ix n) _) = some (arrV _ (j_ix n) _)
    congr 2
    funext j
    show _ = j_tr E (j_av t _ _ _)
    unfold j_av
    rw [er, if_neg (by omega), if_pos (by omega)]
    rfl⟩)
  rw [List.map_cons, j_tr_ref (by omega), had] at k
  exact k
theorem j_inst {i w c0 a ca : Nat} {b : Bool} (hx : p.tables.exec = Jvm.exec) (hb : c.code = j_by M) (hown : s.vm.findClass (j_cs (j_ow M)) = some m.cls) (hts : ∀ w ∈ j_W, w.before args s = true) (hK : j_K E s) (hd : decode (j_by M) pc = .ok (.instanceof i, 3)) (hR : j_Rel E H Hp) (hca : j_sh H a = some (.inl ca))
    (o1 : c0 < 13) (o2 : j_hw w [9, j_ow M, i, c0] = true) (ho : ca < 13 ∧ ((b = true ∧ (ca = c0 ∨ (ca, c0) ∈ j_cx)) ∨ (b = false ∧ (ca, c0) ∈ j_nc)))
    (k : W p l e R s m args below meth c Hp locs cells slots Q (F0 m (pc + 3) ls (.int (if b then 1 else 0) :: st.map (j_tr E)))) : W p l e R s m args below meth c Hp locs cells slots Q (F0 m pc ls ((.ref a :: st).map (j_tr E))) := by
  have ha := j_ge_obj hR.2.2.1 hca ho.1
  obtain ⟨-, cell, q1, q2, q3, -⟩ := hR.2.2.2 a _ ha hca
  rw [List.map_cons, j_tr_ref (by omega)]
  have hcls := (hK.1 ca ho.1).2
  have hr : ∃ cell : Cell, Hp[j_ad E a]? = some cell ∧ cell.vm.isStatics = false ∧ s.vm.findClass (j_cs ca) = some cell.cls := ⟨cell, q1, by rw [q3]; rfl, by rw [q2]; exact hcls.1⟩
  rcases ho.2 with ⟨rfl, rfl | h⟩ | ⟨rfl, h⟩
  · exact va_instS hx hb hown (hts _ (j_hw_in o2)) hcls hr hd k
  · exact va_instY hx hb hown (hts _ (j_hw_in o2)) (hK.2.2.2.2.2.2.2.2.1 (ca, c0) h) hr hd k
  · exact va_instNo hx hb hown (hts _ (j_hw_in o2)) (hK.2.2.2.2.2.2.2.2.2.1 (ca, c0) h) hr hd k
end JHELP
section JSTEP
variable {p : Program} {l : Launch} {e : Env} {R : Room} {s : State} {m : MethodId} {args : Array Value} {below : List Frame} {meth : Method} {c : Code} {Q : State → Prop} {E : j_E} {M n0 z0 : Nat}
/-- from here the machine goes on well -/
def j_Go (p : Program) (l : Launch) (e : Env) (R : Room) (s : State) (m : MethodId) (args : Array Value) (below : List Frame) (meth : Method) (c : Code) (Q : State → Prop) (E : j_E) (M n0 z0 pc : Nat) (loc stk : List Value) (H : j_H) : Prop :=
  ∀ (Hp : Heap) (ls : Array Slot) (locs : List Loc) (cells slots : Nat), j_Rel E H Hp → lv_has ls (j_ml M) (j_lv E 0 loc) → loc.length = j_ml M → (∀ q ∈ locs, E.1.size ≤ q.base) → cells + n0 = H.1.length → slots + z0 = j_sz H →
    W p l e R s m args below meth c Hp locs cells slots Q (F0 m pc ls (stk.map (j_tr E)))
theorem j_cat_tr (hf : E.2.2.1 = .null ∨ ∃ a, E.2.2.1 = .ref a) (st : List Value) : ((st.map (j_tr E)).map Value.category).sum = j_cat st := by
  unfold j_cat
  rw [List.map_map]
  congr 1
  exact List.map_congr_left fun v _ => j_tr_cat hf v
theorem j_names : j_ym j_oi = Lib.objectInit ∧ j_ym j_ac = arraycopyName ∧ j_cs 20 = "java/lang/System" := ⟨rfl, rfl, rfl⟩
theorem j_ibn {i : Int32} (h : 0 ≤ i.toInt) : ¬ i < 0 := fun q => by
  have := Int32.lt_iff_toInt_lt.mp q
  simp at this
  omega
/-- arraycopy, over whole cells -/
theorem j_copyW {i a b t na nb : Nat} {pc : Nat} {Hp : Heap} {ls : Array Slot} {locs : List Loc} {cells slots : Nat} {rest : List Value} {sp dp n : Int32} {f g : Nat → Value} (hx : p.tables.exec = Jvm.exec) (hb : c.code = j_by M) (hml : c.maxLocals = ls.size) (hR1 : 1 ≤ R.frames) (hR2 : 60 ≤ R.locals) (hown : s.vm.findClass (j_cs (j_ow M)) = some m.cls)
    (hlink : (Cond.methodLink (j_cs (j_ow M)) i arraycopyName).before args s = true) (hnat : (Cond.native arraycopyName).before args s = true) (hstat : (Cond.static arraycopyName).before args s = true) (hini : (Cond.initialized "java/lang/System").before args s = true) (hK : j_K E s)
    (ht : t = 0 ∨ t = 1) (ha : Hp[a]? = some (arrV (j_cA E t) na f)) (hbb : Hp[b]? = some (arrV (j_cA E t) nb g)) (hfit : ∀ k, fits (j_aty t) (f k) = true) (hval : ∀ (T : State) (comp : ClassId) (k : Nat), T.takes comp (f k))
    (h1 : 0 ≤ sp.toInt) (h2 : 0 ≤ dp.toInt) (h3 : 0 ≤ n.toInt) (h4 : j_ix sp + j_ix n ≤ na) (h5 : j_ix dp + j_ix n ≤ nb) (hrest : (rest.map fun v => v.category).sum ≤ 8) (hd : decode (j_by M) pc = .ok (.invokestatic i, 3))
    (kk : ∀ (H1 : Heap) (locs1 : List Loc), H1[b]? = some (arrV (j_cA E t) nb (fun k => va_cpy f g (j_ix sp) (j_ix dp) (j_ix n) k)) → H1.size = Hp.size → (∀ q, q ≠ b → H1[q]? = Hp[q]?) → (∀ q ∈ locs1, q ∈ locs ∨ q.base = b) → W p l e R s m args below meth c H1 locs1 cells slots Q (F0 m (pc + 3) ls rest)) :
    W p l e R s m args below meth c Hp locs cells slots Q (F0 m pc ls (.int n :: .int dp :: .ref b :: .int sp :: .ref a :: rest)) := by
  have hA := (hK.2.1 t (by omega)).1
  obtain ⟨-, k0, hk0, cm0, hkk0⟩ := hA na f
  obtain ⟨-, k1, hk1, cm1, hkk1⟩ := hA nb g
  have hprim : refKind (j_aty t) = false := by rcases ht with rfl | rfl <;> rfl
  have hnw : nativeFrameWords "java/lang/System" "arraycopy" 5 ≤ 40 := by decide
  intro T hT X
  obtain ⟨vm', X', step⟩ := X.arraycopy hx hown hlink hnat hstat hini (src := a) (dst := b) (cs := arrV (j_cA E t) na f) (cd := arrV (j_cA E t) nb g) (srcPos := sp) (destPos := dp) (n := n) (by rw [hT]; exact ha) (by rw [hT]; exact hbb)
    (fun _ h => by cases h) (fun _ h => by cases h) (fun h => by cases h) (fun h => by cases h) hk0 hk1 hkk0 hkk1 (by simp [hprim]) (j_ibn h1) (j_ibn h2) (j_ibn h3)
    (by rw [arrV_size]; unfold j_ix at h4; omega)
    (by rw [arrV_size]; unfold j_ix at h5; omega)
    (fun vm₁ _ k hk => by
      have hk : k < j_ix n := hk
      have e : (arrV (j_cA E t) na f).slots.getD (sp.toNatClampNeg + k) .null = f (j_ix sp + k) := by
        rw [Array.getD_eq_getD_getElem?, show sp.toNatClampNeg = j_ix sp from rfl, arrV_read _ _ (by omega)]
        rfl
      rw [e]
      exact ⟨hfit _, hval _ _ _⟩)
    (g := F0 m pc ls (.int n :: .int dp :: .ref b :: .int sp :: .ref a :: rest)) rfl (by rw [hml]) (rest := rest) rfl (by rw [hb]; exact hd) hR1 (by show 2 * 0 + _ + _ ≤ _; omega)
  have e1 : copied (arrV (j_cA E t) na f) (arrV (j_cA E t) nb g) sp dp n = arrV (j_cA E t) nb (fun k => va_cpy f g (j_ix sp) (j_ix dp) (j_ix n) k) := va_copied (fun z => z) (j_cA E t) (j_cA E t) f g h4
  rw [e1] at X' step
  have hl : b < Hp.size := (Array.getElem?_eq_some_iff.mp hbb).1
  obtain ⟨t2, a1, b1⟩ := kk (Hp.setIfInBounds b (arrV (j_cA E t) nb (fun k => va_cpy f g (j_ix sp) (j_ix dp) (j_ix n) k))) _ (show (Hp.setIfInBounds b _)[b]? = some _ by simp [Array.getElem?_setIfInBounds, hl]) (by simp) (fun q hq => by simp [Array.getElem?_setIfInBounds, Ne.symm hq]) (fun q hq => by
      rcases List.mem_append.mp hq with h | h
      · exact Or.inl h
      · obtain ⟨z, -, hz⟩ := List.mem_map.mp h
        rw [← hz]
        exact Or.inr rfl) _ (by rw [← hT]; rfl) X'
  exact ⟨t2, step t2 a1, b1⟩
theorem j_okc5 {M op i : Nat} : ∀ r : List Nat, j_okc M op i (5 :: r) = true → ∃ z w1 w2 w3, r = [z, w1, w2, w3] ∧ op = 1 ∧ j_hw w1 [1, j_ow M, i, j_oi] = true ∧ j_hw w2 [2, j_oi] = true ∧ j_hw w3 [18, j_oi] = true
  | [z, w1, w2, w3], h => by
    have h : (op == 1 && (j_hw w1 [1, j_ow M, i, j_oi] && (j_hw w2 [2, j_oi] && j_hw w3 [18, j_oi]))) = true := h
    simp only [Bool.and_eq_true, beq_iff_eq] at h
    exact ⟨z, w1, w2, w3, rfl, h⟩
  | [], h => by cases h
  | [_], h => by cases h
  | [_, _], h => by cases h
  | [_, _, _], h => by cases h
  | _ :: _ :: _ :: _ :: _ :: _, h => by cases h
theorem j_okc6 {M op i : Nat} : ∀ r : List Nat, j_okc M op i (6 :: r) = true → ∃ z y w1 w2 w3 w4 t, r = [z, y, w1, w2, w3, w4, t] ∧ op = 0 ∧ y = j_ac ∧ j_hw w1 [1, j_ow M, i, y] = true ∧ j_hw w2 [19, y] = true ∧ j_hw w3 [13, y] = true ∧ j_hw w4 [4, 20] = true
  | [z, y, w1, w2, w3, w4, t], h => by
    have h : (op == 0 && (y == j_ac && (j_hw w1 [1, j_ow M, i, y] && (j_hw w2 [19, y] && (j_hw w3 [13, y] && j_hw w4 [4, 20]))))) = true := h
    simp only [Bool.and_eq_true, beq_iff_eq] at h
    exact ⟨z, y, w1, w2, w3, w4, t, rfl, h⟩
  | [], h => by cases h
  | [_], h => by cases h
  | [_, _], h => by cases h
  | [_, _, _], h => by cases h
  | [_, _, _, _], h => by cases h
  | [_, _, _, _, _], h => by cases h
  | [_, _, _, _, _, _], h => by cases h
  | _ :: _ :: _ :: _ :: _ :: _ :: _ :: _ :: _, h => by cases h
theorem j_cpy_eq {α : Type} (f : Nat → Nat → α) (a i b j n k : Nat) : j_cp f a i b j n b k = va_cpy (f a) (f b) i j n k := by
  unfold j_cp va_cpy
  by_cases h : j ≤ k ∧ k < j + n
  · rw [if_pos ⟨rfl, h⟩, if_pos h]
  · rw [if_neg (fun q => h q.2), if_neg h]
theorem j_cp_ne {α : Type} {f : Nat → Nat → α} {a i b j n c k : Nat} (h : c ≠ b) : j_cp f a i b j n c k = f c k := if_neg fun q => h q.1
theorem va_cpy_map {α β : Type} (g : α → β) (f1 f2 : Nat → α) (i j n k : Nat) : va_cpy (fun k => g (f1 k)) (fun k => g (f2 k)) i j n k = g (va_cpy f1 f2 i j n k) := by
  unfold va_cpy
  split <;> rfl
set_option maxHeartbeats 4000000 in
theorem j_inv1 {pc i op : Nat} {aux : List Nat} {loc stk : List Value} {H : j_H} {pc' : Nat} {loc' stk' : List Value} {H' : j_H}
    (hx : p.tables.exec = Jvm.exec) (hb : c.code = j_by M) (hml : c.maxLocals = j_ml M) (hR1 : 1 ≤ R.frames) (hR2 : 60 ≤ R.locals) (hown : s.vm.findClass (j_cs (j_ow M)) = some m.cls) (hts : ∀ w ∈ j_W, w.before args s = true) (hK : j_K E s)
    (hd0 : op = 0 → decode (j_by M) pc = .ok (.invokestatic i, 3)) (hd1 : op = 1 → decode (j_by M) pc = .ok (.invokespecial i, 3)) (hok : j_okc M op i aux = true)
    (h : j_inv pc aux loc stk H = some (.inl (.inl (pc', loc', stk', H'))))
    (k : j_Go p l e R s m args below meth c Q E M n0 z0 pc' loc' stk' H') : j_Go p l e R s m args below meth c Q E M n0 z0 pc loc stk H := by
  have hf := hK.2.2.2.2.2.2.2.2.2.2.2
  have hdo : ∀ {n y q : Nat} {lo st : List Value}, j_do n y q lo st = some (.inl (.inl (pc', loc', stk', H'))) → False := by
    intro n y q lo st hq
    unfold j_do at hq
    split at hq <;> cases hq
  obtain ⟨nm1, nm2, nm3⟩ := j_names
  unfold j_inv at h
  split at h
  · exact (hdo h).elim
  · split at h
    · split at h
      · cases h
      · exact (hdo h).elim
    · cases h
  · split at h
    · exact (hdo h).elim
    · cases h
  · split at h
    · split at h
      · exact (hdo h).elim
      · cases h
    · cases h
  · split at h
    · split at h
      · exact (hdo h).elim
      · cases h
    · cases h
  · split at h
    · rename_i a st
      split at h
      · rename_i ha
        cases h
        obtain ⟨z, w1, w2, w3, rfl, rfl, g1, g2, g3⟩ := j_okc5 _ hok
        have g1 := hts _ (j_hw_in g1)
        have g2 := hts _ (j_hw_in g2)
        have g3 := hts _ (j_hw_in g3)
        simp only [j_w, nm1] at g1 g2 g3
        intro Hp ls locs cells slots hR hl hn hlo hc hs
        rw [List.map_cons, j_tr_ref ha.1]
        refine W.objInit hx hb hown g1 g2 g3 rfl (by rw [hml]; exact hl.1) rfl (hd1 rfl) hR1 (by show 2 * 0 + _ + _ ≤ _; rw [j_cat_tr hf]; have := ha.2; omega) ?_
        exact k _ _ _ _ _ hR hl hn hlo hc hs
      · cases h
    · cases h
  · split at h
    · rename_i n j b i' a st
      split at h
      · rename_i hcond
        obtain ⟨z, y, w1, w2, w3, w4, t', hr, rfl, rfl, g1, g2, g3, g4⟩ := j_okc6 _ hok
        cases hr
        have g1 := hts _ (j_hw_in g1)
        have g2 := hts _ (j_hw_in g2)
        have g3 := hts _ (j_hw_in g3)
        have g4 := hts _ (j_hw_in g4)
        simp only [j_w, nm2, nm3] at g1 g2 g3 g4
        obtain ⟨c1, c2, c3, c4, c5, c6, c7, c8⟩ := hcond
        obtain ⟨t1, na, hqa, hta, hlna⟩ := j_ia_of c2
        obtain ⟨t2, nb, hqb, htb, hlnb⟩ := j_ia_of c3
        rw [List.mem_singleton] at hta htb
        subst hta
        subst htb
        rw [hlna] at c7
        rw [hlnb] at c8
        intro Hp ls locs cells slots hR hl hn hlo hc hs
        split at h
        · rename_i h0
          subst h0
          cases h
          obtain ⟨ha, hca⟩ := j_arrOf hR hqa (by omega)
          obtain ⟨hb2, hcb⟩ := j_arrOf hR hqb (by omega)
          rw [List.map_cons, List.map_cons, List.map_cons, List.map_cons, List.map_cons, j_tr_ref (Nat.ne_of_gt ha), j_tr_ref (Nat.ne_of_gt hb2)]
          refine j_copyW hx hb (by rw [hml]; exact hl.1.symm) hR1 hR2 hown g1 g2 g3 g4 hK (t := 0) (Or.inl rfl) hca hcb (fun k => rfl) (fun T comp k => trivial) c5 c6 c4 c7 c8 (by rw [j_cat_tr hf]; exact c1) (hd0 rfl) fun H1 locs1 e1 z1 q1 l1 => ?_
          refine k _ _ _ _ _ (hR.upd hb2 rfl (fun b k hbk => ⟨j_cp_ne hbk, rfl, rfl⟩) z1 q1 fun x hx' _ => ?_) hl hn (fun q hq => (l1 q hq).elim (hlo q) (fun e => by rw [e, j_ad_ge hb2]; omega)) hc hs
          rw [hqb] at hx'
          cases hx'
          refine ⟨by show (0 : Nat) < 7; omega, ?_⟩
          rw [e1]
          congr 2
          funext k
          exact (va_cpy_map (fun x => Value.int x) (fun k => j_I H a k) (fun k => j_I H b k) (j_ix i') (j_ix j) (j_ix n) k).trans (congrArg Value.int (j_cpy_eq H.2.1 a (j_ix i') b (j_ix j) (j_ix n) k).symm)
        · split at h
          · rename_i h0
            subst h0
            cases h
            obtain ⟨ha, hca⟩ := j_arrOf hR hqa (by omega)
            obtain ⟨hb2, hcb⟩ := j_arrOf hR hqb (by omega)
            rw [List.map_cons, List.map_cons, List.map_cons, List.map_cons, List.map_cons, j_tr_ref (Nat.ne_of_gt ha), j_tr_ref (Nat.ne_of_gt hb2)]
            refine j_copyW hx hb (by rw [hml]; exact hl.1.symm) hR1 hR2 hown g1 g2 g3 g4 hK (t := 1) (Or.inr rfl) hca hcb (fun k => rfl) (fun T comp k => trivial) c5 c6 c4 c7 c8 (by rw [j_cat_tr hf]; exact c1) (hd0 rfl) fun H1 locs1 e1 z1 q1 l1 => ?_
            refine k _ _ _ _ _ (hR.upd hb2 rfl (fun b k hbk => ⟨rfl, j_cp_ne hbk, rfl⟩) z1 q1 fun x hx' _ => ?_) hl hn (fun q hq => (l1 q hq).elim (hlo q) (fun e => by rw [e, j_ad_ge hb2]; omega)) hc hs
            rw [hqb] at hx'
            cases hx'
            refine ⟨by show (1 : Nat) < 7; omega, ?_⟩
            rw [e1]
            congr 2
            funext k
            exact (va_cpy_map (fun x => Value.long x) (fun k => j_L H a k) (fun k => j_L H b k) (j_ix i') (j_ix j) (j_ix n) k).trans (congrArg Value.long (j_cpy_eq H.2.2.1 a (j_ix i') b (j_ix j) (j_ix n) k).symm)
          · cases h
      · cases h
    · cases h
  · cases h
set_option maxHeartbeats 4000000 in
theorem j_step1 {pc len : Nat} {i : Instr} {aux : List Nat} {loc stk : List Value} {H : j_H} {pc' : Nat} {loc' stk' : List Value} {H' : j_H}
    (hx : p.tables.exec = Jvm.exec) (hb : c.code = j_by M) (hml : c.maxLocals = j_ml M) (hR1 : 1 ≤ R.frames) (hR2 : 60 ≤ R.locals) (hf : E.2.2.1 = .null ∨ ∃ a, E.2.2.1 = .ref a) (hown : s.vm.findClass (j_cs (j_ow M)) = some m.cls) (hts : ∀ w ∈ j_W, w.before args s = true) (hK : j_K E s) (hname : meth.name = (j_ym M).name)
    (hroom1 : H'.1.length ≤ n0 + R.cells) (hroom2 : j_sz H' ≤ z0 + R.slots)
    (hd : decode (j_by M) pc = .ok (i, len)) (hokr : j_okr M (pc, i, len, aux) = true)
    (h : j_ins M pc i len aux loc stk H = some (.inl (.inl (pc', loc', stk', H'))))
    (k : j_Go p l e R s m args below meth c Q E M n0 z0 pc' loc' stk' H') : j_Go p l e R s m args below meth c Q E M n0 z0 pc loc stk H := by
  unfold j_okr at hokr
  obtain ⟨hlen, hok⟩ := (Bool.and_eq_true _ _).mp hokr |> fun q => (⟨q.1, q.2⟩ : _ ∧ _)
  dsimp only at hlen hok
  cases i with
  | iadd =>
    obtain rfl : len = 1 := of_decide_eq_true hlen
    simp only [j_ins] at h
    split at h
    · cases h
      intro Hp ls locs cells slots hR hl hn hlo hc hs
      exact lv_iadd hx hb hd (k _ _ _ _ _ hR hl hn hlo hc hs)
    · cases h
  | isub =>
    obtain rfl : len = 1 := of_decide_eq_true hlen
    simp only [j_ins] at h
    split at h
    · cases h
      intro Hp ls locs cells slots hR hl hn hlo hc hs
      exact lv_isub hx hb hd (k _ _ _ _ _ hR hl hn hlo hc hs)
    · cases h
  | imul =>
    obtain rfl : len = 1 := of_decide_eq_true hlen
    simp only [j_ins] at h
    split at h
    · cases h
      intro Hp ls locs cells slots hR hl hn hlo hc hs
      exact lv_imul hx hb hd (k _ _ _ _ _ hR hl hn hlo hc hs)
    · cases h
  | iand =>
    obtain rfl : len = 1 := of_decide_eq_true hlen
    simp only [j_ins] at h
    split at h
    · cases h
      intro Hp ls locs cells slots hR hl hn hlo hc hs
      exact lv_iand hx hb hd (k _ _ _ _ _ hR hl hn hlo hc hs)
    · cases h
  | ior =>
    obtain rfl : len = 1 := of_decide_eq_true hlen
    simp only [j_ins] at h
    split at h
    · cases h
      intro Hp ls locs cells slots hR hl hn hlo hc hs
      exact lv_ior hx hb hd (k _ _ _ _ _ hR hl hn hlo hc hs)
    · cases h
  | ixor =>
    obtain rfl : len = 1 := of_decide_eq_true hlen
    simp only [j_ins] at h
    split at h
    · cases h
      intro Hp ls locs cells slots hR hl hn hlo hc hs
      exact lv_ixor hx hb hd (k _ _ _ _ _ hR hl hn hlo hc hs)
    · cases h
  | ishl =>
    obtain rfl : len = 1 := of_decide_eq_true hlen
    simp only [j_ins] at h
    split at h
    · cases h
      intro Hp ls locs cells slots hR hl hn hlo hc hs
      exact lv_ishl hx hb hd (k _ _ _ _ _ hR hl hn hlo hc hs)
    · cases h
  | ishr =>
    obtain rfl : len = 1 := of_decide_eq_true hlen
    simp only [j_ins] at h
    split at h
    · cases h
      intro Hp ls locs cells slots hR hl hn hlo hc hs
      exact lv_ishr hx hb hd (k _ _ _ _ _ hR hl hn hlo hc hs)
    · cases h
  | ineg =>
    obtain rfl : len = 1 := of_decide_eq_true hlen
    simp only [j_ins] at h
    split at h
    · cases h
      intro Hp ls locs cells slots hR hl hn hlo hc hs
      exact lv_ineg hx hb hd (k _ _ _ _ _ hR hl hn hlo hc hs)
    · cases h
  | ladd =>
    obtain rfl : len = 1 := of_decide_eq_true hlen
    simp only [j_ins] at h
    split at h
    · cases h
      intro Hp ls locs cells slots hR hl hn hlo hc hs
      exact lv_ladd hx hb hd (k _ _ _ _ _ hR hl hn hlo hc hs)
    · cases h
  | lmul =>
    obtain rfl : len = 1 := of_decide_eq_true hlen
    simp only [j_ins] at h
    split at h
    · cases h
      intro Hp ls locs cells slots hR hl hn hlo hc hs
      exact lv_lmul hx hb hd (k _ _ _ _ _ hR hl hn hlo hc hs)
    · cases h
  | land =>
    obtain rfl : len = 1 := of_decide_eq_true hlen
    simp only [j_ins] at h
    split at h
    · cases h
      intro Hp ls locs cells slots hR hl hn hlo hc hs
      exact lv_land hx hb hd (k _ _ _ _ _ hR hl hn hlo hc hs)
    · cases h
  | lor =>
    obtain rfl : len = 1 := of_decide_eq_true hlen
    simp only [j_ins] at h
    split at h
    · cases h
      intro Hp ls locs cells slots hR hl hn hlo hc hs
      exact lv_lor hx hb hd (k _ _ _ _ _ hR hl hn hlo hc hs)
    · cases h
  | lxor =>
    obtain rfl : len = 1 := of_decide_eq_true hlen
    simp only [j_ins] at h
    split at h
    · cases h
      intro Hp ls locs cells slots hR hl hn hlo hc hs
      exact lv_lxor hx hb hd (k _ _ _ _ _ hR hl hn hlo hc hs)
    · cases h
  | iushr =>
    obtain rfl : len = 1 := of_decide_eq_true hlen
    simp only [j_ins] at h
    split at h
    · cases h
      intro Hp ls locs cells slots hR hl hn hlo hc hs
      exact lv_iushr hx hb hd rfl (k _ _ _ _ _ hR hl hn hlo hc hs)
    · cases h
  | lshl =>
    obtain rfl : len = 1 := of_decide_eq_true hlen
    simp only [j_ins] at h
    split at h
    · cases h
      intro Hp ls locs cells slots hR hl hn hlo hc hs
      exact lv_lshl hx hb hd rfl (k _ _ _ _ _ hR hl hn hlo hc hs)
    · cases h
  | lshr =>
    obtain rfl : len = 1 := of_decide_eq_true hlen
    simp only [j_ins] at h
    split at h
    · cases h
      intro Hp ls locs cells slots hR hl hn hlo hc hs
      exact lv_lshr hx hb hd rfl (k _ _ _ _ _ hR hl hn hlo hc hs)
    · cases h
  | i2l =>
    obtain rfl : len = 1 := of_decide_eq_true hlen
    simp only [j_ins] at h
    split at h
    · cases h
      intro Hp ls locs cells slots hR hl hn hlo hc hs
      exact lv_i2l hx hb hd rfl (k _ _ _ _ _ hR hl hn hlo hc hs)
    · cases h
  | l2i =>
    obtain rfl : len = 1 := of_decide_eq_true hlen
    simp only [j_ins] at h
    split at h
    · cases h
      intro Hp ls locs cells slots hR hl hn hlo hc hs
      exact lv_l2i hx hb hd rfl (k _ _ _ _ _ hR hl hn hlo hc hs)
    · cases h
  | i2b =>
    obtain rfl : len = 1 := of_decide_eq_true hlen
    simp only [j_ins] at h
    split at h
    · cases h
      intro Hp ls locs cells slots hR hl hn hlo hc hs
      exact lv_i2b hx hb hd rfl (k _ _ _ _ _ hR hl hn hlo hc hs)
    · cases h
  | i2s =>
    obtain rfl : len = 1 := of_decide_eq_true hlen
    simp only [j_ins] at h
    split at h
    · cases h
      intro Hp ls locs cells slots hR hl hn hlo hc hs
      exact lv_i2s hx hb hd rfl (k _ _ _ _ _ hR hl hn hlo hc hs)
    · cases h
  | i2c =>
    obtain rfl : len = 1 := of_decide_eq_true hlen
    simp only [j_ins] at h
    split at h
    · cases h
      intro Hp ls locs cells slots hR hl hn hlo hc hs
      exact lv_i2c hx hb hd rfl (k _ _ _ _ _ hR hl hn hlo hc hs)
    · cases h
  | lcmp =>
    obtain rfl : len = 1 := of_decide_eq_true hlen
    simp only [j_ins] at h
    split at h
    · cases h
      intro Hp ls locs cells slots hR hl hn hlo hc hs
      exact W.lcmp hx hb hd (k _ _ _ _ _ hR hl hn hlo hc hs)
    · cases h
  | pop =>
    obtain rfl : len = 1 := of_decide_eq_true hlen
    simp only [j_ins] at h
    split at h
    · cases h
      intro Hp ls locs cells slots hR hl hn hlo hc hs
      exact lv_pop hx hb hd rfl (k _ _ _ _ _ hR hl hn hlo hc hs)
    · cases h
  | idiv =>
    obtain rfl : len = 1 := of_decide_eq_true hlen
    simp only [j_ins] at h
    split at h
    · split at h
      · cases h
      · rename_i hne
        cases h
        intro Hp ls locs cells slots hR hl hn hlo hc hs
        exact lv_idiv hx hb hd hne (k _ _ _ _ _ hR hl hn hlo hc hs)
    · cases h
  | irem =>
    obtain rfl : len = 1 := of_decide_eq_true hlen
    simp only [j_ins] at h
    split at h
    · split at h
      · cases h
      · rename_i hne
        cases h
        intro Hp ls locs cells slots hR hl hn hlo hc hs
        exact lv_irem hx hb hd hne (k _ _ _ _ _ hR hl hn hlo hc hs)
    · cases h
  | ldiv =>
    obtain rfl : len = 1 := of_decide_eq_true hlen
    simp only [j_ins] at h
    split at h
    · split at h
      · cases h
      · rename_i hne
        cases h
        intro Hp ls locs cells slots hR hl hn hlo hc hs
        exact lv_ldiv hx hb hd hne (k _ _ _ _ _ hR hl hn hlo hc hs)
    · cases h
  | lrem =>
    obtain rfl : len = 1 := of_decide_eq_true hlen
    simp only [j_ins] at h
    split at h
    · split at h
      · cases h
      · rename_i hne
        cases h
        intro Hp ls locs cells slots hR hl hn hlo hc hs
        exact lv_lrem hx hb hd hne (k _ _ _ _ _ hR hl hn hlo hc hs)
    · cases h
  | aconst_null =>
    obtain rfl : len = 1 := of_decide_eq_true hlen
    simp only [j_ins] at h
    cases h
    intro Hp ls locs cells slots hR hl hn hlo hc hs
    exact lv_null hx hb hd (k _ _ _ _ _ hR hl hn hlo hc hs)
  | iconst v =>
    obtain rfl : len = 1 := of_decide_eq_true hlen
    simp only [j_ins] at h
    cases h
    intro Hp ls locs cells slots hR hl hn hlo hc hs
    exact lv_iconst hx hb hd rfl (k _ _ _ _ _ hR hl hn hlo hc hs)
  | bipush v =>
    obtain rfl : len = 2 := of_decide_eq_true hlen
    simp only [j_ins] at h
    cases h
    intro Hp ls locs cells slots hR hl hn hlo hc hs
    exact lv_bipush hx hb hd (j_b8 hok) (k _ _ _ _ _ hR hl hn hlo hc hs)
  | sipush v =>
    obtain rfl : len = 3 := of_decide_eq_true hlen
    simp only [j_ins] at h
    cases h
    intro Hp ls locs cells slots hR hl hn hlo hc hs
    exact lv_sipush hx hb hd (j_b16 hok) (k _ _ _ _ _ hR hl hn hlo hc hs)
  | lconst v =>
    obtain rfl : len = 1 := of_decide_eq_true hlen
    simp only [j_ins] at h
    cases h
    intro Hp ls locs cells slots hR hl hn hlo hc hs
    exact lv_lconst hx hb hd (j_lc v) (k _ _ _ _ _ hR hl hn hlo hc hs)
  | goto off =>
    obtain rfl : len = 3 := of_decide_eq_true hlen
    simp only [j_ins] at h
    cases h
    intro Hp ls locs cells slots hR hl hn hlo hc hs
    exact lv_goto hx hb hd (j_okt_tg hok) (k _ _ _ _ _ hR hl hn hlo hc hs)
  | iload_n v =>
    obtain rfl : len = 1 := of_decide_eq_true hlen
    simp only [j_ins] at h
    split at h
    · rename_i hv
      cases h
      intro Hp ls locs cells slots hR hl hn hlo hc hs
      exact lv_iload_n hx hb hd rfl (j_lv_get hl hv rfl) (k _ _ _ _ _ hR hl hn hlo hc hs)
    · cases h
  | iload v =>
    obtain rfl : len = 2 := of_decide_eq_true hlen
    simp only [j_ins] at h
    split at h
    · rename_i hv
      cases h
      intro Hp ls locs cells slots hR hl hn hlo hc hs
      exact lv_iload hx hb hd (j_lv_get hl hv rfl) (k _ _ _ _ _ hR hl hn hlo hc hs)
    · cases h
  | lload_n v =>
    obtain rfl : len = 1 := of_decide_eq_true hlen
    simp only [j_ins] at h
    split at h
    · rename_i hv
      cases h
      intro Hp ls locs cells slots hR hl hn hlo hc hs
      exact lv_lload_n hx hb hd rfl (j_lv_get hl hv rfl) (k _ _ _ _ _ hR hl hn hlo hc hs)
    · cases h
  | lload v =>
    obtain rfl : len = 2 := of_decide_eq_true hlen
    simp only [j_ins] at h
    split at h
    · rename_i hv
      cases h
      intro Hp ls locs cells slots hR hl hn hlo hc hs
      exact lv_lload hx hb hd (j_lv_get hl hv rfl) (k _ _ _ _ _ hR hl hn hlo hc hs)
    · cases h
  | aload_n v =>
    obtain rfl : len = 1 := of_decide_eq_true hlen
    simp only [j_ins] at h
    split at h
    · rename_i hv
      cases h
      intro Hp ls locs cells slots hR hl hn hlo hc hs
      have k := k _ _ _ _ _ hR hl hn hlo hc hs
      have hv := j_lv_get hl hv rfl
      rw [List.map_cons] at k
      rcases j_tr_rn hf _ with e | ⟨z, e⟩
      · rw [e] at hv k
        exact lv_aload_nN hx hb hd rfl hv k
      · rw [e] at hv k
        exact lv_aload_n hx hb hd rfl hv k
    · rename_i hv
      cases h
      intro Hp ls locs cells slots hR hl hn hlo hc hs
      exact lv_aload_nN hx hb hd rfl (j_lv_get hl hv rfl) (k _ _ _ _ _ hR hl hn hlo hc hs)
    · cases h
  | aload v =>
    obtain rfl : len = 2 := of_decide_eq_true hlen
    simp only [j_ins] at h
    split at h
    · rename_i hv
      cases h
      intro Hp ls locs cells slots hR hl hn hlo hc hs
      have k := k _ _ _ _ _ hR hl hn hlo hc hs
      have hv := j_lv_get hl hv rfl
      rw [List.map_cons] at k
      rcases j_tr_rn hf _ with e | ⟨z, e⟩
      · rw [e] at hv k
        exact lv_aloadN hx hb hd hv k
      · rw [e] at hv k
        exact lv_aload hx hb hd hv k
    · rename_i hv
      cases h
      intro Hp ls locs cells slots hR hl hn hlo hc hs
      exact lv_aloadN hx hb hd (j_lv_get hl hv rfl) (k _ _ _ _ _ hR hl hn hlo hc hs)
    · cases h
  | istore_n v =>
    obtain rfl : len = 1 := of_decide_eq_true hlen
    simp only [j_ins] at h
    split at h
    · split at h
      · rename_i hk
        cases h
        intro Hp ls locs cells slots hR hl hn hlo hc hs
        exact lv_istore_n hx hb hd rfl hl (by rw [← hn]; exact hk) rfl (fun ls1 hl1 => k _ _ _ _ _ hR (j_lv_st hf hl1) (by rw [j_st_len]; exact hn) hlo hc hs)
      · cases h
    · cases h
  | istore v =>
    obtain rfl : len = 2 := of_decide_eq_true hlen
    simp only [j_ins] at h
    split at h
    · split at h
      · rename_i hk
        cases h
        intro Hp ls locs cells slots hR hl hn hlo hc hs
        exact lv_istore hx hb hd hl (by rw [← hn]; exact hk) rfl (fun ls1 hl1 => k _ _ _ _ _ hR (j_lv_st hf hl1) (by rw [j_st_len]; exact hn) hlo hc hs)
      · cases h
    · cases h
  | lstore_n v =>
    obtain rfl : len = 1 := of_decide_eq_true hlen
    simp only [j_ins] at h
    split at h
    · split at h
      · rename_i hk
        cases h
        intro Hp ls locs cells slots hR hl hn hlo hc hs
        exact lv_lstore_n hx hb hd rfl hl (by rw [← hn]; exact hk) rfl (fun ls1 hl1 => k _ _ _ _ _ hR (j_lv_st2 hf hl1) (by rw [j_st2, List.length_set, j_st_len]; exact hn) hlo hc hs)
      · cases h
    · cases h
  | lstore v =>
    obtain rfl : len = 2 := of_decide_eq_true hlen
    simp only [j_ins] at h
    split at h
    · split at h
      · rename_i hk
        cases h
        intro Hp ls locs cells slots hR hl hn hlo hc hs
        exact lv_lstore hx hb hd hl (by rw [← hn]; exact hk) rfl (fun ls1 hl1 => k _ _ _ _ _ hR (j_lv_st2 hf hl1) (by rw [j_st2, List.length_set, j_st_len]; exact hn) hlo hc hs)
      · cases h
    · cases h
  | astore_n v =>
    obtain rfl : len = 1 := of_decide_eq_true hlen
    simp only [j_ins] at h
    split at h
    · split at h
      · rename_i hk
        cases h
        intro Hp ls locs cells slots hR hl hn hlo hc hs
        rw [List.map_cons, j_tr_ref hk.2]
        refine lv_astore_n hx hb hd rfl hl (by rw [← hn]; exact hk.1) rfl (fun ls1 hl1 => ?_)
        rw [← j_tr_ref (E := E) hk.2] at hl1
        exact k _ _ _ _ _ hR (j_lv_st hf hl1) (by rw [j_st_len]; exact hn) hlo hc hs
      · cases h
    · split at h
      · rename_i hk
        cases h
        intro Hp ls locs cells slots hR hl hn hlo hc hs
        exact lv_astore_nN hx hb hd rfl hl (by rw [← hn]; exact hk) rfl (fun ls1 hl1 => k _ _ _ _ _ hR (j_lv_st hf (v := .null) hl1) (by rw [j_st_len]; exact hn) hlo hc hs)
      · cases h
    · cases h
  | astore v =>
    obtain rfl : len = 2 := of_decide_eq_true hlen
    simp only [j_ins] at h
    split at h
    · split at h
      · rename_i hk
        cases h
        intro Hp ls locs cells slots hR hl hn hlo hc hs
        rw [List.map_cons, j_tr_ref hk.2]
        refine lv_astore hx hb hd hl (by rw [← hn]; exact hk.1) rfl (fun ls1 hl1 => ?_)
        rw [← j_tr_ref (E := E) hk.2] at hl1
        exact k _ _ _ _ _ hR (j_lv_st hf hl1) (by rw [j_st_len]; exact hn) hlo hc hs
      · cases h
    · split at h
      · rename_i hk
        cases h
        intro Hp ls locs cells slots hR hl hn hlo hc hs
        exact lv_astoreN hx hb hd hl (by rw [← hn]; exact hk) rfl (fun ls1 hl1 => k _ _ _ _ _ hR (j_lv_st hf (v := .null) hl1) (by rw [j_st_len]; exact hn) hlo hc hs)
      · cases h
    · cases h
  | iinc v d =>
    obtain rfl : len = 3 := of_decide_eq_true hlen
    simp only [j_ins] at h
    split at h
    · rename_i x hv
      cases h
      intro Hp ls locs cells slots hR hl hn hlo hc hs
      obtain ⟨kx, hkx⟩ := List.getElem?_of_mem ((j_lv_mem loc 0 (v, .int x)).mpr ⟨v, .int x, hv, rfl, by rw [Nat.zero_add]; rfl⟩)
      exact lv_iinc hx hb hd hl hkx rfl (by rw [← hn]; exact (List.getElem?_eq_some_iff.mp hv).1) rfl (fun ls1 hl1 => k _ _ _ _ _ hR (j_lv_iinc hf hl hv hl1) (by rw [List.length_set]; exact hn) hlo hc hs)
    · cases h
  | ifCond cnd off =>
    obtain rfl : len = 3 := of_decide_eq_true hlen
    simp only [j_ins] at h
    split at h
    · rename_i x st
      have ht := j_okt_tg hok
      intro Hp ls locs cells slots hR hl hn hlo hc hs
      cases cnd
      · refine lv_if_eq hx hb hd ht (fun hq => ?_) (fun hq => ?_)
        · have hq : j_cmp .eq x 0 = true := by simpa [j_cmp] using hq
          rw [j_br, if_pos hq] at h
          cases h
          exact k _ _ _ _ _ hR hl hn hlo hc hs
        · have hq : ¬ j_cmp .eq x 0 = true := by simpa [j_cmp] using hq
          rw [j_br, if_neg hq] at h
          cases h
          exact k _ _ _ _ _ hR hl hn hlo hc hs
      · refine lv_if_ne hx hb hd ht (fun hq => ?_) (fun hq => ?_)
        · have hq : j_cmp .ne x 0 = true := by simpa [j_cmp] using hq
          rw [j_br, if_pos hq] at h
          cases h
          exact k _ _ _ _ _ hR hl hn hlo hc hs
        · have hq : ¬ j_cmp .ne x 0 = true := by simpa [j_cmp] using hq
          rw [j_br, if_neg hq] at h
          cases h
          exact k _ _ _ _ _ hR hl hn hlo hc hs
      · refine lv_if_lt hx hb hd ht (fun hq => ?_) (fun hq => ?_)
        · have hq : j_cmp .lt x 0 = true := by simpa [j_cmp] using hq
          rw [j_br, if_pos hq] at h
          cases h
          exact k _ _ _ _ _ hR hl hn hlo hc hs
        · have hq : ¬ j_cmp .lt x 0 = true := by simpa [j_cmp] using hq
          rw [j_br, if_neg hq] at h
          cases h
          exact k _ _ _ _ _ hR hl hn hlo hc hs
      · refine lv_if_ge hx hb hd ht (fun hq => ?_) (fun hq => ?_)
        · have hq : j_cmp .ge x 0 = true := by simpa [j_cmp] using hq
          rw [j_br, if_pos hq] at h
          cases h
          exact k _ _ _ _ _ hR hl hn hlo hc hs
        · have hq : ¬ j_cmp .ge x 0 = true := by simpa [j_cmp] using hq
          rw [j_br, if_neg hq] at h
          cases h
          exact k _ _ _ _ _ hR hl hn hlo hc hs
      · refine lv_if_gt hx hb hd ht (fun hq => ?_) (fun hq => ?_)
        · have hq : j_cmp .gt x 0 = true := by simpa [j_cmp] using hq
          rw [j_br, if_pos hq] at h
          cases h
          exact k _ _ _ _ _ hR hl hn hlo hc hs
        · have hq : ¬ j_cmp .gt x 0 = true := by simpa [j_cmp] using hq
          rw [j_br, if_neg hq] at h
          cases h
          exact k _ _ _ _ _ hR hl hn hlo hc hs
      · refine lv_if_le hx hb hd ht (fun hq => ?_) (fun hq => ?_)
        · have hq : j_cmp .le x 0 = true := by simpa [j_cmp] using hq
          rw [j_br, if_pos hq] at h
          cases h
          exact k _ _ _ _ _ hR hl hn hlo hc hs
        · have hq : ¬ j_cmp .le x 0 = true := by simpa [j_cmp] using hq
          rw [j_br, if_neg hq] at h
          cases h
          exact k _ _ _ _ _ hR hl hn hlo hc hs
    · cases h
  | if_icmp cnd off =>
    obtain rfl : len = 3 := of_decide_eq_true hlen
    simp only [j_ins] at h
    split at h
    · rename_i y x st
      have ht := j_okt_tg hok
      intro Hp ls locs cells slots hR hl hn hlo hc hs
      cases cnd
      · refine lv_icmp_eq hx hb hd ht (fun hq => ?_) (fun hq => ?_)
        · have hq : j_cmp .eq x y = true := by simpa [j_cmp] using hq
          rw [j_br, if_pos hq] at h
          cases h
          exact k _ _ _ _ _ hR hl hn hlo hc hs
        · have hq : ¬ j_cmp .eq x y = true := by simpa [j_cmp] using hq
          rw [j_br, if_neg hq] at h
          cases h
          exact k _ _ _ _ _ hR hl hn hlo hc hs
      · refine lv_icmp_ne hx hb hd ht (fun hq => ?_) (fun hq => ?_)
        · have hq : j_cmp .ne x y = true := by simpa [j_cmp] using hq
          rw [j_br, if_pos hq] at h
          cases h
          exact k _ _ _ _ _ hR hl hn hlo hc hs
        · have hq : ¬ j_cmp .ne x y = true := by simpa [j_cmp] using hq
          rw [j_br, if_neg hq] at h
          cases h
          exact k _ _ _ _ _ hR hl hn hlo hc hs
      · refine lv_icmp_lt hx hb hd ht (fun hq => ?_) (fun hq => ?_)
        · have hq : j_cmp .lt x y = true := by simpa [j_cmp] using hq
          rw [j_br, if_pos hq] at h
          cases h
          exact k _ _ _ _ _ hR hl hn hlo hc hs
        · have hq : ¬ j_cmp .lt x y = true := by simpa [j_cmp] using hq
          rw [j_br, if_neg hq] at h
          cases h
          exact k _ _ _ _ _ hR hl hn hlo hc hs
      · refine lv_icmp_ge hx hb hd ht (fun hq => ?_) (fun hq => ?_)
        · have hq : j_cmp .ge x y = true := by simpa [j_cmp] using hq
          rw [j_br, if_pos hq] at h
          cases h
          exact k _ _ _ _ _ hR hl hn hlo hc hs
        · have hq : ¬ j_cmp .ge x y = true := by simpa [j_cmp] using hq
          rw [j_br, if_neg hq] at h
          cases h
          exact k _ _ _ _ _ hR hl hn hlo hc hs
      · refine lv_icmp_gt hx hb hd ht (fun hq => ?_) (fun hq => ?_)
        · have hq : j_cmp .gt x y = true := by simpa [j_cmp] using hq
          rw [j_br, if_pos hq] at h
          cases h
          exact k _ _ _ _ _ hR hl hn hlo hc hs
        · have hq : ¬ j_cmp .gt x y = true := by simpa [j_cmp] using hq
          rw [j_br, if_neg hq] at h
          cases h
          exact k _ _ _ _ _ hR hl hn hlo hc hs
      · refine lv_icmp_le hx hb hd ht (fun hq => ?_) (fun hq => ?_)
        · have hq : j_cmp .le x y = true := by simpa [j_cmp] using hq
          rw [j_br, if_pos hq] at h
          cases h
          exact k _ _ _ _ _ hR hl hn hlo hc hs
        · have hq : ¬ j_cmp .le x y = true := by simpa [j_cmp] using hq
          rw [j_br, if_neg hq] at h
          cases h
          exact k _ _ _ _ _ hR hl hn hlo hc hs
    · cases h
  | ifnull off =>
    obtain rfl : len = 3 := of_decide_eq_true hlen
    simp only [j_ins] at h
    split at h
    · split at h
      · cases h
      · rename_i h11
        cases h
        intro Hp ls locs cells slots hR hl hn hlo hc hs
        rw [List.map_cons, j_tr_ref h11]
        exact lv_ifnull hx hb hd (k _ _ _ _ _ hR hl hn hlo hc hs)
    · cases h
      intro Hp ls locs cells slots hR hl hn hlo hc hs
      exact lv_ifnullN hx hb hd (j_okt_tg hok) (k _ _ _ _ _ hR hl hn hlo hc hs)
    · cases h
  | ifnonnull off =>
    obtain rfl : len = 3 := of_decide_eq_true hlen
    simp only [j_ins] at h
    split at h
    · split at h
      · cases h
      · rename_i h11
        cases h
        intro Hp ls locs cells slots hR hl hn hlo hc hs
        rw [List.map_cons, j_tr_ref h11]
        exact lv_ifnonnull hx hb hd (j_okt_tg hok) (k _ _ _ _ _ hR hl hn hlo hc hs)
    · cases h
      intro Hp ls locs cells slots hR hl hn hlo hc hs
      exact lv_ifnonnullN hx hb hd (k _ _ _ _ _ hR hl hn hlo hc hs)
    · cases h
  | tableswitch dflt lo hi offs =>
    simp only [Bool.and_eq_true, decide_eq_true_eq] at hok
    obtain ⟨hok1, hok2, hok3⟩ := hok
    simp only [j_ins] at h
    split at h
    · rename_i x st
      cases h
      intro Hp ls locs cells slots hR hl hn hlo hc hs
      have k := k _ _ _ _ _ hR hl hn hlo hc hs
      by_cases h1 : hi < x.toInt
      · rw [if_pos h1] at k
        exact lv_tableOut hx hb hd (Or.inr h1) (j_okt_tg hok1) k
      · rw [if_neg h1] at k
        by_cases h2 : x.toInt < lo
        · rw [j_sw, if_pos h2] at k
          exact lv_tableOut hx hb hd (Or.inl h2) (j_okt_tg hok1) k
        · rw [j_sw, if_neg h2] at k
          cases ho : offs.toList[(x.toInt - lo).toNat]? with
          | none =>
            have := List.getElem?_eq_none_iff.mp ho
            rw [Array.length_toList] at this
            omega
          | some o =>
            rw [ho] at k
            exact lv_tableIn hx hb hd h2 h1 (by rw [← Array.getElem?_toList]; exact ho) (j_okt_tg (List.all_eq_true.mp hok3 o (List.mem_of_getElem? ho))) k
    · cases h
  | lookupswitch dflt ps =>
    simp only [Bool.and_eq_true] at hok
    obtain ⟨hok1, hok2, hok3⟩ := hok
    simp only [j_ins] at h
    split at h
    · rename_i x st
      cases h
      intro Hp ls locs cells slots hR hl hn hlo hc hs
      exact lv_lookup hx hb hd hok3 (j_lk_eq dflt x.toInt ps.toList) (j_okt_tg (j_lk_ok hok1 ps.toList hok2 x.toInt)) (k _ _ _ _ _ hR hl hn hlo hc hs)
    · cases h
  | ldc i =>
    obtain rfl : len = 2 := of_decide_eq_true hlen
    simp only [j_ins] at h
    split at h
    · cases h
      intro Hp ls locs cells slots hR hl hn hlo hc hs
      exact lv_ldc hx hb hown (hts _ (j_hw_in hok)) hd (k _ _ _ _ _ hR hl hn hlo hc hs)
    · rename_i kk
      split at h
      · rename_i hk
        cases h
        simp only [Bool.and_eq_true, decide_eq_true_eq, beq_iff_eq] at hok
        obtain ⟨-, ho, hi⟩ := hok
        intro Hp ls locs cells slots hR hl hn hlo hc hs
        have k := k _ _ _ _ _ hR hl hn hlo hc hs
        rw [List.map_cons, j_tr_ref (by omega), j_ad_lt (by omega)] at k
        have hZ := hK.2.2.1 kk hk
        rw [hi] at hZ
        rw [ho, j_idFV.2.2.2.2.2.2.2.2.2.2] at hown
        exact va_ldcS hx hb hown hZ hd k
      · cases h
    · cases h
  | ldc_w i =>
    obtain rfl : len = 3 := of_decide_eq_true hlen
    simp only [j_ins] at h
    split at h
    · cases h
      intro Hp ls locs cells slots hR hl hn hlo hc hs
      exact lv_ldcw hx hb hown (hts _ (j_hw_in hok)) hd (k _ _ _ _ _ hR hl hn hlo hc hs)
    · cases h
  | ldc2_w i =>
    obtain rfl : len = 3 := of_decide_eq_true hlen
    simp only [j_ins] at h
    split at h
    · cases h
      intro Hp ls locs cells slots hR hl hn hlo hc hs
      exact lv_ldc2 hx hb hown (hts _ (j_hw_in hok)) hd (k _ _ _ _ _ hR hl hn hlo hc hs)
    · cases h
  | dup =>
    obtain rfl : len = 1 := of_decide_eq_true hlen
    simp only [j_ins] at h
    split at h
    · cases h
      intro Hp ls locs cells slots hR hl hn hlo hc hs
      exact lv_dup hx hb hd rfl (k _ _ _ _ _ hR hl hn hlo hc hs)
    · cases h
      intro Hp ls locs cells slots hR hl hn hlo hc hs
      exact lv_dup hx hb hd (j_tr_cat hf (.ref _)) (k _ _ _ _ _ hR hl hn hlo hc hs)
    · cases h
  | dup2 =>
    obtain rfl : len = 1 := of_decide_eq_true hlen
    simp only [j_ins] at h
    split at h
    · cases h
      intro Hp ls locs cells slots hR hl hn hlo hc hs
      exact lv_dup2_2 hx hb hd rfl (k _ _ _ _ _ hR hl hn hlo hc hs)
    · cases h
      intro Hp ls locs cells slots hR hl hn hlo hc hs
      exact lv_dup2_11 hx hb hd rfl rfl (k _ _ _ _ _ hR hl hn hlo hc hs)
    · cases h
      intro Hp ls locs cells slots hR hl hn hlo hc hs
      exact lv_dup2_11 hx hb hd rfl (j_tr_cat hf (.ref _)) (k _ _ _ _ _ hR hl hn hlo hc hs)
    · cases h
  | getstatic i =>
    obtain rfl : len = 3 := of_decide_eq_true hlen
    simp only [j_ins] at h
    obtain ⟨i1, i2, i3, i4, i5, i6, i7, i8, i9, i10, -⟩ := j_idFV
    split at h
    · cases h
      intro Hp ls locs cells slots hR hl hn hlo hc hs
      have hw := hts _ (j_hw_in hok)
      simp only [j_w, i5, i6, i9] at hw
      obtain ⟨cf, kf, fi, f, a, cell, h1, h2, h3, h4, h5, h6, h7, h8⟩ := hK.2.2.2.2.2.1
      exact W.gets hx hb hown hw h1 h2 h3 h4 (by rw [hR.2.1 a (Array.getElem?_eq_some_iff.mp h5).1]; exact h5) (fun e => by rw [e] at h6; cases h6) h7 rfl hd (k _ _ _ _ _ hR hl hn hlo hc hs)
    · cases h
      intro Hp ls locs cells slots hR hl hn hlo hc hs
      have hw := hts _ (j_hw_in hok)
      simp only [j_w, i7, i8, i10] at hw
      obtain ⟨cf, kf, fi, f, a, cell, h1, h2, h3, h4, h5, h6, h7, h8⟩ := hK.2.2.2.2.2.2.1
      exact W.gets hx hb hown hw h1 h2 h3 h4 (by rw [hR.2.1 a (Array.getElem?_eq_some_iff.mp h5).1]; exact h5) (fun e => by rw [e] at h6; cases h6) h7 rfl hd (k _ _ _ _ _ hR hl hn hlo hc hs)
    · cases h
  | getfield i =>
    obtain rfl : len = 3 := of_decide_eq_true hlen
    simp only [j_ins] at h
    split at h
    · rename_i w cr t kf ws al
      split at h
      · rename_i a st
        split at h
        · rename_i hoc
          cases h
          intro Hp ls locs cells slots hR hl hn hlo hc hs
          have k := k _ _ _ _ _ hR hl hn hlo hc hs
          obtain ⟨q, hq, hqa⟩ := j_oc_of hoc
          have h11 : ¬ a = 11 := by
            rintro rfl
            rw [hR.2.2.1.2.2.2] at hq
            cases hq
          rw [List.map_cons, j_tr_ref h11]
          rw [List.map_cons] at k
          dsimp only at hok
          split at hok
          · rename_i hal
            subst hal
            rw [List.mem_singleton] at hqa
            subst hqa
            exact j_getS hx hb hown hts hK hd hok hR hq k
          · have hq2 := List.all_eq_true.mp hok q hqa
            obtain ⟨hq13, hq2⟩ := (Bool.and_eq_true _ _).mp hq2 |> fun z => (⟨of_decide_eq_true z.1, z.2⟩ : _ ∧ _)
            split at hq2
            · rename_i dc n d f tc hfq
              simp only [Bool.and_eq_true] at hq2
              obtain ⟨⟨g1, g2⟩, g3⟩ := hq2
              exact j_getO hx hb hown hts hK hd hR hq hq13 hfq g1 g2 g3 k
            · cases hq2
        · cases h
      · cases h
    · cases h
  | putfield i =>
    obtain rfl : len = 3 := of_decide_eq_true hlen
    simp only [j_ins] at h
    split at h
    · rename_i w cr t kf ws fin al
      split at h
      · rename_i v a st
        split at h
        · rename_i hoc
          split at h
          · rename_i H1 hput
            cases h
            intro Hp ls locs cells slots hR hl hn hlo hc hs
            obtain ⟨q, hq, hqa⟩ := j_oc_of hoc
            have h11 : ¬ a = 11 := by
              rintro rfl
              rw [hR.2.2.1.2.2.2] at hq
              cases hq
            rw [List.map_cons, List.map_cons, j_tr_ref h11]
            have hq2 := List.all_eq_true.mp hok q hqa
            obtain ⟨hq13, hq2⟩ := (Bool.and_eq_true _ _).mp hq2 |> fun z => (⟨of_decide_eq_true z.1, z.2⟩ : _ ∧ _)
            split at hq2
            · rename_i dc n d f tc hfq
              simp only [Bool.and_eq_true] at hq2
              obtain ⟨⟨⟨g1, g2⟩, g3⟩, g4⟩ := hq2
              obtain rfl : t = tc := by simpa using g3
              exact j_putO hx hb hf hown hts hK hname hd hR hq hq13 hfq g1 g2 g4 hput (fun Hp1 locs1 hR1 hlo1 => k _ _ _ _ _ hR1 hl hn hlo1 (by rw [j_put_len hput]; exact hc) (by rw [j_put_sz hput]; exact hs)) hlo
            · cases hq2
          · cases h
        · cases h
      · cases h
    · cases h
  | arraylength =>
    obtain rfl : len = 1 := of_decide_eq_true hlen
    simp only [j_ins] at h
    split at h
    · split at h
      · rename_i a st hia
        cases h
        intro Hp ls locs cells slots hR hl hn hlo hc hs
        obtain ⟨t, nn, hq, ht, hln⟩ := j_ia_of hia
        have k := k _ _ _ _ _ hR hl hn hlo hc hs
        rw [hln] at k
        exact j_lenO hx hb hK hd hR hq (by intro z; subst z; revert ht; decide) k
      · cases h
    · cases h
  | iaload =>
    obtain rfl : len = 1 := of_decide_eq_true hlen
    simp only [j_ins] at h
    split at h
    · split at h
      · rename_i ix a st hia
        cases h
        obtain ⟨hia, hib⟩ := (Bool.and_eq_true _ _).mp hia |> fun z => (⟨z.1, z.2⟩ : _ ∧ _)
        obtain ⟨t, nn, hq, ht, hln⟩ := j_ia_of hia
        rw [hln] at hib
        intro Hp ls locs cells slots hR hl hn hlo hc hs
        exact j_iald hx hb hK hd hR hq (by revert ht; simp) hib (k _ _ _ _ _ hR hl hn hlo hc hs)
      · cases h
    · cases h
  | laload =>
    obtain rfl : len = 1 := of_decide_eq_true hlen
    simp only [j_ins] at h
    split at h
    · split at h
      · rename_i ix a st hia
        cases h
        obtain ⟨hia, hib⟩ := (Bool.and_eq_true _ _).mp hia |> fun z => (⟨z.1, z.2⟩ : _ ∧ _)
        obtain ⟨t, nn, hq, ht, hln⟩ := j_ia_of hia
        rw [hln] at hib
        obtain rfl : t = 1 := by simpa using ht
        intro Hp ls locs cells slots hR hl hn hlo hc hs
        exact j_lald hx hb hK hd hR hq hib (k _ _ _ _ _ hR hl hn hlo hc hs)
      · cases h
    · cases h
  | baload =>
    obtain rfl : len = 1 := of_decide_eq_true hlen
    simp only [j_ins] at h
    split at h
    · split at h
      · rename_i ix a st hia
        cases h
        obtain ⟨hia, hib⟩ := (Bool.and_eq_true _ _).mp hia |> fun z => (⟨z.1, z.2⟩ : _ ∧ _)
        obtain ⟨t, nn, hq, ht, hln⟩ := j_ia_of hia
        rw [hln] at hib
        intro Hp ls locs cells slots hR hl hn hlo hc hs
        exact j_bald hx hb hK hd hR hq (by revert ht; simp) hib (k _ _ _ _ _ hR hl hn hlo hc hs)
      · cases h
    · cases h
  | aaload =>
    obtain rfl : len = 1 := of_decide_eq_true hlen
    simp only [j_ins] at h
    split at h
    · split at h
      · rename_i ix a st hia
        cases h
        obtain ⟨hia, hib⟩ := (Bool.and_eq_true _ _).mp hia |> fun z => (⟨z.1, z.2⟩ : _ ∧ _)
        obtain ⟨t, nn, hq, ht, hln⟩ := j_ia_of hia
        rw [hln] at hib
        have hok := List.all_eq_true.mp hok t ht
        simp only [Bool.and_eq_true, decide_eq_true_eq] at hok
        intro Hp ls locs cells slots hR hl hn hlo hc hs
        exact j_aald hx hb hK hd hR hq hok.1 hok.2 hib (k _ _ _ _ _ hR hl hn hlo hc hs)
      · cases h
    · cases h
  | iastore =>
    obtain rfl : len = 1 := of_decide_eq_true hlen
    simp only [j_ins] at h
    split at h
    · split at h
      · rename_i x ix a st hia
        cases h
        obtain ⟨hia, hib⟩ := (Bool.and_eq_true _ _).mp hia |> fun z => (⟨z.1, z.2⟩ : _ ∧ _)
        obtain ⟨t, nn, hq, ht, hln⟩ := j_ia_of hia
        rw [hln] at hib
        obtain rfl : t = 0 := by simpa using ht
        intro Hp ls locs cells slots hR hl hn hlo hc hs
        obtain ⟨b1, b2, b3⟩ := j_in hib
        obtain ⟨ha, hcell⟩ := j_arrOf hR hq (by omega)
        rw [List.map_cons, List.map_cons, List.map_cons, j_tr_ref (Nat.ne_of_gt ha)]
        refine W.iast hx hb hcell ((hK.2.1 0 (by omega)).1 nn _) (fun q => by cases q) (by rw [arrV_size]; exact b1) rfl rfl hd fun H1 e z oq => ?_
        refine k _ _ _ _ _ (j_Rel.arr hR hq (by omega) (j_ix ix) (.int x) (fun b kk hb => ⟨j_up_ne hb, rfl, rfl⟩) rfl (by rw [e, arrV_store]; rfl) z oq (fun kk => ?_)) hl hn (j_locs hlo ha) hc hs
        exact j_avI (t := 0) (by decide)
      · cases h
    · cases h
  | lastore =>
    obtain rfl : len = 1 := of_decide_eq_true hlen
    simp only [j_ins] at h
    split at h
    · split at h
      · rename_i x ix a st hia
        cases h
        obtain ⟨hia, hib⟩ := (Bool.and_eq_true _ _).mp hia |> fun z => (⟨z.1, z.2⟩ : _ ∧ _)
        obtain ⟨t, nn, hq, ht, hln⟩ := j_ia_of hia
        rw [hln] at hib
        obtain rfl : t = 1 := by simpa using ht
        intro Hp ls locs cells slots hR hl hn hlo hc hs
        obtain ⟨b1, b2, b3⟩ := j_in hib
        obtain ⟨ha, hcell⟩ := j_arrOf hR hq (by omega)
        rw [List.map_cons, List.map_cons, List.map_cons, j_tr_ref (Nat.ne_of_gt ha)]
        refine W.last hx hb hcell ((hK.2.1 1 (by omega)).1 nn _) (fun q => by cases q) (by rw [arrV_size]; exact b1) rfl rfl hd fun H1 e z oq => ?_
        refine k _ _ _ _ _ (j_Rel.arr hR hq (by omega) (j_ix ix) (.long x) (fun b kk hb => ⟨rfl, j_up_ne hb, rfl⟩) rfl (by rw [e, arrV_store]; rfl) z oq (fun kk => ?_)) hl hn (j_locs hlo ha) hc hs
        exact j_avL
      · cases h
    · cases h
  | bastore =>
    obtain rfl : len = 1 := of_decide_eq_true hlen
    simp only [j_ins] at h
    split at h
    · rename_i x ix a st
      split at h
      · split at h
        · rename_i hia
          cases h
          obtain ⟨hia, hib⟩ := (Bool.and_eq_true _ _).mp hia |> fun z => (⟨z.1, z.2⟩ : _ ∧ _)
          obtain ⟨t, nn, hq, ht, hln⟩ := j_ia_of hia
          rw [hln] at hib
          obtain rfl : t = 2 := by simpa using ht
          intro Hp ls locs cells slots hR hl hn hlo hc hs
          obtain ⟨b1, b2, b3⟩ := j_in hib
          obtain ⟨ha, hcell⟩ := j_arrOf hR hq (by omega)
          rw [List.map_cons, List.map_cons, List.map_cons, j_tr_ref (Nat.ne_of_gt ha)]
          refine W.bast hx hb hcell ((hK.2.1 2 (by omega)).1 nn _) (fun q => by cases q) (by rw [arrV_size]; exact b1) rfl rfl hd fun H1 e z oq => ?_
          refine k _ _ _ _ _ (j_Rel.arr hR hq (by omega) (j_ix ix) (.int x.toInt8.toInt32) (fun b kk hb => ⟨j_up_ne hb, rfl, rfl⟩) rfl (by rw [e, arrV_store]; rfl) z oq (fun kk => ?_)) hl hn (j_locs hlo ha) hc hs
          exact j_avI (t := 2) (by decide)
        · cases h
      · split at h
        · rename_i hia
          cases h
          simp only [Bool.and_eq_true, Bool.or_eq_true, decide_eq_true_eq] at hia
          obtain ⟨⟨hia, hib⟩, h01⟩ := hia
          obtain ⟨t, nn, hq, ht, hln⟩ := j_ia_of hia
          rw [hln] at hib
          obtain rfl : t = 3 := by simpa using ht
          intro Hp ls locs cells slots hR hl hn hlo hc hs
          obtain ⟨b1, b2, b3⟩ := j_in hib
          obtain ⟨ha, hcell⟩ := j_arrOf hR hq (by omega)
          rw [List.map_cons, List.map_cons, List.map_cons, j_tr_ref (Nat.ne_of_gt ha)]
          refine W.zast hx hb hcell ((hK.2.1 3 (by omega)).1 nn _) (fun q => by cases q) (by rw [arrV_size]; exact b1) rfl rfl hd fun H1 e z oq => ?_
          rw [j_narZ h01] at e
          refine k _ _ _ _ _ (j_Rel.arr hR hq (by omega) (j_ix ix) (.int x) (fun b kk hb => ⟨j_up_ne hb, rfl, rfl⟩) rfl (by rw [e, arrV_store]; rfl) z oq (fun kk => ?_)) hl hn (j_locs hlo ha) hc hs
          exact j_avI (t := 3) (by decide)
        · cases h
      · cases h
    · cases h
  | aastore =>
    obtain rfl : len = 1 := of_decide_eq_true hlen
    simp only [j_ins] at h
    split at h
    · rename_i t0 c0 l0
      simp only [Bool.and_eq_true, decide_eq_true_eq, beq_iff_eq] at hok
      obtain ⟨o1, o2, rfl, o4⟩ := hok
      split at h
      · rename_i v ix a st
        split at h
        · rename_i cv hcv
          split at h
          · rename_i hia
            cases h
            simp only [Bool.and_eq_true] at hia
            obtain ⟨hpr, hia, hib⟩ := hia
            obtain ⟨t, nn, hq, ht, hln⟩ := j_ia_of hia
            rw [hln] at hib
            obtain rfl : t = t0 := by simpa using ht
            intro Hp ls locs cells slots hR hl hn hlo hc hs
            exact j_aast hx hb hK hd hR hq o1 o2 hib hcv (j_pr_ok l0 o4 hpr) (fun Hp1 locs1 hR1 hlo1 => k _ _ _ _ _ hR1 hl hn hlo1 hc hs) hlo
          · cases h
        · cases h
      · rename_i ix a st
        split at h
        · rename_i hia
          cases h
          simp only [Bool.and_eq_true] at hia
          obtain ⟨hia, hib⟩ := hia
          obtain ⟨t, nn, hq, ht, hln⟩ := j_ia_of hia
          rw [hln] at hib
          obtain rfl : t = t0 := by simpa using ht
          intro Hp ls locs cells slots hR hl hn hlo hc hs
          obtain ⟨b1, b2, b3⟩ := j_in hib
          obtain ⟨ha, hcell⟩ := j_arrOf hR hq (by omega)
          rw [List.map_cons, List.map_cons, List.map_cons, j_tr_ref (Nat.ne_of_gt ha)]
          obtain ⟨C0, hC0⟩ := j_aty_ref o1 o2
          have hA := (hK.2.1 t o2).1 nn (fun k => j_tr E (j_av t H a k))
          rw [hC0] at hA
          refine va_WaastN (C := C0) hx hb hcell hA (fun q => by cases q) (by rw [arrV_size]; exact b1) rfl rfl hd fun H1 e z oq => ?_
          refine k _ _ _ _ _ (j_Rel.arr hR hq (by omega) (j_ix ix) .null (fun b kk hb => ⟨rfl, rfl, j_up_ne hb⟩) rfl (by rw [e, arrV_store]; rfl) z oq (fun kk => ?_)) hl hn (j_locs hlo ha) hc hs
          exact j_avR (r := none) (by omega)
        · cases h
      · cases h
    · cases h
  | new i =>
    obtain rfl : len = 3 := of_decide_eq_true hlen
    simp only [j_ins] at h
    split at h
    · rename_i w1 w2 w3 c0
      cases h
      simp only [Bool.and_eq_true, decide_eq_true_eq] at hok
      obtain ⟨o1, o2, o3, o4⟩ := hok
      intro Hp ls locs cells slots hR hl hn hlo hc hs
      exact j_newO hx hb hown hts hK hd hR o1 o2 o3 o4 (by have := hroom1; rw [j_nw_len] at this; omega) (by have := hroom2; rw [j_nw_sz] at this; change _ + j_nf c0 ≤ _ at this; omega) (fun Hp1 hR1 => k _ _ _ _ _ hR1 hl hn hlo (by rw [j_nw_len]; omega) (by rw [j_nw_sz]; change _ = _ + j_nf c0; omega))
    · cases h
  | newarray at0 =>
    obtain rfl : len = 2 := of_decide_eq_true hlen
    simp only [j_ins] at h
    split at h
    · rename_i w t
      split at h
      · rename_i n0' st
        unfold j_nwa at h
        split at h
        · rename_i hn0
          cases h
          simp only [Bool.and_eq_true, decide_eq_true_eq] at hok
          obtain ⟨o1, o2, o3⟩ := hok
          intro Hp ls locs cells slots hR hl hn hlo hc hs
          exact j_newA hx hb hts hK hd hR o1 o2 o3 hn0 (by have := hroom1; rw [j_nw_len] at this; omega) (by have := hroom2; rw [j_nw_sz] at this; change _ + j_ix n0' ≤ _ at this; omega) (fun Hp1 hR1 => k _ _ _ _ _ hR1 hl hn hlo (by rw [j_nw_len]; omega) (by rw [j_nw_sz]; change _ = _ + j_ix n0'; omega))
        · cases h
      · cases h
    · cases h
  | anewarray i =>
    obtain rfl : len = 3 := of_decide_eq_true hlen
    simp only [j_ins] at h
    split at h
    · rename_i w w2 c0 t
      split at h
      · rename_i n0' st
        unfold j_nwa at h
        split at h
        · rename_i hn0
          cases h
          simp only [Bool.and_eq_true, decide_eq_true_eq, beq_iff_eq] at hok
          obtain ⟨o1, o2, rfl, o3⟩ := hok
          intro Hp ls locs cells slots hR hl hn hlo hc hs
          exact j_newR hx hb hown hts hK hd hR o1 o2 o3 hn0 (by have := hroom1; rw [j_nw_len] at this; omega) (by have := hroom2; rw [j_nw_sz] at this; change _ + j_ix n0' ≤ _ at this; omega) (fun Hp1 hR1 => k _ _ _ _ _ hR1 hl hn hlo (by rw [j_nw_len]; omega) (by rw [j_nw_sz]; change _ = _ + j_ix n0'; omega))
        · cases h
      · cases h
    · cases h
  | instanceof i =>
    obtain rfl : len = 3 := of_decide_eq_true hlen
    simp only [j_ins] at h
    split at h
    · rename_i w c0 l0
      simp only [Bool.and_eq_true, decide_eq_true_eq] at hok
      obtain ⟨o1, o2, o3⟩ := hok
      split at h
      · rename_i a st
        split at h
        · rename_i ca hca
          split at h
          · rename_i b hb0
            cases h
            intro Hp ls locs cells slots hR hl hn hlo hc hs
            exact j_inst hx hb hown hts hK hd hR hca o1 o2 (j_io_ok l0 o3 hb0) (k _ _ _ _ _ hR hl hn hlo hc hs)
          · cases h
        · cases h
      · cases h
    · cases h
  | invokestatic i =>
    obtain rfl : len = 3 := of_decide_eq_true hlen
    simp only [j_ins] at h
    exact j_inv1 hx hb hml hR1 hR2 hown hts hK (op := 0) (fun _ => hd) (fun z => by cases z) hok h k
  | invokespecial i =>
    obtain rfl : len = 3 := of_decide_eq_true hlen
    simp only [j_ins] at h
    exact j_inv1 hx hb hml hR1 hR2 hown hts hK (op := 1) (fun z => by cases z) (fun _ => hd) hok h k
  | invokevirtual i =>
    obtain rfl : len = 3 := of_decide_eq_true hlen
    simp only [j_ins] at h
    exact j_inv1 hx hb hml hR1 hR2 hown hts hK (op := 2) (fun z => by cases z) (fun z => by cases z) hok h k
  | ireturn =>
    simp only [j_ins] at h
    split at h
    · split at h <;> cases h
    · cases h
  | lreturn =>
    simp only [j_ins] at h
    split at h
    · split at h <;> cases h
    · cases h
  | areturn =>
    simp only [j_ins] at h
    split at h
    · split at h <;> cases h
    · split at h <;> cases h
    · cases h
  | return_ =>
    simp only [j_ins] at h
    split at h
    · split at h <;> cases h
    · cases h
  | _ => (simp only [j_ins] at h; cases h)
end JSTEP
