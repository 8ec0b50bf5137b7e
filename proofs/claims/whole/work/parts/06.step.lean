/-! A STEP: an instruction that is no call and no return -/
def j_npl : List Nat := [0, 1, 1, 1, 2, 1, 0, 1, 2, 1, 3, 2, 3, 4, 3, 2, 4, 3, 2, 2, 2, 0, 2, 4, 2, 0, 1, 1, 1, 0, 0, 1, 1, 1, 1, 2, 4, 3, 2, 4, 3, 2, 4, 3, 2, 4, 3, 2, 2, 0, 2, 0, 1, 2, 1, 2, 1, 4, 3, 2, 2, 0, 0, 1, 1, 0, 3, 2, 2, 1, 3, 1, 0, 1, 0, 2, 1, 2, 2, 1, 1, 2, 3, 3, 1, 3, 2, 1, 0, 2, 0, 0, 3, 1, 2, 1, 3, 3, 2, 5, 1, 3, 3, 3, 4, 2, 2, 1, 1, 2, 4, 3, 2, 1, 2, 0, 1, 1, 3, 2, 0, 3, 2, 1, 1, 3, 2, 1, 3, 1, 0, 1, 2, 0, 0, 1, 0, 1, 1, 0, 1, 1, 1, 1, 0, 0, 0, 0, 3, 3, 4, 2, 2, 2, 1, 2, 2, 2, 2, 1, 0, 2, 1, 2, 2, 1, 1, 2, 4, 4, 3, 3, 1, 2, 3, 1, 3, 2, 1, 0, 2, 0, 0, 1, 2, 2, 2, 2, 2, 2, 2, 3, 1, 2, 1, 1, 3, 2, 3, 2, 5, 1, 2, 2, 0, 1, 0, 0, 2, 2, 2, 2, 3, 1, 0, 2, 2, 2, 2, 5]
def j_np (y : Nat) : Nat := j_npl.getD y 0
def j_ilen (i : Instr) (len : Nat) : Nat := match i with
  | .bipush _ => 2
  | .iload _ => 2
  | .lload _ => 2
  | .aload _ => 2
  | .istore _ => 2
  | .lstore _ => 2
  | .astore _ => 2
  | .ldc _ => 2
  | .newarray _ => 2
  | .sipush _ => 3
  | .ldc_w _ => 3
  | .ldc2_w _ => 3
  | .iinc _ _ => 3
  | .ifCond _ _ => 3
  | .if_icmp _ _ => 3
  | .ifnull _ => 3
  | .ifnonnull _ => 3
  | .goto _ => 3
  | .getfield _ => 3
  | .putfield _ => 3
  | .getstatic _ => 3
  | .new _ => 3
  | .anewarray _ => 3
  | .instanceof _ => 3
  | .invokestatic _ => 3
  | .invokespecial _ => 3
  | .invokevirtual _ => 3
  | .tableswitch _ _ _ _ => len
  | .lookupswitch _ _ => len
  | _ => 1
def j_okt (pc : Nat) (off : Int) : Bool := decide (0 ≤ (pc : Int) + off)
theorem j_okt_tg {pc : Nat} {off : Int} (h : j_okt pc off = true) : (pc : Int) + off = (j_tg pc off : Int) := by
  have h1 : 0 ≤ (pc : Int) + off := of_decide_eq_true h
  unfold j_tg
  omega
def j_inl (q : Nat × Nat) : Bool := j_cx.contains q
def j_nin (q : Nat × Nat) : Bool := j_nc.contains q
def j_okio (c : Nat) : List Nat → Bool
  | s :: r :: _ :: l => decide (s < 13) && ((r == 1 && s == c) || (r == 2 && j_inl (s, c)) || (r == 0 && j_nin (s, c))) && j_okio c l
  | _ => true
def j_okpr (c : Nat) : List Nat → Bool
  | s :: _ :: l => decide (s < 13) && (s == c || j_inl (s, c)) && j_okpr c l
  | _ => true
def j_arc (t : Nat) : Nat := if t = 4 then 2 else if t = 5 then 3 else 8
/-- what a row's numbers must be, by the words of the tables -/
def j_okr (M : Nat) (r : j_row) : Bool := r.2.2.1 == j_ilen r.2.1 r.2.2.1 && match r.2.1 with
  | .bipush c => decide (-128 ≤ c) && decide (c ≤ 127)
  | .sipush c => decide (-32768 ≤ c) && decide (c ≤ 32767)
  | .ldc i => match r.2.2.2 with
    | [0, w, s, v] => j_hw w [16, j_ow M, i, s, v]
    | [1, k] => decide (k < 5) && (j_ow M == 3 && j_si k == i)
    | _ => true
  | .ldc_w i => match r.2.2.2 with
    | [0, w, s, v] => j_hw w [16, j_ow M, i, s, v]
    | _ => true
  | .ldc2_w i => match r.2.2.2 with
    | [w, s, v] => j_hw w [17, j_ow M, i, s, v]
    | _ => true
  | .ifCond _ off => j_okt r.1 off
  | .if_icmp _ off => j_okt r.1 off
  | .ifnull off => j_okt r.1 off
  | .ifnonnull off => j_okt r.1 off
  | .goto off => j_okt r.1 off
  | .tableswitch dflt lo hi offs => j_okt r.1 dflt && (decide ((offs.size : Int) = hi - lo + 1) && offs.toList.all (j_okt r.1))
  | .lookupswitch dflt ps => j_okt r.1 dflt && (ps.toList.all (fun q => j_okt r.1 q.2) && (ps.toList.zip (ps.toList.drop 1)).all (fun (a, next) => a.1 < next.1))
  | .getfield i => match r.2.2.2 with
    | w :: cr :: t :: k :: ws :: al => if al = [14] then cr == 14 && ((k == 0 && t == 2 && j_hw w [0, j_ow M, i, 14, 87, 5]) || (k == 1 && t == 0 && j_hw w [0, j_ow M, i, 14, 89, 13])) else
      al.all fun c => decide (c < 13) && match j_fq c k with
        | some (dc, n, d, _, tc) => j_hw w [0, j_ow M, i, cr, n, d] && (dc == cr || j_hw ws [8, cr, dc, n, d]) && ((t == tc) || (t == 0 && tc == 3))
        | none => false
    | _ => true
  | .putfield i => match r.2.2.2 with
    | w :: cr :: t :: k :: ws :: fin :: al => al.all fun c => decide (c < 13) && match j_fq c k with
        | some (dc, n, d, f, tc) => j_hw w [0, j_ow M, i, cr, n, d] && (dc == cr || j_hw ws [8, cr, dc, n, d]) && (t == tc) && (if f then fin == 1 && (dc == j_ow M && decide ((j_ym M).name = "<init>")) else fin == 0)
        | none => false
    | _ => true
  | .getstatic i => match r.2.2.2 with
    | [w, 0] => j_hw w [0, j_ow M, i, 14, 88, 4]
    | [w, 1] => j_hw w [0, j_ow M, i, 16, 90, 14]
    | _ => true
  | .new i => match r.2.2.2 with
    | [w1, w2, w3, c] => decide (c < 13) && (j_hw w1 [9, j_ow M, i, c] && (j_hw w2 [10, c, j_nf c] && j_hw w3 [4, c]))
    | _ => true
  | .newarray a => match r.2.2.2 with
    | [w, t] => decide (t < 4) && (j_hw w [11, t] && decide (j_pt t = newarray.typeOf a))
    | _ => true
  | .anewarray i => match r.2.2.2 with
    | [w, _, c, t] => decide (4 ≤ t) && (decide (t < 7) && (c == j_arc t && j_hw w [9, j_ow M, i, c]))
    | _ => true
  | .aaload => r.2.2.2.all fun t => decide (4 ≤ t) && decide (t < 7)
  | .aastore => match r.2.2.2 with
    | t :: c :: l => decide (4 ≤ t) && (decide (t < 7) && (c == j_arc t && j_okpr c l))
    | _ => true
  | .instanceof i => match r.2.2.2 with
    | w :: c :: l => decide (c < 13) && (j_hw w [9, j_ow M, i, c] && j_okio c l)
    | _ => true
  | _ => true
theorem j_idFV : j_fs 87 = "value" ∧ j_es 5 = "[B" ∧ j_fs 89 = "coder" ∧ j_es 13 = "B" ∧ j_fs 88 = "COMPACT_STRINGS" ∧ j_es 4 = "Z" ∧ j_fs 90 = "SIOOBE_FORMATTER" ∧ j_es 14 = "Ljava/util/function/BiFunction;" ∧ j_cs 14 = "java/lang/String" ∧ j_cs 16 = "jdk/internal/util/Preconditions" ∧ j_cs 3 = "HatGoes$House" := ⟨rfl, rfl, rfl, rfl, rfl, rfl, rfl, rfl, rfl, rfl, rfl⟩
theorem j_tr_ref {E : j_E} {a : Nat} (h : ¬ a = 11) : j_tr E (.ref a) = .ref (j_ad E a) := if_neg h
theorem j_b8 {c : Int} (h : (decide (-128 ≤ c) && decide (c ≤ 127)) = true) : (Int8.ofInt c).toInt32 = Int32.ofInt c := by
  simp only [Bool.and_eq_true, decide_eq_true_eq] at h
  apply Int32.toInt_inj.mp
  rw [Int8.toInt_toInt32, Int8.toInt_ofInt_of_le (by omega) (by omega), Int32.toInt_ofInt_of_le (by omega) (by omega)]
theorem j_b16 {c : Int} (h : (decide (-32768 ≤ c) && decide (c ≤ 32767)) = true) : (Int16.ofInt c).toInt32 = Int32.ofInt c := by
  simp only [Bool.and_eq_true, decide_eq_true_eq] at h
  apply Int32.toInt_inj.mp
  rw [Int16.toInt_toInt32, Int16.toInt_ofInt_of_le (by omega) (by omega), Int32.toInt_ofInt_of_le (by omega) (by omega)]
theorem j_lc (v : Fin 2) : Int64.ofNat (v : Nat) = Int64.ofInt ((v : Nat) : Int) := by
  match v with
  | 0 => rfl
  | 1 => rfl
theorem j_lv_iinc {E : j_E} (hf : E.2.2.1 = .null ∨ ∃ a, E.2.2.1 = .ref a) {ls ls1 : Array Slot} {nL : Nat} {loc : List Value} {i : Nat} {x y : Int32} (hl : lv_has ls nL (j_lv E 0 loc)) (hv : loc[i]? = some (.int x)) (h : lv_has ls1 nL ((i, .int y) :: (j_lv E 0 loc).filter (fun q => !(q.1 == i) && !(q.1 + 1 == i && q.2.category == 2)))) : lv_has ls1 nL (j_lv E 0 (loc.set i (.int y))) := by
  refine h.mono fun q hq => ?_
  obtain ⟨j, w, h1, h2, rfl⟩ := (j_lv_mem _ _ _).mp hq
  rw [Nat.zero_add]
  by_cases hj : j = i
  · subst hj
    rw [List.getElem?_set] at h1
    simp at h1
    rw [← h1.2]
    exact List.mem_cons_self
  · rw [List.getElem?_set_ne (Ne.symm hj)] at h1
    refine List.mem_cons_of_mem _ (List.mem_filter.mpr ⟨(j_lv_mem _ _ _).mpr ⟨j, w, h1, h2, by rw [Nat.zero_add]⟩, ?_⟩)
    simp only [Bool.and_eq_true, Bool.not_eq_true', beq_eq_false_iff_ne, ne_eq, Bool.and_eq_false_iff]
    refine ⟨hj, ?_⟩
    by_cases e : j + 1 = i
    · refine Or.inr fun e2 => ?_
      have g1 := hl.2.1.1 j (j_tr E w) (j_lv_get hl h1 h2) e2
      rw [e, j_lv_get hl hv rfl] at g1
      cases g1
    · exact Or.inl e
section JSTEP
variable {p : Program} {l : Launch} {e : Env} {R : Room} {s : State} {m : MethodId} {args : Array Value} {below : List Frame} {meth : Method} {c : Code} {Q : State → Prop} {E : j_E} {M n0 z0 : Nat}
/-- from here the machine goes on well -/
def j_Go (p : Program) (l : Launch) (e : Env) (R : Room) (s : State) (m : MethodId) (args : Array Value) (below : List Frame) (meth : Method) (c : Code) (Q : State → Prop) (E : j_E) (M n0 z0 pc : Nat) (loc stk : List Value) (H : j_H) : Prop :=
  ∀ (Hp : Heap) (ls : Array Slot) (locs : List Loc) (cells slots : Nat), j_Rel E H Hp → lv_has ls (j_ml M) (j_lv E 0 loc) → loc.length = j_ml M → (∀ q ∈ locs, E.1.size ≤ q.base) → cells + n0 = H.1.length → slots + z0 = j_sz H →
    W p l e R s m args below meth c Hp locs cells slots Q (F0 m pc ls (stk.map (j_tr E)))
set_option maxHeartbeats 4000000 in
theorem j_step1 {pc len : Nat} {i : Instr} {aux : List Nat} {loc stk : List Value} {H : j_H} {pc' : Nat} {loc' stk' : List Value} {H' : j_H}
    (hx : p.tables.exec = Jvm.exec) (hb : c.code = j_by M) (hf : E.2.2.1 = .null ∨ ∃ a, E.2.2.1 = .ref a)
    (hd : decode (j_by M) pc = .ok (i, len)) (hokr : j_okr M (pc, i, len, aux) = true)
    (h : j_ins M pc i len aux loc stk H = some (.inl (.inl (pc', loc', stk', H'))))
    (k : j_Go p l e R s m args below meth c Q E M n0 z0 pc' loc' stk' H') : j_Go p l e R s m args below meth c Q E M n0 z0 pc loc stk H := by
  unfold j_okr at hokr
  obtain ⟨hlen, hok⟩ := (Bool.and_eq_true _ _).mp hokr |> fun q => (⟨q.1, q.2⟩ : _ ∧ _)
  dsimp only at hlen hok
  cases i with
  | iadd =>
    obtain rfl : len = 1 := of_decide_eq_true hlen
    simp only [j_ins] at h
    split at h
    · cases h
      intro Hp ls locs cells slots hR hl hn hlo hc hs
      exact lv_iadd hx hb hd (k _ _ _ _ _ hR hl hn hlo hc hs)
    · cases h
  | isub =>
    obtain rfl : len = 1 := of_decide_eq_true hlen
    simp only [j_ins] at h
    split at h
    · cases h
      intro Hp ls locs cells slots hR hl hn hlo hc hs
      exact lv_isub hx hb hd (k _ _ _ _ _ hR hl hn hlo hc hs)
    · cases h
  | imul =>
    obtain rfl : len = 1 := of_decide_eq_true hlen
    simp only [j_ins] at h
    split at h
    · cases h
      intro Hp ls locs cells slots hR hl hn hlo hc hs
      exact lv_imul hx hb hd (k _ _ _ _ _ hR hl hn hlo hc hs)
    · cases h
  | iand =>
    obtain rfl : len = 1 := of_decide_eq_true hlen
    simp only [j_ins] at h
    split at h
    · cases h
      intro Hp ls locs cells slots hR hl hn hlo hc hs
      exact lv_iand hx hb hd (k _ _ _ _ _ hR hl hn hlo hc hs)
    · cases h
  | ior =>
    obtain rfl : len = 1 := of_decide_eq_true hlen
    simp only [j_ins] at h
    split at h
    · cases h
      intro Hp ls locs cells slots hR hl hn hlo hc hs
      exact lv_ior hx hb hd (k _ _ _ _ _ hR hl hn hlo hc hs)
    · cases h
  | ixor =>
    obtain rfl : len = 1 := of_decide_eq_true hlen
    simp only [j_ins] at h
    split at h
    · cases h
      intro Hp ls locs cells slots hR hl hn hlo hc hs
      exact lv_ixor hx hb hd (k _ _ _ _ _ hR hl hn hlo hc hs)
    · cases h
  | ishl =>
    obtain rfl : len = 1 := of_decide_eq_true hlen
    simp only [j_ins] at h
    split at h
    · cases h
      intro Hp ls locs cells slots hR hl hn hlo hc hs
      exact lv_ishl hx hb hd (k _ _ _ _ _ hR hl hn hlo hc hs)
    · cases h
  | ishr =>
    obtain rfl : len = 1 := of_decide_eq_true hlen
    simp only [j_ins] at h
    split at h
    · cases h
      intro Hp ls locs cells slots hR hl hn hlo hc hs
      exact lv_ishr hx hb hd (k _ _ _ _ _ hR hl hn hlo hc hs)
    · cases h
  | ineg =>
    obtain rfl : len = 1 := of_decide_eq_true hlen
    simp only [j_ins] at h
    split at h
    · cases h
      intro Hp ls locs cells slots hR hl hn hlo hc hs
      exact lv_ineg hx hb hd (k _ _ _ _ _ hR hl hn hlo hc hs)
    · cases h
  | ladd =>
    obtain rfl : len = 1 := of_decide_eq_true hlen
    simp only [j_ins] at h
    split at h
    · cases h
      intro Hp ls locs cells slots hR hl hn hlo hc hs
      exact lv_ladd hx hb hd (k _ _ _ _ _ hR hl hn hlo hc hs)
    · cases h
  | lmul =>
    obtain rfl : len = 1 := of_decide_eq_true hlen
    simp only [j_ins] at h
    split at h
    · cases h
      intro Hp ls locs cells slots hR hl hn hlo hc hs
      exact lv_lmul hx hb hd (k _ _ _ _ _ hR hl hn hlo hc hs)
    · cases h
  | land =>
    obtain rfl : len = 1 := of_decide_eq_true hlen
    simp only [j_ins] at h
    split at h
    · cases h
      intro Hp ls locs cells slots hR hl hn hlo hc hs
      exact lv_land hx hb hd (k _ _ _ _ _ hR hl hn hlo hc hs)
    · cases h
  | lor =>
    obtain rfl : len = 1 := of_decide_eq_true hlen
    simp only [j_ins] at h
    split at h
    · cases h
      intro Hp ls locs cells slots hR hl hn hlo hc hs
      exact lv_lor hx hb hd (k _ _ _ _ _ hR hl hn hlo hc hs)
    · cases h
  | lxor =>
    obtain rfl : len = 1 := of_decide_eq_true hlen
    simp only [j_ins] at h
    split at h
    · cases h
      intro Hp ls locs cells slots hR hl hn hlo hc hs
      exact lv_lxor hx hb hd (k _ _ _ _ _ hR hl hn hlo hc hs)
    · cases h
  | iushr =>
    obtain rfl : len = 1 := of_decide_eq_true hlen
    simp only [j_ins] at h
    split at h
    · cases h
      intro Hp ls locs cells slots hR hl hn hlo hc hs
      exact lv_iushr hx hb hd rfl (k _ _ _ _ _ hR hl hn hlo hc hs)
    · cases h
  | lshl =>
    obtain rfl : len = 1 := of_decide_eq_true hlen
    simp only [j_ins] at h
    split at h
    · cases h
      intro Hp ls locs cells slots hR hl hn hlo hc hs
      exact lv_lshl hx hb hd rfl (k _ _ _ _ _ hR hl hn hlo hc hs)
    · cases h
  | lshr =>
    obtain rfl : len = 1 := of_decide_eq_true hlen
    simp only [j_ins] at h
    split at h
    · cases h
      intro Hp ls locs cells slots hR hl hn hlo hc hs
      exact lv_lshr hx hb hd rfl (k _ _ _ _ _ hR hl hn hlo hc hs)
    · cases h
  | i2l =>
    obtain rfl : len = 1 := of_decide_eq_true hlen
    simp only [j_ins] at h
    split at h
    · cases h
      intro Hp ls locs cells slots hR hl hn hlo hc hs
      exact lv_i2l hx hb hd rfl (k _ _ _ _ _ hR hl hn hlo hc hs)
    · cases h
  | l2i =>
    obtain rfl : len = 1 := of_decide_eq_true hlen
    simp only [j_ins] at h
    split at h
    · cases h
      intro Hp ls locs cells slots hR hl hn hlo hc hs
      exact lv_l2i hx hb hd rfl (k _ _ _ _ _ hR hl hn hlo hc hs)
    · cases h
  | i2b =>
    obtain rfl : len = 1 := of_decide_eq_true hlen
    simp only [j_ins] at h
    split at h
    · cases h
      intro Hp ls locs cells slots hR hl hn hlo hc hs
      exact lv_i2b hx hb hd rfl (k _ _ _ _ _ hR hl hn hlo hc hs)
    · cases h
  | i2s =>
    obtain rfl : len = 1 := of_decide_eq_true hlen
    simp only [j_ins] at h
    split at h
    · cases h
      intro Hp ls locs cells slots hR hl hn hlo hc hs
      exact lv_i2s hx hb hd rfl (k _ _ _ _ _ hR hl hn hlo hc hs)
    · cases h
  | i2c =>
    obtain rfl : len = 1 := of_decide_eq_true hlen
    simp only [j_ins] at h
    split at h
    · cases h
      intro Hp ls locs cells slots hR hl hn hlo hc hs
      exact lv_i2c hx hb hd rfl (k _ _ _ _ _ hR hl hn hlo hc hs)
    · cases h
  | lcmp =>
    obtain rfl : len = 1 := of_decide_eq_true hlen
    simp only [j_ins] at h
    split at h
    · cases h
      intro Hp ls locs cells slots hR hl hn hlo hc hs
      exact W.lcmp hx hb hd (k _ _ _ _ _ hR hl hn hlo hc hs)
    · cases h
  | pop =>
    obtain rfl : len = 1 := of_decide_eq_true hlen
    simp only [j_ins] at h
    split at h
    · cases h
      intro Hp ls locs cells slots hR hl hn hlo hc hs
      exact lv_pop hx hb hd rfl (k _ _ _ _ _ hR hl hn hlo hc hs)
    · cases h
  | idiv =>
    obtain rfl : len = 1 := of_decide_eq_true hlen
    simp only [j_ins] at h
    split at h
    · split at h
      · cases h
      · rename_i hne
        cases h
        intro Hp ls locs cells slots hR hl hn hlo hc hs
        exact lv_idiv hx hb hd hne (k _ _ _ _ _ hR hl hn hlo hc hs)
    · cases h
  | irem =>
    obtain rfl : len = 1 := of_decide_eq_true hlen
    simp only [j_ins] at h
    split at h
    · split at h
      · cases h
      · rename_i hne
        cases h
        intro Hp ls locs cells slots hR hl hn hlo hc hs
        exact lv_irem hx hb hd hne (k _ _ _ _ _ hR hl hn hlo hc hs)
    · cases h
  | ldiv =>
    obtain rfl : len = 1 := of_decide_eq_true hlen
    simp only [j_ins] at h
    split at h
    · split at h
      · cases h
      · rename_i hne
        cases h
        intro Hp ls locs cells slots hR hl hn hlo hc hs
        exact lv_ldiv hx hb hd hne (k _ _ _ _ _ hR hl hn hlo hc hs)
    · cases h
  | lrem =>
    obtain rfl : len = 1 := of_decide_eq_true hlen
    simp only [j_ins] at h
    split at h
    · split at h
      · cases h
      · rename_i hne
        cases h
        intro Hp ls locs cells slots hR hl hn hlo hc hs
        exact lv_lrem hx hb hd hne (k _ _ _ _ _ hR hl hn hlo hc hs)
    · cases h
  | aconst_null =>
    obtain rfl : len = 1 := of_decide_eq_true hlen
    simp only [j_ins] at h
    cases h
    intro Hp ls locs cells slots hR hl hn hlo hc hs
    exact lv_null hx hb hd (k _ _ _ _ _ hR hl hn hlo hc hs)
  | iconst v =>
    obtain rfl : len = 1 := of_decide_eq_true hlen
    simp only [j_ins] at h
    cases h
    intro Hp ls locs cells slots hR hl hn hlo hc hs
    exact lv_iconst hx hb hd rfl (k _ _ _ _ _ hR hl hn hlo hc hs)
  | bipush v =>
    obtain rfl : len = 2 := of_decide_eq_true hlen
    simp only [j_ins] at h
    cases h
    intro Hp ls locs cells slots hR hl hn hlo hc hs
    exact lv_bipush hx hb hd (j_b8 hok) (k _ _ _ _ _ hR hl hn hlo hc hs)
  | sipush v =>
    obtain rfl : len = 3 := of_decide_eq_true hlen
    simp only [j_ins] at h
    cases h
    intro Hp ls locs cells slots hR hl hn hlo hc hs
    exact lv_sipush hx hb hd (j_b16 hok) (k _ _ _ _ _ hR hl hn hlo hc hs)
  | lconst v =>
    obtain rfl : len = 1 := of_decide_eq_true hlen
    simp only [j_ins] at h
    cases h
    intro Hp ls locs cells slots hR hl hn hlo hc hs
    exact lv_lconst hx hb hd (j_lc v) (k _ _ _ _ _ hR hl hn hlo hc hs)
  | goto off =>
    obtain rfl : len = 3 := of_decide_eq_true hlen
    simp only [j_ins] at h
    cases h
    intro Hp ls locs cells slots hR hl hn hlo hc hs
    exact lv_goto hx hb hd (j_okt_tg hok) (k _ _ _ _ _ hR hl hn hlo hc hs)
  | iload_n v =>
    obtain rfl : len = 1 := of_decide_eq_true hlen
    simp only [j_ins] at h
    split at h
    · rename_i hv
      cases h
      intro Hp ls locs cells slots hR hl hn hlo hc hs
      exact lv_iload_n hx hb hd rfl (j_lv_get hl hv rfl) (k _ _ _ _ _ hR hl hn hlo hc hs)
    · cases h
  | iload v =>
    obtain rfl : len = 2 := of_decide_eq_true hlen
    simp only [j_ins] at h
    split at h
    · rename_i hv
      cases h
      intro Hp ls locs cells slots hR hl hn hlo hc hs
      exact lv_iload hx hb hd (j_lv_get hl hv rfl) (k _ _ _ _ _ hR hl hn hlo hc hs)
    · cases h
  | lload_n v =>
    obtain rfl : len = 1 := of_decide_eq_true hlen
    simp only [j_ins] at h
    split at h
    · rename_i hv
      cases h
      intro Hp ls locs cells slots hR hl hn hlo hc hs
      exact lv_lload_n hx hb hd rfl (j_lv_get hl hv rfl) (k _ _ _ _ _ hR hl hn hlo hc hs)
    · cases h
  | lload v =>
    obtain rfl : len = 2 := of_decide_eq_true hlen
    simp only [j_ins] at h
    split at h
    · rename_i hv
      cases h
      intro Hp ls locs cells slots hR hl hn hlo hc hs
      exact lv_lload hx hb hd (j_lv_get hl hv rfl) (k _ _ _ _ _ hR hl hn hlo hc hs)
    · cases h
  | aload_n v =>
    obtain rfl : len = 1 := of_decide_eq_true hlen
    simp only [j_ins] at h
    split at h
    · rename_i hv
      split at h
      · cases h
      · rename_i h11
        cases h
        intro Hp ls locs cells slots hR hl hn hlo hc hs
        have k := k _ _ _ _ _ hR hl hn hlo hc hs
        have hv := j_lv_get hl hv rfl
        rw [j_tr_ref h11] at hv
        rw [List.map_cons, j_tr_ref h11] at k
        exact lv_aload_n hx hb hd rfl hv k
    · rename_i hv
      cases h
      intro Hp ls locs cells slots hR hl hn hlo hc hs
      exact lv_aload_nN hx hb hd rfl (j_lv_get hl hv rfl) (k _ _ _ _ _ hR hl hn hlo hc hs)
    · cases h
  | aload v =>
    obtain rfl : len = 2 := of_decide_eq_true hlen
    simp only [j_ins] at h
    split at h
    · rename_i hv
      split at h
      · cases h
      · rename_i h11
        cases h
        intro Hp ls locs cells slots hR hl hn hlo hc hs
        have k := k _ _ _ _ _ hR hl hn hlo hc hs
        have hv := j_lv_get hl hv rfl
        rw [j_tr_ref h11] at hv
        rw [List.map_cons, j_tr_ref h11] at k
        exact lv_aload hx hb hd hv k
    · rename_i hv
      cases h
      intro Hp ls locs cells slots hR hl hn hlo hc hs
      exact lv_aloadN hx hb hd (j_lv_get hl hv rfl) (k _ _ _ _ _ hR hl hn hlo hc hs)
    · cases h
  | istore_n v =>
    obtain rfl : len = 1 := of_decide_eq_true hlen
    simp only [j_ins] at h
    split at h
    · split at h
      · rename_i hk
        cases h
        intro Hp ls locs cells slots hR hl hn hlo hc hs
        exact lv_istore_n hx hb hd rfl hl (by rw [← hn]; exact hk) rfl (fun ls1 hl1 => k _ _ _ _ _ hR (j_lv_st hf hl1) (by rw [j_st_len]; exact hn) hlo hc hs)
      · cases h
    · cases h
  | istore v =>
    obtain rfl : len = 2 := of_decide_eq_true hlen
    simp only [j_ins] at h
    split at h
    · split at h
      · rename_i hk
        cases h
        intro Hp ls locs cells slots hR hl hn hlo hc hs
        exact lv_istore hx hb hd hl (by rw [← hn]; exact hk) rfl (fun ls1 hl1 => k _ _ _ _ _ hR (j_lv_st hf hl1) (by rw [j_st_len]; exact hn) hlo hc hs)
      · cases h
    · cases h
  | lstore_n v =>
    obtain rfl : len = 1 := of_decide_eq_true hlen
    simp only [j_ins] at h
    split at h
    · split at h
      · rename_i hk
        cases h
        intro Hp ls locs cells slots hR hl hn hlo hc hs
        exact lv_lstore_n hx hb hd rfl hl (by rw [← hn]; exact hk) rfl (fun ls1 hl1 => k _ _ _ _ _ hR (j_lv_st2 hf hl1) (by rw [j_st2, List.length_set, j_st_len]; exact hn) hlo hc hs)
      · cases h
    · cases h
  | lstore v =>
    obtain rfl : len = 2 := of_decide_eq_true hlen
    simp only [j_ins] at h
    split at h
    · split at h
      · rename_i hk
        cases h
        intro Hp ls locs cells slots hR hl hn hlo hc hs
        exact lv_lstore hx hb hd hl (by rw [← hn]; exact hk) rfl (fun ls1 hl1 => k _ _ _ _ _ hR (j_lv_st2 hf hl1) (by rw [j_st2, List.length_set, j_st_len]; exact hn) hlo hc hs)
      · cases h
    · cases h
  | astore_n v =>
    obtain rfl : len = 1 := of_decide_eq_true hlen
    simp only [j_ins] at h
    split at h
    · split at h
      · rename_i hk
        cases h
        intro Hp ls locs cells slots hR hl hn hlo hc hs
        rw [List.map_cons, j_tr_ref hk.2]
        refine lv_astore_n hx hb hd rfl hl (by rw [← hn]; exact hk.1) rfl (fun ls1 hl1 => ?_)
        rw [← j_tr_ref (E := E) hk.2] at hl1
        exact k _ _ _ _ _ hR (j_lv_st hf hl1) (by rw [j_st_len]; exact hn) hlo hc hs
      · cases h
    · split at h
      · rename_i hk
        cases h
        intro Hp ls locs cells slots hR hl hn hlo hc hs
        exact lv_astore_nN hx hb hd rfl hl (by rw [← hn]; exact hk) rfl (fun ls1 hl1 => k _ _ _ _ _ hR (j_lv_st hf (v := .null) hl1) (by rw [j_st_len]; exact hn) hlo hc hs)
      · cases h
    · cases h
  | astore v =>
    obtain rfl : len = 2 := of_decide_eq_true hlen
    simp only [j_ins] at h
    split at h
    · split at h
      · rename_i hk
        cases h
        intro Hp ls locs cells slots hR hl hn hlo hc hs
        rw [List.map_cons, j_tr_ref hk.2]
        refine lv_astore hx hb hd hl (by rw [← hn]; exact hk.1) rfl (fun ls1 hl1 => ?_)
        rw [← j_tr_ref (E := E) hk.2] at hl1
        exact k _ _ _ _ _ hR (j_lv_st hf hl1) (by rw [j_st_len]; exact hn) hlo hc hs
      · cases h
    · split at h
      · rename_i hk
        cases h
        intro Hp ls locs cells slots hR hl hn hlo hc hs
        exact lv_astoreN hx hb hd hl (by rw [← hn]; exact hk) rfl (fun ls1 hl1 => k _ _ _ _ _ hR (j_lv_st hf (v := .null) hl1) (by rw [j_st_len]; exact hn) hlo hc hs)
      · cases h
    · cases h
  | iinc v d =>
    obtain rfl : len = 3 := of_decide_eq_true hlen
    simp only [j_ins] at h
    split at h
    · rename_i x hv
      cases h
      intro Hp ls locs cells slots hR hl hn hlo hc hs
      obtain ⟨kx, hkx⟩ := List.getElem?_of_mem ((j_lv_mem loc 0 (v, .int x)).mpr ⟨v, .int x, hv, rfl, by rw [Nat.zero_add]; rfl⟩)
      exact lv_iinc hx hb hd hl hkx rfl (by rw [← hn]; exact (List.getElem?_eq_some_iff.mp hv).1) rfl (fun ls1 hl1 => k _ _ _ _ _ hR (j_lv_iinc hf hl hv hl1) (by rw [List.length_set]; exact hn) hlo hc hs)
    · cases h
  | ifCond cnd off =>
    obtain rfl : len = 3 := of_decide_eq_true hlen
    simp only [j_ins] at h
    split at h
    · have ht := j_okt_tg hok
      intro Hp ls locs cells slots hR hl hn hlo hc hs
      cases cnd
      · refine lv_if_eq hx hb hd ht (fun hq => ?_) (fun hq => ?_)
        · have hq : j_cmp .eq _ _ = true := by simpa [j_cmp] using hq
          rw [j_br, if_pos hq] at h
          cases h
          exact k _ _ _ _ _ hR hl hn hlo hc hs
        · have hq : ¬ j_cmp .eq _ _ = true := by simpa [j_cmp] using hq
          rw [j_br, if_neg hq] at h
          cases h
          exact k _ _ _ _ _ hR hl hn hlo hc hs
      · refine lv_if_ne hx hb hd ht (fun hq => ?_) (fun hq => ?_)
        · have hq : j_cmp .ne _ _ = true := by simpa [j_cmp] using hq
          rw [j_br, if_pos hq] at h
          cases h
          exact k _ _ _ _ _ hR hl hn hlo hc hs
        · have hq : ¬ j_cmp .ne _ _ = true := by simpa [j_cmp] using hq
          rw [j_br, if_neg hq] at h
          cases h
          exact k _ _ _ _ _ hR hl hn hlo hc hs
      · refine lv_if_lt hx hb hd ht (fun hq => ?_) (fun hq => ?_)
        · have hq : j_cmp .lt _ _ = true := by simpa [j_cmp] using hq
          rw [j_br, if_pos hq] at h
          cases h
          exact k _ _ _ _ _ hR hl hn hlo hc hs
        · have hq : ¬ j_cmp .lt _ _ = true := by simpa [j_cmp] using hq
          rw [j_br, if_neg hq] at h
          cases h
          exact k _ _ _ _ _ hR hl hn hlo hc hs
      · refine lv_if_ge hx hb hd ht (fun hq => ?_) (fun hq => ?_)
        · have hq : j_cmp .ge _ _ = true := by simpa [j_cmp] using hq
          rw [j_br, if_pos hq] at h
          cases h
          exact k _ _ _ _ _ hR hl hn hlo hc hs
        · have hq : ¬ j_cmp .ge _ _ = true := by simpa [j_cmp] using hq
          rw [j_br, if_neg hq] at h
          cases h
          exact k _ _ _ _ _ hR hl hn hlo hc hs
      · refine lv_if_gt hx hb hd ht (fun hq => ?_) (fun hq => ?_)
        · have hq : j_cmp .gt _ _ = true := by simpa [j_cmp] using hq
          rw [j_br, if_pos hq] at h
          cases h
          exact k _ _ _ _ _ hR hl hn hlo hc hs
        · have hq : ¬ j_cmp .gt _ _ = true := by simpa [j_cmp] using hq
          rw [j_br, if_neg hq] at h
          cases h
          exact k _ _ _ _ _ hR hl hn hlo hc hs
      · refine lv_if_le hx hb hd ht (fun hq => ?_) (fun hq => ?_)
        · have hq : j_cmp .le _ _ = true := by simpa [j_cmp] using hq
          rw [j_br, if_pos hq] at h
          cases h
          exact k _ _ _ _ _ hR hl hn hlo hc hs
        · have hq : ¬ j_cmp .le _ _ = true := by simpa [j_cmp] using hq
          rw [j_br, if_neg hq] at h
          cases h
          exact k _ _ _ _ _ hR hl hn hlo hc hs
    · cases h
  | if_icmp cnd off =>
    obtain rfl : len = 3 := of_decide_eq_true hlen
    simp only [j_ins] at h
    split at h
    · have ht := j_okt_tg hok
      intro Hp ls locs cells slots hR hl hn hlo hc hs
      cases cnd
      · refine lv_icmp_eq hx hb hd ht (fun hq => ?_) (fun hq => ?_)
        · have hq : j_cmp .eq _ _ = true := by simpa [j_cmp] using hq
          rw [j_br, if_pos hq] at h
          cases h
          exact k _ _ _ _ _ hR hl hn hlo hc hs
        · have hq : ¬ j_cmp .eq _ _ = true := by simpa [j_cmp] using hq
          rw [j_br, if_neg hq] at h
          cases h
          exact k _ _ _ _ _ hR hl hn hlo hc hs
      · refine lv_icmp_ne hx hb hd ht (fun hq => ?_) (fun hq => ?_)
        · have hq : j_cmp .ne _ _ = true := by simpa [j_cmp] using hq
          rw [j_br, if_pos hq] at h
          cases h
          exact k _ _ _ _ _ hR hl hn hlo hc hs
        · have hq : ¬ j_cmp .ne _ _ = true := by simpa [j_cmp] using hq
          rw [j_br, if_neg hq] at h
          cases h
          exact k _ _ _ _ _ hR hl hn hlo hc hs
      · refine lv_icmp_lt hx hb hd ht (fun hq => ?_) (fun hq => ?_)
        · have hq : j_cmp .lt _ _ = true := by simpa [j_cmp] using hq
          rw [j_br, if_pos hq] at h
          cases h
          exact k _ _ _ _ _ hR hl hn hlo hc hs
        · have hq : ¬ j_cmp .lt _ _ = true := by simpa [j_cmp] using hq
          rw [j_br, if_neg hq] at h
          cases h
          exact k _ _ _ _ _ hR hl hn hlo hc hs
      · refine lv_icmp_ge hx hb hd ht (fun hq => ?_) (fun hq => ?_)
        · have hq : j_cmp .ge _ _ = true := by simpa [j_cmp] using hq
          rw [j_br, if_pos hq] at h
          cases h
          exact k _ _ _ _ _ hR hl hn hlo hc hs
        · have hq : ¬ j_cmp .ge _ _ = true := by simpa [j_cmp] using hq
          rw [j_br, if_neg hq] at h
          cases h
          exact k _ _ _ _ _ hR hl hn hlo hc hs
      · refine lv_icmp_gt hx hb hd ht (fun hq => ?_) (fun hq => ?_)
        · have hq : j_cmp .gt _ _ = true := by simpa [j_cmp] using hq
          rw [j_br, if_pos hq] at h
          cases h
          exact k _ _ _ _ _ hR hl hn hlo hc hs
        · have hq : ¬ j_cmp .gt _ _ = true := by simpa [j_cmp] using hq
          rw [j_br, if_neg hq] at h
          cases h
          exact k _ _ _ _ _ hR hl hn hlo hc hs
      · refine lv_icmp_le hx hb hd ht (fun hq => ?_) (fun hq => ?_)
        · have hq : j_cmp .le _ _ = true := by simpa [j_cmp] using hq
          rw [j_br, if_pos hq] at h
          cases h
          exact k _ _ _ _ _ hR hl hn hlo hc hs
        · have hq : ¬ j_cmp .le _ _ = true := by simpa [j_cmp] using hq
          rw [j_br, if_neg hq] at h
          cases h
          exact k _ _ _ _ _ hR hl hn hlo hc hs
    · cases h
  | ifnull off =>
    obtain rfl : len = 3 := of_decide_eq_true hlen
    simp only [j_ins] at h
    split at h
    · split at h
      · cases h
      · rename_i h11
        cases h
        intro Hp ls locs cells slots hR hl hn hlo hc hs
        rw [List.map_cons, j_tr_ref h11]
        exact lv_ifnull hx hb hd (k _ _ _ _ _ hR hl hn hlo hc hs)
    · cases h
      intro Hp ls locs cells slots hR hl hn hlo hc hs
      exact lv_ifnullN hx hb hd (j_okt_tg hok) (k _ _ _ _ _ hR hl hn hlo hc hs)
    · cases h
  | ifnonnull off =>
    obtain rfl : len = 3 := of_decide_eq_true hlen
    simp only [j_ins] at h
    split at h
    · split at h
      · cases h
      · rename_i h11
        cases h
        intro Hp ls locs cells slots hR hl hn hlo hc hs
        rw [List.map_cons, j_tr_ref h11]
        exact lv_ifnonnull hx hb hd (j_okt_tg hok) (k _ _ _ _ _ hR hl hn hlo hc hs)
    · cases h
      intro Hp ls locs cells slots hR hl hn hlo hc hs
      exact lv_ifnonnullN hx hb hd (k _ _ _ _ _ hR hl hn hlo hc hs)
    · cases h
  | _ => sorry
end JSTEP
