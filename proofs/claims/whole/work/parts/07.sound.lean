/-! THE WHOLE WALK: what the pure walk answers, the machine answers -/
theorem j_plain : ∀ y ∈ j_cl, plainFor (j_ym y) = true := by decide +kernel
theorem j_desc : ∀ y, y < j_yl.length → (parseMethodDescriptor (j_ym y).desc).map (fun d => d.parameters.length) = some (j_np y) := by decide +kernel
theorem j_clsn : ∀ y, y < j_yl.length → (j_ym y).cls = j_cs (j_yc y) ∧ (j_ym y).cls ≠ "java/lang/invoke/MethodHandle" ∧ (j_ym y).cls ≠ "java/lang/invoke/VarHandle" := by decide +kernel
theorem j_cl_lt : ∀ y ∈ j_cl, y < j_yl.length ∧ j_ow y = j_yc y ∧ j_ml y ≤ 60 := by decide +kernel
def j_rtc (r : Nat) (t : Option FieldType) : Bool := if r = 0 then decide (t = none) else if r = 1 then decide (t = some .int) else if r = 2 then decide (t = some .long) else if r = 4 then decide (t = some .boolean) else if r = 5 then decide (t = some .byte) else if r = 6 then decide (t = some .char) else if r = 3 then (match t with
  | some (.object _) => true
  | some (.array _) => true
  | _ => false) else true
theorem j_rets : ∀ y ∈ j_cl, j_rtc (j_rc y) (j_rt y) = true := by decide +kernel
/-- a return: what stands on the stack, and the instruction -/
def j_rin (M : Nat) (v : Option Value) (i : Instr) : Prop := match v with
  | some (.int x) => i = .ireturn ∧ j_rok (j_rc M) x = true
  | some (.long _) => i = .lreturn ∧ j_rc M = 2
  | some (.ref x) => i = .areturn ∧ j_rc M = 3 ∧ x ≠ 11
  | some .null => i = .areturn ∧ j_rc M = 3
  | none => i = .return_ ∧ j_rc M = 0
  | _ => False
theorem j_put_pre {t : Nat} {H H1 : j_H} {a k : Nat} {v : Value} (h : j_put t H a k v = some H1) : H.1 <+: H1.1 := by rw [j_put_len h]; exact List.prefix_refl _
theorem j_do_no {n y pc : Nat} {loc stk : List Value} {q : (Nat × List Value × List Value × j_H) ⊕ (Option Value × j_H)} (h : j_do n y pc loc stk = some (.inl q)) : False := by
  unfold j_do at h
  split at h <;> cases h
set_option maxHeartbeats 4000000 in
theorem j_inv_pre {pc : Nat} {aux : List Nat} {loc stk : List Value} {H : j_H} {pc' : Nat} {loc' stk' : List Value} {H' : j_H} (h : j_inv pc aux loc stk H = some (.inl (.inl (pc', loc', stk', H')))) : H'.1 = H.1 := by
  unfold j_inv at h
  split at h
  · exact (j_do_no h).elim
  · split at h
    · split at h
      · cases h
      · exact (j_do_no h).elim
    · cases h
  · split at h
    · exact (j_do_no h).elim
    · cases h
  · split at h
    · split at h
      · exact (j_do_no h).elim
      · cases h
    · cases h
  · split at h
    · split at h
      · exact (j_do_no h).elim
      · cases h
    · cases h
  · split at h
    · split at h
      · cases h; rfl
      · cases h
    · cases h
  · split at h
    · split at h
      · split at h
        · cases h; rfl
        · split at h
          · cases h; rfl
          · cases h
      · cases h
    · cases h
  · cases h
theorem j_inv_no {pc : Nat} {aux : List Nat} {loc stk : List Value} {H : j_H} {r : Option Value × j_H} (h : j_inv pc aux loc stk H = some (.inl (.inr r))) : False := by
  unfold j_inv at h
  split at h
  · exact (j_do_no h).elim
  · split at h
    · split at h
      · cases h
      · exact (j_do_no h).elim
    · cases h
  · split at h
    · exact (j_do_no h).elim
    · cases h
  · split at h
    · split at h
      · exact (j_do_no h).elim
      · cases h
    · cases h
  · split at h
    · split at h
      · exact (j_do_no h).elim
      · cases h
    · cases h
  · split at h
    · split at h
      · cases h
      · cases h
    · cases h
  · split at h
    · split at h
      · split at h
        · cases h
        · split at h
          · cases h
          · cases h
      · cases h
    · cases h
  · cases h
theorem j_br_h {b : Bool} {pc t : Nat} {loc stk : List Value} {H : j_H} {q : Nat × List Value × List Value × j_H} (h : j_br b pc t loc stk H = some (.inl (.inl q))) : q.2.2.2 = H := by
  unfold j_br at h
  split at h <;> cases h <;> rfl
set_option maxHeartbeats 8000000 in
theorem j_ins_pre {M pc len : Nat} {i : Instr} {aux : List Nat} {loc stk : List Value} {H : j_H} {pc' : Nat} {loc' stk' : List Value} {H' : j_H} (h : j_ins M pc i len aux loc stk H = some (.inl (.inl (pc', loc', stk', H')))) : H.1 <+: H'.1 := by
  have hr : H.1 <+: H.1 := List.prefix_refl _
  unfold j_ins at h
  cases i <;> dsimp only at h
  case invokestatic => rw [j_inv_pre h]; exact hr
  case invokespecial => rw [j_inv_pre h]; exact hr
  case invokevirtual => rw [j_inv_pre h]; exact hr
  case new =>
    split at h
    · cases h
      exact List.prefix_append _ _
    · cases h
  case newarray =>
    split at h
    · split at h
      · unfold j_nwa at h
        split at h
        · cases h
          exact List.prefix_append _ _
        · cases h
      · cases h
    · cases h
  case anewarray =>
    split at h
    · split at h
      · unfold j_nwa at h
        split at h
        · cases h
          exact List.prefix_append _ _
        · cases h
      · cases h
    · cases h
  case putfield =>
    split at h
    · split at h
      · split at h
        · split at h
          · rename_i hp
            cases h
            exact j_put_pre hp
          · cases h
        · cases h
      · cases h
    · cases h
  case ifCond =>
    split at h
    · rw [show H' = H from j_br_h h]; exact hr
    · cases h
  case if_icmp =>
    split at h
    · rw [show H' = H from j_br_h h]; exact hr
    · cases h
  all_goals first
    | (cases h; done)
    | (cases h; exact hr)
    | (split at h <;> first | (cases h; done) | (cases h; exact hr))
    | (split at h <;> first | (cases h; done) | (cases h; exact hr) | (split at h <;> first | (cases h; done) | (cases h; exact hr)))
    | (split at h <;> first | (cases h; done) | (cases h; exact hr) | (split at h <;> first | (cases h; done) | (cases h; exact hr) | (split at h <;> first | (cases h; done) | (cases h; exact hr) | (split at h <;> first | (cases h; done) | (cases h; exact hr)))))
set_option maxHeartbeats 8000000 in
theorem j_ins_ret {M pc len : Nat} {i : Instr} {aux : List Nat} {loc stk : List Value} {H : j_H} {v : Option Value} {H' : j_H} (h : j_ins M pc i len aux loc stk H = some (.inl (.inr (v, H')))) : H' = H ∧ stk = v.toList ∧ j_rin M v i := by
  unfold j_ins at h
  cases i <;> dsimp only at h
  case invokestatic => exact (j_inv_no h).elim
  case invokespecial => exact (j_inv_no h).elim
  case invokevirtual => exact (j_inv_no h).elim
  case ireturn =>
    split at h
    · split at h
      · rename_i hr
        cases h
        exact ⟨rfl, rfl, rfl, hr⟩
      · cases h
    · cases h
  case lreturn =>
    split at h
    · split at h
      · rename_i hr
        cases h
        exact ⟨rfl, rfl, rfl, hr⟩
      · cases h
    · cases h
  case areturn =>
    split at h
    · split at h
      · rename_i hr
        cases h
        exact ⟨rfl, rfl, rfl, hr⟩
      · cases h
    · split at h
      · rename_i hr
        cases h
        exact ⟨rfl, rfl, rfl, hr⟩
      · cases h
    · cases h
  case return_ =>
    split at h
    · split at h
      · rename_i hr
        cases h
        exact ⟨rfl, rfl, rfl, hr⟩
      · cases h
    · cases h
  case newarray => (split at h <;> first | (cases h; done) | (split at h <;> first | (cases h; done) | (unfold j_nwa at h; split at h <;> cases h)))
  case anewarray => (split at h <;> first | (cases h; done) | (split at h <;> first | (cases h; done) | (unfold j_nwa at h; split at h <;> cases h)))
  case ifCond => (split at h <;> first | (cases h; done) | (unfold j_br at h; split at h <;> cases h))
  case if_icmp => (split at h <;> first | (cases h; done) | (unfold j_br at h; split at h <;> cases h))
  all_goals first
    | (cases h; done)
    | (split at h <;> first | (cases h; done))
    | (split at h <;> first | (cases h; done) | (split at h <;> first | (cases h; done)))
    | (split at h <;> first | (cases h; done) | (split at h <;> first | (cases h; done) | (split at h <;> first | (cases h; done) | (split at h <;> first | (cases h; done)))))
set_option maxHeartbeats 8000000 in
theorem j_ins_call {M pc len : Nat} {i : Instr} {aux : List Nat} {loc stk : List Value} {H : j_H} {q : Nat × List Value × Nat × List Value × List Value} (h : j_ins M pc i len aux loc stk H = some (.inr q)) : j_inv pc aux loc stk H = some (.inr q) ∧ ∃ z, i = .invokestatic z ∨ i = .invokespecial z ∨ i = .invokevirtual z := by
  unfold j_ins at h
  cases i <;> dsimp only at h
  case invokestatic z => exact ⟨h, z, Or.inl rfl⟩
  case invokespecial z => exact ⟨h, z, Or.inr (Or.inl rfl)⟩
  case invokevirtual z => exact ⟨h, z, Or.inr (Or.inr rfl)⟩
  case newarray => (split at h <;> first | (cases h; done) | (split at h <;> first | (cases h; done) | (unfold j_nwa at h; split at h <;> cases h)))
  case anewarray => (split at h <;> first | (cases h; done) | (split at h <;> first | (cases h; done) | (unfold j_nwa at h; split at h <;> cases h)))
  case ifCond => (split at h <;> first | (cases h; done) | (unfold j_br at h; split at h <;> cases h))
  case if_icmp => (split at h <;> first | (cases h; done) | (unfold j_br at h; split at h <;> cases h))
  all_goals first
    | (cases h; done)
    | (split at h <;> first | (cases h; done))
    | (split at h <;> first | (cases h; done) | (split at h <;> first | (cases h; done)))
    | (split at h <;> first | (cases h; done) | (split at h <;> first | (cases h; done) | (split at h <;> first | (cases h; done) | (split at h <;> first | (cases h; done)))))
theorem j_stp_row {M pc : Nat} {loc stk : List Value} {H : j_H} {x : j_Act} (h : j_stp M pc loc stk H = some x) : ∃ i len aux, (pc, i, len, aux) ∈ j_tab.getD M [] ∧ j_ins M pc i len aux loc stk H = some x := by
  unfold j_stp at h
  split at h
  · rename_i pc0 i len aux hr
    unfold j_at at hr
    have h1 := List.find?_some hr
    have h2 := List.mem_of_find?_eq_some hr
    have e : pc0 = pc := by simpa using h1
    subst e
    exact ⟨i, len, aux, h2, h⟩
  · cases h
theorem j_mono : ∀ (n b M pc : Nat) (loc stk : List Value) (H : j_H) (r : Option Value × j_H), j_rf n b M pc loc stk H = some r → H.1 <+: r.2.1
  | 0, _, _, _, _, _, _, _, h => by cases h
  | n + 1, b, M, pc, loc, stk, H, r, h => by
    rw [j_rf] at h
    split at h
    · cases h
    · rename_i hst
      obtain ⟨i, len, aux, -, hi⟩ := j_stp_row hst
      exact (j_ins_pre hi).trans (j_mono n _ _ _ _ _ _ r h)
    · rename_i hst
      obtain ⟨i, len, aux, -, hi⟩ := j_stp_row hst
      cases h
      rw [(j_ins_ret hi).1]
      exact List.prefix_refl _
    · split at h
      · cases h
      · split at h
        · cases h
        · rename_i hc
          exact (j_mono n _ _ _ _ _ _ _ hc).trans (j_mono n _ _ _ _ _ _ r h)
theorem j_sz_mono {H H' : j_H} (h : H.1 <+: H'.1) : H.1.length ≤ H'.1.length ∧ j_sz H ≤ j_sz H' := by
  obtain ⟨t, ht⟩ := h
  refine ⟨by rw [← ht]; simp, ?_⟩
  unfold j_sz
  rw [← ht]
  simp
def j_rm (b k n : Nat) : Room := { frames := b + 1, cells := k, slots := n, locals := 100 * (b + 1) }
def j_Pc (E : j_E) (vs : List Value) (H : j_H) : Array Value → State → Prop := fun v U => v = (vs.map (j_tr E)).toArray ∧ j_Rel E H U.heap ∧ j_K E U
def j_Qc (E : j_E) (r : Option Value) (H : j_H) : Array Value → State → Outcome → State → Prop := fun _ _ o t => o = .returned (r.map (j_tr E)) ∧ j_Rel E H t.heap
theorem j_Pc_blind (E : j_E) (vs : List Value) (H : j_H) : FrameBlind (j_Pc E vs H) := fun a U g mk q => ⟨q.1, q.2.1, j_K.warm (U := U.calling g mk a) (State.WarmedH.refl U) q.2.2⟩
section JSOUND
theorem j_ofW {l : Launch} {y : MethodName} {ws ws' : List Cond} {rm : Room} {Pc : Array Value → State → Prop} {Qc : Array Value → State → Outcome → State → Prop} {mc ms : Nat} {free : Addr → Prop} {cc : ByteArray} {maxL : Nat} {ret : Option FieldType}
    (hy : plainFor y = true) (hw : ws = Cond.code y cc maxL ret :: ws')
    (body : ∀ p e s m args below meth c s₁, BodyLoose p l y (headSpec ws rm) cc maxL ret e s m args below meth c s₁ → c.maxLocals = maxL → Pc args s →
      W p l e (headSpec ws rm).room s m args below meth c s.heap [] 0 0 (MQ below Qc args s mc ms free) (entryFrame m args maxL)) : Met l y ws rm Pc Qc mc ms free := by
  refine MetFree.of_bodySF (code := cc) (maxLocals := maxL) (ret := ret) hy ?_ ?_
  · intro args s m h hn
    obtain ⟨meth, c, h1, h2, h3, h4, h5, h6, -, -⟩ := Cond.code_spec hn (atoms_spec (ws := ws) h _ (by rw [hw]; exact List.mem_cons_self))
    exact ⟨meth, c, h1, h2, h3, h4, h5, h6⟩
  · intro p e s m args below meth c s₁ B hml hP _
    have hh0 : s₁.heap = s.heap := by rw [B.state]; rfl
    obtain ⟨t, a1, o, b1, b2, b3⟩ := body p e s m args below meth c s₁ B hml hP s₁ hh0 (Stand.of_body B)
    exact ⟨t, o, a1, b1, b2, ⟨b3.1, b3.2⟩⟩
/-- every row of the program is as the bytes and the tables have it -/
def j_OK : Prop := ∀ (M : Nat) (r : j_row), r ∈ j_tab.getD M [] → decode (j_by M) r.1 = .ok (r.2.1, r.2.2.1) ∧ j_okr M r = true
/-- the machine in a frame of ours, with room for b calls -/
def j_Cx (p : Program) (R : Room) (s : State) (m : MethodId) (args : Array Value) (meth : Method) (c : Code) (E : j_E) (M b : Nat) : Prop :=
  p.tables.exec = Jvm.exec ∧ c.code = j_by M ∧ c.maxLocals = j_ml M ∧ s.vm.findClass (j_cs (j_ow M)) = some m.cls ∧ (∀ w ∈ j_W, w.before args s = true) ∧ j_K E s ∧ meth.name = (j_ym M).name ∧ b + 1 ≤ R.frames ∧ 100 * (b + 1) ≤ R.locals
/-- what waits at the end -/
def j_Rh (p : Program) (l : Launch) (e : Env) (R : Room) (s : State) (m : MethodId) (args : Array Value) (below : List Frame) (meth : Method) (c : Code) (Q : State → Prop) (E : j_E) (M n0 z0 : Nat) (v : Option Value) (H : j_H) : Prop :=
  ∀ (Hp : Heap) (ls : Array Slot) (locs : List Loc) (cells slots pc : Nat) (i : Instr), decode (j_by M) pc = .ok (i, 1) → j_rin M v i → j_Rel E H Hp → (∀ q ∈ locs, E.1.size ≤ q.base) → cells + n0 = H.1.length → slots + z0 = j_sz H →
    W p l e R s m args below meth c Hp locs cells slots Q (F0 m pc ls (v.toList.map (j_tr E)))
def j_P (n : Nat) : Prop := ∀ (b M pc : Nat) (loc stk : List Value) (H : j_H) (v : Option Value) (Hf : j_H), j_rf n b M pc loc stk H = some (v, Hf) →
  ∀ (p : Program) (l : Launch) (e : Env) (R : Room) (s : State) (m : MethodId) (args : Array Value) (below : List Frame) (meth : Method) (c : Code) (Q : State → Prop) (E : j_E) (n0 z0 : Nat),
    j_Cx p R s m args meth c E M b → Hf.1.length ≤ n0 + R.cells → j_sz Hf ≤ z0 + R.slots → j_Rh p l e R s m args below meth c Q E M n0 z0 v Hf → j_Go p l e R s m args below meth c Q E M n0 z0 pc loc stk H
def j_WS (y : Nat) : List Cond := Cond.code (j_ym y) (j_by y) (j_ml y) (j_rt y) :: j_W
theorem j_ent_lv {E : j_E} (hf : E.2.2.1 = .null ∨ ∃ a, E.2.2.1 = .ref a) (k : Nat) : ∀ (vs : List Value) (i : Nat), ∀ q ∈ j_lv E i (j_sl vs ++ List.replicate k j_u), q ∈ lv_args i (vs.map (j_tr E))
  | [], i, q, h => by
    exfalso
    have key : ∀ (k i : Nat), j_lv E i (List.replicate k j_u) = [] := by
      intro k
      induction k with
      | zero => intro i; rfl
      | succ k ih => intro i; rw [List.replicate_succ, j_lv, if_neg (by rw [j_kn_u]; exact Bool.noConfusion)]; exact ih _
    rw [show j_sl [] ++ List.replicate k j_u = List.replicate k j_u from rfl, key] at h
    cases h
  | v :: vs, i, q, h => by
    have hc := j_tr_cat (E := E) hf v
    rw [List.map_cons, lv_args, hc]
    have e : j_sl (v :: vs) = (if j_c1 v then [v] else [v, j_u]) ++ j_sl vs := by unfold j_sl; rw [List.flatMap_cons]
    rw [e] at h
    by_cases h1 : j_c1 v = true
    · have h2 : ¬ v.category = 2 := by rw [(j_c1_cat v).mp h1]; decide
      rw [if_pos h1] at h
      rw [if_neg h2]
      rw [List.append_assoc, List.singleton_append, j_lv] at h
      split at h
      · rcases List.mem_cons.mp h with rfl | h
        · exact List.mem_cons_self
        · exact List.mem_cons_of_mem _ (j_ent_lv hf k vs (i + 1) q h)
      · exact List.mem_cons_of_mem _ (j_ent_lv hf k vs (i + 1) q h)
    · have h2 : v.category = 2 := by cases v <;> simp_all [j_c1, Value.category]
      rw [if_neg h1] at h
      rw [if_pos h2]
      rw [List.append_assoc, List.cons_append, j_lv] at h
      have h3 : ∀ q, q ∈ j_lv E (i + 1) ([j_u] ++ (j_sl vs ++ List.replicate k j_u)) → q ∈ lv_args (i + 2) (vs.map (j_tr E)) := by
        intro q hq
        rw [List.singleton_append, j_lv, if_neg (by rw [j_kn_u]; exact Bool.noConfusion)] at hq
        exact j_ent_lv hf k vs (i + 2) q hq
      split at h
      · rcases List.mem_cons.mp h with rfl | h
        · exact List.mem_cons_self
        · exact List.mem_cons_of_mem _ (h3 q h)
      · exact List.mem_cons_of_mem _ (h3 q h)
theorem j_sl_len {E : j_E} (hf : E.2.2.1 = .null ∨ ∃ a, E.2.2.1 = .ref a) : ∀ vs : List Value, (lg_sl (vs.map (j_tr E))).length = (j_sl vs).length
  | [] => rfl
  | v :: vs => by
    have hc := j_tr_cat (E := E) hf v
    have ih := j_sl_len hf vs
    unfold lg_sl j_sl at ih ⊢
    rw [List.map_cons, List.flatMap_cons, List.flatMap_cons, List.length_append, List.length_append, ih, hc]
    congr 1
    by_cases h1 : j_c1 v = true
    · rw [if_pos h1, if_neg (by rw [(j_c1_cat v).mp h1]; decide)]; rfl
    · have h2 : v.category = 2 := by cases v <;> simp_all [j_c1, Value.category]
      rw [if_neg h1, if_pos h2]; rfl
theorem j_nar8 {x : Int32} (h : -128 ≤ x.toInt ∧ x.toInt ≤ 127) : narrow .byte (.int x) = .int x := by
  rw [narrow_byte]
  congr 1
  apply Int32.toInt_inj.mp
  rw [Int8.toInt_toInt32]
  show (Int8.ofInt x.toInt).toInt = _
  first | (rw [Int8.toInt_ofInt_of_le (by omega) (by omega)]; done) | (simp; omega)
theorem j_narC {x : Int32} (h : 0 ≤ x.toInt ∧ x.toInt ≤ 65535) : narrow .char (.int x) = .int x := by
  show Value.int _ = _
  congr 1
  have h1 : x.toBitVec.toInt = x.toInt := rfl
  have h2 := BitVec.toInt_eq_toNat_cond x.toBitVec
  have h3 : x.toBitVec.toNat < 65536 := by
    rw [h1] at h2
    have h4 := x.toBitVec.isLt
    split at h2 <;> omega
  apply Int32.toBitVec_inj.mp
  apply BitVec.eq_of_toNat_eq
  show ((x.toBitVec.setWidth 16).setWidth 32).toNat = _
  rw [BitVec.toNat_setWidth, BitVec.toNat_setWidth]
  omega
theorem j_rt_of {y : Nat} (hy : y ∈ j_cl) (r : Nat) (hr : j_rc y = r) : j_rtc r (j_rt y) = true := by rw [← hr]; exact j_rets y hy
theorem j_rt_ref {t : Option FieldType} (h : j_rtc 3 t = true) : ∃ rt, t = some rt ∧ ((∃ n, rt = .object n) ∨ ∃ q, rt = .array q) := by
  unfold j_rtc at h
  simp only [show ¬ (3 = 0) by decide, show ¬ (3 = 1) by decide, show ¬ (3 = 2) by decide, show ¬ (3 = 4) by decide, show ¬ (3 = 5) by decide, show ¬ (3 = 6) by decide, if_false, if_true] at h
  split at h
  · exact ⟨_, rfl, Or.inl ⟨_, rfl⟩⟩
  · exact ⟨_, rfl, Or.inr ⟨_, rfl⟩⟩
  · cases h
theorem j_met {n b y : Nat} (hy : y ∈ j_cl) (hP : j_P n) (hok : j_OK) {l : Launch} {E : j_E} {vs : List Value} {H Hf : j_H} {v : Option Value} (hrun : j_rf n b y 0 (j_ent (j_ml y) vs) [] H = some (v, Hf)) (hlen : (j_sl vs).length ≤ j_ml y) :
    Met l (j_ym y) (j_WS y) (j_rm b (Hf.1.length - H.1.length) (j_sz Hf - j_sz H)) (j_Pc E vs H) (j_Qc E v Hf) (Hf.1.length - H.1.length) (j_sz Hf - j_sz H) (j_A E) := by
  refine j_ofW (cc := j_by y) (maxL := j_ml y) (ret := j_rt y) (j_plain y hy) rfl ?_
  intro p e s m args below meth c s₁ B hml hv
  obtain ⟨rfl, hR, hK⟩ := hv
  have hts0 := atoms_spec (ws := j_WS y) B.pre
  have hts : ∀ w ∈ j_W, w.before _ s = true := fun w h => hts0 w (List.mem_cons_of_mem _ h)
  have hlt := j_cl_lt y hy
  have hown : s.vm.findClass (j_cs (j_ow y)) = some m.cls := by
    have h := findClass_of_methodNamed B.named
    rw [(j_clsn y hlt.1).1] at h
    rw [hlt.2.1]
    exact h
  have hlocks := B.notSynchronized
  have hf := hK.2.2.2.2.2.2.2.2.2.2.2
  have hmono := j_sz_mono (j_mono n _ _ _ _ _ _ _ hrun)
  rw [lg_entry_eq]
  have hle : (lg_sl (vs.map (j_tr E))).length ≤ j_ml y := by rw [j_sl_len hf]; exact hlen
  have hl := lv_entry (vs.map (j_tr E)) hle
  refine hP b y 0 _ [] H v Hf hrun p l e (headSpec (j_WS y) (j_rm b (Hf.1.length - H.1.length) (j_sz Hf - j_sz H))).room s m _ below meth c _ E H.1.length (j_sz H) ⟨B.exec, B.bytes, hml, hown, hts, hK, (name_of_methodNamed B.named B.method).1, Nat.le_refl _, Nat.le_refl _⟩
    (by show Hf.1.length ≤ H.1.length + (Hf.1.length - H.1.length); have := hmono.1; dsimp only at this; omega) (by show j_sz Hf ≤ j_sz H + (j_sz Hf - j_sz H); have := hmono.2; dsimp only at this; omega) ?_ s.heap _ [] 0 0 hR ?_ ?_ (fun q h => by cases h) (by omega) (by omega)
  · intro Hp ls locs cells slots pc i hd hri hRf hlo hc hs
    obtain rfl : cells = Hf.1.length - H.1.length := by omega
    obtain rfl : slots = j_sz Hf - j_sz H := by omega
    have hq : ∀ t : State, t.heap = Hp → s.WarmedH t.vm → j_Qc E v Hf (vs.map (j_tr E)).toArray s (.returned (v.map (j_tr E))) t := fun t ht _ => ⟨rfl, by rw [ht]; exact hRf⟩
    have hret := B.returns
    unfold j_rin at hri
    split at hri
    · rename_i x
      obtain ⟨rfl, hrok⟩ := hri
      unfold j_rok at hrok
      split at hrok
      · rename_i h1
        have ht := j_rt_of hy 1 h1
        have ht : j_rt y = some .int := by simpa [j_rtc] using ht
        rw [ht] at hret
        exact W.iret B.exec B.bytes hret hq hlo hd
      · split at hrok
        · rename_i h1
          have ht := j_rt_of hy 4 h1
          have ht : j_rt y = some .boolean := by simpa [j_rtc] using ht
          rw [ht] at hret
          simp only [Bool.or_eq_true, decide_eq_true_eq] at hrok
          exact W.zret B.exec B.bytes hret (j_narZ hrok) hq hlo hd
        · split at hrok
          · rename_i h1
            have ht := j_rt_of hy 5 h1
            have ht : j_rt y = some .byte := by simpa [j_rtc] using ht
            rw [ht] at hret
            simp only [Bool.and_eq_true, decide_eq_true_eq] at hrok
            exact W.zret B.exec B.bytes hret (j_nar8 hrok) hq hlo hd
          · split at hrok
            · rename_i h1
              have ht := j_rt_of hy 6 h1
              have ht : j_rt y = some .char := by simpa [j_rtc] using ht
              rw [ht] at hret
              simp only [Bool.and_eq_true, decide_eq_true_eq] at hrok
              exact W.zret B.exec B.bytes hret (j_narC hrok) hq hlo hd
            · cases hrok
    · obtain ⟨rfl, h1⟩ := hri
      have ht := j_rt_of hy 2 h1
      have ht : j_rt y = some .long := by simpa [j_rtc] using ht
      rw [ht] at hret
      exact W.lret B.exec B.bytes hret hq hlo hd
    · rename_i x
      obtain ⟨rfl, h1, h11⟩ := hri
      obtain ⟨rt, hrt, hcase⟩ := j_rt_ref (j_rt_of hy 3 h1)
      rw [hrt] at hret
      exact W.aret B.exec B.bytes hret hcase (Or.inr ⟨_, j_tr_ref h11⟩) hq hlo hd
    · obtain ⟨rfl, h1⟩ := hri
      obtain ⟨rt, hrt, hcase⟩ := j_rt_ref (j_rt_of hy 3 h1)
      rw [hrt] at hret
      exact W.aret B.exec B.bytes hret hcase (Or.inl rfl) hq hlo hd
    · obtain ⟨rfl, h1⟩ := hri
      have ht := j_rt_of hy 0 h1
      have ht : j_rt y = none := by simpa [j_rtc] using ht
      rw [ht] at hret
      exact W.vret B.exec B.bytes hret hq hlo hd
    · exact hri.elim
  · unfold j_ent
    exact hl.mono (j_ent_lv hf _ vs 0)
  · unfold j_ent
    rw [List.length_append, List.length_replicate]
    omega
variable {p : Program} {l : Launch} {e : Env} {R : Room} {s : State} {m : MethodId} {args : Array Value} {below : List Frame} {meth : Method} {c : Code} {Q : State → Prop} {E : j_E} {M n0 z0 : Nat}
/-- behind a call -/
theorem j_behind {pc : Nat} {loc rest : List Value} {H1 : j_H} {v : Option Value} {Hp : Heap} {ls : Array Slot} {locs : List Loc} {cells slots mc ms : Nat} {st0 : List Value} {a : Array Value} {free : Addr → Prop}
    (hr : va_Run p l e R s m args below meth c Hp locs cells slots mc ms (F0 m pc ls st0) (rest.map (j_tr E)) (j_Qc E v H1 a) free) (hfree : ∀ q, free q → E.1.size ≤ q)
    (k : j_Go p l e R s m args below meth c Q E M n0 z0 (pc + 3) loc (v.toList ++ rest) H1) (hl : lv_has ls (j_ml M) (j_lv E 0 loc)) (hn : loc.length = j_ml M) (hlo : ∀ q ∈ locs, E.1.size ≤ q.base)
    (hc : cells + mc + n0 = H1.1.length) (hs : slots + ms + z0 = j_sz H1) : W p l e R s m args below meth c Hp locs cells slots Q (F0 m pc ls st0) := by
  intro T hT X
  obtain ⟨v', st₀, t, T', L, h0, X', hL, e1, e2, ⟨hv, hRel⟩, st⟩ := hr T hT X
  obtain rfl : v' = v.map (j_tr E) := by cases hv; rfl
  have hlo' : ∀ q ∈ locs ++ L, E.1.size ≤ q.base := fun q hq => (List.mem_append.mp hq).elim (hlo q) (fun h => hfree _ (hL q h))
  obtain ⟨t2, a1, b1⟩ := k T'.heap ls (locs ++ L) (cells + mc) (slots + ms) (by rw [e1]; exact hRel) hl hn hlo' hc hs T' rfl X'
  refine ⟨t2, st t2 ?_, b1⟩
  have e3 : (v.toList ++ rest).map (j_tr E) = (v.map (j_tr E)).toList ++ rest.map (j_tr E) := by cases v <;> simp
  rw [e3] at a1
  exact a1
theorem j_split {n : Nat} {stk : List Value} {x : Value} (h : stk[n - 1]? = some x) (hn : ¬ n = 0) : stk = stk.take (n - 1) ++ x :: stk.drop n ∧ (stk.take n).reverse = x :: (stk.take (n - 1)).reverse ∧ (stk.take (n - 1)).length = n - 1 := by
  obtain ⟨k, rfl⟩ : ∃ k, n = k + 1 := ⟨n - 1, by omega⟩
  rw [Nat.add_sub_cancel] at h ⊢
  have hlt := (List.getElem?_eq_some_iff.mp h).1
  have hd : stk.drop k = x :: stk.drop (k + 1) := by
    rw [List.drop_eq_getElem_cons hlt]
    congr 1
    exact (List.getElem?_eq_some_iff.mp h).2
  refine ⟨by rw [← hd, List.take_append_drop], ?_, by rw [List.length_take]; omega⟩
  rw [List.take_add_one, h]
  simp
theorem j_do_of {n y pc : Nat} {loc stk : List Value} {q : Nat × List Value × Nat × List Value × List Value} (h : j_do n y pc loc stk = some (.inr q)) : q = (y, (stk.take n).reverse, pc, loc, stk.drop n) ∧ n ≤ stk.length ∧ j_cat (stk.drop n) ≤ 8 ∧ (j_sl (stk.take n).reverse).length ≤ j_ml y := by
  unfold j_do at h
  split at h
  · rename_i hc
    cases h
    exact ⟨rfl, hc⟩
  · cases h
theorem j_this_of {n k : Nat} {stk : List Value} {H : j_H} (h : j_this n stk H = some k) : ¬ n = 0 ∧ ∃ a, stk[n - 1]? = some (.ref a) ∧ j_sh H a = some (.inl k) := by
  unfold j_this at h
  split at h
  · rename_i a ha
    split at h
    · rename_i k' hk
      split at h
      · cases h
      · rename_i hn
        cases h
        exact ⟨hn, a, ha, hk⟩
    · cases h
  · cases h
theorem j_WS_good {y : Nat} (hy : j_cl.contains y = true) : GoodIn j_W (j_WS y) := by
  intro w hw
  rcases List.mem_cons.mp hw with rfl | h
  · exact ⟨j_code_in hy, Or.inl rfl⟩
  · exact j_W_good w h
theorem j_sig {y : Nat} (hy : y < j_yl.length) {n : Nat} (hn : n = j_np y) : ∀ sig, parseMethodDescriptor (j_ym y).desc = some sig → n = sig.parameters.length := by
  intro sig h
  have h2 := j_desc y hy
  rw [h] at h2
  rw [hn]
  exact (Option.some.inj h2).symm
/-- a call of ours can be made: room, words, code -/
theorem j_callB {b y n own i k z : Nat} (hts : ∀ w ∈ j_W, w.before args s = true) (hy : j_cl.contains y = true) (h1 : j_w [1, own, i, y] ∈ j_W) (h3 : j_w [4, j_yc y] ∈ j_W) (hn : n = j_np y) (hR1 : b + 1 + 1 ≤ R.frames) (hR2 : 100 * (b + 1 + 1) ≤ R.locals) :
    CallB R s args (j_cs own) i (j_ym y) (j_by y) (j_ml y) (j_rt y) (j_WS y) (j_rm b k z) k z n := by
  have hlt := j_cl_lt y (by simpa using hy)
  have hcn := j_clsn y hlt.1
  refine ⟨rfl, rfl, hR1, ?_, pay_in hts (j_WS_good hy), List.mem_cons_self, hts _ (j_code_in hy), ?_, hcn.2, j_sig hlt.1 hn, hts _ h1⟩
  · show 8 + (j_ml y + 11) + 100 * (b + 1) ≤ R.locals
    have := hlt.2.2
    omega
  · have := hts _ h3
    simp only [j_w] at this
    rw [hcn.1]
    exact this
theorem j_okd_of {x k y : Nat} : ∀ l : List Nat, j_okd x l = true → j_dsp k l = some y → k < 13 ∧ j_cl.contains y = true ∧ j_np y = j_np x ∧ j_w [3, k, x, y] ∈ j_W ∧ j_w [2, y] ∈ j_W ∧ j_w [4, j_yc y] ∈ j_W
  | s :: y0 :: w4 :: w5 :: w6 :: w7 :: l, h1, h2 => by
    rw [j_okd] at h1
    rw [j_dsp] at h2
    simp only [Bool.and_eq_true, decide_eq_true_eq, beq_iff_eq] at h1
    obtain ⟨g1, g2, g3, g4, g5, g6, g7⟩ := h1
    split at h2
    · rename_i e
      subst e
      cases h2
      exact ⟨g1, g5, g6, j_hw_in g2, j_hw_in g3, j_hw_in g4⟩
    · exact j_okd_of l g7 h2
  | [], _, h => by simp [j_dsp] at h
  | [_], _, h => by simp [j_dsp] at h
  | [_, _], _, h => by simp [j_dsp] at h
  | [_, _, _], _, h => by simp [j_dsp] at h
  | [_, _, _, _], _, h => by simp [j_dsp] at h
  | [_, _, _, _, _], _, h => by simp [j_dsp] at h
/-- the receiver's cell -/
theorem j_recv {H : j_H} {Hp : Heap} {a k : Nat} (hK : j_K E s) (hR : j_Rel E H Hp) (h : j_sh H a = some (.inl k)) : ¬ a = 11 ∧ ∃ cell : Cell, Hp[j_ad E a]? = some cell ∧ cell.vm.isStatics = false ∧ s.vm.findClass (j_cs k) = some cell.cls := by
  by_cases h12 : a < 12
  · rcases j_old_lt hR.2.2.1 h12 with ⟨h5, z⟩ | ⟨i, -, -, z⟩ | ⟨-, z⟩ | ⟨-, z⟩
    · rw [h] at z
      cases z
      obtain ⟨⟨cell, q1, q2, q3, -⟩, -⟩ := hK.2.2.2.1.1 a h5
      refine ⟨by omega, cell, ?_, q2, q3⟩
      rw [j_ad_lt h12, hR.2.1 _ (hK.2.2.2.2.2.2.2.2.2.2.1 a (by omega))]
      exact q1
    all_goals rw [h] at z; cases z
  · obtain ⟨h13, cell, q1, q2, q3, -⟩ := hR.2.2.2 a _ (by omega) h
    exact ⟨by omega, cell, q1, by rw [q3]; rfl, by rw [q2]; exact (hK.1 k h13).2.1⟩
theorem j_pre {H : j_H} {Hp : Heap} {as : List Value} (hK : j_K E s) (hR : j_Rel E H Hp) : ∀ U : State, U.heap = Hp → s.WarmedH U.vm → j_Pc E as H (as.map (j_tr E)).toArray U :=
  fun U hU hW => ⟨rfl, by rw [hU]; exact hR, hK.warm hW⟩
/-- super.m(..), the method standing in the superclass or above it -/
theorem j_runSU {x y : MethodName} {own : String} {i mc ms : Nat} {bytes : ByteArray} {maxL : Nat} {ret : Option FieldType} {ws : List Cond} {rm : Room} {Pc : Array Value → State → Prop} {Qc : Array Value → State → Outcome → State → Prop} {free : Addr → Prop} {C : String} {cC : ClassId} {b : Addr} {As rest : List Value} {g : JFrame} {Hp : Heap} {locs : List Loc} {cells slots nL n : Nat} {cc : ByteArray}
    (hat : ClassAt s C cC) (S : CallFix p m c cc nL s args j_W own) (hM : Met l y ws rm Pc Qc mc ms free) (cb : rm.cells = mc ∧ rm.slots = ms ∧ rm.frames + 1 ≤ R.frames ∧ 8 + (maxL + 11) + rm.locals ≤ R.locals ∧ (∀ w ∈ ws, ∀ (a' : Array Value) (U : State), s.WarmedH U.vm → w.before a' U = true) ∧ Cond.code y bytes maxL ret ∈ ws)
    (hl1 : (Cond.methodLink own i x).before args s = true) (hl2 : (Cond.sameMethod x.cls y.cls x.name x.desc).before args s = true) (hl3 : (Cond.superclass own x.cls).before args s = true) (hl3' : x.cls = y.cls ∨ (Cond.superclass x.cls y.cls).before args s = true) (hl4 : (Cond.instanceMethod y).before args s = true) (hini : (Cond.initialized y.cls).before args s = true) (hcode : (Cond.code y bytes maxL ret).before args s = true) (hyx : y.name = x.name ∧ y.desc = x.desc) (hno : x.name ≠ "<init>") (hlen : ∀ sig, parseMethodDescriptor y.desc = some sig → n = sig.parameters.length)
    (hp : PreV s Hp C b Pc As) (hg : g.method = m) (hn : As.length = n) (hsize : g.locals.size = nL) (hstack : g.stack = As.reverse ++ .ref b :: rest) (hW : 2 * g.monitorRoom + (rest.map fun v => v.category).sum ≤ 8) (hdg : decode cc g.pc = .ok (.invokespecial i, 3)) (hf : cells + mc ≤ R.cells ∧ slots + ms ≤ R.slots) :
    va_Run p l e R s m args below meth c Hp locs cells slots mc ms g rest (Qc (Value.ref b :: As).toArray) (free) := by
  obtain ⟨hrc, hrs, hfr, hlo, hws, hcw⟩ := cb
  have hK : Back l R p e below s args y 3 8 (PreOf R mc ms Pc) (PostOf Qc mc ms free) := back_of (bytes := bytes) (maxL := maxL) (ret := ret) hM hp.1 hrc hrs hfr hlo hws hcw (fun a' U hW => word_at hW (Or.inl (by first | rfl | simp [Cond.onTables, Cond.keeps, Cond.steady])) hini)
  obtain ⟨hx, hb, hml, ho, -⟩ := S
  obtain ⟨-, ⟨cellB, hcB, hoB, hclB⟩, hPc⟩ := hp
  obtain ⟨hfc, kB, hkB, -⟩ := hat
  cases hfc.symm.trans hclB
  obtain ⟨mk, methM, hnamed, hmethM, hstM, habM⟩ := Cond.instanceMethod_spec hl4
  obtain ⟨methM', cM, hmethM', -, -, -, -, -, -, hsigM⟩ := Cond.code_spec hnamed hcode
  cases hmethM.symm.trans hmethM'
  obtain ⟨ps, dk, kp, hps, hdk, hkp, hsuper, -, -, hnid⟩ := Cond.superclass_spec ho hl3
  have hn0 : s.methodNamed? ⟨y.cls, x.name, x.desc⟩ = some mk := by rw [← hyx.1, ← hyx.2]; exact hnamed
  have hym := findClass_of_methodNamed hnamed
  have hsub : s.vm.isSubclass ps mk.cls = true := by
    rcases hl3' with he | he
    · rw [he] at hps
      have hpm : ps = mk.cls := Option.some.inj (hps.symm.trans hym)
      rw [hpm]; simp [Vm.isSubclass, Vm.isSubclassAux]
    · obtain ⟨p2, k2, kp2, h1, h2, -, h4, -⟩ := Cond.superclass_spec hps he
      have hpm : p2 = mk.cls := Option.some.inj (h1.symm.trans hym)
      subst hpm
      have hz : 0 < s.vm.classes.size := Nat.lt_of_le_of_lt (Nat.zero_le _) (Array.getElem?_eq_some_iff.mp h2).1
      obtain ⟨z, hz⟩ : ∃ z, s.vm.classes.size = z + 1 := ⟨s.vm.classes.size - 1, by omega⟩
      simp [Vm.isSubclass, Vm.isSubclassAux, h2, h4]
      right
      rw [hz]
      simp [Vm.isSubclassAux]
  intro T hT X
  obtain ⟨vm₁, X₁, hstep₁⟩ := X.invokespecialUp hx ho hl1 hl2 hn0 hmethM hstM habM hno hdk hnid hps hsuper hsub (a := b) (cell := cellB) (by rw [hT]; exact hcB)
    (fun z h => by rw [h] at hoB; cases hoB) hkB (g := g) hg (argsL := As) (rest := rest) (hn.trans (hlen _ hsigM)) hstack (by rw [hb]; exact hdg)
  obtain ⟨v, ⟨U', l2, c2, s2⟩, X', hpost, hsteps⟩ := hK m meth c ⟨T.setVm vm₁, locs, cells, slots⟩ { g with stack := rest } (.invokespecial i) mk (Value.ref b :: As).toArray X₁ hg (hsize.trans hml.symm) (by rw [hb]; exact hdg) hW (X₁.named hnamed) ⟨hf.1, hf.2, hPc (T.setVm vm₁) hT X₁.warmed⟩
  obtain ⟨g', mk', t, L, e1, e2, hq, h1, hL, h2, h3⟩ := hpost
  dsimp only [Pt.U, Pt.locs, Pt.cells, Pt.slots] at X' e1 e2 h1 h2 h3 hsteps
  subst h1; subst h2; subst h3
  exact ⟨v, (T.setVm vm₁).calling g' mk' (Value.ref b :: As).toArray, t, U', L, hT, X', hL, e1, e2, hq, fun target h => hstep₁ _ (by rw [doInvoke_state]; exact hsteps.trans h)⟩
theorem j_clsx (x : Nat) : (j_ym x).cls = j_cs (j_yc x) := by
  by_cases h : x < j_yl.length
  · exact (j_clsn x h).1
  · have hlen : j_ycl.length = j_yl.length := by decide +kernel
    have h1 : j_ym x = ⟨"", "", ""⟩ := by
      unfold j_ym
      rw [List.getD_eq_getElem?_getD, List.getElem?_eq_none (by omega)]
      rfl
    have h2 : j_yc x = 99 := by
      unfold j_yc
      rw [List.getD_eq_getElem?_getD, List.getElem?_eq_none (by omega)]
      rfl
    rw [h1, h2]
    rfl
theorem j_npx (o x : Nat) (ho : o < j_yl.length) (h : (j_ym o).desc = (j_ym x).desc) : j_np o = j_np x := by
  have h1 := j_desc o ho
  by_cases hx : x < j_yl.length
  · have h2 := j_desc x hx
    rw [h] at h1
    exact Option.some.inj (h1.symm.trans h2)
  · have h3 : j_ym x = ⟨"", "", ""⟩ := by
      unfold j_ym
      rw [List.getD_eq_getElem?_getD, List.getElem?_eq_none (by omega)]
      rfl
    rw [h, h3] at h1
    have h4 : (parseMethodDescriptor "").map (fun d => d.parameters.length) = none := by decide +kernel
    rw [show (⟨"", "", ""⟩ : MethodName).desc = "" from rfl, h4] at h1
    cases h1
set_option maxHeartbeats 4000000 in
theorem j_call {n b pc i op : Nat} {aux : List Nat} {loc stk : List Value} {H H1 : j_H} {y : Nat} {as : List Value} {pc' : Nat} {loc' rest : List Value} {v : Option Value}
    (C : j_Cx p R s m args meth c E M (b + 1)) (hP : j_P n) (hOK : j_OK)
    (hd0 : op = 0 → decode (j_by M) pc = .ok (.invokestatic i, 3)) (hd1 : op = 1 → decode (j_by M) pc = .ok (.invokespecial i, 3)) (hd2 : op = 2 → decode (j_by M) pc = .ok (.invokevirtual i, 3)) (hok : j_okc M op i aux = true)
    (h : j_inv pc aux loc stk H = some (.inr (y, as, pc', loc', rest))) (hrun : j_rf n b y 0 (j_ent (j_ml y) as) [] H = some (v, H1))
    (hroom1 : H1.1.length ≤ n0 + R.cells) (hroom2 : j_sz H1 ≤ z0 + R.slots)
    (k : j_Go p l e R s m args below meth c Q E M n0 z0 pc' loc' (v.toList ++ rest) H1) : j_Go p l e R s m args below meth c Q E M n0 z0 pc loc stk H := by
  obtain ⟨hx, hb, hml, hown, hts, hK, hname, hR1, hR2⟩ := C
  have hf := hK.2.2.2.2.2.2.2.2.2.2.2
  have S : CallFix p m c (j_by M) (j_ml M) s args j_W (j_cs (j_ow M)) := ⟨hx, hb, hml, hown, hts⟩
  have hmono := j_sz_mono (j_mono n _ _ _ _ _ _ _ hrun)
  dsimp only at hmono
  have hfree : ∀ q, j_A E q → E.1.size ≤ q := fun _ h => h
  have hcat : ∀ {ls : Array Slot} (z : List Value), j_cat z ≤ 8 → 2 * (F0 m pc ls (stk.map (j_tr E))).monitorRoom + ((z.map (j_tr E)).map fun v => v.category).sum ≤ 8 := fun z hz => lv_room (by rw [j_cat_tr hf]; exact hz)
  unfold j_inv at h
  split at h
  · -- static
    rename_i n1 y1 r1
    obtain ⟨e1, e2, e3, e4⟩ := j_do_of h
    cases e1
    match r1, hok with
    | w1 :: w2 :: w3 :: _, hok =>
      unfold j_okc at hok
      simp only [Bool.and_eq_true, beq_iff_eq] at hok
      obtain ⟨rfl, rfl, hy, g1, g2, g3⟩ := hok
      have hM := j_met (l := l) (E := E) (by simpa using hy) hP hOK hrun e4
      intro Hp ls locs cells slots hR hl hn hlo hc hs
      have cw := j_callB (k := H1.1.length - H.1.length) (z := j_sz H1 - j_sz H) hts hy (j_hw_in g1) (j_hw_in g3) rfl hR1 hR2
      refine j_behind (st0 := stk.map (j_tr E)) (va_runS S hM ⟨cw, hts _ (j_hw_in g2)⟩ ⟨j_Pc_blind _ _ _, j_pre hK hR⟩ rfl (by rw [List.length_map, List.length_reverse, List.length_take]; omega) hl.1 ?_ (hcat _ e3) (hd0 rfl) ⟨by omega, by omega⟩) hfree k hl hn hlo (by omega) (by omega)
      show stk.map (j_tr E) = _
      rw [← List.map_reverse, List.reverse_reverse, ← List.map_append, List.take_append_drop]
    | [], hok => cases hok
    | [_], hok => cases hok
    | [_, _], hok => cases hok
  · -- a constructor
    rename_i n1 y1 r1
    split at h
    · rename_i a ha
      split at h
      · cases h
      · rename_i hna
        obtain ⟨e1, e2, e3, e4⟩ := j_do_of h
        cases e1
        have hn0 : ¬ n1 = 0 := fun q => hna (Or.inl q)
        have h11 : ¬ a = 11 := fun q => hna (Or.inr q)
        obtain ⟨f1, f2, f3⟩ := j_split ha hn0
        rw [f2] at hrun e4
        match r1, hok with
        | w1 :: w2 :: w3 :: _, hok =>
          unfold j_okc at hok
          simp only [Bool.and_eq_true, beq_iff_eq, decide_eq_true_eq] at hok
          obtain ⟨rfl, hnp, hy, g1, g2, g3, g4, g5⟩ := hok
          have hM := j_met (l := l) (E := E) (by simpa using hy) hP hOK hrun e4
          intro Hp ls locs cells slots hR hl hn hlo hc hs
          have cw := j_callB (k := H1.1.length - H.1.length) (z := j_sz H1 - j_sz H) (n := j_np y) hts hy (j_hw_in g1) (j_hw_in g3) rfl hR1 hR2
          rw [g4] at cw
          refine j_behind (st0 := stk.map (j_tr E)) (va_runI (b := j_ad E a) (As := (stk.take (n1 - 1)).reverse.map (j_tr E)) S hM ⟨cw, g5, hts _ (j_hw_in g2)⟩ ⟨j_Pc_blind _ _ _, ?_⟩ rfl (by rw [List.length_map, List.length_reverse, f3]; omega) hl.1 ?_ (hcat _ e3) (hd1 rfl) ⟨by omega, by omega⟩) hfree k hl hn hlo (by omega) (by omega)
          · have := j_pre (as := .ref a :: (stk.take (n1 - 1)).reverse) hK hR
            rw [List.map_cons, j_tr_ref h11] at this
            exact this
          · show stk.map (j_tr E) = _
            rw [← List.map_reverse, List.reverse_reverse, ← j_tr_ref (E := E) h11, ← List.map_cons, ← List.map_append, ← f1]
        | [], hok => cases hok
        | [_], hok => cases hok
        | [_, _], hok => cases hok
    · cases h
  · -- a method of a class without subclasses
    rename_i n1 y1 w1 w2 w3 w4 w5 k1 r1
    split at h
    · rename_i hth
      obtain ⟨hn0, a, ha, hsh⟩ := j_this_of hth
      obtain ⟨e1, e2, e3, e4⟩ := j_do_of h
      cases e1
      obtain ⟨f1, f2, f3⟩ := j_split ha hn0
      rw [f2] at hrun e4
      unfold j_okc at hok
      simp only [Bool.and_eq_true, beq_iff_eq, decide_eq_true_eq] at hok
      obtain ⟨rfl, hnp, hy, g1, g2, g3, g4, rfl, g5⟩ := hok
      have hM := j_met (l := l) (E := E) (by simpa using hy) hP hOK hrun e4
      intro Hp ls locs cells slots hR hl hn hlo hc hs
      obtain ⟨h11, hrecv⟩ := j_recv hK hR hsh
      have cw := j_callB (k := H1.1.length - H.1.length) (z := j_sz H1 - j_sz H) (n := j_np y) hts hy (j_hw_in g1) (j_hw_in g4) rfl hR1 hR2
      refine j_behind (st0 := stk.map (j_tr E)) (va_runV (C := j_cs (j_yc y)) (b := j_ad E a) (As := (stk.take (n1 - 1)).reverse.map (j_tr E)) S hM ⟨cw, hts _ (j_hw_in g2), hts _ (j_hw_in g3)⟩ ⟨j_Pc_blind _ _ _, hrecv, ?_⟩ rfl (by rw [List.length_map, List.length_reverse, f3]; omega) hl.1 ?_ (hcat _ e3) (hd2 rfl) ⟨by omega, by omega⟩) hfree k hl hn hlo (by omega) (by omega)
      · have := j_pre (as := .ref a :: (stk.take (n1 - 1)).reverse) hK hR
        rw [List.map_cons, j_tr_ref h11] at this
        exact this
      · show stk.map (j_tr E) = _
        rw [← List.map_reverse, List.reverse_reverse, ← j_tr_ref (E := E) h11, ← List.map_cons, ← List.map_append, ← f1]
    · cases h
  · -- by the receiver's class
    rename_i n1 x1 o1 w1 w2 w3 w4 l1
    split at h
    · rename_i k1 hth
      split at h
      · rename_i y1 hdsp
        obtain ⟨hn0, a, ha, hsh⟩ := j_this_of hth
        obtain ⟨e1, e2, e3, e4⟩ := j_do_of h
        cases e1
        obtain ⟨f1, f2, f3⟩ := j_split ha hn0
        rw [f2] at hrun e4
        unfold j_okc at hok
        simp only [Bool.and_eq_true, beq_iff_eq, decide_eq_true_eq] at hok
        obtain ⟨rfl, hnp, ho, g1, g2, g3, g4, g5, g6⟩ := hok
        obtain ⟨d1, d2, d3, d4, d5, d6⟩ := j_okd_of l1 g6 hdsp
        have hM := j_met (l := l) (E := E) (by simpa using d2) hP hOK hrun e4
        intro Hp ls locs cells slots hR hl hn hlo hc hs
        obtain ⟨h11, hrecv⟩ := j_recv hK hR hsh
        have hlt := j_cl_lt y (by simpa using d2)
        have hlo1 := j_cl_lt o1 (by simpa using ho)
        have hcy := j_clsn y hlt.1
        have hco := j_clsn o1 hlo1.1
        have hin := hts _ d6
        simp only [j_w] at hin
        have hoe : (⟨(j_ym o1).cls, (j_ym x1).name, (j_ym x1).desc⟩ : MethodName) = j_ym o1 := by rw [← g4, ← g5]
        have hxd : ∀ sig, parseMethodDescriptor (j_ym x1).desc = some sig → j_np x1 = sig.parameters.length := by
          rw [← g5]
          intro sig hsig
          have h2 := j_desc o1 hlo1.1
          rw [hsig] at h2
          have h3 : j_np o1 = j_np x1 := by
            exact j_npx o1 x1 hlo1.1 g5
          rw [← h3]
          exact (Option.some.inj h2).symm
        have cu : va_CU R s args (j_cs (j_ow M)) (j_cs k1) (j_ym o1).cls i (j_ym x1) (j_ym y) (j_by y) (j_ml y) (j_rt y) (j_WS y) (j_rm b (H1.1.length - H.1.length) (j_sz H1 - j_sz H)) (H1.1.length - H.1.length) (j_sz H1 - j_sz H) (j_np x1) :=
          ⟨⟨rfl, rfl, hR1, (by show 8 + (j_ml y + 11) + 100 * (b + 1) ≤ R.locals; have := hlt.2.2; omega), pay_in hts (j_WS_good d2), List.mem_cons_self⟩, hts _ (j_code_in d2), (by rw [hcy.1]; exact hin), hco.2, hxd, hts _ (j_hw_in g1), hts _ (j_hw_in g2), (by rw [hoe]; exact va_Decl.of (hts _ (j_hw_in g3)) (hts _ (j_code_in ho))), hts _ d4, hts _ d5⟩
        refine j_behind (st0 := stk.map (j_tr E)) (va_runU (C := j_cs k1) (b := j_ad E a) (As := (stk.take (n1 - 1)).reverse.map (j_tr E)) S hM cu ⟨j_Pc_blind _ _ _, hrecv, ?_⟩ rfl (by rw [List.length_map, List.length_reverse, f3]; omega) hl.1 ?_ (hcat _ e3) (hd2 rfl) ⟨by omega, by omega⟩) hfree k hl hn hlo (by omega) (by omega)
        · have := j_pre (as := .ref a :: (stk.take (n1 - 1)).reverse) hK hR
          rw [List.map_cons, j_tr_ref h11] at this
          exact this
        · show stk.map (j_tr E) = _
          rw [← List.map_reverse, List.reverse_reverse, ← j_tr_ref (E := E) h11, ← List.map_cons, ← List.map_append, ← f1]
      · cases h
    · cases h
  · -- super
    rename_i n1 y1 x1 w1 w2 w3 w4 w5 w6 fl w7 al
    split at h
    · rename_i k1 hth
      split at h
      · rename_i hal
        obtain ⟨hn0, a, ha, hsh⟩ := j_this_of hth
        obtain ⟨e1, e2, e3, e4⟩ := j_do_of h
        cases e1
        obtain ⟨f1, f2, f3⟩ := j_split ha hn0
        rw [f2] at hrun e4
        unfold j_okc at hok
        simp only [Bool.and_eq_true, beq_iff_eq, decide_eq_true_eq] at hok
        obtain ⟨rfl, hnp, hy, g1, g2, g3, g4, g5, g6, g7, g8, g9, g10, g11⟩ := hok
        have hk13 : k1 < 13 := by simpa using List.all_eq_true.mp g11 k1 (by simpa using hal)
        have hM := j_met (l := l) (E := E) (by simpa using hy) hP hOK hrun e4
        intro Hp ls locs cells slots hR hl hn hlo hc hs
        obtain ⟨h11, hrecv⟩ := j_recv hK hR hsh
        have hlt := j_cl_lt y (by simpa using hy)
        have hcy := j_clsn y hlt.1
        have hcx := j_clsx x1
        have hin := hts _ (j_hw_in g5)
        have hsup := hts _ (j_hw_in g3)
        simp only [j_w] at hin hsup
        refine j_behind (st0 := stk.map (j_tr E)) (j_runSU (x := j_ym x1) (C := j_cs k1) (b := j_ad E a) (n := j_np y) (As := (stk.take (n1 - 1)).reverse.map (j_tr E)) (hK.1 k1 hk13).2 S hM ⟨rfl, rfl, hR1, (by show 8 + (j_ml y + 11) + 100 * (b + 1) ≤ R.locals; have := hlt.2.2; omega), pay_in hts (j_WS_good hy), List.mem_cons_self⟩ (hts _ (j_hw_in g1)) (hts _ (j_hw_in g2)) (by rw [hcx]; exact hsup) ?_ (hts _ (j_hw_in g4)) (by rw [hcy.1]; exact hin) (hts _ (j_code_in hy)) ⟨g6, g7⟩ (by rw [← g6]; exact g8) (j_sig hlt.1 rfl) ⟨j_Pc_blind _ _ _, hrecv, ?_⟩ rfl (by rw [List.length_map, List.length_reverse, f3]; omega) hl.1 ?_ (hcat _ e3) (hd1 rfl) ⟨by omega, by omega⟩) hfree k hl hn hlo (by omega) (by omega)
        · rw [hcx, hcy.1]
          split at g9
          · exact Or.inl (by rw [show j_yc x1 = j_yc y by simpa using g9])
          · have := hts _ (j_hw_in g9)
            simp only [j_w] at this
            exact Or.inr this
        · have := j_pre (as := .ref a :: (stk.take (n1 - 1)).reverse) hK hR
          rw [List.map_cons, j_tr_ref h11] at this
          exact this
        · show stk.map (j_tr E) = _
          rw [← List.map_reverse, List.reverse_reverse, ← j_tr_ref (E := E) h11, ← List.map_cons, ← List.map_append, ← f1]
      · cases h
    · cases h
  · split at h
    · split at h <;> cases h
    · cases h
  · split at h
    · split at h
      · split at h
        · cases h
        · split at h <;> cases h
      · cases h
    · cases h
  · cases h
theorem j_all (hOK : j_OK) : ∀ n, j_P n
  | 0 => fun _ _ _ _ _ _ _ _ h => by cases h
  | n + 1 => by
    have hP := j_all hOK n
    intro b M pc loc stk H v Hf h p l e R s m args below meth c Q E n0 z0 C r1 r2 hret
    obtain ⟨hx, hb, hml, hown, hts, hK, hname, hR1, hR2⟩ := id C
    have hf := hK.2.2.2.2.2.2.2.2.2.2.2
    rw [j_rf] at h
    split at h
    · cases h
    · rename_i hst
      obtain ⟨i, len, aux, hrow, hi⟩ := j_stp_row hst
      obtain ⟨hd, hokr⟩ := hOK M _ hrow
      have hm := j_sz_mono (j_mono n _ _ _ _ _ _ _ h)
      dsimp only at hm hd
      exact j_step1 hx hb hml (by omega) (by omega) hf hown hts hK hname (by omega) (by omega) hd hokr hi (hP b M _ _ _ _ v Hf h p l e R s m args below meth c Q E n0 z0 C r1 r2 hret)
    · rename_i hst
      obtain ⟨i, len, aux, hrow, hi⟩ := j_stp_row hst
      obtain ⟨hd, hokr⟩ := hOK M _ hrow
      cases h
      obtain ⟨rfl, rfl, hri⟩ := j_ins_ret hi
      dsimp only at hd
      have hlen : len = 1 := by
        unfold j_okr at hokr
        have hq := (Bool.and_eq_true _ _ ▸ hokr).1
        have hq : len = j_ilen i len := by simpa using hq
        rw [hq]
        unfold j_rin at hri
        split at hri
        · rw [hri.1]; rfl
        · rw [hri.1]; rfl
        · rw [hri.1]; rfl
        · rw [hri.1]; rfl
        · rw [hri.1]; rfl
        · exact hri.elim
      rw [hlen] at hd
      intro Hp ls locs cells slots hR hl hn hlo hc hs
      exact hret Hp ls locs cells slots pc i hd hri hR hlo hc hs
    · rename_i hst
      split at h
      · cases h
      · rename_i b'
        split at h
        · cases h
        · rename_i v1 H1 hc
          obtain ⟨i, len, aux, hrow, hi⟩ := j_stp_row hst
          obtain ⟨hd, hokr⟩ := hOK M _ hrow
          obtain ⟨hinv, z, hz⟩ := j_ins_call hi
          have hm := j_sz_mono (j_mono n _ _ _ _ _ _ _ h)
          dsimp only at hm hd
          have hk := hP (b' + 1) M _ _ _ _ v Hf h p l e R s m args below meth c Q E n0 z0 C r1 r2 hret
          unfold j_okr at hokr
          have hq := (Bool.and_eq_true _ _ ▸ hokr)
          have hlen : len = j_ilen i len := by simpa using hq.1
          rcases hz with rfl | rfl | rfl
          · have hlen : len = 3 := hlen
            rw [hlen] at hd
            exact j_call (op := 0) C hP hOK (fun _ => hd) (fun q => by cases q) (fun q => by cases q) hq.2 hinv hc (by omega) (by omega) hk
          · have hlen : len = 3 := hlen
            rw [hlen] at hd
            exact j_call (op := 1) C hP hOK (fun q => by cases q) (fun _ => hd) (fun q => by cases q) hq.2 hinv hc (by omega) (by omega) hk
          · have hlen : len = 3 := hlen
            rw [hlen] at hd
            exact j_call (op := 2) C hP hOK (fun q => by cases q) (fun q => by cases q) (fun _ => hd) hq.2 hinv hc (by omega) (by omega) hk
end JSOUND
