/-! THE WHOLE WALK: what the pure walk answers, the machine answers -/
theorem j_plain : ∀ y ∈ j_cl, plainFor (j_ym y) = true := by decide +kernel
theorem j_desc : ∀ y, y < j_yl.length → (parseMethodDescriptor (j_ym y).desc).map (fun d => d.parameters.length) = some (j_np y) := by decide +kernel
theorem j_clsn : ∀ y, y < j_yl.length → (j_ym y).cls = j_cs (j_yc y) ∧ (j_ym y).cls ≠ "java/lang/invoke/MethodHandle" ∧ (j_ym y).cls ≠ "java/lang/invoke/VarHandle" := by decide +kernel
theorem j_cl_lt : ∀ y ∈ j_cl, y < j_yl.length ∧ j_ow y = j_yc y ∧ j_ml y ≤ 60 := by decide +kernel
def j_rtc (r : Nat) (t : Option FieldType) : Bool := if r = 0 then decide (t = none) else if r = 1 then decide (t = some .int) else if r = 2 then decide (t = some .long) else if r = 4 then decide (t = some .boolean) else if r = 5 then decide (t = some .byte) else if r = 6 then decide (t = some .char) else if r = 3 then (match t with
  | some (.object _) => true
  | some (.array _) => true
  | _ => false) else true
theorem j_rets : ∀ y ∈ j_cl, j_rtc (j_rc y) (j_rt y) = true := by decide +kernel
/-- a return: what stands on the stack, and the instruction -/
def j_rin (M : Nat) (v : Option Value) (i : Instr) : Prop := match v with
  | some (.int x) => i = .ireturn ∧ j_rok (j_rc M) x = true
  | some (.long _) => i = .lreturn ∧ j_rc M = 2
  | some (.ref x) => i = .areturn ∧ j_rc M = 3 ∧ x ≠ 11
  | some .null => i = .areturn ∧ j_rc M = 3
  | none => i = .return_ ∧ j_rc M = 0
  | _ => False
theorem j_put_pre {t : Nat} {H H1 : j_H} {a k : Nat} {v : Value} (h : j_put t H a k v = some H1) : H.1 <+: H1.1 := by rw [j_put_len h]; exact List.prefix_refl _
theorem j_do_no {n y pc : Nat} {loc stk : List Value} {q : (Nat × List Value × List Value × j_H) ⊕ (Option Value × j_H)} (h : j_do n y pc loc stk = some (.inl q)) : False := by
  unfold j_do at h
  split at h <;> cases h
set_option maxHeartbeats 4000000 in
theorem j_inv_pre {pc : Nat} {aux : List Nat} {loc stk : List Value} {H : j_H} {pc' : Nat} {loc' stk' : List Value} {H' : j_H} (h : j_inv pc aux loc stk H = some (.inl (.inl (pc', loc', stk', H')))) : H'.1 = H.1 := by
  unfold j_inv at h
  split at h
  · exact (j_do_no h).elim
  · split at h
    · split at h
      · cases h
      · exact (j_do_no h).elim
    · cases h
  · split at h
    · exact (j_do_no h).elim
    · cases h
  · split at h
    · split at h
      · exact (j_do_no h).elim
      · cases h
    · cases h
  · split at h
    · split at h
      · exact (j_do_no h).elim
      · cases h
    · cases h
  · split at h
    · split at h
      · cases h; rfl
      · cases h
    · cases h
  · split at h
    · split at h
      · split at h
        · cases h; rfl
        · split at h
          · cases h; rfl
          · cases h
      · cases h
    · cases h
  · cases h
theorem j_inv_no {pc : Nat} {aux : List Nat} {loc stk : List Value} {H : j_H} {r : Option Value × j_H} (h : j_inv pc aux loc stk H = some (.inl (.inr r))) : False := by
  unfold j_inv at h
  split at h
  · exact (j_do_no h).elim
  · split at h
    · split at h
      · cases h
      · exact (j_do_no h).elim
    · cases h
  · split at h
    · exact (j_do_no h).elim
    · cases h
  · split at h
    · split at h
      · exact (j_do_no h).elim
      · cases h
    · cases h
  · split at h
    · split at h
      · exact (j_do_no h).elim
      · cases h
    · cases h
  · split at h
    · split at h
      · cases h
      · cases h
    · cases h
  · split at h
    · split at h
      · split at h
        · cases h
        · split at h
          · cases h
          · cases h
      · cases h
    · cases h
  · cases h
theorem j_br_h {b : Bool} {pc t : Nat} {loc stk : List Value} {H : j_H} {q : Nat × List Value × List Value × j_H} (h : j_br b pc t loc stk H = some (.inl (.inl q))) : q.2.2.2 = H := by
  unfold j_br at h
  split at h <;> cases h <;> rfl
set_option maxHeartbeats 8000000 in
theorem j_ins_pre {M pc len : Nat} {i : Instr} {aux : List Nat} {loc stk : List Value} {H : j_H} {pc' : Nat} {loc' stk' : List Value} {H' : j_H} (h : j_ins M pc i len aux loc stk H = some (.inl (.inl (pc', loc', stk', H')))) : H.1 <+: H'.1 := by
  have hr : H.1 <+: H.1 := List.prefix_refl _
  unfold j_ins at h
  cases i <;> dsimp only at h
  case invokestatic => rw [j_inv_pre h]; exact hr
  case invokespecial => rw [j_inv_pre h]; exact hr
  case invokevirtual => rw [j_inv_pre h]; exact hr
  case new =>
    split at h
    · cases h
      exact List.prefix_append _ _
    · cases h
  case newarray =>
    split at h
    · split at h
      · unfold j_nwa at h
        split at h
        · cases h
          exact List.prefix_append _ _
        · cases h
      · cases h
    · cases h
  case anewarray =>
    split at h
    · split at h
      · unfold j_nwa at h
        split at h
        · cases h
          exact List.prefix_append _ _
        · cases h
      · cases h
    · cases h
  case putfield =>
    split at h
    · split at h
      · split at h
        · split at h
          · rename_i hp
            cases h
            exact j_put_pre hp
          · cases h
        · cases h
      · cases h
    · cases h
  case ifCond =>
    split at h
    · rw [show H' = H from j_br_h h]; exact hr
    · cases h
  case if_icmp =>
    split at h
    · rw [show H' = H from j_br_h h]; exact hr
    · cases h
  all_goals first
    | (cases h; done)
    | (cases h; exact hr)
    | (split at h <;> first | (cases h; done) | (cases h; exact hr))
    | (split at h <;> first | (cases h; done) | (cases h; exact hr) | (split at h <;> first | (cases h; done) | (cases h; exact hr)))
    | (split at h <;> first | (cases h; done) | (cases h; exact hr) | (split at h <;> first | (cases h; done) | (cases h; exact hr) | (split at h <;> first | (cases h; done) | (cases h; exact hr) | (split at h <;> first | (cases h; done) | (cases h; exact hr)))))
set_option maxHeartbeats 8000000 in
theorem j_ins_ret {M pc len : Nat} {i : Instr} {aux : List Nat} {loc stk : List Value} {H : j_H} {v : Option Value} {H' : j_H} (h : j_ins M pc i len aux loc stk H = some (.inl (.inr (v, H')))) : H' = H ∧ stk = v.toList ∧ j_rin M v i := by
  unfold j_ins at h
  cases i <;> dsimp only at h
  case invokestatic => exact (j_inv_no h).elim
  case invokespecial => exact (j_inv_no h).elim
  case invokevirtual => exact (j_inv_no h).elim
  case ireturn =>
    split at h
    · split at h
      · rename_i hr
        cases h
        exact ⟨rfl, rfl, rfl, hr⟩
      · cases h
    · cases h
  case lreturn =>
    split at h
    · split at h
      · rename_i hr
        cases h
        exact ⟨rfl, rfl, rfl, hr⟩
      · cases h
    · cases h
  case areturn =>
    split at h
    · split at h
      · rename_i hr
        cases h
        exact ⟨rfl, rfl, rfl, hr⟩
      · cases h
    · split at h
      · rename_i hr
        cases h
        exact ⟨rfl, rfl, rfl, hr⟩
      · cases h
    · cases h
  case return_ =>
    split at h
    · split at h
      · rename_i hr
        cases h
        exact ⟨rfl, rfl, rfl, hr⟩
      · cases h
    · cases h
  case newarray => (split at h <;> first | (cases h; done) | (split at h <;> first | (cases h; done) | (unfold j_nwa at h; split at h <;> cases h)))
  case anewarray => (split at h <;> first | (cases h; done) | (split at h <;> first | (cases h; done) | (unfold j_nwa at h; split at h <;> cases h)))
  case ifCond => (split at h <;> first | (cases h; done) | (unfold j_br at h; split at h <;> cases h))
  case if_icmp => (split at h <;> first | (cases h; done) | (unfold j_br at h; split at h <;> cases h))
  all_goals first
    | (cases h; done)
    | (split at h <;> first | (cases h; done))
    | (split at h <;> first | (cases h; done) | (split at h <;> first | (cases h; done)))
    | (split at h <;> first | (cases h; done) | (split at h <;> first | (cases h; done) | (split at h <;> first | (cases h; done) | (split at h <;> first | (cases h; done)))))
set_option maxHeartbeats 8000000 in
theorem j_ins_call {M pc len : Nat} {i : Instr} {aux : List Nat} {loc stk : List Value} {H : j_H} {q : Nat × List Value × Nat × List Value × List Value} (h : j_ins M pc i len aux loc stk H = some (.inr q)) : j_inv pc aux loc stk H = some (.inr q) ∧ ∃ z, i = .invokestatic z ∨ i = .invokespecial z ∨ i = .invokevirtual z := by
  unfold j_ins at h
  cases i <;> dsimp only at h
  case invokestatic z => exact ⟨h, z, Or.inl rfl⟩
  case invokespecial z => exact ⟨h, z, Or.inr (Or.inl rfl)⟩
  case invokevirtual z => exact ⟨h, z, Or.inr (Or.inr rfl)⟩
  case newarray => (split at h <;> first | (cases h; done) | (split at h <;> first | (cases h; done) | (unfold j_nwa at h; split at h <;> cases h)))
  case anewarray => (split at h <;> first | (cases h; done) | (split at h <;> first | (cases h; done) | (unfold j_nwa at h; split at h <;> cases h)))
  case ifCond => (split at h <;> first | (cases h; done) | (unfold j_br at h; split at h <;> cases h))
  case if_icmp => (split at h <;> first | (cases h; done) | (unfold j_br at h; split at h <;> cases h))
  all_goals first
    | (cases h; done)
    | (split at h <;> first | (cases h; done))
    | (split at h <;> first | (cases h; done) | (split at h <;> first | (cases h; done)))
    | (split at h <;> first | (cases h; done) | (split at h <;> first | (cases h; done) | (split at h <;> first | (cases h; done) | (split at h <;> first | (cases h; done)))))
theorem j_stp_row {M pc : Nat} {loc stk : List Value} {H : j_H} {x : j_Act} (h : j_stp M pc loc stk H = some x) : ∃ i len aux, (pc, i, len, aux) ∈ j_tab.getD M [] ∧ j_ins M pc i len aux loc stk H = some x := by
  unfold j_stp at h
  split at h
  · rename_i pc0 i len aux hr
    unfold j_at at hr
    have h1 := List.find?_some hr
    have h2 := List.mem_of_find?_eq_some hr
    have e : pc0 = pc := by simpa using h1
    subst e
    exact ⟨i, len, aux, h2, h⟩
  · cases h
theorem j_mono : ∀ (n b M pc : Nat) (loc stk : List Value) (H : j_H) (r : Option Value × j_H), j_rf n b M pc loc stk H = some r → H.1 <+: r.2.1
  | 0, _, _, _, _, _, _, _, h => by cases h
  | n + 1, b, M, pc, loc, stk, H, r, h => by
    rw [j_rf] at h
    split at h
    · cases h
    · rename_i hst
      obtain ⟨i, len, aux, -, hi⟩ := j_stp_row hst
      exact (j_ins_pre hi).trans (j_mono n _ _ _ _ _ _ r h)
    · rename_i hst
      obtain ⟨i, len, aux, -, hi⟩ := j_stp_row hst
      cases h
      rw [(j_ins_ret hi).1]
      exact List.prefix_refl _
    · split at h
      · cases h
      · split at h
        · cases h
        · rename_i hc
          exact (j_mono n _ _ _ _ _ _ _ hc).trans (j_mono n _ _ _ _ _ _ r h)
theorem j_sz_mono {H H' : j_H} (h : H.1 <+: H'.1) : H.1.length ≤ H'.1.length ∧ j_sz H ≤ j_sz H' := by
  obtain ⟨t, ht⟩ := h
  refine ⟨by rw [← ht]; simp, ?_⟩
  unfold j_sz
  rw [← ht]
  simp
def j_rm (b k n : Nat) : Room := { frames := b + 1, cells := k, slots := n, locals := 100 * (b + 1) }
def j_Pc (E : j_E) (vs : List Value) (H : j_H) : Array Value → State → Prop := fun v U => v = (vs.map (j_tr E)).toArray ∧ j_Rel E H U.heap ∧ j_K E U
def j_Qc (E : j_E) (r : Option Value) (H : j_H) : Array Value → State → Outcome → State → Prop := fun _ _ o t => o = .returned (r.map (j_tr E)) ∧ j_Rel E H t.heap
theorem j_Pc_blind (E : j_E) (vs : List Value) (H : j_H) : FrameBlind (j_Pc E vs H) := fun a U g mk q => ⟨q.1, q.2.1, j_K.warm (U := U.calling g mk a) (State.WarmedH.refl U) q.2.2⟩
section JSOUND
theorem j_ofW {l : Launch} {y : MethodName} {ws ws' : List Cond} {rm : Room} {Pc : Array Value → State → Prop} {Qc : Array Value → State → Outcome → State → Prop} {mc ms : Nat} {free : Addr → Prop} {cc : ByteArray} {maxL : Nat} {ret : Option FieldType}
    (hy : plainFor y = true) (hw : ws = Cond.code y cc maxL ret :: ws')
    (body : ∀ p e s m args below meth c s₁, BodyLoose p l y (headSpec ws rm) cc maxL ret e s m args below meth c s₁ → c.maxLocals = maxL → Pc args s →
      W p l e (headSpec ws rm).room s m args below meth c s.heap [] 0 0 (MQ below Qc args s mc ms free) (entryFrame m args maxL)) : Met l y ws rm Pc Qc mc ms free := by
  refine MetFree.of_bodySF (code := cc) (maxLocals := maxL) (ret := ret) hy ?_ ?_
  · intro args s m h hn
    obtain ⟨meth, c, h1, h2, h3, h4, h5, h6, -, -⟩ := Cond.code_spec hn (atoms_spec (ws := ws) h _ (by rw [hw]; exact List.mem_cons_self))
    exact ⟨meth, c, h1, h2, h3, h4, h5, h6⟩
  · intro p e s m args below meth c s₁ B hml hP _
    have hh0 : s₁.heap = s.heap := by rw [B.state]; rfl
    obtain ⟨t, a1, o, b1, b2, b3⟩ := body p e s m args below meth c s₁ B hml hP s₁ hh0 (Stand.of_body B)
    exact ⟨t, o, a1, b1, b2, ⟨b3.1, b3.2⟩⟩
/-- every row of the program is as the bytes and the tables have it -/
def j_OK : Prop := ∀ (M : Nat) (r : j_row), r ∈ j_tab.getD M [] → decode (j_by M) r.1 = .ok (r.2.1, r.2.2.1) ∧ j_okr M r = true
/-- the machine in a frame of ours, with room for b calls -/
def j_Cx (p : Program) (R : Room) (s : State) (m : MethodId) (args : Array Value) (meth : Method) (c : Code) (E : j_E) (M b : Nat) : Prop :=
  p.tables.exec = Jvm.exec ∧ c.code = j_by M ∧ c.maxLocals = j_ml M ∧ s.vm.findClass (j_cs (j_ow M)) = some m.cls ∧ (∀ w ∈ j_W, w.before args s = true) ∧ j_K E s ∧ meth.name = (j_ym M).name ∧ b + 1 ≤ R.frames ∧ 100 * (b + 1) ≤ R.locals
/-- what waits at the end -/
def j_Rh (p : Program) (l : Launch) (e : Env) (R : Room) (s : State) (m : MethodId) (args : Array Value) (below : List Frame) (meth : Method) (c : Code) (Q : State → Prop) (E : j_E) (M n0 z0 : Nat) (v : Option Value) (H : j_H) : Prop :=
  ∀ (Hp : Heap) (ls : Array Slot) (locs : List Loc) (cells slots pc : Nat) (i : Instr), decode (j_by M) pc = .ok (i, 1) → j_rin M v i → j_Rel E H Hp → (∀ q ∈ locs, E.1.size ≤ q.base) → cells + n0 = H.1.length → slots + z0 = j_sz H →
    W p l e R s m args below meth c Hp locs cells slots Q (F0 m pc ls (v.toList.map (j_tr E)))
def j_P (n : Nat) : Prop := ∀ (b M pc : Nat) (loc stk : List Value) (H : j_H) (v : Option Value) (Hf : j_H), j_rf n b M pc loc stk H = some (v, Hf) →
  ∀ (p : Program) (l : Launch) (e : Env) (R : Room) (s : State) (m : MethodId) (args : Array Value) (below : List Frame) (meth : Method) (c : Code) (Q : State → Prop) (E : j_E) (n0 z0 : Nat),
    j_Cx p R s m args meth c E M b → Hf.1.length ≤ n0 + R.cells → j_sz Hf ≤ z0 + R.slots → j_Rh p l e R s m args below meth c Q E M n0 z0 v Hf → j_Go p l e R s m args below meth c Q E M n0 z0 pc loc stk H
def j_WS (y : Nat) : List Cond := Cond.code (j_ym y) (j_by y) (j_ml y) (j_rt y) :: j_W
theorem j_ent_lv {E : j_E} (hf : E.2.2.1 = .null ∨ ∃ a, E.2.2.1 = .ref a) (k : Nat) : ∀ (vs : List Value) (i : Nat), ∀ q ∈ j_lv E i (j_sl vs ++ List.replicate k j_u), q ∈ lv_args i (vs.map (j_tr E))
  | [], i, q, h => by
    exfalso
    have key : ∀ (k i : Nat), j_lv E i (List.replicate k j_u) = [] := by
      intro k
      induction k with
      | zero => intro i; rfl
      | succ k ih => intro i; rw [List.replicate_succ, j_lv, if_neg (by rw [j_kn_u]; exact Bool.noConfusion)]; exact ih _
    rw [show j_sl [] ++ List.replicate k j_u = List.replicate k j_u from rfl, key] at h
    cases h
  | v :: vs, i, q, h => by
    have hc := j_tr_cat (E := E) hf v
    rw [List.map_cons, lv_args, hc]
    have e : j_sl (v :: vs) = (if j_c1 v then [v] else [v, j_u]) ++ j_sl vs := by unfold j_sl; rw [List.flatMap_cons]
    rw [e] at h
    by_cases h1 : j_c1 v = true
    · have h2 : ¬ v.category = 2 := by rw [(j_c1_cat v).mp h1]; decide
      rw [if_pos h1] at h
      rw [if_neg h2]
      rw [List.append_assoc, List.singleton_append, j_lv] at h
      split at h
      · rcases List.mem_cons.mp h with rfl | h
        · exact List.mem_cons_self
        · exact List.mem_cons_of_mem _ (j_ent_lv hf k vs (i + 1) q h)
      · exact List.mem_cons_of_mem _ (j_ent_lv hf k vs (i + 1) q h)
    · have h2 : v.category = 2 := by cases v <;> simp_all [j_c1, Value.category]
      rw [if_neg h1] at h
      rw [if_pos h2]
      rw [List.append_assoc, List.cons_append, j_lv] at h
      have h3 : ∀ q, q ∈ j_lv E (i + 1) ([j_u] ++ (j_sl vs ++ List.replicate k j_u)) → q ∈ lv_args (i + 2) (vs.map (j_tr E)) := by
        intro q hq
        rw [List.singleton_append, j_lv, if_neg (by rw [j_kn_u]; exact Bool.noConfusion)] at hq
        exact j_ent_lv hf k vs (i + 2) q hq
      split at h
      · rcases List.mem_cons.mp h with rfl | h
        · exact List.mem_cons_self
        · exact List.mem_cons_of_mem _ (h3 q h)
      · exact List.mem_cons_of_mem _ (h3 q h)
theorem j_sl_len {E : j_E} (hf : E.2.2.1 = .null ∨ ∃ a, E.2.2.1 = .ref a) : ∀ vs : List Value, (lg_sl (vs.map (j_tr E))).length = (j_sl vs).length
  | [] => rfl
  | v :: vs => by
    have hc := j_tr_cat (E := E) hf v
    have ih := j_sl_len hf vs
    unfold lg_sl j_sl at ih ⊢
    rw [List.map_cons, List.flatMap_cons, List.flatMap_cons, List.length_append, List.length_append, ih, hc]
    congr 1
    by_cases h1 : j_c1 v = true
    · rw [if_pos h1, if_neg (by rw [(j_c1_cat v).mp h1]; decide)]; rfl
    · have h2 : v.category = 2 := by cases v <;> simp_all [j_c1, Value.category]
      rw [if_neg h1, if_pos h2]; rfl
theorem j_nar8 {x : Int32} (h : -128 ≤ x.toInt ∧ x.toInt ≤ 127) : narrow .byte (.int x) = .int x := by
  rw [narrow_byte]
  congr 1
  apply Int32.toInt_inj.mp
  rw [Int8.toInt_toInt32]
  show (Int8.ofInt x.toInt).toInt = _
  first | (rw [Int8.toInt_ofInt_of_le (by omega) (by omega)]; done) | (simp; omega)
theorem j_narC {x : Int32} (h : 0 ≤ x.toInt ∧ x.toInt ≤ 65535) : narrow .char (.int x) = .int x := by
  sorry
theorem j_rt_of {y : Nat} (hy : y ∈ j_cl) (r : Nat) (hr : j_rc y = r) : j_rtc r (j_rt y) = true := by rw [← hr]; exact j_rets y hy
theorem j_rt_ref {t : Option FieldType} (h : j_rtc 3 t = true) : ∃ rt, t = some rt ∧ ((∃ n, rt = .object n) ∨ ∃ q, rt = .array q) := by
  unfold j_rtc at h
  simp only [show ¬ (3 = 0) by decide, show ¬ (3 = 1) by decide, show ¬ (3 = 2) by decide, show ¬ (3 = 4) by decide, show ¬ (3 = 5) by decide, show ¬ (3 = 6) by decide, if_false, if_true] at h
  split at h
  · exact ⟨_, rfl, Or.inl ⟨_, rfl⟩⟩
  · exact ⟨_, rfl, Or.inr ⟨_, rfl⟩⟩
  · cases h
theorem j_met {n b y : Nat} (hy : y ∈ j_cl) (hP : j_P n) (hok : j_OK) {l : Launch} {E : j_E} {vs : List Value} {H Hf : j_H} {v : Option Value} (hrun : j_rf n b y 0 (j_ent (j_ml y) vs) [] H = some (v, Hf)) (hlen : (j_sl vs).length ≤ j_ml y) :
    Met l (j_ym y) (j_WS y) (j_rm b (Hf.1.length - H.1.length) (j_sz Hf - j_sz H)) (j_Pc E vs H) (j_Qc E v Hf) (Hf.1.length - H.1.length) (j_sz Hf - j_sz H) (j_A E) := by
  refine j_ofW (cc := j_by y) (maxL := j_ml y) (ret := j_rt y) (j_plain y hy) rfl ?_
  intro p e s m args below meth c s₁ B hml hv
  obtain ⟨rfl, hR, hK⟩ := hv
  have hts0 := atoms_spec (ws := j_WS y) B.pre
  have hts : ∀ w ∈ j_W, w.before _ s = true := fun w h => hts0 w (List.mem_cons_of_mem _ h)
  have hlt := j_cl_lt y hy
  have hown : s.vm.findClass (j_cs (j_ow y)) = some m.cls := by
    have h := findClass_of_methodNamed B.named
    rw [(j_clsn y hlt.1).1] at h
    rw [hlt.2.1]
    exact h
  have hlocks := B.notSynchronized
  have hf := hK.2.2.2.2.2.2.2.2.2.2.2
  have hmono := j_sz_mono (j_mono n _ _ _ _ _ _ _ hrun)
  rw [lg_entry_eq]
  have hle : (lg_sl (vs.map (j_tr E))).length ≤ j_ml y := by rw [j_sl_len hf]; exact hlen
  have hl := lv_entry (vs.map (j_tr E)) hle
  refine hP b y 0 _ [] H v Hf hrun p l e (headSpec (j_WS y) (j_rm b (Hf.1.length - H.1.length) (j_sz Hf - j_sz H))).room s m _ below meth c _ E H.1.length (j_sz H) ⟨B.exec, B.bytes, hml, hown, hts, hK, (name_of_methodNamed B.named B.method).1, Nat.le_refl _, Nat.le_refl _⟩
    (by show Hf.1.length ≤ H.1.length + (Hf.1.length - H.1.length); have := hmono.1; dsimp only at this; omega) (by show j_sz Hf ≤ j_sz H + (j_sz Hf - j_sz H); have := hmono.2; dsimp only at this; omega) ?_ s.heap _ [] 0 0 hR ?_ ?_ (fun q h => by cases h) (by omega) (by omega)
  · intro Hp ls locs cells slots pc i hd hri hRf hlo hc hs
    obtain rfl : cells = Hf.1.length - H.1.length := by omega
    obtain rfl : slots = j_sz Hf - j_sz H := by omega
    have hq : ∀ t : State, t.heap = Hp → s.WarmedH t.vm → j_Qc E v Hf (vs.map (j_tr E)).toArray s (.returned (v.map (j_tr E))) t := fun t ht _ => ⟨rfl, by rw [ht]; exact hRf⟩
    have hret := B.returns
    unfold j_rin at hri
    split at hri
    · rename_i x
      obtain ⟨rfl, hrok⟩ := hri
      unfold j_rok at hrok
      split at hrok
      · rename_i h1
        have ht := j_rt_of hy 1 h1
        have ht : j_rt y = some .int := by simpa [j_rtc] using ht
        rw [ht] at hret
        exact W.iret B.exec B.bytes hret hq hlo hd
      · split at hrok
        · rename_i h1
          have ht := j_rt_of hy 4 h1
          have ht : j_rt y = some .boolean := by simpa [j_rtc] using ht
          rw [ht] at hret
          simp only [Bool.or_eq_true, decide_eq_true_eq] at hrok
          exact W.zret B.exec B.bytes hret (j_narZ hrok) hq hlo hd
        · split at hrok
          · rename_i h1
            have ht := j_rt_of hy 5 h1
            have ht : j_rt y = some .byte := by simpa [j_rtc] using ht
            rw [ht] at hret
            simp only [Bool.and_eq_true, decide_eq_true_eq] at hrok
            exact W.zret B.exec B.bytes hret (j_nar8 hrok) hq hlo hd
          · split at hrok
            · rename_i h1
              have ht := j_rt_of hy 6 h1
              have ht : j_rt y = some .char := by simpa [j_rtc] using ht
              rw [ht] at hret
              simp only [Bool.and_eq_true, decide_eq_true_eq] at hrok
              exact W.zret B.exec B.bytes hret (j_narC hrok) hq hlo hd
            · cases hrok
    · obtain ⟨rfl, h1⟩ := hri
      have ht := j_rt_of hy 2 h1
      have ht : j_rt y = some .long := by simpa [j_rtc] using ht
      rw [ht] at hret
      exact W.lret B.exec B.bytes hret hq hlo hd
    · rename_i x
      obtain ⟨rfl, h1, h11⟩ := hri
      obtain ⟨rt, hrt, hcase⟩ := j_rt_ref (j_rt_of hy 3 h1)
      rw [hrt] at hret
      exact W.aret B.exec B.bytes hret hcase (Or.inr ⟨_, j_tr_ref h11⟩) hq hlo hd
    · obtain ⟨rfl, h1⟩ := hri
      obtain ⟨rt, hrt, hcase⟩ := j_rt_ref (j_rt_of hy 3 h1)
      rw [hrt] at hret
      exact W.aret B.exec B.bytes hret hcase (Or.inl rfl) hq hlo hd
    · obtain ⟨rfl, h1⟩ := hri
      have ht := j_rt_of hy 0 h1
      have ht : j_rt y = none := by simpa [j_rtc] using ht
      rw [ht] at hret
      exact W.vret B.exec B.bytes hret hq hlo hd
    · exact hri.elim
  · unfold j_ent
    exact hl.mono (j_ent_lv hf _ vs 0)
  · unfold j_ent
    rw [List.length_append, List.length_replicate]
    omega
end JSOUND
