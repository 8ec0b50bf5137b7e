/-! THE CLAIM OUT OF ONE WALK OF THE LAW'S BODY. Your part is whole_start (and what it stands on); all else here is the same for every law, but numbers. -/
def R_law : String := "HatGoesLaw"
def lw_P (b : Addr) (xs : List Int32) (args : Array Value) (s : State) : Prop := args = #[.ref b] ∧ s.IntsAt b xs ∧ xs.length ≤ 3072 ∧ (Jvm.Cond.and given_1 narrow_1).before args s = true
def lw_Q (_ : Array Value) (s : State) (o : Outcome) (t : State) : Prop := o = .returned (some (.int 1)) ∧ Framed s o t [] 600000 7302250
def lw_Z (below : List Frame) (a : Array Value) (s : State) : State → Prop := fun t => ∃ o, t.status = .running ∧ Ended t below o ∧ lw_Q a s o t
/-- the law's own end, with 1 on the stack, nothing written that was there before, its room as the claim has it -/
theorem lw_ret {p : Program} {l : Launch} {e : Env} {s : State} {m : MethodId} {below : List Frame} {meth : Method} {c : Code} {b : Nat} (hx : p.tables.exec = Jvm.exec) (hb : c.code = code) (hr : meth.sig.returnType = ret) (hlocks : meth.locks = false) {pc : Nat} {H : Heap} {ls : Array Slot} (hdg : decode code pc = .ok (.ireturn, 1)) : W p l e room_1 s m #[Value.ref b] below meth c H [] 600000 7302250 (lw_Z below #[Value.ref b] s) (F0 m pc ls [.int 1]) := by
  intro T hT X
  obtain ⟨fs, hret, hrun, hended, hW, hframe⟩ := X.leave (v := some (.int 1)) (hlocks := hlocks) (fun h => by rw [hr] at h; cases h)
  have hmeth' : T.vm.method? m = some meth := X.method'
  refine ⟨T.setFrames fs, ?_, .returned (some (.int 1)), hrun, hended, rfl, ⟨_, rfl⟩, hW, hframe⟩
  jvm_step X.here [X.here.top, hx, hb, hdg, hmeth', hr, ret, narrow_b1]
  (try refine ⟨rfl, ?_⟩); (try refine ⟨rfl, ?_⟩)
  first | (intro acts; rw [hret _ acts rfl rfl rfl]) | rw [hret _ _ rfl rfl rfl]
  exact Steps.refl _
/-- what holds at the law's entry: the machine, the code, the tables' words (any of lw_tbl by 'hts w (by decide +kernel)'), the script of L ints xs at the cell b, what the Statement gives of the start (any of its parts by flat_of_before) -/
def lw_At (p : Program) (s : State) (m : MethodId) (meth : Method) (c : Code) (b L : Nat) (xs : Nat → Int32) : Prop :=
  p.tables.exec = Jvm.exec ∧ c.code = code ∧ meth.sig.returnType = ret ∧ c.maxLocals = 4 ∧ s.vm.findClass R_law = some m.cls ∧ (∀ w ∈ lw_tbl, w.before #[Value.ref b] s = true) ∧ va_X b L xs s s.heap ∧ b < s.heap.size ∧ meth.locks = false ∧ (Jvm.Cond.and given_1 narrow_1).before #[Value.ref b] s = true
/-! THE START: the tables' words and the premises make the pure machine's start; the pure walk of the law makes the claim -/
theorem j_c10 : ∀ c, c < 13 → j_mem [10, c, j_nf c] = true := by decide +kernel
theorem j_c11 : ∀ t, t < 4 → j_mem [11, t] = true := by decide +kernel
theorem j_wx_in : ∀ e ∈ j_wx, j_w e.2 ∈ lw_tbl := by
  intro e he
  have h := List.all_eq_true.mp j_wkx e he
  exact List.mem_of_getElem? (of_decide_eq_true h)
theorem j_cx_wx : ∀ q ∈ j_cx, (Cond.castable (j_cs q.1) (j_cs q.2)) ∈ lw_tbl := by
  intro q hq
  unfold j_cx at hq
  obtain ⟨e, he, h⟩ := List.mem_filterMap.mp hq
  have h1 := j_wx_in e he
  split at h
  · rename_i g c hg
    cases h
    rw [hg] at h1
    exact h1
  · cases h
theorem j_ao_wx : ∀ c ∈ [2, 3, 8], (Cond.arrayOver (.object (j_cs c))) ∈ lw_tbl := by
  have h : ∀ c ∈ [2, 3, 8], j_wx.any (fun e => e.2 == [12, c]) = true := by decide +kernel
  intro c hc
  obtain ⟨e, he, h2⟩ := List.any_eq_true.mp (h c hc)
  have h1 := j_wx_in e he
  rw [show e.2 = [12, c] by simpa using h2] at h1
  exact h1
theorem j_nc_flat : ∀ q ∈ j_nc, Cond.not (.castable (j_cs q.1) (j_cs q.2)) ∈ flatC (Jvm.Cond.and given_1 narrow_1) := by decide +kernel
theorem j_str_tbl : ∀ i, i < 5 → Cond.stringRef "HatGoes$House" (j_si i) (j_stx i) ∈ lw_tbl := by
  intro i hi
  rcases (show i = 0 ∨ i = 1 ∨ i = 2 ∨ i = 3 ∨ i = 4 by omega) with rfl | rfl | rfl | rfl | rfl <;> decide +kernel
theorem j_ini_S : Cond.initialized "java/lang/String" ∈ lw_tbl ∧ Cond.initialized "jdk/internal/util/Preconditions" ∈ lw_tbl ∧ Cond.laysStatic "java/lang/String" "COMPACT_STRINGS" "Z" ∈ lw_tbl ∧ Cond.laysStatic "jdk/internal/util/Preconditions" "SIOOBE_FORMATTER" "Ljava/util/function/BiFunction;" ∈ lw_tbl := by
  refine ⟨?_, ?_, ?_, ?_⟩ <;> decide +kernel
def j_tm (i : Nat) : Term := .string "HatGoes$House" (j_si i)
theorem j_five {P : Nat → Prop} (h0 : P 0) (h1 : P 1) (h2 : P 2) (h3 : P 3) (h4 : P 4) : ∀ i, i < 5 → P i := by
  intro i hi
  rcases (show i = 0 ∨ i = 1 ∨ i = 2 ∨ i = 3 ∨ i = 4 by omega) with rfl | rfl | rfl | rfl | rfl
  · exact h0
  · exact h1
  · exact h2
  · exact h3
  · exact h4
theorem j_st_ex : ∀ i, i < 5 → (Cond.exactly (j_tm i) "java/lang/String") ∈ flatC (Jvm.Cond.and given_1 narrow_1) := j_five (by decide +kernel) (by decide +kernel) (by decide +kernel) (by decide +kernel) (by decide +kernel)
theorem j_st_co : ∀ i, i < 5 → (Cond.eq (.field (j_tm i) "java/lang/String" "coder" "B") (.int 0)) ∈ flatC (Jvm.Cond.and given_1 narrow_1) := j_five (by decide +kernel) (by decide +kernel) (by decide +kernel) (by decide +kernel) (by decide +kernel)
theorem j_st_ar : ∀ i, i < 5 → (Cond.arrayOf (.field (j_tm i) "java/lang/String" "value" "[B") .byte) ∈ flatC (Jvm.Cond.and given_1 narrow_1) := j_five (by decide +kernel) (by decide +kernel) (by decide +kernel) (by decide +kernel) (by decide +kernel)
theorem j_st_le : ∀ i, i < 5 → (Cond.eq (.length (.field (j_tm i) "java/lang/String" "value" "[B")) (.int (Int32.ofNat (j_sln.getD i 0)))) ∈ flatC (Jvm.Cond.and given_1 narrow_1) := j_five (by decide +kernel) (by decide +kernel) (by decide +kernel) (by decide +kernel) (by decide +kernel)
theorem j_st_el : ∀ i, i < 5 → ∀ j, j < j_sln.getD i 0 → (Cond.eq (.elem (.field (j_tm i) "java/lang/String" "value" "[B") (.int (Int32.ofNat j))) (.int ((j_sby.getD i []).getD j 0))) ∈ flatC (Jvm.Cond.and given_1 narrow_1) := j_five (by decide +kernel) (by decide +kernel) (by decide +kernel) (by decide +kernel) (by decide +kernel)
theorem j_st_ne : ∀ i, i < 5 → ∀ j, j < 5 → i < j → (Cond.not (Cond.eq (j_tm i) (j_tm j))) ∈ flatC (Jvm.Cond.and given_1 narrow_1) := j_five (by decide +kernel) (by decide +kernel) (by decide +kernel) (by decide +kernel) (by decide +kernel)
theorem j_fl_cs : Cond.eq (.static "java/lang/String" "COMPACT_STRINGS" "Z") (.int 1) ∈ flatC (Jvm.Cond.and given_1 narrow_1) := by decide +kernel
theorem j_fl_fm : Cond.isRef (.static "jdk/internal/util/Preconditions" "SIOOBE_FORMATTER" "Ljava/util/function/BiFunction;") ∈ flatC (Jvm.Cond.and given_1 narrow_1) := by decide +kernel
def j_H0 (L : Nat) (xs : Nat → Int32) : j_H :=
  ([.inl 14, .inl 14, .inl 14, .inl 14, .inl 14, .inr (9, 4), .inr (9, 5), .inr (9, 3), .inr (9, 6), .inr (9, 3), .inr (8, L), .inr (7, 0)],
    fun a k => if a = 10 then xs k else if 5 ≤ a ∧ a < 10 then (j_sby.getD (a - 5) []).getD k 0 else 0, fun _ _ => 0, fun a k => if a < 5 ∧ k = 0 then some (5 + a) else none)
theorem j_old0 {E : j_E} : j_old E (j_H0 E.2.2.2.2.2.2.1 E.2.2.2.2.2.2.2) := by
  refine ⟨fun i hi => ?_, rfl, fun k _ => rfl, rfl⟩
  rcases (show i = 0 ∨ i = 1 ∨ i = 2 ∨ i = 3 ∨ i = 4 by omega) with rfl | rfl | rfl | rfl | rfl <;> exact ⟨rfl, rfl, rfl, rfl, fun k _ => rfl⟩
theorem j_begin {p : Program} {s : State} {m : MethodId} {meth : Method} {c : Code} {b L : Nat} {xs : Nat → Int32} (C0 : lw_At p s m meth c b L xs) : ∃ E : j_E, E.1 = s.heap ∧ E.2.1 10 = b ∧ E.2.2.2.2.2.2.1 = L ∧ E.2.2.2.2.2.2.2 = xs ∧ j_K E s := by
  obtain ⟨hx, hb, hr, hml, hown, hts, hX, hbl, hlocks, hgv⟩ := C0
  have hW : ∀ w ∈ j_W, w.before #[Value.ref b] s = true := fun w h => hts w (j_W_in w h).1
  have hs := flat_of_before _ hgv
  have hA : ∀ a : Nat, a < s.heap.size → ¬ (fun q : Nat => s.heap.size ≤ q) a := fun a h q => Nat.not_le.mpr h q
  -- classes
  have hcl : ∀ c, ∃ q : ClassId × (Nat → Nat), c < 13 → u_Kn s (j_cs c) (j_T c) (j_nf c) q.1 q.2 := by
    intro c
    by_cases hc : c < 13
    · obtain ⟨cC, iS, h⟩ := u_known hW (j_ws_in hc) (hW _ (j_mem_in (j_c10 c hc)))
      exact ⟨(cC, iS), fun _ => h⟩
    · exact ⟨(0, fun _ => 0), fun h => absurd h hc⟩
  obtain ⟨fc, hfc⟩ := Classical.axiomOfChoice hcl
  -- arrays
  have har : ∀ t, ∃ cA : ClassId, t < 7 → ArrOfT s cA (j_aty t) ∧ va_RA s cA (j_aty t) := by
    intro t
    by_cases ht : t < 7
    · by_cases h4 : t < 4
      · have hw := hW _ (j_mem_in (j_c11 t h4))
        obtain ⟨cB, kB, comp, h1, h2, h3⟩ := Cond.arrayClass_spec hw
        refine ⟨cB, fun _ => ?_⟩
        rcases (show t = 0 ∨ t = 1 ∨ t = 2 ∨ t = 3 by omega) with rfl | rfl | rfl | rfl <;> exact ⟨fun n z => ⟨fun k h => (by cases h), kB, h2, comp, h3⟩, h1⟩
      · have hw := hts _ (j_ao_wx (j_arc t) (by rcases (show t = 4 ∨ t = 5 ∨ t = 6 by omega) with rfl | rfl | rfl <;> decide))
        obtain ⟨comp, cB, kB, h1, h2, h3, h4', h5⟩ := Cond.arrayOver_spec hw
        refine ⟨cB, fun _ => ?_⟩
        rw [j_aty_arc (by omega) ht]
        exact ⟨fun n z => ⟨fun k h => (by cases h), kB, h3, comp, h4'⟩, kB, comp, h3, h4', h1, h5⟩
    · exact ⟨0, fun h => absurd h ht⟩
  obtain ⟨fA, hfA⟩ := Classical.axiomOfChoice har
  -- strings
  obtain ⟨adK, adV, hS, hev⟩ := vk_Sof (args := #[Value.ref b]) (s := s) (N := 5) (tm := j_tm) (len := j_sln) (byt := j_sby) (A := fun q : Nat => s.heap.size ≤ q)
    (j_five (by decide) (by decide) (by decide) (by decide) (by decide)) (fun i hi => hs _ (j_st_ex i hi)) (fun i hi => hs _ (j_st_co i hi)) (fun i hi => hs _ (j_st_ar i hi)) (fun i hi => hs _ (j_st_le i hi)) (fun i hi j hj => hs _ (j_st_el i hi j hj))
    (fun i j hi hj hne => by
      by_cases h : i < j
      · exact Or.inl (hs _ (j_st_ne i hi j hj h))
      · exact Or.inr (hs _ (j_st_ne j hj i hi (by omega)))) hA
  obtain ⟨t1, t2, t3, t4⟩ := j_ini_S
  have hZ1 := va_Zof (hts _ t3) (hts _ t1) (va_eqi (hs _ j_fl_cs)) hA
  have hZ2 : ∃ fm : Value, (fm = .null ∨ ∃ a, fm = .ref a) ∧ va_Z "jdk/internal/util/Preconditions" "SIOOBE_FORMATTER" "Ljava/util/function/BiFunction;" fm (fun q : Nat => s.heap.size ≤ q) s s.heap := by
    rcases va_Zqof (hts _ t4) (hts _ t2) (hs _ j_fl_fm) hA with h | ⟨t, h⟩
    · exact ⟨.null, Or.inl rfl, h⟩
    · exact ⟨.ref t, Or.inr ⟨t, rfl⟩, h⟩
  obtain ⟨fm, hfm, hZ2⟩ := hZ2
  refine ⟨(s.heap, fun i => if i < 5 then adK i else if i < 10 then adV (i - 5) else b, fm, fun c => (fc c).1, fun c => (fc c).2, fA, L, xs), rfl, rfl, rfl, rfl, fun c hc => hfc c hc, fun t ht => hfA t ht, fun i hi => ?_, ?_, hX, hZ1, hZ2, fun c hc => va_AO.of (hts _ (j_ao_wx c hc)), fun q hq => ?_, fun q hq => va_Nc.of (hs _ (j_nc_flat q hq)), fun i hi => ?_, hfm⟩
  · show vk_R _ _ _ (if i < 5 then adK i else _) s
    rw [if_pos hi]
    exact vk_R.of (hts _ (j_str_tbl i hi)) (hev i hi)
  · refine ⟨fun i hi => ?_, fun i j hi hj e => ?_⟩
    · show va_O _ (if i < 5 then adK i else _) _ _ _ ∧ va_OF _ _ _ _ (if i < 5 then adK i else _) _ _ _ ∧ va_OF _ _ _ (.ref (if 5 + i < 5 then _ else if 5 + i < 10 then adV (5 + i - 5) else b)) (if i < 5 then adK i else _) _ _ _ ∧ va_T _ (if 5 + i < 5 then _ else if 5 + i < 10 then adV (5 + i - 5) else b) _ _ _ _ _
      rw [if_pos hi, if_neg (by omega), if_pos (by omega), show 5 + i - 5 = i by omega]
      exact hS.1 i hi
    · have e : (if i < 5 then adK i else if i < 10 then adV (i - 5) else b) = (if j < 5 then adK j else if j < 10 then adV (j - 5) else b) := e
      rw [if_pos hi, if_pos hj] at e
      exact hS.2 i j hi hj e
  · have h := hts _ (j_cx_wx q hq)
    exact va_tabs rfl rfl h
  · show (if i < 5 then adK i else if i < 10 then adV (i - 5) else b) < s.heap.size
    by_cases h5 : i < 5
    · rw [if_pos h5]
      obtain ⟨⟨cell, q1, -⟩, -⟩ := hS.1 i h5
      exact (Array.getElem?_eq_some_iff.mp q1).1
    · rw [if_neg h5]
      by_cases h10 : i < 10
      · rw [if_pos h10]
        obtain ⟨-, -, -, cell, q1, -⟩ := hS.1 (i - 5) (by omega)
        exact (Array.getElem?_eq_some_iff.mp q1).1
      · rw [if_neg h10]
        exact hbl
/-- THE CLAIM OUT OF THE PURE WALK OF THE LAW -/
theorem j_whole {p : Program} {e : Env} {s : State} {m : MethodId} {below : List Frame} {meth : Method} {c : Code} (l : Launch) {b L : Nat} {xs : Nat → Int32} (C0 : lw_At p s m meth c b L xs)
    (hrun : ∃ (n : Nat) (Hf : j_H), j_rf n 100 213 0 [.ref 10, j_u, j_u, j_u] [] (j_H0 L xs) = some (some (.int 1), Hf) ∧ Hf.1.length ≤ 600000 ∧ j_sz Hf ≤ 7302250) (hname : meth.name = "law") :
    W p l e room_1 s m #[Value.ref b] below meth c s.heap [] 0 0 (lw_Z below #[Value.ref b] s) (entryFrame m ([Value.ref b] : List Value).toArray 4) := by
  obtain ⟨E, e1, e2, e3, e4, hK⟩ := j_begin C0
  obtain ⟨hx, hb, hr, hml, hown, hts, hX, hbl, hlocks, hgv⟩ := C0
  obtain ⟨n, Hf, hrun, r1, r2⟩ := hrun
  have hW : ∀ w ∈ j_W, w.before #[Value.ref b] s = true := fun w h => hts w (j_W_in w h).1
  have hR : j_Rel E (j_H0 L xs) s.heap := by
    refine ⟨by rw [e1]; rfl, fun q hq => by rw [e1], by rw [← e3, ← e4]; exact j_old0, fun a x ha hx' => ?_⟩
    have := (List.getElem?_eq_some_iff.mp hx').1
    exact absurd this (by show ¬ a < 12; omega)
  have hC : j_Cx p room_1 s m #[Value.ref b] meth c E 213 100 := ⟨hx, hb, hml, hown, hW, hK, hname, by decide, by decide⟩
  rw [lg_entry_eq]
  have hl := lv_entry ([.ref b]) (n := 4) (Nat.le_of_ble_eq_true rfl)
  refine j_all j_ok n 100 213 0 _ [] _ _ Hf hrun p l e room_1 s m _ below meth c _ E 12 (j_sz (j_H0 L xs)) hC (by show _ ≤ 12 + 600000; omega) (by show _ ≤ _ + 7302250; omega) ?_ s.heap _ [] _ _ hR ?_ rfl (fun q h => by cases h) rfl (Nat.zero_add _)
  · intro Hp ls locs cells slots pc i hd hri hRf hlo hc hs
    obtain ⟨rfl, -⟩ := hri
    refine va_forget (fun q hq => by rw [← e1]; exact hlo q hq) (W.widen (k := 600000) (n := 7302250) (by omega) (by omega) ?_)
    exact lw_ret hx hb hr hlocks hd
  · refine hl.mono fun q hq => ?_
    have e : j_lv E 0 [Value.ref 10, j_u, j_u, j_u] = [(0, .ref b)] := by
      rw [← e2]
      rfl
    rw [e] at hq
    exact hq
