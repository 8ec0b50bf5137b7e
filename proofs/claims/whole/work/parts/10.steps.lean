/-! STEPS: how the pure walk is followed. j_ev: it comes to an answer; j_wp: to one with Q -/
theorem j_rf_mono : ∀ (n k b M pc : Nat) (loc stk : List Value) (H : j_H) (r : Option Value × j_H), j_rf n b M pc loc stk H = some r → j_rf (n + k) b M pc loc stk H = some r
  | 0, _, _, _, _, _, _, _, _, h => by cases h
  | n + 1, k, b, M, pc, loc, stk, H, r, h => by
    rw [Nat.add_right_comm, j_rf]
    rw [j_rf] at h
    split at h
    · cases h
    · rename_i hst
      exact j_rf_mono n k _ _ _ _ _ _ r h
    · rename_i hst
      exact h
    · rename_i hst
      split at h
      · cases h
      · rename_i b'
        split at h
        · cases h
        · rename_i v H1 hc
          have hc := j_rf_mono n k _ _ _ _ _ _ _ hc
          rw [hc]
          exact j_rf_mono n k _ _ _ _ _ _ r h
theorem j_rf_det {n1 n2 b M pc : Nat} {loc stk : List Value} {H : j_H} {r1 r2 : Option Value × j_H} (h1 : j_rf n1 b M pc loc stk H = some r1) (h2 : j_rf n2 b M pc loc stk H = some r2) : r1 = r2 := by
  have e1 := j_rf_mono n1 n2 _ _ _ _ _ _ _ h1
  have e2 := j_rf_mono n2 n1 _ _ _ _ _ _ _ h2
  rw [Nat.add_comm, e1] at e2
  exact Option.some.inj e2
def j_ev (b M pc : Nat) (loc stk : List Value) (H : j_H) (r : Option Value × j_H) : Prop := ∃ n, j_rf n b M pc loc stk H = some r
def j_wp (b M pc : Nat) (loc stk : List Value) (H : j_H) (Q : Option Value → j_H → Prop) : Prop := ∃ v H', j_ev b M pc loc stk H (v, H') ∧ Q v H'
theorem j_ev_wp {b M pc : Nat} {loc stk : List Value} {H : j_H} {v : Option Value} {H' : j_H} : j_ev b M pc loc stk H (v, H') ↔ j_wp b M pc loc stk H (fun v1 H1 => v1 = v ∧ H1 = H') :=
  ⟨fun h => ⟨v, H', h, rfl, rfl⟩, fun ⟨_, _, h, rfl, rfl⟩ => h⟩
theorem j_wp.mono {b M pc : Nat} {loc stk : List Value} {H : j_H} {Q Q' : Option Value → j_H → Prop} (h : j_wp b M pc loc stk H Q) (hq : ∀ v H', Q v H' → Q' v H') : j_wp b M pc loc stk H Q' := by
  obtain ⟨v, H', h1, h2⟩ := h
  exact ⟨v, H', h1, hq v H' h2⟩
theorem j_wpn {b M pc : Nat} {loc stk : List Value} {H : j_H} {Q : Option Value → j_H → Prop} {pc' : Nat} {loc' stk' : List Value} {H' : j_H} (h : j_stp M pc loc stk H = j_nx pc' loc' stk' H') : j_wp b M pc loc stk H Q = j_wp b M pc' loc' stk' H' Q := by
  refine propext ⟨?_, ?_⟩
  · rintro ⟨v, H1, ⟨n, hn⟩, hq⟩
    cases n with
    | zero => cases hn
    | succ n =>
      rw [j_rf, h] at hn
      exact ⟨v, H1, ⟨n, hn⟩, hq⟩
  · rintro ⟨v, H1, ⟨n, hn⟩, hq⟩
    exact ⟨v, H1, ⟨n + 1, by rw [j_rf, h]; exact hn⟩, hq⟩
theorem j_wpr {b M pc : Nat} {loc stk : List Value} {H : j_H} {Q : Option Value → j_H → Prop} {v : Option Value} {H' : j_H} (h : j_stp M pc loc stk H = some (.inl (.inr (v, H')))) : j_wp b M pc loc stk H Q = Q v H' := by
  refine propext ⟨?_, ?_⟩
  · rintro ⟨v1, H1, ⟨n, hn⟩, hq⟩
    cases n with
    | zero => cases hn
    | succ n =>
      rw [j_rf, h] at hn
      cases hn
      exact hq
  · intro hq
    exact ⟨v, H', ⟨1, by rw [j_rf, h]⟩, hq⟩
theorem j_wpc {b M pc : Nat} {loc stk : List Value} {H : j_H} {Q : Option Value → j_H → Prop} {y pc' : Nat} {as loc' rest : List Value} {v : Option Value} {H1 : j_H} (h : j_stp M pc loc stk H = some (.inr (y, as, pc', loc', rest))) (hc : j_ev b y 0 (j_ent (j_ml y) as) [] H (v, H1)) : j_wp (b + 1) M pc loc stk H Q = j_wp (b + 1) M pc' loc' (v.toList ++ rest) H1 Q := by
  obtain ⟨k, hk⟩ := hc
  refine propext ⟨?_, ?_⟩
  · rintro ⟨v1, H2, ⟨n, hn⟩, hq⟩
    cases n with
    | zero => cases hn
    | succ n =>
      rw [j_rf, h] at hn
      dsimp only at hn
      split at hn
      · cases hn
      · rename_i v2 H3 hc
        have e := j_rf_det hc hk
        cases e
        exact ⟨v1, H2, ⟨n, hn⟩, hq⟩
  · rintro ⟨v1, H2, ⟨n, hn⟩, hq⟩
    refine ⟨v1, H2, ⟨(n + k) + 1, ?_⟩, hq⟩
    rw [j_rf, h]
    dsimp only
    have e1 := j_rf_mono k n _ _ _ _ _ _ _ hk
    rw [Nat.add_comm] at e1
    rw [e1]
    exact j_rf_mono n k _ _ _ _ _ _ _ hn
theorem j_wpw {b M pc : Nat} {loc stk : List Value} {H : j_H} {Q Q1 : Option Value → j_H → Prop} {y pc' : Nat} {as loc' rest : List Value} (h : j_stp M pc loc stk H = some (.inr (y, as, pc', loc', rest))) (hc : j_wp b y 0 (j_ent (j_ml y) as) [] H Q1) (k : ∀ v H1, Q1 v H1 → j_wp (b + 1) M pc' loc' (v.toList ++ rest) H1 Q) : j_wp (b + 1) M pc loc stk H Q := by
  obtain ⟨v, H1, h1, h2⟩ := hc
  rw [j_wpc h h1]
  exact k v H1 h2
def j_k (b M pc : Nat) (loc rest : List Value) (Q : Option Value → j_H → Prop) (v : Option Value) (H1 : j_H) : Prop := j_wp b M pc loc (v.toList ++ rest) H1 Q
theorem j_ks {b M pc : Nat} {loc rest : List Value} {Q : Option Value → j_H → Prop} {v : Value} {H1 : j_H} : j_k b M pc loc rest Q (some v) H1 = j_wp b M pc loc (v :: rest) H1 Q := rfl
theorem j_ke {b M pc : Nat} {loc rest : List Value} {Q : Option Value → j_H → Prop} {H1 : j_H} : j_k b M pc loc rest Q none H1 = j_wp b M pc loc rest H1 Q := rfl
theorem j_wpk {b M pc : Nat} {loc stk : List Value} {H : j_H} {Q : Option Value → j_H → Prop} {y pc' : Nat} {as loc' rest : List Value} (h : j_stp M pc loc stk H = some (.inr (y, as, pc', loc', rest))) : j_wp (b + 1) M pc loc stk H Q = j_wp b y 0 (j_ent (j_ml y) as) [] H (j_k (b + 1) M pc' loc' rest Q) := by
  refine propext ⟨?_, ?_⟩
  · rintro ⟨v1, H2, ⟨n, hn⟩, hq⟩
    cases n with
    | zero => cases hn
    | succ n =>
      rw [j_rf, h] at hn
      dsimp only at hn
      split at hn
      · cases hn
      · rename_i v2 H3 hc
        exact ⟨v2, H3, ⟨n, hc⟩, v1, H2, ⟨n, hn⟩, hq⟩
  · rintro ⟨v, H1, he, hk⟩
    exact j_wpw (Q1 := fun v1 H2 => v1 = v ∧ H2 = H1) h ⟨v, H1, he, rfl, rfl⟩ (fun _ _ ⟨e1, e2⟩ => by subst e1 e2; exact hk)
theorem j_cat_len : ∀ (l : List Value), j_cat l ≤ 2 * l.length
  | [] => Nat.le_refl _
  | v :: l => by
    have h := j_cat_len l
    have h2 : v.category ≤ 2 := by cases v <;> first | exact (Nat.le_refl 2) | exact (Nat.le_succ 1)
    have e : j_cat (v :: l) = v.category + j_cat l := rfl
    rw [e, List.length_cons]
    omega
-- by the row
section JROW
variable {b M pc q len : Nat} {i : Instr} {aux : List Nat} {loc stk s : List Value} {H : j_H} {Q : Option Value → j_H → Prop}
theorem j_i {pc' : Nat} {loc' stk' : List Value} {H' : j_H} (hr : j_at M pc = some (q, i, len, aux)) (h : j_ins M pc i len aux loc stk H = j_nx pc' loc' stk' H') : j_wp b M pc loc stk H Q = j_wp b M pc' loc' stk' H' Q := j_wpn (by rw [j_stp, hr]; exact h)
theorem j_r {v : Option Value} {H' : j_H} (hr : j_at M pc = some (q, i, len, aux)) (h : j_ins M pc i len aux loc stk H = some (.inl (.inr (v, H')))) : j_wp b M pc loc stk H Q = Q v H' := j_wpr (by rw [j_stp, hr]; exact h)
theorem j_if {c : Prop} [Decidable c] {t f : Nat} {loc' stk' : List Value} {H' : j_H} (hr : j_at M pc = some (q, i, len, aux)) (h1 : c → j_ins M pc i len aux loc stk H = j_nx t loc' stk' H') (h2 : ¬ c → j_ins M pc i len aux loc stk H = j_nx f loc' stk' H') : j_wp b M pc loc stk H Q = if c then j_wp b M t loc' stk' H' Q else j_wp b M f loc' stk' H' Q := by
  by_cases h : c
  · rw [if_pos h]; exact j_i hr (h1 h)
  · rw [if_neg h]; exact j_i hr (h2 h)
def j_pa : Value → Nat
  | .ref a => a
  | _ => 0
def j_po : Value → Option Nat
  | .ref a => some a
  | _ => none
def j_isr : Value → Bool
  | .ref _ => true
  | .null => true
  | _ => false
def j_cls (H : j_H) (a : Nat) : Nat := match j_sh H a with
  | some (.inl c) => c
  | _ => 99
def j_tp (H : j_H) (a : Nat) : Nat := match j_sh H a with
  | some (.inr q) => q.1
  | _ => 99
def j_vc (H : j_H) : Value → Nat
  | .ref a => j_cls H a
  | _ => 99
def j_vt (H : j_H) : Value → Nat
  | .ref a => j_tp H a
  | _ => 99
def j_vl (H : j_H) : Value → Nat
  | .ref a => j_ln H a
  | _ => 0
def j_rem (x y : Int32) : Int32 := x - x / y * y
def j_lrem (x y : Int64) : Int64 := x - x / y * y
def j_shl (x y : Int32) : Int32 := x <<< (y &&& 31)
def j_shr (x y : Int32) : Int32 := x >>> (y &&& 31)
def j_ushr (x y : Int32) : Int32 := (x.toUInt32 >>> (y.toUInt32 &&& Int32.toUInt32 31)).toInt32
def j_lshl (x : Int64) (y : Int32) : Int64 := x <<< (y.toInt64 &&& 63)
def j_lshr (x : Int64) (y : Int32) : Int64 := x >>> (y.toInt64 &&& 63)
def j_iof (l : List Nat) (c : Nat) : Bool := j_io c l == some true
theorem j_cls_sh {a k : Nat} (h : j_cls H a = k) (hk : k < 99) : j_sh H a = some (.inl k) := by
  unfold j_cls at h
  split at h
  · rename_i c hc
    rw [hc, h]
  · omega
theorem j_vc_ref {v : Value} {k : Nat} (h : j_vc H v = k) (hk : k < 99) : ∃ a, v = .ref a ∧ j_sh H a = some (.inl k) := by
  cases v with
  | ref a => exact ⟨a, rfl, j_cls_sh h hk⟩
  | _ => (change 99 = k at h; omega)
theorem j_tp_sh {a k : Nat} (h : j_tp H a = k) (hk : k < 99) : j_sh H a = some (.inr (k, j_ln H a)) := by
  unfold j_tp at h
  split at h
  · rename_i q hq
    rw [hq]
    have : j_ln H a = q.2 := by unfold j_ln; rw [hq]
    rw [this, ← h]
  · omega
theorem j_vt_ref {v : Value} {k : Nat} (h : j_vt H v = k) (hk : k < 99) : ∃ a, v = .ref a ∧ j_sh H a = some (.inr (k, j_ln H a)) := by
  cases v with
  | ref a => exact ⟨a, rfl, j_tp_sh h hk⟩
  | _ => (change 99 = k at h; omega)
theorem j_oc_vc {v : Value} {al : List Nat} (hc : al.contains (j_vc H v) = true) (h99 : al.contains 99 = false) : ∃ a, v = .ref a ∧ j_oc al H a = true := by
  cases v with
  | ref a =>
    refine ⟨a, rfl, ?_⟩
    change al.contains (j_cls H a) = true at hc
    unfold j_cls at hc
    unfold j_oc
    split at hc
    · rename_i c hs
      rw [hs]
      exact hc
    · rw [h99] at hc
      cases hc
  | _ => (change al.contains 99 = true at hc; rw [h99] at hc; cases hc)
theorem j_ia_vt {v : Value} {k : Nat} {ts : List Nat} (h : j_vt H v = k) (hk : k < 99) (hts : ts.contains k = true) : ∃ a, v = .ref a ∧ j_ia ts H a = true ∧ j_ln H a = j_vl H v := by
  obtain ⟨a, rfl, hs⟩ := j_vt_ref h hk
  refine ⟨a, rfl, ?_, rfl⟩
  unfold j_ia
  rw [hs]
  exact hts
theorem s_null (hr : j_at M pc = some (q, .aconst_null, len, aux)) : j_wp b M pc loc s H Q = j_wp b M (pc + len) loc (.null :: s) H Q := j_i hr rfl
theorem s_iconst {c : Int} (hr : j_at M pc = some (q, .iconst c, len, aux)) : j_wp b M pc loc s H Q = j_wp b M (pc + len) loc (.int (Int32.ofInt c) :: s) H Q := j_i hr rfl
theorem s_bipush {c : Int} (hr : j_at M pc = some (q, .bipush c, len, aux)) : j_wp b M pc loc s H Q = j_wp b M (pc + len) loc (.int (Int32.ofInt c) :: s) H Q := j_i hr rfl
theorem s_sipush {c : Int} (hr : j_at M pc = some (q, .sipush c, len, aux)) : j_wp b M pc loc s H Q = j_wp b M (pc + len) loc (.int (Int32.ofInt c) :: s) H Q := j_i hr rfl
theorem s_lconst {c : Fin 2} {z : Int} (hr : j_at M pc = some (q, .lconst c, len, aux)) (hz : ((c : Nat) : Int) = z) : j_wp b M pc loc s H Q = j_wp b M (pc + len) loc (.long (Int64.ofInt z) :: s) H Q := by subst hz; exact j_i hr rfl
theorem s_ldcs {idx k : Nat} (hr : j_at M pc = some (q, .ldc idx, len, [1, k])) (hk : k < 5) : j_wp b M pc loc s H Q = j_wp b M (pc + len) loc (.ref k :: s) H Q := j_i hr (if_pos hk)
theorem s_ldc {idx w n v : Nat} {z : Int} (hr : j_at M pc = some (q, .ldc idx, len, [0, w, n, v])) (hz : j_int n v = z) : j_wp b M pc loc s H Q = j_wp b M (pc + len) loc (.int (Int32.ofInt z) :: s) H Q := by subst hz; exact j_i hr rfl
theorem s_ldcw {idx w n v : Nat} {z : Int} (hr : j_at M pc = some (q, .ldc_w idx, len, [0, w, n, v])) (hz : j_int n v = z) : j_wp b M pc loc s H Q = j_wp b M (pc + len) loc (.int (Int32.ofInt z) :: s) H Q := by subst hz; exact j_i hr rfl
theorem s_ldc2 {idx w n v : Nat} {z : Int} (hr : j_at M pc = some (q, .ldc2_w idx, len, [w, n, v])) (hz : j_int n v = z) : j_wp b M pc loc s H Q = j_wp b M (pc + len) loc (.long (Int64.ofInt z) :: s) H Q := by subst hz; exact j_i hr rfl
theorem s_iload {x : Int32} {k : Nat} (hr : j_at M pc = some (q, .iload k, len, aux)) (hl : loc[k]? = some (.int x)) : j_wp b M pc loc s H Q = j_wp b M (pc + len) loc (.int x :: s) H Q := by
  refine j_i hr ?_
  simp only [j_ins]
  rw [hl]
theorem s_iload_n {x : Int32} {k : Fin 4} (hr : j_at M pc = some (q, .iload_n k, len, aux)) (hl : loc[(k : Nat)]? = some (.int x)) : j_wp b M pc loc s H Q = j_wp b M (pc + len) loc (.int x :: s) H Q := by
  refine j_i hr ?_
  simp only [j_ins]
  rw [hl]
theorem s_lload {x : Int64} {k : Nat} (hr : j_at M pc = some (q, .lload k, len, aux)) (hl : loc[k]? = some (.long x)) : j_wp b M pc loc s H Q = j_wp b M (pc + len) loc (.long x :: s) H Q := by
  refine j_i hr ?_
  simp only [j_ins]
  rw [hl]
theorem s_lload_n {x : Int64} {k : Fin 4} (hr : j_at M pc = some (q, .lload_n k, len, aux)) (hl : loc[(k : Nat)]? = some (.long x)) : j_wp b M pc loc s H Q = j_wp b M (pc + len) loc (.long x :: s) H Q := by
  refine j_i hr ?_
  simp only [j_ins]
  rw [hl]
theorem s_iinc {x : Int32} {k : Nat} {c : Int} {loc' : List Value} (hr : j_at M pc = some (q, .iinc k c, len, aux)) (hl : loc[k]? = some (.int x)) (hs : loc.set k (.int (x + Int32.ofInt c)) = loc') : j_wp b M pc loc s H Q = j_wp b M (pc + len) loc' s H Q := by
  subst hs
  refine j_i hr ?_
  simp only [j_ins]
  rw [hl]
theorem s_iadd {x y : Int32} (hr : j_at M pc = some (q, .iadd, len, aux)) : j_wp b M pc loc (.int y :: .int x :: s) H Q = j_wp b M (pc + len) loc (.int (x + y) :: s) H Q := j_i hr rfl
theorem s_isub {x y : Int32} (hr : j_at M pc = some (q, .isub, len, aux)) : j_wp b M pc loc (.int y :: .int x :: s) H Q = j_wp b M (pc + len) loc (.int (x - y) :: s) H Q := j_i hr rfl
theorem s_imul {x y : Int32} (hr : j_at M pc = some (q, .imul, len, aux)) : j_wp b M pc loc (.int y :: .int x :: s) H Q = j_wp b M (pc + len) loc (.int (x * y) :: s) H Q := j_i hr rfl
theorem s_iand {x y : Int32} (hr : j_at M pc = some (q, .iand, len, aux)) : j_wp b M pc loc (.int y :: .int x :: s) H Q = j_wp b M (pc + len) loc (.int (x &&& y) :: s) H Q := j_i hr rfl
theorem s_ior {x y : Int32} (hr : j_at M pc = some (q, .ior, len, aux)) : j_wp b M pc loc (.int y :: .int x :: s) H Q = j_wp b M (pc + len) loc (.int (x ||| y) :: s) H Q := j_i hr rfl
theorem s_ixor {x y : Int32} (hr : j_at M pc = some (q, .ixor, len, aux)) : j_wp b M pc loc (.int y :: .int x :: s) H Q = j_wp b M (pc + len) loc (.int (x ^^^ y) :: s) H Q := j_i hr rfl
theorem s_ishl {x y : Int32} (hr : j_at M pc = some (q, .ishl, len, aux)) : j_wp b M pc loc (.int y :: .int x :: s) H Q = j_wp b M (pc + len) loc (.int (j_shl x y) :: s) H Q := j_i hr rfl
theorem s_ishr {x y : Int32} (hr : j_at M pc = some (q, .ishr, len, aux)) : j_wp b M pc loc (.int y :: .int x :: s) H Q = j_wp b M (pc + len) loc (.int (j_shr x y) :: s) H Q := j_i hr rfl
theorem s_iushr {x y : Int32} (hr : j_at M pc = some (q, .iushr, len, aux)) : j_wp b M pc loc (.int y :: .int x :: s) H Q = j_wp b M (pc + len) loc (.int (j_ushr x y) :: s) H Q := j_i hr rfl
theorem s_ladd {x y : Int64} (hr : j_at M pc = some (q, .ladd, len, aux)) : j_wp b M pc loc (.long y :: .long x :: s) H Q = j_wp b M (pc + len) loc (.long (x + y) :: s) H Q := j_i hr rfl
theorem s_lmul {x y : Int64} (hr : j_at M pc = some (q, .lmul, len, aux)) : j_wp b M pc loc (.long y :: .long x :: s) H Q = j_wp b M (pc + len) loc (.long (x * y) :: s) H Q := j_i hr rfl
theorem s_land {x y : Int64} (hr : j_at M pc = some (q, .land, len, aux)) : j_wp b M pc loc (.long y :: .long x :: s) H Q = j_wp b M (pc + len) loc (.long (x &&& y) :: s) H Q := j_i hr rfl
theorem s_lor {x y : Int64} (hr : j_at M pc = some (q, .lor, len, aux)) : j_wp b M pc loc (.long y :: .long x :: s) H Q = j_wp b M (pc + len) loc (.long (x ||| y) :: s) H Q := j_i hr rfl
theorem s_lxor {x y : Int64} (hr : j_at M pc = some (q, .lxor, len, aux)) : j_wp b M pc loc (.long y :: .long x :: s) H Q = j_wp b M (pc + len) loc (.long (x ^^^ y) :: s) H Q := j_i hr rfl
theorem s_lshl {x : Int64} {y : Int32} (hr : j_at M pc = some (q, .lshl, len, aux)) : j_wp b M pc loc (.int y :: .long x :: s) H Q = j_wp b M (pc + len) loc (.long (j_lshl x y) :: s) H Q := j_i hr rfl
theorem s_lshr {x : Int64} {y : Int32} (hr : j_at M pc = some (q, .lshr, len, aux)) : j_wp b M pc loc (.int y :: .long x :: s) H Q = j_wp b M (pc + len) loc (.long (j_lshr x y) :: s) H Q := j_i hr rfl
theorem s_lcmp {x y : Int64} (hr : j_at M pc = some (q, .lcmp, len, aux)) : j_wp b M pc loc (.long y :: .long x :: s) H Q = j_wp b M (pc + len) loc (.int (lg_cmp x y) :: s) H Q := j_i hr rfl
theorem s_i2l {x : Int32} (hr : j_at M pc = some (q, .i2l, len, aux)) : j_wp b M pc loc (.int x :: s) H Q = j_wp b M (pc + len) loc (.long (x.toInt64) :: s) H Q := j_i hr rfl
theorem s_l2i {x : Int64} (hr : j_at M pc = some (q, .l2i, len, aux)) : j_wp b M pc loc (.long x :: s) H Q = j_wp b M (pc + len) loc (.int (x.toInt32) :: s) H Q := j_i hr rfl
theorem s_i2b {x : Int32} (hr : j_at M pc = some (q, .i2b, len, aux)) : j_wp b M pc loc (.int x :: s) H Q = j_wp b M (pc + len) loc (.int (x.toInt8.toInt32) :: s) H Q := j_i hr rfl
theorem s_i2s {x : Int32} (hr : j_at M pc = some (q, .i2s, len, aux)) : j_wp b M pc loc (.int x :: s) H Q = j_wp b M (pc + len) loc (.int (x.toInt16.toInt32) :: s) H Q := j_i hr rfl
theorem s_i2c {x : Int32} (hr : j_at M pc = some (q, .i2c, len, aux)) : j_wp b M pc loc (.int x :: s) H Q = j_wp b M (pc + len) loc (.int ((x.toUInt32 % 65536).toInt32) :: s) H Q := j_i hr rfl
theorem s_ineg {x : Int32} (hr : j_at M pc = some (q, .ineg, len, aux)) : j_wp b M pc loc (.int x :: s) H Q = j_wp b M (pc + len) loc (.int (-x) :: s) H Q := j_i hr rfl
theorem s_dupi {x : Int32} (hr : j_at M pc = some (q, .dup, len, aux)) : j_wp b M pc loc (.int x :: s) H Q = j_wp b M (pc + len) loc (.int x :: .int x :: s) H Q := j_i hr rfl
theorem s_dup2l {x : Int64} (hr : j_at M pc = some (q, .dup2, len, aux)) : j_wp b M pc loc (.long x :: s) H Q = j_wp b M (pc + len) loc (.long x :: .long x :: s) H Q := j_i hr rfl
theorem s_dup2i {x y : Int32} (hr : j_at M pc = some (q, .dup2, len, aux)) : j_wp b M pc loc (.int x :: .int y :: s) H Q = j_wp b M (pc + len) loc (.int x :: .int y :: .int x :: .int y :: s) H Q := j_i hr rfl
theorem s_pop {x : Int32} (hr : j_at M pc = some (q, .pop, len, aux)) : j_wp b M pc loc (.int x :: s) H Q = j_wp b M (pc + len) loc s H Q := j_i hr rfl
theorem s_goto {off : Int} {t : Nat} (hr : j_at M pc = some (q, .goto off, len, aux)) (ht : j_tg pc off = t) : j_wp b M pc loc s H Q = j_wp b M t loc s H Q := by subst ht; exact j_i hr rfl
theorem s_stat0 {idx w : Nat} (hr : j_at M pc = some (q, .getstatic idx, len, [w, 0])) : j_wp b M pc loc s H Q = j_wp b M (pc + len) loc (.int (Int32.ofInt 1) :: s) H Q := j_i hr rfl
theorem s_stat1 {idx w : Nat} (hr : j_at M pc = some (q, .getstatic idx, len, [w, 1])) : j_wp b M pc loc s H Q = j_wp b M (pc + len) loc (.ref 11 :: s) H Q := j_i hr rfl
theorem s_new {idx w1 w2 w3 c : Nat} (hr : j_at M pc = some (q, .new idx, len, [w1, w2, w3, c])) : j_wp b M pc loc s H Q = j_wp b M (pc + len) loc (.ref H.1.length :: s) (j_nw H (.inl c)) Q := j_i hr rfl
theorem s_lreturn {x : Int64} (hr : j_at M pc = some (q, .lreturn, len, aux)) (hc : j_rc M = 2) : j_wp b M pc loc [.long x] H Q = Q (some (.long x)) H := j_r hr (if_pos hc)
theorem s_return (hr : j_at M pc = some (q, .return_, len, aux)) (hc : j_rc M = 0) : j_wp b M pc loc [] H Q = Q none H := j_r hr (if_pos hc)
theorem s_aload {v : Value} {k : Nat} (hr : j_at M pc = some (q, .aload k, len, aux)) (hl : loc[k]? = some v) (hv : j_isr v = true) : j_wp b M pc loc s H Q = j_wp b M (pc + len) loc (v :: s) H Q := by
  refine j_i hr ?_
  simp only [j_ins]
  rw [hl]
  cases v <;> first | rfl | (exact absurd (show false = true from hv) Bool.noConfusion)
theorem s_aload_n {v : Value} {k : Fin 4} (hr : j_at M pc = some (q, .aload_n k, len, aux)) (hl : loc[(k : Nat)]? = some v) (hv : j_isr v = true) : j_wp b M pc loc s H Q = j_wp b M (pc + len) loc (v :: s) H Q := by
  refine j_i hr ?_
  simp only [j_ins]
  rw [hl]
  cases v <;> first | rfl | (exact absurd (show false = true from hv) Bool.noConfusion)
theorem s_istore {x : Int32} {k : Nat} {loc' : List Value} (hr : j_at M pc = some (q, .istore k, len, aux)) (hk : k < loc.length) (hl : j_st loc k (.int x) = loc') : j_wp b M pc loc (.int x :: s) H Q = j_wp b M (pc + len) loc' s H Q := by
  refine j_i hr ?_
  simp only [j_ins]
  rw [if_pos hk, hl]
theorem s_istore_n {x : Int32} {k : Fin 4} {loc' : List Value} (hr : j_at M pc = some (q, .istore_n k, len, aux)) (hk : (k : Nat) < loc.length) (hl : j_st loc k (.int x) = loc') : j_wp b M pc loc (.int x :: s) H Q = j_wp b M (pc + len) loc' s H Q := by
  refine j_i hr ?_
  simp only [j_ins]
  rw [if_pos hk, hl]
theorem s_lstore {x : Int64} {k : Nat} {loc' : List Value} (hr : j_at M pc = some (q, .lstore k, len, aux)) (hk : k + 1 < loc.length) (hl : j_st2 loc k (.long x) = loc') : j_wp b M pc loc (.long x :: s) H Q = j_wp b M (pc + len) loc' s H Q := by
  refine j_i hr ?_
  simp only [j_ins]
  rw [if_pos hk, hl]
theorem s_lstore_n {x : Int64} {k : Fin 4} {loc' : List Value} (hr : j_at M pc = some (q, .lstore_n k, len, aux)) (hk : (k : Nat) + 1 < loc.length) (hl : j_st2 loc k (.long x) = loc') : j_wp b M pc loc (.long x :: s) H Q = j_wp b M (pc + len) loc' s H Q := by
  refine j_i hr ?_
  simp only [j_ins]
  rw [if_pos hk, hl]
theorem s_astore {v : Value} {k : Nat} {loc' : List Value} (hr : j_at M pc = some (q, .astore k, len, aux)) (hk : k < loc.length) (hv : j_isr v = true) (h11 : ¬ v = .ref 11) (hl : j_st loc k v = loc') : j_wp b M pc loc (v :: s) H Q = j_wp b M (pc + len) loc' s H Q := by
  refine j_i hr ?_
  simp only [j_ins]
  subst hl
  cases v <;> first | (exact absurd (show false = true from hv) Bool.noConfusion) | (exact if_pos hk) | (exact if_pos ⟨hk, fun z => h11 (by rw [z])⟩)
theorem s_astore_n {v : Value} {k : Fin 4} {loc' : List Value} (hr : j_at M pc = some (q, .astore_n k, len, aux)) (hk : (k : Nat) < loc.length) (hv : j_isr v = true) (h11 : ¬ v = .ref 11) (hl : j_st loc k v = loc') : j_wp b M pc loc (v :: s) H Q = j_wp b M (pc + len) loc' s H Q := by
  refine j_i hr ?_
  simp only [j_ins]
  subst hl
  cases v <;> first | (exact absurd (show false = true from hv) Bool.noConfusion) | (exact if_pos hk) | (exact if_pos ⟨hk, fun z => h11 (by rw [z])⟩)
theorem s_idiv {x y : Int32} (hr : j_at M pc = some (q, .idiv, len, aux)) (hy : ¬ y = 0) : j_wp b M pc loc (.int y :: .int x :: s) H Q = j_wp b M (pc + len) loc (.int (x / y) :: s) H Q := by
  refine j_i hr ?_
  simp only [j_ins]
  exact if_neg hy
theorem s_irem {x y : Int32} (hr : j_at M pc = some (q, .irem, len, aux)) (hy : ¬ y = 0) : j_wp b M pc loc (.int y :: .int x :: s) H Q = j_wp b M (pc + len) loc (.int (j_rem x y) :: s) H Q := by
  refine j_i hr ?_
  simp only [j_ins]
  exact if_neg hy
theorem s_ldiv {x y : Int64} (hr : j_at M pc = some (q, .ldiv, len, aux)) (hy : ¬ y = 0) : j_wp b M pc loc (.long y :: .long x :: s) H Q = j_wp b M (pc + len) loc (.long (x / y) :: s) H Q := by
  refine j_i hr ?_
  simp only [j_ins]
  exact if_neg hy
theorem s_lrem {x y : Int64} (hr : j_at M pc = some (q, .lrem, len, aux)) (hy : ¬ y = 0) : j_wp b M pc loc (.long y :: .long x :: s) H Q = j_wp b M (pc + len) loc (.long (j_lrem x y) :: s) H Q := by
  refine j_i hr ?_
  simp only [j_ins]
  exact if_neg hy
theorem s_dup {v : Value} (hr : j_at M pc = some (q, .dup, len, aux)) (hv : j_vc H v < 99) : j_wp b M pc loc (v :: s) H Q = j_wp b M (pc + len) loc (v :: v :: s) H Q := by
  refine j_i hr ?_
  obtain ⟨a, rfl, -⟩ := j_vc_ref rfl hv
  rfl
theorem s_dupa {v : Value} (hr : j_at M pc = some (q, .dup, len, aux)) (hv : j_vt H v < 99) : j_wp b M pc loc (v :: s) H Q = j_wp b M (pc + len) loc (v :: v :: s) H Q := by
  refine j_i hr ?_
  obtain ⟨a, rfl, -⟩ := j_vt_ref rfl hv
  rfl
theorem s_dup2 {v : Value} {x : Int32} (hr : j_at M pc = some (q, .dup2, len, aux)) (hv : j_vt H v < 99) : j_wp b M pc loc (.int x :: v :: s) H Q = j_wp b M (pc + len) loc (.int x :: v :: .int x :: v :: s) H Q := by
  refine j_i hr ?_
  obtain ⟨a, rfl, -⟩ := j_vt_ref rfl hv
  rfl
theorem s_ifnull {v : Value} {off : Int} {t : Nat} (hr : j_at M pc = some (q, .ifnull off, len, aux)) (ht : j_tg pc off = t) (hv : j_isr v = true) (h11 : ¬ v = .ref 11) : j_wp b M pc loc (v :: s) H Q = if v = .null then j_wp b M t loc s H Q else j_wp b M (pc + 3) loc s H Q := by
  subst ht
  refine j_if hr (fun h => ?_) (fun h => ?_)
  · subst h; rfl
  · cases v <;> first | (exact absurd (show false = true from hv) Bool.noConfusion) | (exact absurd rfl h) | (exact if_neg fun z => h11 (by rw [z]))
theorem s_ifnonnull {v : Value} {off : Int} {t : Nat} (hr : j_at M pc = some (q, .ifnonnull off, len, aux)) (ht : j_tg pc off = t) (hv : j_isr v = true) (h11 : ¬ v = .ref 11) : j_wp b M pc loc (v :: s) H Q = if v = .null then j_wp b M (pc + 3) loc s H Q else j_wp b M t loc s H Q := by
  subst ht
  refine j_if hr (fun h => ?_) (fun h => ?_)
  · subst h; rfl
  · cases v <;> first | (exact absurd (show false = true from hv) Bool.noConfusion) | (exact absurd rfl h) | (exact if_neg fun z => h11 (by rw [z]))
theorem s_getf {v : Value} {idx w cr t k ws : Nat} {al : List Nat} (hr : j_at M pc = some (q, .getfield idx, 3, w :: cr :: t :: k :: ws :: al)) (hc : al.contains (j_vc H v) = true) (h99 : al.contains 99 = false) : j_wp b M pc loc (v :: s) H Q = j_wp b M (pc + 3) loc (j_fv t H (j_pa v) k :: s) H Q := by
  obtain ⟨a, rfl, ha⟩ := j_oc_vc hc h99
  exact j_i hr (if_pos ha)
theorem s_getfi {v : Value} {idx w cr t k ws : Nat} {al : List Nat} (hr : j_at M pc = some (q, .getfield idx, 3, w :: cr :: t :: k :: ws :: al)) (hc : al.contains (j_vc H v) = true) (h99 : al.contains 99 = false) (ht : Nat.beq t 1 = false) (ht2 : Nat.beq t 2 = false) : j_wp b M pc loc (v :: s) H Q = j_wp b M (pc + 3) loc (.int (j_I H (j_pa v) k) :: s) H Q := by
  rw [s_getf hr hc h99, j_fv, if_neg (fun z => by rw [z] at ht; cases ht), if_neg (fun z => by rw [z] at ht2; cases ht2)]
theorem s_getfl {v : Value} {idx w cr k ws : Nat} {al : List Nat} (hr : j_at M pc = some (q, .getfield idx, 3, w :: cr :: 1 :: k :: ws :: al)) (hc : al.contains (j_vc H v) = true) (h99 : al.contains 99 = false) : j_wp b M pc loc (v :: s) H Q = j_wp b M (pc + 3) loc (.long (j_L H (j_pa v) k) :: s) H Q := by
  rw [s_getf hr hc h99]; rfl
theorem s_getfr {v : Value} {idx w cr k ws : Nat} {al : List Nat} (hr : j_at M pc = some (q, .getfield idx, 3, w :: cr :: 2 :: k :: ws :: al)) (hc : al.contains (j_vc H v) = true) (h99 : al.contains 99 = false) : j_wp b M pc loc (v :: s) H Q = j_wp b M (pc + 3) loc (va_rf (j_R H (j_pa v) k) :: s) H Q := by
  rw [s_getf hr hc h99]; rfl
theorem j_al1 {v : Value} {c : Nat} (h : j_vc H v = c) {al : List Nat} (ha : al.contains c = true) : al.contains (j_vc H v) = true := by rw [h]; exact ha
theorem j_ite {A B C : Prop} {c : Prop} [Decidable c] (h1 : c → A = B) (h2 : ¬ c → A = C) : A = if c then B else C := by
  by_cases h : c
  · rw [if_pos h]; exact h1 h
  · rw [if_neg h]; exact h2 h
theorem s_put {v u : Value} {H' : j_H} {idx w cr t k ws fin : Nat} {al : List Nat} (hr : j_at M pc = some (q, .putfield idx, 3, w :: cr :: t :: k :: ws :: fin :: al)) (hc : al.contains (j_vc H v) = true) (h99 : al.contains 99 = false) (hp : j_put t H (j_pa v) k u = some H') : j_wp b M pc loc (u :: v :: s) H Q = j_wp b M (pc + 3) loc s H' Q := by
  obtain ⟨a, rfl, ha⟩ := j_oc_vc hc h99
  refine j_i hr ?_
  simp only [j_ins]
  rw [if_pos ha, show j_put t H a k u = some H' from hp]
theorem j_putI {a k : Nat} {x : Int32} : j_put 0 H a k (.int x) = some (j_sI H a k x) := rfl
theorem j_putZ {a k : Nat} {x : Int32} (h : x = 0 ∨ x = 1) : j_put 3 H a k (.int x) = some (j_sI H a k x) := if_pos h
theorem j_putL {a k : Nat} {x : Int64} : j_put 1 H a k (.long x) = some (j_sL H a k x) := rfl
theorem j_putR {a k : Nat} {v : Value} (h : j_isr v = true) : j_put 2 H a k v = some (j_sR H a k (j_po v)) := by
  cases v <;> first | rfl | (exact absurd (show false = true from h) Bool.noConfusion)
theorem s_alen {v : Value} {t : Nat} (hr : j_at M pc = some (q, .arraylength, len, aux)) (hv : j_vt H v = t) (ht : t < 7 ∨ t = 8 ∨ t = 9) : j_wp b M pc loc (v :: s) H Q = j_wp b M (pc + len) loc (.int (Int32.ofInt (j_vl H v : Nat)) :: s) H Q := by
  obtain ⟨a, rfl, h1, h2⟩ := j_ia_vt (ts := [0, 1, 2, 3, 4, 5, 6, 8, 9]) hv (by omega) (by rcases ht with h | rfl | rfl; (rcases (show t = 0 ∨ t = 1 ∨ t = 2 ∨ t = 3 ∨ t = 4 ∨ t = 5 ∨ t = 6 by omega) with rfl | rfl | rfl | rfl | rfl | rfl | rfl <;> rfl); rfl; rfl)
  refine j_i hr ?_
  simp only [j_ins]
  rw [if_pos h1]
  rfl
theorem s_iald {v : Value} {i : Int32} {t : Nat} (hr : j_at M pc = some (q, .iaload, len, aux)) (hv : j_vt H v = t) (ht : t = 0 ∨ t = 8) (hi : j_ib i (j_vl H v) = true) : j_wp b M pc loc (.int i :: v :: s) H Q = j_wp b M (pc + len) loc (.int (j_I H (j_pa v) (j_ix i)) :: s) H Q := by
  obtain ⟨a, rfl, h1, h2⟩ := j_ia_vt (ts := [0, 8]) hv (by omega) (by rcases ht with rfl | rfl <;> rfl)
  refine j_i hr ?_
  simp only [j_ins]
  rw [if_pos (by rw [h1, h2, hi]; rfl)]
  rfl
theorem s_lald {v : Value} {i : Int32} (hr : j_at M pc = some (q, .laload, len, aux)) (hv : j_vt H v = 1) (hi : j_ib i (j_vl H v) = true) : j_wp b M pc loc (.int i :: v :: s) H Q = j_wp b M (pc + len) loc (.long (j_L H (j_pa v) (j_ix i)) :: s) H Q := by
  obtain ⟨a, rfl, h1, h2⟩ := j_ia_vt (ts := [1]) hv (by omega) rfl
  refine j_i hr ?_
  simp only [j_ins]
  rw [if_pos (by rw [h1, h2, hi]; rfl)]
  rfl
theorem s_bald {v : Value} {i : Int32} {t : Nat} (hr : j_at M pc = some (q, .baload, len, aux)) (hv : j_vt H v = t) (ht : t = 2 ∨ t = 3 ∨ t = 9) (hi : j_ib i (j_vl H v) = true) : j_wp b M pc loc (.int i :: v :: s) H Q = j_wp b M (pc + len) loc (.int (j_I H (j_pa v) (j_ix i)) :: s) H Q := by
  obtain ⟨a, rfl, h1, h2⟩ := j_ia_vt (ts := [2, 3, 9]) hv (by omega) (by rcases ht with rfl | rfl | rfl <;> rfl)
  refine j_i hr ?_
  simp only [j_ins]
  rw [if_pos (by rw [h1, h2, hi]; rfl)]
  rfl
theorem s_aald {v : Value} {i : Int32} {t : Nat} (hr : j_at M pc = some (q, .aaload, len, [t])) (hv : j_vt H v = t) (ht : t < 7) (hi : j_ib i (j_vl H v) = true) : j_wp b M pc loc (.int i :: v :: s) H Q = j_wp b M (pc + len) loc (va_rf (j_R H (j_pa v) (j_ix i)) :: s) H Q := by
  obtain ⟨a, rfl, h1, h2⟩ := j_ia_vt (ts := [t]) hv (by omega) (by simp)
  refine j_i hr ?_
  simp only [j_ins]
  rw [if_pos (by rw [h1, h2, hi]; rfl)]
  rfl
theorem s_iast {v : Value} {i x : Int32} (hr : j_at M pc = some (q, .iastore, len, aux)) (hv : j_vt H v = 0) (hi : j_ib i (j_vl H v) = true) : j_wp b M pc loc (.int x :: .int i :: v :: s) H Q = j_wp b M (pc + len) loc s (j_sI H (j_pa v) (j_ix i) x) Q := by
  obtain ⟨a, rfl, h1, h2⟩ := j_ia_vt (ts := [0]) hv (by omega) rfl
  refine j_i hr ?_
  simp only [j_ins]
  rw [if_pos (by rw [h1, h2, hi]; rfl)]
  rfl
theorem s_last {v : Value} {i : Int32} {x : Int64} (hr : j_at M pc = some (q, .lastore, len, aux)) (hv : j_vt H v = 1) (hi : j_ib i (j_vl H v) = true) : j_wp b M pc loc (.long x :: .int i :: v :: s) H Q = j_wp b M (pc + len) loc s (j_sL H (j_pa v) (j_ix i) x) Q := by
  obtain ⟨a, rfl, h1, h2⟩ := j_ia_vt (ts := [1]) hv (by omega) rfl
  refine j_i hr ?_
  simp only [j_ins]
  rw [if_pos (by rw [h1, h2, hi]; rfl)]
  rfl
theorem s_bast {v : Value} {i x : Int32} (hr : j_at M pc = some (q, .bastore, len, [2])) (hv : j_vt H v = 2) (hi : j_ib i (j_vl H v) = true) : j_wp b M pc loc (.int x :: .int i :: v :: s) H Q = j_wp b M (pc + len) loc s (j_sI H (j_pa v) (j_ix i) x.toInt8.toInt32) Q := by
  obtain ⟨a, rfl, h1, h2⟩ := j_ia_vt (ts := [2]) hv (by omega) rfl
  refine j_i hr ?_
  simp only [j_ins]
  rw [if_pos (by rw [h1, h2, hi]; rfl)]
  rfl
theorem s_zast {v : Value} {i x : Int32} (hr : j_at M pc = some (q, .bastore, len, [3])) (hv : j_vt H v = 3) (hi : j_ib i (j_vl H v) = true) (hx : x = 0 ∨ x = 1) : j_wp b M pc loc (.int x :: .int i :: v :: s) H Q = j_wp b M (pc + len) loc s (j_sI H (j_pa v) (j_ix i) x) Q := by
  obtain ⟨a, rfl, h1, h2⟩ := j_ia_vt (ts := [3]) hv (by omega) rfl
  refine j_i hr ?_
  simp only [j_ins]
  rw [if_pos (by rw [h1, h2, hi]; rcases hx with rfl | rfl <;> rfl)]
  rfl
theorem s_aast {v u : Value} {i : Int32} {t c : Nat} {l : List Nat} (hr : j_at M pc = some (q, .aastore, len, t :: c :: l)) (hv : j_vt H v = t) (ht : t < 7) (hi : j_ib i (j_vl H v) = true) (hu : u = .null ∨ (j_vc H u < 99 ∧ j_pr (j_vc H u) l = true)) : j_wp b M pc loc (u :: .int i :: v :: s) H Q = j_wp b M (pc + len) loc s (j_sR H (j_pa v) (j_ix i) (j_po u)) Q := by
  obtain ⟨a, rfl, h1, h2⟩ := j_ia_vt (ts := [t]) hv (by omega) (by simp)
  refine j_i hr ?_
  simp only [j_ins]
  rcases hu with rfl | ⟨hc, hp⟩
  · dsimp only
    rw [if_pos (by rw [h1, h2, hi]; rfl)]
    rfl
  · obtain ⟨z, rfl, hz⟩ := j_vc_ref rfl hc
    dsimp only
    rw [hz]
    dsimp only
    rw [if_pos (by rw [h1, h2, hi, hp]; rfl)]
    rfl
theorem s_inst {v : Value} {idx w c : Nat} {l : List Nat} (hr : j_at M pc = some (q, .instanceof idx, len, w :: c :: l)) (hv : j_vc H v < 99) (hs : (j_io (j_vc H v) l).isSome = true) : j_wp b M pc loc (v :: s) H Q = j_wp b M (pc + len) loc (.int (if j_iof l (j_vc H v) = true then Int32.ofInt 1 else Int32.ofInt 0) :: s) H Q := by
  obtain ⟨a, rfl, ha⟩ := j_vc_ref rfl hv
  refine j_i hr ?_
  have e : j_vc H (.ref a) = j_cls H a := rfl
  rw [e] at hs ha ⊢
  simp only [j_ins]
  rw [ha]
  dsimp only
  unfold j_iof
  cases hb : j_io (j_cls H a) l with
  | none => rw [hb] at hs; cases hs
  | some z => cases z <;> rfl
theorem s_areturn {v : Value} (hr : j_at M pc = some (q, .areturn, len, aux)) (hc : j_rc M = 3) (hv : j_isr v = true) (h11 : ¬ v = .ref 11) : j_wp b M pc loc [v] H Q = Q (some v) H := by
  refine j_r hr ?_
  simp only [j_ins]
  cases v <;> first | (exact absurd (show false = true from hv) Bool.noConfusion) | (exact if_pos hc) | (exact if_pos ⟨hc, fun z => h11 (by rw [z])⟩)
theorem s_ireturn {x : Int32} (hr : j_at M pc = some (q, .ireturn, len, aux)) (hc : j_rok (j_rc M) x = true) : j_wp b M pc loc [.int x] H Q = Q (some (.int x)) H := by
  refine j_r hr ?_
  simp only [j_ins]
  exact if_pos hc
theorem j_putF {a k : Nat} {o : Option Nat} : j_put 2 H a k (va_rf o) = some (j_sR H a k o) := by cases o <;> rfl
def j_cI (H : j_H) (a i c j n : Nat) : j_H := (H.1, j_cp H.2.1 a i c j n, H.2.2.1, H.2.2.2)
def j_cL (H : j_H) (a i c j n : Nat) : j_H := (H.1, H.2.1, j_cp H.2.2.1 a i c j n, H.2.2.2)
theorem s_copy {idx z y w1 w2 w3 w4 t n0 n1 : Nat} {n i j : Int32} {u v : Value} {H' : j_H} (hr : j_at M pc = some (q, .invokestatic idx, len, [6, z, y, w1, w2, w3, w4, t])) (hb : Nat.ble s.length 4 = true) (hu : j_vt H u = t) (hv : j_vt H v = t) (ht : t < 2) (h1 : 0 ≤ n.toInt ∧ 0 ≤ i.toInt ∧ 0 ≤ j.toInt) (h2 : j_vl H u = n0) (h3 : j_vl H v = n1) (h4 : j_ix i + j_ix n ≤ n0) (h5 : j_ix j + j_ix n ≤ n1)
    (hH : H' = if t = 0 then j_cI H (j_pa u) (j_ix i) (j_pa v) (j_ix j) (j_ix n) else j_cL H (j_pa u) (j_ix i) (j_pa v) (j_ix j) (j_ix n)) : j_wp b M pc loc (.int n :: .int j :: v :: .int i :: u :: s) H Q = j_wp b M (pc + 3) loc s H' Q := by
  have hs : j_cat s ≤ 8 := by
    have := j_cat_len s
    have := Nat.le_of_ble_eq_true hb
    omega
  obtain ⟨a, rfl, e1, e2⟩ := j_ia_vt (ts := [t]) hu (by omega) (by simp)
  obtain ⟨c, rfl, e3, e4⟩ := j_ia_vt (ts := [t]) hv (by omega) (by simp)
  refine j_i hr ?_
  simp only [j_ins, j_inv]
  rw [if_pos ⟨hs, e1, e3, h1.1, h1.2.1, h1.2.2, by rw [e2, h2]; exact h4, by rw [e4, h3]; exact h5⟩, hH]
  rcases (show t = 0 ∨ t = 1 by omega) with rfl | rfl <;> rfl
theorem s_oinit {idx : Nat} {v : Value} {r : List Nat} (hr : j_at M pc = some (q, .invokespecial idx, len, 5 :: r)) (hv : j_vc H v < 99) (h11 : ¬ v = .ref 11) (hb : Nat.ble s.length 4 = true) : j_wp b M pc loc (v :: s) H Q = j_wp b M (pc + 3) loc s H Q := by
  have hs : j_cat s ≤ 8 := by
    have := j_cat_len s
    have := Nat.le_of_ble_eq_true hb
    omega
  obtain ⟨a, rfl, ha⟩ := j_vc_ref rfl hv
  refine j_i hr ?_
  simp only [j_ins, j_inv]
  exact if_pos ⟨fun z => h11 (by rw [z]), hs⟩
theorem s_newa {idx : ArrayType} {w t : Nat} {n : Int32} (hr : j_at M pc = some (q, .newarray idx, len, [w, t])) (hn : 0 ≤ n.toInt ∧ n.toInt ≤ 1000) : j_wp b M pc loc (.int n :: s) H Q = j_wp b M (pc + len) loc (.ref H.1.length :: s) (j_nw H (.inr (t, j_ix n))) Q := by
  refine j_i hr ?_
  simp only [j_ins, j_nwa]
  exact if_pos hn
theorem s_newr {idx w1 w2 w3 t : Nat} {n : Int32} (hr : j_at M pc = some (q, .anewarray idx, len, [w1, w2, w3, t])) (hn : 0 ≤ n.toInt ∧ n.toInt ≤ 1000) : j_wp b M pc loc (.int n :: s) H Q = j_wp b M (pc + len) loc (.ref H.1.length :: s) (j_nw H (.inr (t, j_ix n))) Q := by
  refine j_i hr ?_
  simp only [j_ins, j_nwa]
  exact if_pos hn
theorem s_tsw {dflt lo hi : Int} {offs : Array Int} {x : Int32} {t : Nat} (hr : j_at M pc = some (q, .tableswitch dflt lo hi offs, len, aux)) (ht : j_tg pc (if hi < x.toInt then dflt else j_sw lo dflt offs.toList x.toInt) = t) : j_wp b M pc loc (.int x :: s) H Q = j_wp b M t loc s H Q := by
  subst ht
  exact j_i hr rfl
theorem s_lsw {dflt : Int} {ps : Array (Int × Int)} {x : Int32} {t : Nat} (hr : j_at M pc = some (q, .lookupswitch dflt ps, len, aux)) (ht : j_tg pc (j_lk dflt x.toInt ps.toList) = t) : j_wp b M pc loc (.int x :: s) H Q = j_wp b M t loc s H Q := by
  subst ht
  exact j_i hr rfl
theorem j_this_v {n k : Nat} {v : Value} {stk : List Value} (h : stk[n - 1]? = some v) (hk : j_vc H v = k) (h99 : k < 99) (hn : ¬ n = 0) : j_this n stk H = some k := by
  obtain ⟨a, rfl, hs⟩ := j_vc_ref hk h99
  unfold j_this
  rw [h]
  dsimp only
  rw [hs]
  exact if_neg hn
theorem j_dok {n y p : Nat} {as rest es : List Value} (h0 : Nat.ble n s.length = true) (ha : (s.take n).reverse = as) (hr : s.drop n = rest) (hc : Nat.ble rest.length 4 = true) (hs : j_sl as = es) (hl : Nat.ble es.length (j_ml y) = true) : j_do n y p loc s = some (.inr (y, as, p, loc, rest)) := by
  subst ha hr
  refine if_pos ⟨Nat.le_of_ble_eq_true h0, ?_, by rw [hs]; exact Nat.le_of_ble_eq_true hl⟩
  have := j_cat_len (s.drop n)
  have := Nat.le_of_ble_eq_true hc
  omega
theorem j_slc {v : Value} {l l' : List Value} (h : j_c1 v = true) (e : j_sl l = l') : j_sl (v :: l) = v :: l' := by
  subst e
  change (if j_c1 v = true then [v] else [v, j_u]) ++ j_sl l = _
  rw [if_pos h]; rfl
theorem j_sll {x : Int64} {l l' : List Value} (e : j_sl l = l') : j_sl (.long x :: l) = .long x :: j_u :: l' := by
  subst e; rfl
theorem j_c1r {v : Value} (h : j_isr v = true) : j_c1 v = true := by
  cases v <;> first | rfl | (exact absurd (show false = true from h) Bool.noConfusion)
theorem j_isr_vc {v : Value} {k : Nat} (h : j_vc H v = k) (hk : Nat.ble 99 k = false) : j_isr v = true := by
  obtain ⟨a, rfl, -⟩ := j_vc_ref h (Nat.lt_of_not_le fun z => by rw [Nat.ble_eq_true_of_le z] at hk; cases hk)
  rfl
theorem j_isr_vt {v : Value} {k : Nat} (h : j_vt H v = k) (hk : Nat.ble 99 k = false) : j_isr v = true := by
  obtain ⟨a, rfl, -⟩ := j_vt_ref h (Nat.lt_of_not_le fun z => by rw [Nat.ble_eq_true_of_le z] at hk; cases hk)
  rfl
theorem j_isr_al {v : Value} {al : List Nat} (h : al.contains (j_vc H v) = true) (hk : al.contains 99 = false) : j_isr v = true := by
  obtain ⟨a, rfl, -⟩ := j_oc_vc h hk
  rfl
theorem j_vc_lt {v : Value} {k : Nat} (h : j_vc H v = k) (hk : Nat.ble 99 k = false) : j_vc H v < 99 := by
  rw [h]
  exact Nat.lt_of_not_le fun z => by rw [Nat.ble_eq_true_of_le z] at hk; cases hk
theorem j_vt_lt {v : Value} {k : Nat} (h : j_vt H v = k) (hk : Nat.ble 99 k = false) : j_vt H v < 99 := by
  rw [h]
  exact Nat.lt_of_not_le fun z => by rw [Nat.ble_eq_true_of_le z] at hk; cases hk
theorem j_vc_al {v : Value} {al : List Nat} (h : al.contains (j_vc H v) = true) (hk : al.all (fun k => Nat.ble k 98) = true) : j_vc H v < 99 := by
  have := List.all_eq_true.mp hk (j_vc H v) (List.contains_iff_mem.mp h)
  have := Nat.le_of_ble_eq_true this
  omega
theorem j_isr_rf (o : Option Nat) : j_isr (va_rf o) = true := by cases o <;> rfl
theorem j_ib_of {i : Int32} {n : Nat} {z : Int} (h : i.toInt = z) (h0 : 0 ≤ z) (h1 : z < (n : Int)) : j_ib i n = true := by
  subst h
  unfold j_ib
  rw [decide_eq_true h0, decide_eq_true h1]; rfl
theorem j_nz {y : Int32} (h : ¬ y.toInt = 0) : ¬ y = 0 := fun z => h (by rw [z]; rfl)
theorem j_nzl {y : Int64} (h : ¬ y.toInt = 0) : ¬ y = 0 := fun z => h (by rw [z]; rfl)
theorem j_b01 {y : Int32} {z : Int} (e : y.toInt = z) (h : z = 0 ∨ z = 1) : y = 0 ∨ y = 1 := by
  subst e
  rcases h with h | h
  · exact Or.inl (Int32.toInt_inj.mp h)
  · exact Or.inr (Int32.toInt_inj.mp h)
theorem j_rok1 {x : Int32} (h : j_rc M = 1) : j_rok (j_rc M) x = true := by rw [h]; rfl
theorem j_rok4 {x : Int32} {z : Int} (h : j_rc M = 4) (e : x.toInt = z) (hz : z = 0 ∨ z = 1) : j_rok (j_rc M) x = true := by
  rw [h]; rcases j_b01 e hz with rfl | rfl <;> rfl
theorem j_rok5 {x : Int32} {z : Int} (h : j_rc M = 5) (e : x.toInt = z) (h0 : -128 ≤ z) (h1 : z ≤ 127) : j_rok (j_rc M) x = true := by
  rw [h]; subst e
  change (decide (-128 ≤ x.toInt) && decide (x.toInt ≤ 127)) = true
  rw [decide_eq_true h0, decide_eq_true h1]; rfl
theorem j_rok6 {x : Int32} {z : Int} (h : j_rc M = 6) (e : x.toInt = z) (h0 : 0 ≤ z) (h1 : z ≤ 65535) : j_rok (j_rc M) x = true := by
  rw [h]; subst e
  change (decide (0 ≤ x.toInt) && decide (x.toInt ≤ 65535)) = true
  rw [decide_eq_true h0, decide_eq_true h1]; rfl
theorem j_stc {loc' : List Value} {v : Value} {k : Nat} (h : j_c1 (loc.getD k j_u) = true) (e : loc.set (k + 1) v = loc') : j_st loc (k + 1) v = loc' := by
  subst e
  exact if_pos h
theorem j_st2c {loc' : List Value} {v : Value} {k : Nat} (h : j_c1 (loc.getD k j_u) = true) (e : (loc.set (k + 1) v).set (k + 2) j_u = loc') : j_st2 loc (k + 1) v = loc' := by
  subst e
  unfold j_st2
  rw [j_stc h rfl]
theorem s_c0 {idx n y : Nat} {r : List Nat} {A : j_Act} (hr : j_at M pc = some (q, .invokestatic idx, len, 0 :: n :: y :: r)) (hd : j_do n y (pc + 3) loc s = some A) : j_stp M pc loc s H = some A := by
  rw [j_stp, hr]; exact hd
theorem s_c1 {idx n y : Nat} {v : Value} {r : List Nat} {A : j_Act} (hr : j_at M pc = some (q, .invokespecial idx, len, 1 :: n :: y :: r)) (ha : s[n - 1]? = some v) (hv : j_vc H v < 99) (h11 : ¬ v = .ref 11) (hn : Nat.beq n 0 = false) (hd : j_do n y (pc + 3) loc s = some A) : j_stp M pc loc s H = some A := by
  obtain ⟨a, rfl, -⟩ := j_vc_ref rfl hv
  rw [j_stp, hr]
  simp only [j_ins, j_inv]
  rw [ha]
  dsimp only
  rw [if_neg, hd]
  rintro (z | z)
  · rw [z] at hn; cases hn
  · exact h11 (by rw [z])
theorem s_c2 {idx n y w1 w2 w3 w4 w5 k : Nat} {v : Value} {r : List Nat} {A : j_Act} (hr : j_at M pc = some (q, .invokevirtual idx, len, 2 :: n :: y :: w1 :: w2 :: w3 :: w4 :: w5 :: k :: r)) (ha : s[n - 1]? = some v) (hk : j_vc H v = k) (h99 : Nat.ble 99 k = false) (hn : Nat.beq n 0 = false) (hd : j_do n y (pc + 3) loc s = some A) : j_stp M pc loc s H = some A := by
  rw [j_stp, hr]
  simp only [j_ins, j_inv]
  rw [j_this_v ha hk (hk ▸ j_vc_lt hk h99) (fun z => by rw [z] at hn; cases hn), if_pos rfl, hd]
theorem s_c3 {idx n y x o w1 w2 w3 w4 k : Nat} {v : Value} {l : List Nat} {A : j_Act} (hr : j_at M pc = some (q, .invokevirtual idx, len, 3 :: n :: x :: o :: w1 :: w2 :: w3 :: w4 :: l)) (ha : s[n - 1]? = some v) (hk : j_vc H v = k) (h99 : Nat.ble 99 k = false) (hn : Nat.beq n 0 = false) (hy : j_dsp k l = some y) (hd : j_do n y (pc + 3) loc s = some A) : j_stp M pc loc s H = some A := by
  rw [j_stp, hr]
  simp only [j_ins, j_inv]
  rw [j_this_v ha hk (hk ▸ j_vc_lt hk h99) (fun z => by rw [z] at hn; cases hn)]
  dsimp only
  rw [hy]
  exact hd
theorem s_c4 {idx n y x w1 w2 w3 w4 w5 w6 w7 w8 : Nat} {v : Value} {al : List Nat} {A : j_Act} (hr : j_at M pc = some (q, .invokespecial idx, len, 4 :: n :: y :: x :: w1 :: w2 :: w3 :: w4 :: w5 :: w6 :: w7 :: w8 :: al)) (ha : s[n - 1]? = some v) (hk : al.contains (j_vc H v) = true) (h99 : al.all (fun k => Nat.ble k 98) = true) (hn : Nat.beq n 0 = false) (hd : j_do n y (pc + 3) loc s = some A) : j_stp M pc loc s H = some A := by
  rw [j_stp, hr]
  simp only [j_ins, j_inv]
  rw [j_this_v ha rfl (j_vc_al hk h99) (fun z => by rw [z] at hn; cases hn)]
  dsimp only
  rw [if_pos hk, hd]
theorem j_cll {y p' : Nat} {as rest es loc' : List Value} (h : j_stp M pc loc s H = some (.inr (y, as, p', loc', rest))) (hs : j_sl as = es) {en : List Value} (he : es ++ List.replicate (j_ml y - es.length) j_u = en) : j_wp (b + 1) M pc loc s H Q = j_wp b y 0 en [] H (j_k (b + 1) M p' loc' rest Q) := by
  rw [j_wpk h]
  unfold j_ent
  rw [hs, he]
theorem j_ceq {x y : Int32} {z w : Int} (hx : x.toInt = z) (hy : y.toInt = w) : j_cmp .eq x y = decide (z = w) := by
  subst hx hy
  exact decide_eq_decide.mpr (iff_of_eq (show (x = y) = (x.toInt = y.toInt) from propext (Int32.toInt_inj).symm))
theorem j_cne {x y : Int32} {z w : Int} (hx : x.toInt = z) (hy : y.toInt = w) : j_cmp .ne x y = decide (¬ z = w) := by
  subst hx hy
  exact decide_eq_decide.mpr (iff_of_eq (show (¬ x = y) = (¬ x.toInt = y.toInt) from congrArg Not (propext (Int32.toInt_inj).symm)))
theorem j_clt {x y : Int32} {z w : Int} (hx : x.toInt = z) (hy : y.toInt = w) : j_cmp .lt x y = decide (z < w) := by
  subst hx hy
  exact decide_eq_decide.mpr (iff_of_eq (show (x < y) = (x.toInt < y.toInt) from propext Int32.lt_iff_toInt_lt))
theorem j_cge {x y : Int32} {z w : Int} (hx : x.toInt = z) (hy : y.toInt = w) : j_cmp .ge x y = decide (w ≤ z) := by
  subst hx hy
  exact decide_eq_decide.mpr (iff_of_eq (show (y ≤ x) = (y.toInt ≤ x.toInt) from propext Int32.le_iff_toInt_le))
theorem j_cgt {x y : Int32} {z w : Int} (hx : x.toInt = z) (hy : y.toInt = w) : j_cmp .gt x y = decide (w < z) := by
  subst hx hy
  exact decide_eq_decide.mpr (iff_of_eq (show (y < x) = (y.toInt < x.toInt) from propext Int32.lt_iff_toInt_lt))
theorem j_cle {x y : Int32} {z w : Int} (hx : x.toInt = z) (hy : y.toInt = w) : j_cmp .le x y = decide (z ≤ w) := by
  subst hx hy
  exact decide_eq_decide.mpr (iff_of_eq (show (x ≤ y) = (x.toInt ≤ y.toInt) from propext Int32.le_iff_toInt_le))
theorem j_shn {a : Nat} {x y : j_Sh} (h : j_sh H a = some y) : j_sh (j_nw H x) a = some y := by
  unfold j_sh j_nw at *
  exact List.getElem?_append_left (List.getElem?_eq_some_iff.mp h).1 ▸ h
theorem j_vcn {v : Value} {c : Nat} {x : j_Sh} (h : j_vc H v = c) (hc : Nat.ble 99 c = false := by rfl) : j_vc (j_nw H x) v = c := by
  obtain ⟨a, rfl, hs⟩ := j_vc_ref h (h ▸ j_vc_lt h hc)
  change j_cls _ _ = _
  unfold j_cls
  rw [j_shn hs]
theorem j_vtn {v : Value} {c : Nat} {x : j_Sh} (h : j_vt H v = c) (hc : Nat.ble 99 c = false := by rfl) : j_vt (j_nw H x) v = c := by
  obtain ⟨a, rfl, hs⟩ := j_vt_ref h (h ▸ j_vt_lt h hc)
  change j_tp _ _ = _
  unfold j_tp
  rw [j_shn hs]
theorem j_aln {v : Value} {al : List Nat} {x : j_Sh} (h : al.contains (j_vc H v) = true) (hc : al.all (fun k => Nat.ble k 98) = true := by rfl) : al.contains (j_vc (j_nw H x) v) = true := by
  have h1 := j_vc_al h hc
  have hb : Nat.ble 99 (j_vc H v) = false := by
    cases hb : Nat.ble 99 (j_vc H v) with
    | false => rfl
    | true => have := Nat.le_of_ble_eq_true hb; omega
  rw [j_vcn rfl hb]
  exact h
theorem j_vln {v : Value} {c : Nat} {x : j_Sh} (h : j_vt H v = c) (hc : Nat.ble 99 c = false := by rfl) : j_vl (j_nw H x) v = j_vl H v := by
  obtain ⟨a, rfl, hs⟩ := j_vt_ref h (h ▸ j_vt_lt h hc)
  change j_ln _ _ = j_ln _ _
  unfold j_ln
  rw [j_shn hs, hs]
theorem j_shw (H : j_H) (x : j_Sh) : j_sh (j_nw H x) H.1.length = some x := by
  unfold j_sh j_nw
  exact List.getElem?_concat_length
theorem j_vcw (H : j_H) (c : Nat) : j_vc (j_nw H (.inl c)) (.ref H.1.length) = c := by
  change j_cls _ _ = _
  unfold j_cls
  rw [j_shw]
theorem j_vtw (H : j_H) (t n : Nat) : j_vt (j_nw H (.inr (t, n))) (.ref H.1.length) = t := by
  change j_tp _ _ = _
  unfold j_tp
  rw [j_shw]
theorem j_vlw (H : j_H) (t n : Nat) : j_vl (j_nw H (.inr (t, n))) (.ref H.1.length) = n := by
  change j_ln _ _ = _
  unfold j_ln
  rw [j_shw]
theorem j_po_rf (o : Option Nat) : j_po (va_rf o) = o := by cases o <;> rfl
theorem s_ifeq {x : Int32} {z off : Int} {t : Nat} (hr : j_at M pc = some (q, .ifCond .eq off, len, aux)) (ht : j_tg pc off = t) (hx : x.toInt = z) : j_wp b M pc loc (.int x :: s) H Q = if z = 0 then j_wp b M t loc s H Q else j_wp b M (pc + 3) loc s H Q := by
  subst ht
  refine j_if hr (fun h => ?_) (fun h => ?_)
  · exact if_pos ((j_ceq (y := 0) hx (w := 0) rfl).trans (decide_eq_true h))
  · exact if_neg (by rw [j_ceq hx (w := 0) rfl, decide_eq_false h]; exact Bool.noConfusion)
theorem s_ifne {x : Int32} {z off : Int} {t : Nat} (hr : j_at M pc = some (q, .ifCond .ne off, len, aux)) (ht : j_tg pc off = t) (hx : x.toInt = z) : j_wp b M pc loc (.int x :: s) H Q = if ¬ z = 0 then j_wp b M t loc s H Q else j_wp b M (pc + 3) loc s H Q := by
  subst ht
  refine j_if hr (fun h => ?_) (fun h => ?_)
  · exact if_pos ((j_cne (y := 0) hx (w := 0) rfl).trans (decide_eq_true h))
  · exact if_neg (by rw [j_cne hx (w := 0) rfl, decide_eq_false h]; exact Bool.noConfusion)
theorem s_iflt {x : Int32} {z off : Int} {t : Nat} (hr : j_at M pc = some (q, .ifCond .lt off, len, aux)) (ht : j_tg pc off = t) (hx : x.toInt = z) : j_wp b M pc loc (.int x :: s) H Q = if z < 0 then j_wp b M t loc s H Q else j_wp b M (pc + 3) loc s H Q := by
  subst ht
  refine j_if hr (fun h => ?_) (fun h => ?_)
  · exact if_pos ((j_clt (y := 0) hx (w := 0) rfl).trans (decide_eq_true h))
  · exact if_neg (by rw [j_clt hx (w := 0) rfl, decide_eq_false h]; exact Bool.noConfusion)
theorem s_ifge {x : Int32} {z off : Int} {t : Nat} (hr : j_at M pc = some (q, .ifCond .ge off, len, aux)) (ht : j_tg pc off = t) (hx : x.toInt = z) : j_wp b M pc loc (.int x :: s) H Q = if 0 ≤ z then j_wp b M t loc s H Q else j_wp b M (pc + 3) loc s H Q := by
  subst ht
  refine j_if hr (fun h => ?_) (fun h => ?_)
  · exact if_pos ((j_cge (y := 0) hx (w := 0) rfl).trans (decide_eq_true h))
  · exact if_neg (by rw [j_cge hx (w := 0) rfl, decide_eq_false h]; exact Bool.noConfusion)
theorem s_ifgt {x : Int32} {z off : Int} {t : Nat} (hr : j_at M pc = some (q, .ifCond .gt off, len, aux)) (ht : j_tg pc off = t) (hx : x.toInt = z) : j_wp b M pc loc (.int x :: s) H Q = if 0 < z then j_wp b M t loc s H Q else j_wp b M (pc + 3) loc s H Q := by
  subst ht
  refine j_if hr (fun h => ?_) (fun h => ?_)
  · exact if_pos ((j_cgt (y := 0) hx (w := 0) rfl).trans (decide_eq_true h))
  · exact if_neg (by rw [j_cgt hx (w := 0) rfl, decide_eq_false h]; exact Bool.noConfusion)
theorem s_ifle {x : Int32} {z off : Int} {t : Nat} (hr : j_at M pc = some (q, .ifCond .le off, len, aux)) (ht : j_tg pc off = t) (hx : x.toInt = z) : j_wp b M pc loc (.int x :: s) H Q = if z ≤ 0 then j_wp b M t loc s H Q else j_wp b M (pc + 3) loc s H Q := by
  subst ht
  refine j_if hr (fun h => ?_) (fun h => ?_)
  · exact if_pos ((j_cle (y := 0) hx (w := 0) rfl).trans (decide_eq_true h))
  · exact if_neg (by rw [j_cle hx (w := 0) rfl, decide_eq_false h]; exact Bool.noConfusion)
theorem s_iceq {x y : Int32} {z w off : Int} {t : Nat} (hr : j_at M pc = some (q, .if_icmp .eq off, len, aux)) (ht : j_tg pc off = t) (hx : x.toInt = z) (hy : y.toInt = w) : j_wp b M pc loc (.int y :: .int x :: s) H Q = if z = w then j_wp b M t loc s H Q else j_wp b M (pc + 3) loc s H Q := by
  subst ht
  refine j_if hr (fun h => ?_) (fun h => ?_)
  · exact if_pos ((j_ceq hx hy).trans (decide_eq_true h))
  · exact if_neg (by rw [j_ceq hx hy, decide_eq_false h]; exact Bool.noConfusion)
theorem s_icne {x y : Int32} {z w off : Int} {t : Nat} (hr : j_at M pc = some (q, .if_icmp .ne off, len, aux)) (ht : j_tg pc off = t) (hx : x.toInt = z) (hy : y.toInt = w) : j_wp b M pc loc (.int y :: .int x :: s) H Q = if ¬ z = w then j_wp b M t loc s H Q else j_wp b M (pc + 3) loc s H Q := by
  subst ht
  refine j_if hr (fun h => ?_) (fun h => ?_)
  · exact if_pos ((j_cne hx hy).trans (decide_eq_true h))
  · exact if_neg (by rw [j_cne hx hy, decide_eq_false h]; exact Bool.noConfusion)
theorem s_iclt {x y : Int32} {z w off : Int} {t : Nat} (hr : j_at M pc = some (q, .if_icmp .lt off, len, aux)) (ht : j_tg pc off = t) (hx : x.toInt = z) (hy : y.toInt = w) : j_wp b M pc loc (.int y :: .int x :: s) H Q = if z < w then j_wp b M t loc s H Q else j_wp b M (pc + 3) loc s H Q := by
  subst ht
  refine j_if hr (fun h => ?_) (fun h => ?_)
  · exact if_pos ((j_clt hx hy).trans (decide_eq_true h))
  · exact if_neg (by rw [j_clt hx hy, decide_eq_false h]; exact Bool.noConfusion)
theorem s_icge {x y : Int32} {z w off : Int} {t : Nat} (hr : j_at M pc = some (q, .if_icmp .ge off, len, aux)) (ht : j_tg pc off = t) (hx : x.toInt = z) (hy : y.toInt = w) : j_wp b M pc loc (.int y :: .int x :: s) H Q = if w ≤ z then j_wp b M t loc s H Q else j_wp b M (pc + 3) loc s H Q := by
  subst ht
  refine j_if hr (fun h => ?_) (fun h => ?_)
  · exact if_pos ((j_cge hx hy).trans (decide_eq_true h))
  · exact if_neg (by rw [j_cge hx hy, decide_eq_false h]; exact Bool.noConfusion)
theorem s_icgt {x y : Int32} {z w off : Int} {t : Nat} (hr : j_at M pc = some (q, .if_icmp .gt off, len, aux)) (ht : j_tg pc off = t) (hx : x.toInt = z) (hy : y.toInt = w) : j_wp b M pc loc (.int y :: .int x :: s) H Q = if w < z then j_wp b M t loc s H Q else j_wp b M (pc + 3) loc s H Q := by
  subst ht
  refine j_if hr (fun h => ?_) (fun h => ?_)
  · exact if_pos ((j_cgt hx hy).trans (decide_eq_true h))
  · exact if_neg (by rw [j_cgt hx hy, decide_eq_false h]; exact Bool.noConfusion)
theorem s_icle {x y : Int32} {z w off : Int} {t : Nat} (hr : j_at M pc = some (q, .if_icmp .le off, len, aux)) (ht : j_tg pc off = t) (hx : x.toInt = z) (hy : y.toInt = w) : j_wp b M pc loc (.int y :: .int x :: s) H Q = if z ≤ w then j_wp b M t loc s H Q else j_wp b M (pc + 3) loc s H Q := by
  subst ht
  refine j_if hr (fun h => ?_) (fun h => ?_)
  · exact if_pos ((j_cle hx hy).trans (decide_eq_true h))
  · exact if_neg (by rw [j_cle hx hy, decide_eq_false h]; exact Bool.noConfusion)
end JROW
