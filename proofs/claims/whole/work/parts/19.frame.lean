/-! FRAMES: the heap behind a call that writes in a set of cells alone -/
def j_F (S : Nat → Nat → Bool) (H H1 : j_H) : Prop := H1.1 = H.1 ∧ ∀ a k, S a k = false → j_I H1 a k = j_I H a k ∧ j_L H1 a k = j_L H a k ∧ j_R H1 a k = j_R H a k
theorem j_F.refl {S : Nat → Nat → Bool} {H : j_H} : j_F S H H := ⟨rfl, fun _ _ _ => ⟨rfl, rfl, rfl⟩⟩
theorem j_F.trans {S : Nat → Nat → Bool} {H H1 H2 : j_H} (h : j_F S H H1) (h' : j_F S H1 H2) : j_F S H H2 :=
  ⟨h'.1.trans h.1, fun a k hs => ⟨(h'.2 a k hs).1.trans (h.2 a k hs).1, (h'.2 a k hs).2.1.trans (h.2 a k hs).2.1, (h'.2 a k hs).2.2.trans (h.2 a k hs).2.2⟩⟩
theorem j_F.mono {S S' : Nat → Nat → Bool} {H H1 : j_H} (h : j_F S H H1) (hs : ∀ a k, S' a k = false → S a k = false) : j_F S' H H1 :=
  ⟨h.1, fun a k hk => h.2 a k (hs a k hk)⟩
theorem j_F.sI {S : Nat → Nat → Bool} {H H1 : j_H} {a k : Nat} {v : Int32} (h : j_F S H H1) (hs : S a k = true) : j_F S H (j_sI H1 a k v) := by
  refine h.trans ⟨rfl, fun c l hc => ⟨?_, rfl, rfl⟩⟩
  rw [h_II, if_neg]
  rintro ⟨rfl, rfl⟩
  rw [hs] at hc; cases hc
theorem j_F.sL {S : Nat → Nat → Bool} {H H1 : j_H} {a k : Nat} {v : Int64} (h : j_F S H H1) (hs : S a k = true) : j_F S H (j_sL H1 a k v) := by
  refine h.trans ⟨rfl, fun c l hc => ⟨rfl, ?_, rfl⟩⟩
  rw [h_LL, if_neg]
  rintro ⟨rfl, rfl⟩
  rw [hs] at hc; cases hc
theorem j_F.sR {S : Nat → Nat → Bool} {H H1 : j_H} {a k : Nat} {v : Option Nat} (h : j_F S H H1) (hs : S a k = true) : j_F S H (j_sR H1 a k v) := by
  refine h.trans ⟨rfl, fun c l hc => ⟨rfl, rfl, ?_⟩⟩
  rw [h_RR, if_neg]
  rintro ⟨rfl, rfl⟩
  rw [hs] at hc; cases hc
theorem j_F.cI {S : Nat → Nat → Bool} {H H1 : j_H} {a i c j n : Nat} (h : j_F S H H1) (hs : ∀ k, S c k = true) : j_F S H (j_cI H1 a i c j n) := by
  refine h.trans ⟨rfl, fun d l hc => ⟨?_, rfl, rfl⟩⟩
  rw [h_Ic, if_neg]
  rintro ⟨rfl, -⟩
  rw [hs] at hc; cases hc
theorem j_F.cL {S : Nat → Nat → Bool} {H H1 : j_H} {a i c j n : Nat} (h : j_F S H H1) (hs : ∀ k, S c k = true) : j_F S H (j_cL H1 a i c j n) := by
  refine h.trans ⟨rfl, fun d l hc => ⟨rfl, ?_, rfl⟩⟩
  rw [h_Ld, if_neg]
  rintro ⟨rfl, -⟩
  rw [hs] at hc; cases hc
theorem j_F.sh {S : Nat → Nat → Bool} {H H1 : j_H} (h : j_F S H H1) (a : Nat) : j_sh H1 a = j_sh H a := by unfold j_sh; rw [h.1]
theorem j_F.cls {S : Nat → Nat → Bool} {H H1 : j_H} (h : j_F S H H1) (a : Nat) : j_cls H1 a = j_cls H a := by unfold j_cls; rw [h.sh]
theorem j_F.tp {S : Nat → Nat → Bool} {H H1 : j_H} (h : j_F S H H1) (a : Nat) : j_tp H1 a = j_tp H a := by unfold j_tp; rw [h.sh]
theorem j_F.ln {S : Nat → Nat → Bool} {H H1 : j_H} (h : j_F S H H1) (a : Nat) : j_ln H1 a = j_ln H a := by unfold j_ln; rw [h.sh]
theorem j_F.co {S : Nat → Nat → Bool} {H H1 : j_H} (h : j_F S H H1) (hs : ∀ a k, S a k = true → j_scr a k = true) : j_co H1 = j_co H := by
  have key : ∀ a k, j_scr a k = false → S a k = false := fun a k h0 => by
    cases he : S a k with
    | false => rfl
    | true => rw [hs a k he] at h0; cases h0
  have e1 : j_mk 0 H1.2.1 = j_mk 0 H.2.1 := by
    funext a k; unfold j_mk
    split
    · rfl
    · rename_i hn; exact (h.2 a k (key a k (by cases hq : j_scr a k with | false => rfl | true => exact absurd hq hn))).1
  have e2 : j_mk 0 H1.2.2.1 = j_mk 0 H.2.2.1 := by
    funext a k; unfold j_mk
    split
    · rfl
    · rename_i hn; exact (h.2 a k (key a k (by cases hq : j_scr a k with | false => rfl | true => exact absurd hq hn))).2.1
  have e3 : j_mk none H1.2.2.2 = j_mk none H.2.2.2 := by
    funext a k; unfold j_mk
    split
    · rfl
    · rename_i hn; exact (h.2 a k (key a k (by cases hq : j_scr a k with | false => rfl | true => exact absurd hq hn))).2.2
  unfold j_co
  rw [h.1, e1, e2, e3]
theorem j_F.I {S : Nat → Nat → Bool} {H H1 : j_H} (h : j_F S H H1) {a k : Nat} (hs : S a k = false) : j_I H1 a k = j_I H a k := (h.2 a k hs).1
theorem j_F.L {S : Nat → Nat → Bool} {H H1 : j_H} (h : j_F S H H1) {a k : Nat} (hs : S a k = false) : j_L H1 a k = j_L H a k := (h.2 a k hs).2.1
theorem j_F.R {S : Nat → Nat → Bool} {H H1 : j_H} (h : j_F S H H1) {a k : Nat} (hs : S a k = false) : j_R H1 a k = j_R H a k := (h.2 a k hs).2.2
theorem j_px_ex (S : Nat → Nat → Bool) (b M : Nat) (l : List Value) (H : j_H) : ∃ H1, j_F S H H1 ∧ ((∃ v H2, j_ev b M 0 l [] H (v, H2) ∧ j_F S H H2) → ∃ v, j_ev b M 0 l [] H (v, H1)) := by
  by_cases h : ∃ v H2, j_ev b M 0 l [] H (v, H2) ∧ j_F S H H2
  · obtain ⟨v, H2, h1, h2⟩ := h
    exact ⟨H2, h2, fun _ => ⟨v, h1⟩⟩
  · exact ⟨H, j_F.refl, fun h' => absurd h' h⟩
/-- the heap behind a call -/
noncomputable def j_px (S : Nat → Nat → Bool) (b M : Nat) (l : List Value) (H : j_H) : j_H := Classical.choose (j_px_ex S b M l H)
theorem j_px_F {S : Nat → Nat → Bool} {b M : Nat} {l : List Value} {H : j_H} : j_F S H (j_px S b M l H) := (Classical.choose_spec (j_px_ex S b M l H)).1
theorem j_px_eq {S : Nat → Nat → Bool} {b M : Nat} {l : List Value} {H : j_H} {r : Option Value} {Q : Option Value → j_H → Prop} (h : j_wp b M 0 l [] H (fun v H1 => v = r ∧ j_F S H H1)) : j_wp b M 0 l [] H Q = Q r (j_px S b M l H) := by
  obtain ⟨v, H1, he, rfl, hf⟩ := h
  obtain ⟨v2, h2⟩ := (Classical.choose_spec (j_px_ex S b M l H)).2 ⟨v, H1, he, hf⟩
  have e := j_ev_det he h2
  refine propext ⟨?_, ?_⟩
  · rintro ⟨v3, H3, he3, hq⟩
    have e3 := j_ev_det he he3
    cases e3
    have e4 : j_px S b M l H = H1 := (congrArg Prod.snd e).symm
    rw [e4]; exact hq
  · intro hq
    have e4 : j_px S b M l H = H1 := (congrArg Prod.snd e).symm
    rw [e4] at hq
    exact ⟨_, _, he, hq⟩
/-- the pile of the reference; the values of the houses -/
def j_sp (a _ : Nat) : Bool := Nat.beq a 95
def j_sv (a _ : Nat) : Bool := Nat.beq a 29 || (Nat.beq a 35 || (Nat.beq a 41 || (Nat.beq a 47 || (Nat.beq a 53 || Nat.beq a 59))))
theorem j_sp_n {a k : Nat} (h : ¬ a = 95) : j_sp a k = false := by
  unfold j_sp
  cases he : Nat.beq a 95 with
  | false => rfl
  | true => exact absurd (Nat.eq_of_beq_eq_true he) h
theorem j_sv_n {a k : Nat} (h : ¬ (a = 29 ∨ a = 35 ∨ a = 41 ∨ a = 47 ∨ a = 53 ∨ a = 59)) : j_sv a k = false := by
  cases he : j_sv a k with
  | false => rfl
  | true =>
    exfalso; apply h
    simp only [j_sv, Bool.or_eq_true] at he
    rcases he with e | e | e | e | e | e <;> have := Nat.eq_of_beq_eq_true e <;> simp [this]
theorem j_sp_s (a k : Nat) (h : j_sp a k = true) : j_scr a k = true := by
  have := Nat.eq_of_beq_eq_true h
  subst this; rfl
theorem j_sv_s (a k : Nat) (h : j_sv a k = true) : j_scr a k = true := by
  simp only [j_sv, Bool.or_eq_true] at h
  rcases h with e | e | e | e | e | e <;> have := Nat.eq_of_beq_eq_true e <;> subst this <;> rfl
theorem p_I {b M a k : Nat} {l : List Value} {H : j_H} (h : ¬ a = 95) : j_I (j_px j_sp b M l H) a k = j_I H a k := j_px_F.I (j_sp_n h)
theorem p_L {b M a k : Nat} {l : List Value} {H : j_H} (h : ¬ a = 95) : j_L (j_px j_sp b M l H) a k = j_L H a k := j_px_F.L (j_sp_n h)
theorem p_R {b M a k : Nat} {l : List Value} {H : j_H} (h : ¬ a = 95) : j_R (j_px j_sp b M l H) a k = j_R H a k := j_px_F.R (j_sp_n h)
theorem q_I {b M a k : Nat} {l : List Value} {H : j_H} (h : ¬ (a = 29 ∨ a = 35 ∨ a = 41 ∨ a = 47 ∨ a = 53 ∨ a = 59)) : j_I (j_px j_sv b M l H) a k = j_I H a k := j_px_F.I (j_sv_n h)
theorem q_L {b M a k : Nat} {l : List Value} {H : j_H} (h : ¬ (a = 29 ∨ a = 35 ∨ a = 41 ∨ a = 47 ∨ a = 53 ∨ a = 59)) : j_L (j_px j_sv b M l H) a k = j_L H a k := j_px_F.L (j_sv_n h)
theorem q_R {b M a k : Nat} {l : List Value} {H : j_H} (h : ¬ (a = 29 ∨ a = 35 ∨ a = 41 ∨ a = 47 ∨ a = 53 ∨ a = 59)) : j_R (j_px j_sv b M l H) a k = j_R H a k := j_px_F.R (j_sv_n h)
theorem p_cls {S : Nat → Nat → Bool} {b M a : Nat} {l : List Value} {H : j_H} : j_cls (j_px S b M l H) a = j_cls H a := j_px_F.cls a
theorem p_tp {S : Nat → Nat → Bool} {b M a : Nat} {l : List Value} {H : j_H} : j_tp (j_px S b M l H) a = j_tp H a := j_px_F.tp a
theorem p_ln {S : Nat → Nat → Bool} {b M a : Nat} {l : List Value} {H : j_H} : j_ln (j_px S b M l H) a = j_ln H a := j_px_F.ln a
theorem p_cop {b M : Nat} {l : List Value} {H : j_H} : j_co (j_px j_sp b M l H) = j_co H := j_px_F.co j_sp_s
theorem p_cov {b M : Nat} {l : List Value} {H : j_H} : j_co (j_px j_sv b M l H) = j_co H := j_px_F.co j_sv_s
theorem p_coc {b M : Nat} {l : List Value} {H : j_H} : j_co (j_px j_scr b M l H) = j_co H := j_px_F.co (fun _ _ h => h)
